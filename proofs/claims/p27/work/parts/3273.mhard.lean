/-! ===== what the methods keep ===== -/
abbrev qX11_isO_0 (h : fz_H) : fz_H → Option fz_V → Prop := fun h' r0 => fz_Iv h' ∧ fz_fr [(53, 24), (53, 25), (53, 26), (73, 99999)] h h' ∧ ∃ r : Int, r0 = some (fz_i r) ∧ (r = 0 ∨ r = 1) ∧ (h' 53 25 = 0) ∧ (h 53 24 ≤ h' 53 24) ∧ (h' 53 24 ≤ h 53 16) ∧ (h 53 26 ≤ h' 53 26) ∧ (h' 53 26 - h 53 26 ≤ h' 53 24 - h 53 24) ∧ (r = 1 → h 53 24 + 1 ≤ h' 53 24) ∧ (r = 1 → fz_Pa h h') ∧ (fl_rdM h h' (fl_pO (fl_gM h) 6 (h 53 24)) r)
theorem sX11_isO_0 (h : fz_H) (hI : fz_Iv h) (hp0 : h 53 25 = 0) (hp1 : h 53 24 ≤ h 53 16) (hp2 : h 53 26 ≤ h 53 24) : fz_R 38 mX11_isO 0 [(0, fz_r 53)] [] h (qX11_isO_0 h) := sX11_isO_g 5 0 30 ⟨by decide, by decide⟩ (fun h hI hp0 hp1 hp2 => sX11_isO_1 h hI (by omega) hp1 hp2) (fun h hI hp0 hp1 hp2 => sX11_isE_1 h hI (by omega) hp1 hp2) h hI hp0 hp1 hp2
abbrev qX11_isP_0 (h : fz_H) : fz_H → Option fz_V → Prop := fun h' r0 => fz_Iv h' ∧ fz_fr [(53, 24), (53, 25), (53, 26), (73, 99999)] h h' ∧ ∃ r : Int, r0 = some (fz_i r) ∧ (r = 0 ∨ r = 1) ∧ (h' 53 25 = 0) ∧ (h 53 24 ≤ h' 53 24) ∧ (h' 53 24 ≤ h 53 16) ∧ (h 53 26 ≤ h' 53 26) ∧ (h' 53 26 - h 53 26 ≤ h' 53 24 - h 53 24) ∧ (r = 1 → h 53 24 + 1 ≤ h' 53 24) ∧ (r = 1 → fz_Pa h h') ∧ (fl_rdM h h' (fl_eP (fl_gM h) (fl_pO (fl_gM h) 6) (h 53 24)) r)
theorem sX11_isP_0 (h : fz_H) (hI : fz_Iv h) (hp0 : h 53 25 = 0) (hp1 : h 53 24 ≤ h 53 16) (hp2 : h 53 26 ≤ h 53 24) : fz_R 39 mX11_isP 0 [(0, fz_r 53)] [] h (qX11_isP_0 h) := sX11_isP_g 5 0 30 ⟨by decide, by decide⟩ (fun h hI hp0 hp1 hp2 => sX11_isO_1 h hI (by omega) hp1 hp2) (fun h hI hp0 hp1 hp2 => sX11_isE_1 h hI (by omega) hp1 hp2) h hI hp0 hp1 hp2
abbrev qX11_isS_0 (h : fz_H) : fz_H → Option fz_V → Prop := fun h' r0 => fz_Iv h' ∧ fz_fr [(53, 24), (53, 25), (53, 26), (73, 99999)] h h' ∧ ∃ r : Int, r0 = some (fz_i r) ∧ (r = 0 ∨ r = 1) ∧ (h' 53 25 = 0) ∧ (h 53 24 ≤ h' 53 24) ∧ (h' 53 24 ≤ h 53 16) ∧ (h 53 26 ≤ h' 53 26) ∧ (h' 53 26 - h 53 26 ≤ h' 53 24 - h 53 24) ∧ (r = 1 → h 53 24 + 1 ≤ h' 53 24) ∧ (r = 1 → fz_Pa h h') ∧ (fl_rdM h h' (fl_eS (fl_gM h) (fl_pO (fl_gM h) 6) (h 53 24)) r)
theorem sX11_isS_0 (h : fz_H) (hI : fz_Iv h) (hp0 : h 53 25 = 0) (hp1 : h 53 24 ≤ h 53 16) (hp2 : h 53 26 ≤ h 53 24) : fz_R 40 mX11_isS 0 [(0, fz_r 53)] [] h (qX11_isS_0 h) := sX11_isS_g 5 0 30 ⟨by decide, by decide⟩ (fun h hI hp0 hp1 hp2 => sX11_isO_1 h hI (by omega) hp1 hp2) (fun h hI hp0 hp1 hp2 => sX11_isE_1 h hI (by omega) hp1 hp2) h hI hp0 hp1 hp2
abbrev qX11_isB_0 (h : fz_H) : fz_H → Option fz_V → Prop := fun h' r0 => fz_Iv h' ∧ fz_fr [(53, 24), (53, 25), (53, 26), (73, 99999)] h h' ∧ ∃ r : Int, r0 = some (fz_i r) ∧ (r = 0 ∨ r = 1) ∧ (h' 53 25 = 0) ∧ (h 53 24 ≤ h' 53 24) ∧ (h' 53 24 ≤ h 53 16) ∧ (h 53 26 ≤ h' 53 26) ∧ (h' 53 26 - h 53 26 ≤ h' 53 24 - h 53 24) ∧ (r = 1 → h 53 24 + 1 ≤ h' 53 24) ∧ (r = 1 → fz_Pa h h') ∧ (fl_rdM h h' (fl_eB (fl_gM h) (fl_pO (fl_gM h) 6) (h 53 24)) r)
theorem sX11_isB_0 (h : fz_H) (hI : fz_Iv h) (hp0 : h 53 25 = 0) (hp1 : h 53 24 ≤ h 53 16) (hp2 : h 53 26 ≤ h 53 24) : fz_R 41 mX11_isB 0 [(0, fz_r 53)] [] h (qX11_isB_0 h) := sX11_isB_g 5 0 30 ⟨by decide, by decide⟩ (fun h hI hp0 hp1 hp2 => sX11_isO_1 h hI (by omega) hp1 hp2) (fun h hI hp0 hp1 hp2 => sX11_isE_1 h hI (by omega) hp1 hp2) h hI hp0 hp1 hp2
abbrev qX11_isA_0 (h : fz_H) : fz_H → Option fz_V → Prop := fun h' r0 => fz_Iv h' ∧ fz_fr [(53, 24), (53, 25), (53, 26), (73, 99999)] h h' ∧ ∃ r : Int, r0 = some (fz_i r) ∧ (r = 0 ∨ r = 1) ∧ (h' 53 25 = 0) ∧ (h 53 24 ≤ h' 53 24) ∧ (h' 53 24 ≤ h 53 16) ∧ (h 53 26 ≤ h' 53 26) ∧ (h' 53 26 - h 53 26 ≤ h' 53 24 - h 53 24) ∧ (r = 1 → h 53 24 + 1 ≤ h' 53 24) ∧ (r = 1 → fz_Pa h h') ∧ (fl_rdM h h' (fl_eA (fl_gM h) (fl_pO (fl_gM h) 6) (h 53 24)) r)
theorem sX11_isA_0 (h : fz_H) (hI : fz_Iv h) (hp0 : h 53 25 = 0) (hp1 : h 53 24 ≤ h 53 16) (hp2 : h 53 26 ≤ h 53 24) : fz_R 42 mX11_isA 0 [(0, fz_r 53)] [] h (qX11_isA_0 h) := sX11_isA_g 5 0 30 ⟨by decide, by decide⟩ (fun h hI hp0 hp1 hp2 => sX11_isO_1 h hI (by omega) hp1 hp2) (fun h hI hp0 hp1 hp2 => sX11_isE_1 h hI (by omega) hp1 hp2) h hI hp0 hp1 hp2
abbrev qX11_isE_0 (h : fz_H) : fz_H → Option fz_V → Prop := fun h' r0 => fz_Iv h' ∧ fz_fr [(53, 24), (53, 25), (53, 26), (73, 99999)] h h' ∧ ∃ r : Int, r0 = some (fz_i r) ∧ (r = 0 ∨ r = 1) ∧ (h' 53 25 = 0) ∧ (h 53 24 ≤ h' 53 24) ∧ (h' 53 24 ≤ h 53 16) ∧ (h 53 26 ≤ h' 53 26) ∧ (h' 53 26 - h 53 26 ≤ h' 53 24 - h 53 24) ∧ (r = 1 → h 53 24 + 1 ≤ h' 53 24) ∧ (r = 1 → fz_Pa h h') ∧ (fl_rdM h h' (fl_eE (fl_gM h) (fl_pO (fl_gM h) 6) (h 53 24)) r)
theorem sX11_isE_0 (h : fz_H) (hI : fz_Iv h) (hp0 : h 53 25 = 0) (hp1 : h 53 24 ≤ h 53 16) (hp2 : h 53 26 ≤ h 53 24) : fz_R 43 mX11_isE 0 [(0, fz_r 53)] [] h (qX11_isE_0 h) := sX11_isE_g 5 0 30 ⟨by decide, by decide⟩ (fun h hI hp0 hp1 hp2 => sX11_isO_1 h hI (by omega) hp1 hp2) (fun h hI hp0 hp1 hp2 => sX11_isE_1 h hI (by omega) hp1 hp2) h hI hp0 hp1 hp2
abbrev qX11_isLine (h : fz_H) : fz_H → Option fz_V → Prop := fun h' r0 => fz_Iv h' ∧ fz_fr [(53, 24), (53, 25), (53, 26), (53, 27), (70, 99999), (71, 99999), (72, 99999), (73, 99999)] h h' ∧ ∃ r : Int, r0 = some (fz_i r) ∧ (r = 0 ∨ r = 1) ∧ (h' 53 25 = 0) ∧ (h 53 24 ≤ h' 53 24) ∧ (h' 53 24 ≤ h 53 16) ∧ (h' 53 26 ≤ h' 53 24) ∧ (r = 1 → h 53 24 + 1 ≤ h' 53 24 ∧ h' 53 27 = h 53 27 + 1) ∧ (r = 1 → fz_Ln h') ∧ (fl_ilM h h' r)
set_option maxHeartbeats 1000000 in
set_option maxRecDepth 100000 in
theorem sX11_isLine (h : fz_H) (hI : fz_Iv h) (hp0 : h 53 25 = 0) (hp1 : h 53 24 ≤ h 53 16) (hp2 : h 53 26 ≤ h 53 24) (hp3 : 2 * h 53 27 ≤ h 53 24) (hp4 : fz_Ln h) : fz_R 44 mX11_isLine 0 [(0, fz_r 53)] [] h (qX11_isLine h) := by
  have hf : fz_fr [(53, 24), (53, 25), (53, 26), (53, 27), (70, 99999), (71, 99999), (72, 99999), (73, 99999)] h h := fz_fr_rf
  have b1 : 0 ≤ h 53 25 ∧ h 53 25 ≤ 6 := hI.1 53 _
  have b2 : 0 ≤ h 53 24 ∧ h 53 24 ≤ 120 := hI.1 53 _
  have b3 : 0 ≤ h 53 16 ∧ h 53 16 ≤ 120 := hI.1 53 _
  have b4 : 0 ≤ h 53 26 ∧ h 53 26 ≤ 200 := hI.1 53 _
  have b5 : 0 ≤ h 53 27 ∧ h 53 27 ≤ 61 := hI.1 53 _
  refine fz_aload_n kX11_isLine rfl rfl ?_
  refine fz_getR (t := 70) kX11_isLine rfl rfl ?_
  refine fz_aload_n kX11_isLine rfl rfl ?_
  refine fz_getV (v := h 53 27) kX11_isLine rfl rfl rfl ?_
  have b6 : 0 ≤ h 53 27 ∧ h 53 27 ≤ 61 := hI.1 53 _
  refine fz_aload_n kX11_isLine rfl rfl ?_
  refine fz_getV (v := h 53 26) kX11_isLine rfl rfl rfl ?_
  have b7 : 0 ≤ h 53 26 ∧ h 53 26 ≤ 200 := hI.1 53 _
  refine fz_iast (n := 61) kX11_isLine rfl rfl (by omega) (by omega) ?_
  refine fz_nmu (S := [(53, 24), (53, 25), (53, 26), (53, 27), (70, 99999), (71, 99999), (72, 99999), (73, 99999)]) (h0 := h) (fz_Iv_up hI (by decide) (show (0 : Int) ≤ (h 53 26) by omega) (show ((h 53 26) : Int) ≤ 200 by omega)) (fz_fr_up hf rfl) (fun H8 hI9 hf10 e11 => ?_)
  have k12 : H8 53 25 = (h 53 25) := by rw [e11]; exact (fz_up_o (by decide)).trans rfl
  have k13 : H8 53 24 = (h 53 24) := by rw [e11]; exact (fz_up_o (by decide)).trans rfl
  have k14 : H8 53 26 = (h 53 26) := by rw [e11]; exact (fz_up_o (by decide)).trans rfl
  have k15 : H8 53 27 = (h 53 27) := by rw [e11]; exact (fz_up_o (by decide)).trans rfl
  have t16 : H8 53 24 = h 53 24 := by rw [e11]; exact fz_up_o (by decide)
  have t17 : H8 53 26 = h 53 26 := by rw [e11]; exact fz_up_o (by decide)
  have t18 : H8 53 27 = h 53 27 := by rw [e11]; exact fz_up_o (by decide)
  refine fz_aload_n kX11_isLine rfl rfl ?_
  have b19 : 0 ≤ H8 53 25 ∧ H8 53 25 ≤ 6 := hI9.1 53 _
  have b20 : 0 ≤ H8 53 24 ∧ H8 53 24 ≤ 120 := hI9.1 53 _
  have b21 : 0 ≤ H8 53 26 ∧ H8 53 26 ≤ 200 := hI9.1 53 _
  have e22 : H8 53 16 = h 53 16 := hf10 53 16 rfl
  refine fz_callV (d' := 43) (M' := mX11_isE) (As := []) (st := []) kX11_isLine rfl rfl vX11_isE rfl rfl rfl rfl (Nat.le_of_ble_eq_true rfl) (Nat.le_of_ble_eq_true rfl) (by decide) (sX11_isE_0 H8 hI9  (by omega) (by omega) (by omega)) (fun H23 r24 q25 o26 => ?_)
  obtain ⟨hI27, hf28, y37, rfl, p38, f29, f30, f31, f32, f33, f34, f35, f36⟩ := q25
  clear o26
  have hf39 := fz_fr_tr hf10 hf28 (show fz_su [(53, 24), (53, 25), (53, 26), (73, 99999)] [(53, 24), (53, 25), (53, 26), (53, 27), (70, 99999), (71, 99999), (72, 99999), (73, 99999)] = true from rfl)
  have k40 : H23 53 27 = (h 53 27) := (hf28 53 27 rfl).trans k15
  have t41 : H23 53 27 = H8 53 27 := hf28 53 27 rfl
  refine fz_if_ne (tgt := 22) kX11_isLine rfl (by decide) (fun c42 => ?_) (fun c42 => ?_)
  · have k43 := f35 (by omega)
    refine fz_aload_n kX11_isLine rfl rfl ?_
    refine fz_getR (t := 71) kX11_isLine rfl rfl ?_
    refine fz_aload_n kX11_isLine rfl rfl ?_
    refine fz_getV (v := (h 53 27)) kX11_isLine rfl rfl k40 ?_
    refine fz_aload_n kX11_isLine rfl rfl ?_
    refine fz_getR (t := 70) kX11_isLine rfl rfl ?_
    refine fz_aload_n kX11_isLine rfl rfl ?_
    refine fz_getV (v := (h 53 27)) kX11_isLine rfl rfl k40 ?_
    obtain ⟨v45, e46⟩ : ∃ z, H23 70 ((h 53 27).toNat) = z := ⟨_, rfl⟩
    refine fz_ialdV (n := 61) (v := v45) kX11_isLine rfl rfl (by omega) (by omega) e46 ?_
    have b47 : 0 ≤ v45 ∧ v45 ≤ 200 := by rw [← e46]; exact hI27.1 70 _
    have k48 := fz_x3 e46 (fz_Kp_fr hf28 rfl) e11 (by omega)
    refine fz_iast (n := 61) kX11_isLine rfl rfl (by omega) (by omega) ?_
    refine fz_nmu (S := [(53, 24), (53, 25), (53, 26), (53, 27), (70, 99999), (71, 99999), (72, 99999), (73, 99999)]) (h0 := h) (fz_Iv_up hI27 (by decide) (show (0 : Int) ≤ v45 by omega) (show (v45 : Int) ≤ 200 by omega)) (fz_fr_up hf39 rfl) (fun H50 hI51 hf52 e53 => ?_)
    have k54 : H50 53 27 = (h 53 27) := by rw [e53]; exact (fz_up_o (by decide)).trans k40
    have k55 : H50 53 25 = 0 := by rw [e53]; exact (fz_up_o (by decide)).trans f29
    have t56 : H50 53 24 = H23 53 24 := by rw [e53]; exact fz_up_o (by decide)
    have t57 : H50 53 26 = H23 53 26 := by rw [e53]; exact fz_up_o (by decide)
    have t58 : H50 53 27 = H23 53 27 := by rw [e53]; exact fz_up_o (by decide)
    have k59 : fl_gM H50 (H50 53 24) = fl_gM h (H23 53 24) := by rw [fl_gMe2 (h := h) (funext fun s => hf52 65 s rfl) (hf52 53 16 rfl), show H50 53 24 = H23 53 24 by omega]
    refine fz_aload_n kX11_isLine rfl rfl ?_
    refine fz_bipush ⟨by decide, by decide⟩ kX11_isLine rfl ?_
    have b60 : 0 ≤ H50 53 24 ∧ H50 53 24 ≤ 120 := hI51.1 53 _
    have e61 : H50 53 16 = h 53 16 := hf52 53 16 rfl
    refine fz_callV (d' := 1) (M' := mX11_is) (As := [fz_i 63]) (st := []) kX11_isLine rfl rfl vX11_is rfl rfl rfl rfl (Nat.le_of_ble_eq_true rfl) (Nat.le_of_ble_eq_true rfl) (by decide) (sX11_is H50 hI51 63 (by omega) (by omega)) (fun H62 r63 q64 o65 => ?_)
    obtain ⟨hI66, hf67, y70, rfl, p71, f68, f69⟩ := q64
    clear o65
    have hf72 := fz_fr_tr hf52 hf67 (show fz_su [(53, 24)] [(53, 24), (53, 25), (53, 26), (53, 27), (70, 99999), (71, 99999), (72, 99999), (73, 99999)] = true from rfl)
    have k73 : H62 53 27 = (h 53 27) := (hf67 53 27 rfl).trans k54
    have k74 : H62 53 25 = 0 := (hf67 53 25 rfl).trans k55
    have t75 : H62 53 26 = H50 53 26 := hf67 53 26 rfl
    have t76 : H62 53 27 = H50 53 27 := hf67 53 27 rfl
    refine fz_if_eq (tgt := 71) kX11_isLine rfl (by decide) (fun c77 => ?_) (fun c77 => ?_)
    · refine fz_aload_n kX11_isLine rfl rfl ?_
      refine fz_getR (t := 72) kX11_isLine rfl rfl ?_
      refine fz_aload_n kX11_isLine rfl rfl ?_
      refine fz_dup rfl kX11_isLine rfl ?_
      refine fz_getV (v := (h 53 27)) kX11_isLine rfl rfl k73 ?_
      refine fz_dup_x1 rfl rfl kX11_isLine rfl ?_
      refine fz_iconst ⟨by decide, by decide⟩ kX11_isLine rfl ?_
      refine fz_iaddN kX11_isLine rfl (by omega) ?_
      refine fz_putI kX11_isLine rfl rfl rfl ?_
      refine fz_nmu (S := [(53, 24), (53, 25), (53, 26), (53, 27), (70, 99999), (71, 99999), (72, 99999), (73, 99999)]) (h0 := h) (fz_Iv_up hI66 (by decide) (show (0 : Int) ≤ ((h 53 27) + 1) by omega) (show (((h 53 27) + 1) : Int) ≤ 61 by omega)) (fz_fr_up hf72 rfl) (fun H78 hI79 hf80 e81 => ?_)
      have k82 : H78 53 25 = 0 := by rw [e81]; exact (fz_up_s (by decide)).trans k74
      have k83 : H78 53 27 = ((h 53 27) + 1) := by rw [e81]; exact fz_up_e
      have t84 : H78 53 24 = H62 53 24 := by rw [e81]; exact fz_up_s (by decide)
      have t85 : H78 53 26 = H62 53 26 := by rw [e81]; exact fz_up_s (by decide)
      refine fz_aload_n kX11_isLine rfl rfl ?_
      obtain ⟨v86, e87⟩ : ∃ z, H78 53 (26) = z := ⟨_, rfl⟩
      refine fz_getV (v := v86) kX11_isLine rfl rfl e87 ?_
      have b88 : 0 ≤ v86 ∧ v86 ≤ 200 := by rw [← e87]; exact hI79.1 53 _
      refine fz_iast (n := 61) kX11_isLine rfl rfl (by omega) (by omega) ?_
      refine fz_nmu (S := [(53, 24), (53, 25), (53, 26), (53, 27), (70, 99999), (71, 99999), (72, 99999), (73, 99999)]) (h0 := h) (fz_Iv_up hI79 (by decide) (show (0 : Int) ≤ v86 by omega) (show (v86 : Int) ≤ 200 by omega)) (fz_fr_up hf80 rfl) (fun H89 hI90 hf91 e92 => ?_)
      have k93 : H89 53 25 = 0 := by rw [e92]; exact (fz_up_o (by decide)).trans k82
      have k94 : H89 53 27 = ((h 53 27) + 1) := by rw [e92]; exact (fz_up_o (by decide)).trans k83
      have k95 : H89 53 26 = v86 := by rw [e92]; exact (fz_up_o (by decide)).trans e87
      have t96 : H89 53 24 = H78 53 24 := by rw [e92]; exact fz_up_o (by decide)
      have t97 : H89 53 26 = H78 53 26 := by rw [e92]; exact fz_up_o (by decide)
      have t98 : H89 53 27 = H78 53 27 := by rw [e92]; exact fz_up_o (by decide)
      have k99 : fz_Ln H89 := by first | exact fz_Ln_b hp4 (by omega) e11 (fz_Kp_fr hf28 rfl) k43 e53 (fz_Kp_fr hf67 rfl) ⟨funext fun s => hf67 73 s rfl, hf67 53 26 rfl⟩ lost (fz_Kp_fr lost rfl) (lost (by omega)) e81 e92 (by omega) (by omega) (by omega) | exact fz_Ln_a hp4 (by omega) e11 (fz_Kp_fr hf28 rfl) k43 e53 (fz_Kp_fr hf67 rfl) ⟨funext fun s => hf67 73 s rfl, hf67 53 26 rfl⟩ e81 e92 (by omega) k48 (by omega)
      refine fz_iconst ⟨by decide, by decide⟩ kX11_isLine rfl ?_
      exact fz_zret kX11_isLine rfl rfl (by omega) ⟨hI90, hf91, _, rfl, (by omega), (by omega), (by omega), (by omega), (by omega), (by omega), (by first | (intro z; exfalso; omega) | (intro _; exact k99)), (by first | exact fl_il_n e11 f36 (by omega) | exact fl_il_m e11 f36 (by omega) (by omega) (by omega) lost (fl_gM_e (funext fun s => lost 65 s rfl) (lost 53 16 rfl)) lost (by omega) | exact fl_il_b (by omega) e11 (fz_Kp_fr hf28 rfl) f36 (by omega) e53 (fz_Kp_fr hf67 rfl) ⟨funext fun s => hf67 73 s rfl, hf67 53 26 rfl⟩ (by omega) (by omega) lost (fz_Kp_fr lost rfl) (fl_gM_e (funext fun s => lost 65 s rfl) (lost 53 16 rfl)) lost (by omega) e81 e92 (by omega) (by omega) (by omega) | exact fl_il_a (by omega) e11 (fz_Kp_fr hf28 rfl) f36 (by omega) e53 (fz_Kp_fr hf67 rfl) ⟨funext fun s => hf67 73 s rfl, hf67 53 26 rfl⟩ (by omega) (by omega) e81 e92 (by omega) k48 (by omega))⟩
    · refine fz_aload_n kX11_isLine rfl rfl ?_
      refine fz_getR (t := 71) kX11_isLine rfl rfl ?_
      refine fz_aload_n kX11_isLine rfl rfl ?_
      refine fz_getV (v := (h 53 27)) kX11_isLine rfl rfl k73 ?_
      refine fz_aload_n kX11_isLine rfl rfl ?_
      obtain ⟨v103, e104⟩ : ∃ z, H62 53 (26) = z := ⟨_, rfl⟩
      refine fz_getV (v := v103) kX11_isLine rfl rfl e104 ?_
      have b105 : 0 ≤ v103 ∧ v103 ≤ 200 := by rw [← e104]; exact hI66.1 53 _
      refine fz_iast (n := 61) kX11_isLine rfl rfl (by omega) (by omega) ?_
      refine fz_nmu (S := [(53, 24), (53, 25), (53, 26), (53, 27), (70, 99999), (71, 99999), (72, 99999), (73, 99999)]) (h0 := h) (fz_Iv_up hI66 (by decide) (show (0 : Int) ≤ v103 by omega) (show (v103 : Int) ≤ 200 by omega)) (fz_fr_up hf72 rfl) (fun H106 hI107 hf108 e109 => ?_)
      have k110 : H106 53 27 = (h 53 27) := by rw [e109]; exact (fz_up_o (by decide)).trans k73
      have k111 : H106 53 25 = 0 := by rw [e109]; exact (fz_up_o (by decide)).trans k74
      have k112 : H106 53 26 = v103 := by rw [e109]; exact (fz_up_o (by decide)).trans e104
      have t113 : H106 53 24 = H62 53 24 := by rw [e109]; exact fz_up_o (by decide)
      have t114 : H106 53 26 = H62 53 26 := by rw [e109]; exact fz_up_o (by decide)
      have t115 : H106 53 27 = H62 53 27 := by rw [e109]; exact fz_up_o (by decide)
      refine fz_aload_n kX11_isLine rfl rfl ?_
      have b116 : 0 ≤ H106 53 25 ∧ H106 53 25 ≤ 6 := hI107.1 53 _
      have b117 : 0 ≤ H106 53 24 ∧ H106 53 24 ≤ 120 := hI107.1 53 _
      have b118 : 0 ≤ H106 53 26 ∧ H106 53 26 ≤ 200 := hI107.1 53 _
      have e119 : H106 53 16 = h 53 16 := hf108 53 16 rfl
      refine fz_callV (d' := 43) (M' := mX11_isE) (As := []) (st := []) kX11_isLine rfl rfl vX11_isE rfl rfl rfl rfl (Nat.le_of_ble_eq_true rfl) (Nat.le_of_ble_eq_true rfl) (by decide) (sX11_isE_0 H106 hI107  (by omega) (by omega) (by omega)) (fun H120 r121 q122 o123 => ?_)
      obtain ⟨hI124, hf125, y134, rfl, p135, f126, f127, f128, f129, f130, f131, f132, f133⟩ := q122
      clear o123
      have hf136 := fz_fr_tr hf108 hf125 (show fz_su [(53, 24), (53, 25), (53, 26), (73, 99999)] [(53, 24), (53, 25), (53, 26), (53, 27), (70, 99999), (71, 99999), (72, 99999), (73, 99999)] = true from rfl)
      have k137 : H120 53 27 = (h 53 27) := (hf125 53 27 rfl).trans k110
      have t138 : H120 53 27 = H106 53 27 := hf125 53 27 rfl
      have k139 := f132
      refine fz_if_ne (tgt := 71) kX11_isLine rfl (by decide) (fun c141 => ?_) (fun c141 => ?_)
      · refine fz_aload_n kX11_isLine rfl rfl ?_
        refine fz_getR (t := 72) kX11_isLine rfl rfl ?_
        refine fz_aload_n kX11_isLine rfl rfl ?_
        refine fz_dup rfl kX11_isLine rfl ?_
        refine fz_getV (v := (h 53 27)) kX11_isLine rfl rfl k137 ?_
        refine fz_dup_x1 rfl rfl kX11_isLine rfl ?_
        refine fz_iconst ⟨by decide, by decide⟩ kX11_isLine rfl ?_
        refine fz_iaddN kX11_isLine rfl (by omega) ?_
        refine fz_putI kX11_isLine rfl rfl rfl ?_
        refine fz_nmu (S := [(53, 24), (53, 25), (53, 26), (53, 27), (70, 99999), (71, 99999), (72, 99999), (73, 99999)]) (h0 := h) (fz_Iv_up hI124 (by decide) (show (0 : Int) ≤ ((h 53 27) + 1) by omega) (show (((h 53 27) + 1) : Int) ≤ 61 by omega)) (fz_fr_up hf136 rfl) (fun H142 hI143 hf144 e145 => ?_)
        have k146 : H142 53 25 = 0 := by rw [e145]; exact (fz_up_s (by decide)).trans f126
        have k147 : H142 53 27 = ((h 53 27) + 1) := by rw [e145]; exact fz_up_e
        have t148 : H142 53 24 = H120 53 24 := by rw [e145]; exact fz_up_s (by decide)
        have t149 : H142 53 26 = H120 53 26 := by rw [e145]; exact fz_up_s (by decide)
        refine fz_aload_n kX11_isLine rfl rfl ?_
        obtain ⟨v150, e151⟩ : ∃ z, H142 53 (26) = z := ⟨_, rfl⟩
        refine fz_getV (v := v150) kX11_isLine rfl rfl e151 ?_
        have b152 : 0 ≤ v150 ∧ v150 ≤ 200 := by rw [← e151]; exact hI143.1 53 _
        refine fz_iast (n := 61) kX11_isLine rfl rfl (by omega) (by omega) ?_
        refine fz_nmu (S := [(53, 24), (53, 25), (53, 26), (53, 27), (70, 99999), (71, 99999), (72, 99999), (73, 99999)]) (h0 := h) (fz_Iv_up hI143 (by decide) (show (0 : Int) ≤ v150 by omega) (show (v150 : Int) ≤ 200 by omega)) (fz_fr_up hf144 rfl) (fun H153 hI154 hf155 e156 => ?_)
        have k157 : H153 53 25 = 0 := by rw [e156]; exact (fz_up_o (by decide)).trans k146
        have k158 : H153 53 27 = ((h 53 27) + 1) := by rw [e156]; exact (fz_up_o (by decide)).trans k147
        have k159 : H153 53 26 = v150 := by rw [e156]; exact (fz_up_o (by decide)).trans e151
        have t160 : H153 53 24 = H142 53 24 := by rw [e156]; exact fz_up_o (by decide)
        have t161 : H153 53 26 = H142 53 26 := by rw [e156]; exact fz_up_o (by decide)
        have t162 : H153 53 27 = H142 53 27 := by rw [e156]; exact fz_up_o (by decide)
        have k163 : fz_Ln H153 := by first | exact fz_Ln_b hp4 (by omega) e11 (fz_Kp_fr hf28 rfl) k43 e53 (fz_Kp_fr hf67 rfl) ⟨funext fun s => hf67 73 s rfl, hf67 53 26 rfl⟩ e109 (fz_Kp_fr hf125 rfl) (k139 (by omega)) e145 e156 (by omega) (by omega) (by omega) | exact fz_Ln_a hp4 (by omega) e11 (fz_Kp_fr hf28 rfl) k43 e53 (fz_Kp_fr hf67 rfl) ⟨funext fun s => hf67 73 s rfl, hf67 53 26 rfl⟩ e145 e156 (by omega) k48 (by omega)
        refine fz_iconst ⟨by decide, by decide⟩ kX11_isLine rfl ?_
        exact fz_zret kX11_isLine rfl rfl (by omega) ⟨hI154, hf155, _, rfl, (by omega), (by omega), (by omega), (by omega), (by omega), (by omega), (by first | (intro z; exfalso; omega) | (intro _; exact k163)), (by first | exact fl_il_n e11 f36 (by omega) | exact fl_il_m e11 f36 (by omega) (by omega) (by omega) e109 (fl_gM_e (funext fun s => hf108 65 s rfl) (hf108 53 16 rfl)) f133 (by omega) | exact fl_il_b (by omega) e11 (fz_Kp_fr hf28 rfl) f36 (by omega) e53 (fz_Kp_fr hf67 rfl) ⟨funext fun s => hf67 73 s rfl, hf67 53 26 rfl⟩ (by omega) (by omega) e109 (fz_Kp_fr hf125 rfl) (fl_gM_e (funext fun s => hf108 65 s rfl) (hf108 53 16 rfl)) f133 (by omega) e145 e156 (by omega) (by omega) (by omega) | exact fl_il_a (by omega) e11 (fz_Kp_fr hf28 rfl) f36 (by omega) e53 (fz_Kp_fr hf67 rfl) ⟨funext fun s => hf67 73 s rfl, hf67 53 26 rfl⟩ (by omega) (by omega) e145 e156 (by omega) k48 (by omega))⟩
      · refine fz_iconst ⟨by decide, by decide⟩ kX11_isLine rfl ?_
        exact fz_zret kX11_isLine rfl rfl (by omega) ⟨hI124, hf136, _, rfl, (by omega), (by omega), (by omega), (by omega), (by omega), (by omega), (by first | (intro z; exfalso; omega) | (intro _; exact lost)), (by first | exact fl_il_n e11 f36 (by omega) | exact fl_il_m e11 f36 (by omega) (by omega) (by omega) e109 (fl_gM_e (funext fun s => hf108 65 s rfl) (hf108 53 16 rfl)) f133 (by omega) | exact fl_il_b (by omega) e11 (fz_Kp_fr hf28 rfl) f36 (by omega) e53 (fz_Kp_fr hf67 rfl) ⟨funext fun s => hf67 73 s rfl, hf67 53 26 rfl⟩ (by omega) (by omega) e109 (fz_Kp_fr hf125 rfl) (fl_gM_e (funext fun s => hf108 65 s rfl) (hf108 53 16 rfl)) f133 (by omega) lost lost (by omega) (by omega) (by omega) | exact fl_il_a (by omega) e11 (fz_Kp_fr hf28 rfl) f36 (by omega) e53 (fz_Kp_fr hf67 rfl) ⟨funext fun s => hf67 73 s rfl, hf67 53 26 rfl⟩ (by omega) (by omega) lost lost (by omega) k48 (by omega))⟩
  · refine fz_iconst ⟨by decide, by decide⟩ kX11_isLine rfl ?_
    exact fz_zret kX11_isLine rfl rfl (by omega) ⟨hI27, hf39, _, rfl, (by omega), (by omega), (by omega), (by omega), (by omega), (by omega), (by first | (intro z; exfalso; omega) | (intro _; exact lost)), (by first | exact fl_il_n e11 f36 (by omega) | exact fl_il_m e11 f36 (by omega) (by omega) (by omega) lost (fl_gM_e (funext fun s => lost 65 s rfl) (lost 53 16 rfl)) lost (by omega) | exact fl_il_b (by omega) e11 (fz_Kp_fr hf28 rfl) f36 (by omega) lost (fz_Kp_fr lost rfl) ⟨funext fun s => lost 73 s rfl, lost 53 26 rfl⟩ (by omega) (by omega) lost (fz_Kp_fr lost rfl) (fl_gM_e (funext fun s => lost 65 s rfl) (lost 53 16 rfl)) lost (by omega) lost lost (by omega) (by omega) (by omega) | exact fl_il_a (by omega) e11 (fz_Kp_fr hf28 rfl) f36 (by omega) lost (fz_Kp_fr lost rfl) ⟨funext fun s => lost 73 s rfl, lost 53 26 rfl⟩ (by omega) (by omega) lost lost (by omega) lost (by omega))⟩

abbrev qX11_law (h : fz_H) : fz_H → Option fz_V → Prop := fun h' r0 => fz_Iv h' ∧ fz_fr [(53, 16), (53, 18), (53, 19), (53, 24), (53, 25), (53, 26), (53, 27), (66, 99999), (67, 99999), (68, 99999), (69, 99999), (70, 99999), (71, 99999), (72, 99999), (73, 99999)] h h' ∧ fz_Xw h' ∧ ∃ r : Int, r0 = some (fz_i r) ∧ ((-220) ≤ r ∧ r ≤ 1) ∧ (h' 53 16 = 0) ∧ (fl_laM h h' r)
set_option maxHeartbeats 1000000 in
set_option maxRecDepth 100000 in
theorem sX11_law (h : fz_H) (hI : fz_Iv h) (hXw : fz_Xw h) : fz_R 45 mX11_law 0 [(0, fz_r 53)] [] h (qX11_law h) := by
  have hf : fz_fr [(53, 16), (53, 18), (53, 19), (53, 24), (53, 25), (53, 26), (53, 27), (66, 99999), (67, 99999), (68, 99999), (69, 99999), (70, 99999), (71, 99999), (72, 99999), (73, 99999)] h h := fz_fr_rf
  refine fz_aload_n kX11_law rfl rfl ?_
  refine fz_iconst ⟨by decide, by decide⟩ kX11_law rfl ?_
  refine fz_putI kX11_law rfl rfl rfl ?_
  refine fz_nmu (S := [(53, 16), (53, 18), (53, 19), (53, 24), (53, 25), (53, 26), (53, 27), (66, 99999), (67, 99999), (68, 99999), (69, 99999), (70, 99999), (71, 99999), (72, 99999), (73, 99999)]) (h0 := h) (fz_Iv_up hI (by decide) (show (0 : Int) ≤ 0 by decide) (show (0 : Int) ≤ 120 by decide)) (fz_fr_up hf rfl) (fun H1 hI2 hf3 e4 => ?_)
  have k5 : H1 53 24 = 0 := by rw [e4]; exact fz_up_e
  have t6 : H1 53 16 = h 53 16 := by rw [e4]; exact fz_up_s (by decide)
  have t7 : H1 53 26 = h 53 26 := by rw [e4]; exact fz_up_s (by decide)
  have t8 : H1 53 27 = h 53 27 := by rw [e4]; exact fz_up_s (by decide)
  have t9 : H1 53 19 = h 53 19 := by rw [e4]; exact fz_up_s (by decide)
  have t10 : H1 53 18 = h 53 18 := by rw [e4]; exact fz_up_s (by decide)
  have hXw11 : fz_Xw H1 := fz_Xw_eq (by rw [e4]; exact fz_up_s (by decide)) (by rw [e4]; exact fz_up_ne (by decide)) (by rw [e4]; exact fz_up_ne (by decide)) (by rw [e4]; exact fz_up_ne (by decide)) (by rw [e4]; exact fz_up_ne (by decide)) hXw
  refine fz_aload_n kX11_law rfl rfl ?_
  refine fz_iconst ⟨by decide, by decide⟩ kX11_law rfl ?_
  refine fz_putI kX11_law rfl rfl rfl ?_
  refine fz_nmu (S := [(53, 16), (53, 18), (53, 19), (53, 24), (53, 25), (53, 26), (53, 27), (66, 99999), (67, 99999), (68, 99999), (69, 99999), (70, 99999), (71, 99999), (72, 99999), (73, 99999)]) (h0 := h) (fz_Iv_up hI2 (by decide) (show (0 : Int) ≤ 0 by decide) (show (0 : Int) ≤ 6 by decide)) (fz_fr_up hf3 rfl) (fun H12 hI13 hf14 e15 => ?_)
  have k16 : H12 53 24 = 0 := by rw [e15]; exact (fz_up_s (by decide)).trans k5
  have k17 : H12 53 25 = 0 := by rw [e15]; exact fz_up_e
  have t18 : H12 53 16 = H1 53 16 := by rw [e15]; exact fz_up_s (by decide)
  have t19 : H12 53 24 = H1 53 24 := by rw [e15]; exact fz_up_s (by decide)
  have t20 : H12 53 26 = H1 53 26 := by rw [e15]; exact fz_up_s (by decide)
  have t21 : H12 53 27 = H1 53 27 := by rw [e15]; exact fz_up_s (by decide)
  have t22 : H12 53 19 = H1 53 19 := by rw [e15]; exact fz_up_s (by decide)
  have t23 : H12 53 18 = H1 53 18 := by rw [e15]; exact fz_up_s (by decide)
  have hXw24 : fz_Xw H12 := fz_Xw_eq (by rw [e15]; exact fz_up_s (by decide)) (by rw [e15]; exact fz_up_ne (by decide)) (by rw [e15]; exact fz_up_ne (by decide)) (by rw [e15]; exact fz_up_ne (by decide)) (by rw [e15]; exact fz_up_ne (by decide)) hXw11
  refine fz_aload_n kX11_law rfl rfl ?_
  refine fz_iconst ⟨by decide, by decide⟩ kX11_law rfl ?_
  refine fz_putI kX11_law rfl rfl rfl ?_
  refine fz_nmu (S := [(53, 16), (53, 18), (53, 19), (53, 24), (53, 25), (53, 26), (53, 27), (66, 99999), (67, 99999), (68, 99999), (69, 99999), (70, 99999), (71, 99999), (72, 99999), (73, 99999)]) (h0 := h) (fz_Iv_up hI13 (by decide) (show (0 : Int) ≤ 0 by decide) (show (0 : Int) ≤ 200 by decide)) (fz_fr_up hf14 rfl) (fun H25 hI26 hf27 e28 => ?_)
  have k29 : H25 53 24 = 0 := by rw [e28]; exact (fz_up_s (by decide)).trans k16
  have k30 : H25 53 25 = 0 := by rw [e28]; exact (fz_up_s (by decide)).trans k17
  have k31 : H25 53 26 = 0 := by rw [e28]; exact fz_up_e
  have t32 : H25 53 16 = H12 53 16 := by rw [e28]; exact fz_up_s (by decide)
  have t33 : H25 53 24 = H12 53 24 := by rw [e28]; exact fz_up_s (by decide)
  have t34 : H25 53 27 = H12 53 27 := by rw [e28]; exact fz_up_s (by decide)
  have t35 : H25 53 19 = H12 53 19 := by rw [e28]; exact fz_up_s (by decide)
  have t36 : H25 53 18 = H12 53 18 := by rw [e28]; exact fz_up_s (by decide)
  have hXw37 : fz_Xw H25 := fz_Xw_eq (by rw [e28]; exact fz_up_s (by decide)) (by rw [e28]; exact fz_up_ne (by decide)) (by rw [e28]; exact fz_up_ne (by decide)) (by rw [e28]; exact fz_up_ne (by decide)) (by rw [e28]; exact fz_up_ne (by decide)) hXw24
  refine fz_aload_n kX11_law rfl rfl ?_
  refine fz_iconst ⟨by decide, by decide⟩ kX11_law rfl ?_
  refine fz_putI kX11_law rfl rfl rfl ?_
  refine fz_nmu (S := [(53, 16), (53, 18), (53, 19), (53, 24), (53, 25), (53, 26), (53, 27), (66, 99999), (67, 99999), (68, 99999), (69, 99999), (70, 99999), (71, 99999), (72, 99999), (73, 99999)]) (h0 := h) (fz_Iv_up hI26 (by decide) (show (0 : Int) ≤ 0 by decide) (show (0 : Int) ≤ 61 by decide)) (fz_fr_up hf27 rfl) (fun H38 hI39 hf40 e41 => ?_)
  have k42 : H38 53 24 = 0 := by rw [e41]; exact (fz_up_s (by decide)).trans k29
  have k43 : H38 53 25 = 0 := by rw [e41]; exact (fz_up_s (by decide)).trans k30
  have k44 : H38 53 26 = 0 := by rw [e41]; exact (fz_up_s (by decide)).trans k31
  have k45 : H38 53 27 = 0 := by rw [e41]; exact fz_up_e
  have t46 : H38 53 16 = H25 53 16 := by rw [e41]; exact fz_up_s (by decide)
  have t47 : H38 53 24 = H25 53 24 := by rw [e41]; exact fz_up_s (by decide)
  have t48 : H38 53 26 = H25 53 26 := by rw [e41]; exact fz_up_s (by decide)
  have t49 : H38 53 19 = H25 53 19 := by rw [e41]; exact fz_up_s (by decide)
  have t50 : H38 53 18 = H25 53 18 := by rw [e41]; exact fz_up_s (by decide)
  have hXw51 : fz_Xw H38 := fz_Xw_eq (by rw [e41]; exact fz_up_s (by decide)) (by rw [e41]; exact fz_up_ne (by decide)) (by rw [e41]; exact fz_up_ne (by decide)) (by rw [e41]; exact fz_up_ne (by decide)) (by rw [e41]; exact fz_up_ne (by decide)) hXw37
  refine fz_aload_n kX11_law rfl rfl ?_
  have k52 : fz_Ln H38 := fz_Ln_0 k45
  have b54 : 0 ≤ H38 53 25 ∧ H38 53 25 ≤ 6 := hI39.1 53 _
  have b55 : 0 ≤ H38 53 24 ∧ H38 53 24 ≤ 120 := hI39.1 53 _
  have b56 : 0 ≤ H38 53 16 ∧ H38 53 16 ≤ 120 := hI39.1 53 _
  have b57 : 0 ≤ H38 53 26 ∧ H38 53 26 ≤ 200 := hI39.1 53 _
  have b58 : 0 ≤ H38 53 27 ∧ H38 53 27 ≤ 61 := hI39.1 53 _
  refine fz_callV (d' := 44) (M' := mX11_isLine) (As := []) (st := []) kX11_law rfl rfl vX11_isLine rfl rfl rfl rfl (Nat.le_of_ble_eq_true rfl) (Nat.le_of_ble_eq_true rfl) (by decide) (sX11_isLine H38 hI39  (by omega) (by omega) (by omega) (by omega) k52) (fun H59 r60 q61 o62 => ?_)
  obtain ⟨hI63, hf64, y72, rfl, p73, f65, f66, f67, f68, f69, f70, f71⟩ := q61
  clear o62
  have hf74 := fz_fr_tr hf40 hf64 (show fz_su [(53, 24), (53, 25), (53, 26), (53, 27), (70, 99999), (71, 99999), (72, 99999), (73, 99999)] [(53, 16), (53, 18), (53, 19), (53, 24), (53, 25), (53, 26), (53, 27), (66, 99999), (67, 99999), (68, 99999), (69, 99999), (70, 99999), (71, 99999), (72, 99999), (73, 99999)] = true from rfl)
  have hXw75 : fz_Xw H59 := fz_Xw_eq (hf64 53 19 rfl) (funext fun s => hf64 66 s rfl) (funext fun s => hf64 67 s rfl) (funext fun s => hf64 68 s rfl) (funext fun s => hf64 69 s rfl) hXw51
  have t76 : H59 53 16 = H38 53 16 := hf64 53 16 rfl
  have t77 : H59 53 19 = H38 53 19 := hf64 53 19 rfl
  have t78 : H59 53 18 = H38 53 18 := hf64 53 18 rfl
  refine fz_istore_n (ls' := [(1, fz_i y72), (0, fz_r 53)]) kX11_law rfl (by decide) rfl ?_
  have lp85 : ∀ (n84 : Nat) (x79 : Int) (H81 : fz_H), fz_Iv H81 → fz_fr [(53, 16), (53, 18), (53, 19), (53, 24), (53, 25), (53, 26), (53, 27), (66, 99999), (67, 99999), (68, 99999), (69, 99999), (70, 99999), (71, 99999), (72, 99999), (73, 99999)] h H81 → fz_Xw H81 → (0 ≤ x79 ∧ x79 ≤ 1) → (H81 53 25 = 0) → (H81 53 16 = h 53 16) → (H81 53 24 ≤ h 53 16) → (H81 53 26 ≤ H81 53 24) → (x79 = 1 → 2 * H81 53 27 ≤ H81 53 24 + 1) → (H81 53 18 = h 53 18) → (H81 53 19 = h 53 19) → (x79 = 1 → fz_Ln H81) → (fl_lwS (fl_gM h) (h 53 16) H81 x79) → (H81 66 = h 66 ∧ H81 67 = h 67 ∧ H81 68 = h 68 ∧ H81 69 = h 69) → (h 53 16 - H81 53 24).toNat < n84 → fz_R 45 mX11_law 25 [(1, fz_i x79), (0, fz_r 53)] [] H81 (qX11_law h) := by
    intro n84
    induction n84 with
    | zero => intro x79 H81 hI82 hf83 hXw80 hv88 hv89 hv90 hv91 hv92 hv93 hv94 hv95 hv96 hv97 hv98 hm87; exact absurd hm87 (by omega)
    | succ n84 ih86 =>
      intro x79 H81 hI82 hf83 hXw80 hv88 hv89 hv90 hv91 hv92 hv93 hv94 hv95 hv96 hv97 hv98 hm87
      refine fz_iload_n kX11_law rfl rfl ?_
      refine fz_if_eq (tgt := 46) kX11_law rfl (by decide) (fun c99 => ?_) (fun c99 => ?_)
      · refine fz_iload_n kX11_law rfl rfl ?_
        refine fz_if_eq (tgt := 65) kX11_law rfl (by decide) (fun c100 => ?_) (fun c100 => ?_)
        · refine fz_iconst ⟨by decide, by decide⟩ kX11_law rfl ?_
          refine fz_istore_n (ls' := [(2, fz_i 0), (1, fz_i x79), (0, fz_r 53)]) kX11_law rfl (by decide) rfl ?_
          refine fz_aload_n kX11_law rfl rfl ?_
          refine fz_iconst ⟨by decide, by decide⟩ kX11_law rfl ?_
          refine fz_putI kX11_law rfl rfl rfl ?_
          refine fz_nmu (S := [(53, 16), (53, 18), (53, 19), (53, 24), (53, 25), (53, 26), (53, 27), (66, 99999), (67, 99999), (68, 99999), (69, 99999), (70, 99999), (71, 99999), (72, 99999), (73, 99999)]) (h0 := h) (fz_Iv_up hI82 (by decide) (show (0 : Int) ≤ 0 by decide) (show (0 : Int) ≤ 120 by decide)) (fz_fr_up hf83 rfl) (fun H101 hI102 hf103 e104 => ?_)
          have k105 : H101 53 25 = 0 := by rw [e104]; exact (fz_up_s (by decide)).trans hv89
          have k106 : H101 53 16 = 0 := by rw [e104]; exact fz_up_e
          have t107 : H101 53 24 = H81 53 24 := by rw [e104]; exact fz_up_s (by decide)
          have t108 : H101 53 26 = H81 53 26 := by rw [e104]; exact fz_up_s (by decide)
          have t109 : H101 53 27 = H81 53 27 := by rw [e104]; exact fz_up_s (by decide)
          have t110 : H101 53 19 = H81 53 19 := by rw [e104]; exact fz_up_s (by decide)
          have t111 : H101 53 18 = H81 53 18 := by rw [e104]; exact fz_up_s (by decide)
          have hXw112 : fz_Xw H101 := fz_Xw_eq (by rw [e104]; exact fz_up_s (by decide)) (by rw [e104]; exact fz_up_ne (by decide)) (by rw [e104]; exact fz_up_ne (by decide)) (by rw [e104]; exact fz_up_ne (by decide)) (by rw [e104]; exact fz_up_ne (by decide)) hXw80
          refine fz_iload_n kX11_law rfl rfl ?_
          refine fz_if_ne (tgt := 84) kX11_law rfl (by decide) (fun c113 => ?_) (fun c113 => ?_)
          · exfalso; omega
          · refine fz_bipush ⟨by decide, by decide⟩ kX11_law rfl ?_
            refine fz_aload_n kX11_law rfl rfl ?_
            obtain ⟨v114, e115⟩ : ∃ z, H101 53 (24) = z := ⟨_, rfl⟩
            refine fz_getV (v := v114) kX11_law rfl rfl e115 ?_
            have b116 : 0 ≤ v114 ∧ v114 ≤ 120 := by rw [← e115]; exact hI102.1 53 _
            refine fz_isubN kX11_law rfl (by omega) ?_
            exact fz_iret kX11_law rfl rfl (fun _ => ⟨hI102, hf103, hXw112, _, rfl, (by omega), (by omega), (by first | exact fl_laM_1 hv97 (by omega) (by omega) (by omega) lost.1 lost.2.1 lost.2.2.1 lost.2.2.2 (by omega) (by omega) lost lost (by omega) (by omega) (by omega) | exact fl_laM_0 hv97 (by omega) (by omega) (by omega) (by omega) (by rw [e104, fz_up_ne (by decide)]; exact (funext fun s => lost 66 s rfl).trans hv98.1) (by rw [e104, fz_up_ne (by decide)]; exact (funext fun s => lost 67 s rfl).trans hv98.2.1) (by rw [e104, fz_up_ne (by decide)]; exact (funext fun s => lost 68 s rfl).trans hv98.2.2.1) (by rw [e104, fz_up_ne (by decide)]; exact (funext fun s => lost 69 s rfl).trans hv98.2.2.2) | exact fl_laM_0 hv97 (by omega) (by omega) (by omega) (by omega) (by rw [e104, fz_up_ne (by decide)]; exact hv98.1) (by rw [e104, fz_up_ne (by decide)]; exact hv98.2.1) (by rw [e104, fz_up_ne (by decide)]; exact hv98.2.2.1) (by rw [e104, fz_up_ne (by decide)]; exact hv98.2.2.2))⟩)
        · exfalso; omega
      · have hLn118 : fz_Ln H81 := hv96 (by omega)
        refine fz_aload_n kX11_law rfl rfl ?_
        have k120 : fl_gM H81 (H81 53 24) = fl_gM h (H81 53 24) := fl_gMe2 (funext fun s => hf83 65 s rfl) (by omega)
        refine fz_bipush ⟨by decide, by decide⟩ kX11_law rfl ?_
        have b121 : 0 ≤ H81 53 24 ∧ H81 53 24 ≤ 120 := hI82.1 53 _
        have b122 : 0 ≤ H81 53 16 ∧ H81 53 16 ≤ 120 := hI82.1 53 _
        refine fz_callV (d' := 1) (M' := mX11_is) (As := [fz_i 59]) (st := []) kX11_law rfl rfl vX11_is rfl rfl rfl rfl (Nat.le_of_ble_eq_true rfl) (Nat.le_of_ble_eq_true rfl) (by decide) (sX11_is H81 hI82 59 (by omega) (by omega)) (fun H123 r124 q125 o126 => ?_)
        obtain ⟨hI127, hf128, y131, rfl, p132, f129, f130⟩ := q125
        clear o126
        have hf133 := fz_fr_tr hf83 hf128 (show fz_su [(53, 24)] [(53, 16), (53, 18), (53, 19), (53, 24), (53, 25), (53, 26), (53, 27), (66, 99999), (67, 99999), (68, 99999), (69, 99999), (70, 99999), (71, 99999), (72, 99999), (73, 99999)] = true from rfl)
        have k134 : H123 53 25 = 0 := (hf128 53 25 rfl).trans hv89
        have hXw135 : fz_Xw H123 := fz_Xw_eq (hf128 53 19 rfl) (funext fun s => hf128 66 s rfl) (funext fun s => hf128 67 s rfl) (funext fun s => hf128 68 s rfl) (funext fun s => hf128 69 s rfl) hXw80
        have hLn136 : fz_Ln H123 := fz_Ln_eq (funext fun s => hf128 70 s rfl) (funext fun s => hf128 71 s rfl) (funext fun s => hf128 72 s rfl) (funext fun s => hf128 73 s rfl) (hf128 53 26 rfl) (hf128 53 27 rfl) hLn118
        have t137 : H123 53 16 = H81 53 16 := hf128 53 16 rfl
        have t138 : H123 53 26 = H81 53 26 := hf128 53 26 rfl
        have t139 : H123 53 27 = H81 53 27 := hf128 53 27 rfl
        have t140 : H123 53 19 = H81 53 19 := hf128 53 19 rfl
        have t141 : H123 53 18 = H81 53 18 := hf128 53 18 rfl
        refine fz_if_eq (tgt := 46) kX11_law rfl (by decide) (fun c142 => ?_) (fun c142 => ?_)
        · refine fz_iload_n kX11_law rfl rfl ?_
          refine fz_if_eq (tgt := 65) kX11_law rfl (by decide) (fun c143 => ?_) (fun c143 => ?_)
          · exfalso; omega
          · refine fz_aload_n kX11_law rfl rfl ?_
            obtain ⟨v144, e145⟩ : ∃ z, H123 53 (24) = z := ⟨_, rfl⟩
            refine fz_getV (v := v144) kX11_law rfl rfl e145 ?_
            have b146 : 0 ≤ v144 ∧ v144 ≤ 120 := by rw [← e145]; exact hI127.1 53 _
            refine fz_aload_n kX11_law rfl rfl ?_
            obtain ⟨v147, e148⟩ : ∃ z, H123 53 (16) = z := ⟨_, rfl⟩
            refine fz_getV (v := v147) kX11_law rfl rfl e148 ?_
            have b149 : 0 ≤ v147 ∧ v147 ≤ 120 := by rw [← e148]; exact hI127.1 53 _
            refine fz_icmp_ne (tgt := 65) kX11_law rfl (by decide) (fun c150 => ?_) (fun c150 => ?_)
            · refine fz_iconst ⟨by decide, by decide⟩ kX11_law rfl ?_
              refine fz_istore_n (ls' := [(2, fz_i 0), (1, fz_i x79), (0, fz_r 53)]) kX11_law rfl (by decide) rfl ?_
              refine fz_aload_n kX11_law rfl rfl ?_
              refine fz_iconst ⟨by decide, by decide⟩ kX11_law rfl ?_
              refine fz_putI kX11_law rfl rfl rfl ?_
              refine fz_nmu (S := [(53, 16), (53, 18), (53, 19), (53, 24), (53, 25), (53, 26), (53, 27), (66, 99999), (67, 99999), (68, 99999), (69, 99999), (70, 99999), (71, 99999), (72, 99999), (73, 99999)]) (h0 := h) (fz_Iv_up hI127 (by decide) (show (0 : Int) ≤ 0 by decide) (show (0 : Int) ≤ 120 by decide)) (fz_fr_up hf133 rfl) (fun H151 hI152 hf153 e154 => ?_)
              have k155 : H151 53 25 = 0 := by rw [e154]; exact (fz_up_s (by decide)).trans k134
              have k156 : H151 53 24 = v144 := by rw [e154]; exact (fz_up_s (by decide)).trans e145
              have k157 : H151 53 16 = 0 := by rw [e154]; exact fz_up_e
              have t158 : H151 53 24 = H123 53 24 := by rw [e154]; exact fz_up_s (by decide)
              have t159 : H151 53 26 = H123 53 26 := by rw [e154]; exact fz_up_s (by decide)
              have t160 : H151 53 27 = H123 53 27 := by rw [e154]; exact fz_up_s (by decide)
              have t161 : H151 53 19 = H123 53 19 := by rw [e154]; exact fz_up_s (by decide)
              have t162 : H151 53 18 = H123 53 18 := by rw [e154]; exact fz_up_s (by decide)
              have hXw163 : fz_Xw H151 := fz_Xw_eq (by rw [e154]; exact fz_up_s (by decide)) (by rw [e154]; exact fz_up_ne (by decide)) (by rw [e154]; exact fz_up_ne (by decide)) (by rw [e154]; exact fz_up_ne (by decide)) (by rw [e154]; exact fz_up_ne (by decide)) hXw135
              have hLn164 : fz_Ln H151 := fz_Ln_eq (by rw [e154]; exact fz_up_ne (by decide)) (by rw [e154]; exact fz_up_ne (by decide)) (by rw [e154]; exact fz_up_ne (by decide)) (by rw [e154]; exact fz_up_ne (by decide)) (by rw [e154]; exact fz_up_s (by decide)) (by rw [e154]; exact fz_up_s (by decide)) hLn136
              refine fz_iload_n kX11_law rfl rfl ?_
              refine fz_if_ne (tgt := 84) kX11_law rfl (by decide) (fun c165 => ?_) (fun c165 => ?_)
              · exfalso; omega
              · refine fz_bipush ⟨by decide, by decide⟩ kX11_law rfl ?_
                refine fz_aload_n kX11_law rfl rfl ?_
                refine fz_getV (v := v144) kX11_law rfl rfl k156 ?_
                refine fz_isubN kX11_law rfl (by omega) ?_
                exact fz_iret kX11_law rfl rfl (fun _ => ⟨hI152, hf153, hXw163, _, rfl, (by omega), (by omega), (by first | exact fl_laM_1 hv97 (by omega) (by omega) (by omega) lost.1 lost.2.1 lost.2.2.1 lost.2.2.2 (by omega) (by omega) lost lost (by omega) (by omega) (by omega) | exact fl_laM_0 hv97 (by omega) (by omega) (by omega) (by omega) (by rw [e154, fz_up_ne (by decide)]; exact (funext fun s => hf128 66 s rfl).trans hv98.1) (by rw [e154, fz_up_ne (by decide)]; exact (funext fun s => hf128 67 s rfl).trans hv98.2.1) (by rw [e154, fz_up_ne (by decide)]; exact (funext fun s => hf128 68 s rfl).trans hv98.2.2.1) (by rw [e154, fz_up_ne (by decide)]; exact (funext fun s => hf128 69 s rfl).trans hv98.2.2.2) | exact fl_laM_0 hv97 (by omega) (by omega) (by omega) (by omega) (by rw [e154, fz_up_ne (by decide)]; exact hv98.1) (by rw [e154, fz_up_ne (by decide)]; exact hv98.2.1) (by rw [e154, fz_up_ne (by decide)]; exact hv98.2.2.1) (by rw [e154, fz_up_ne (by decide)]; exact hv98.2.2.2))⟩)
            · refine fz_iconst ⟨by decide, by decide⟩ kX11_law rfl ?_
              refine fz_goto (tgt := 66) kX11_law rfl (by decide) ?_
              refine fz_istore_n (ls' := [(2, fz_i 1), (1, fz_i x79), (0, fz_r 53)]) kX11_law rfl (by decide) rfl ?_
              refine fz_aload_n kX11_law rfl rfl ?_
              refine fz_iconst ⟨by decide, by decide⟩ kX11_law rfl ?_
              refine fz_putI kX11_law rfl rfl rfl ?_
              refine fz_nmu (S := [(53, 16), (53, 18), (53, 19), (53, 24), (53, 25), (53, 26), (53, 27), (66, 99999), (67, 99999), (68, 99999), (69, 99999), (70, 99999), (71, 99999), (72, 99999), (73, 99999)]) (h0 := h) (fz_Iv_up hI127 (by decide) (show (0 : Int) ≤ 0 by decide) (show (0 : Int) ≤ 120 by decide)) (fz_fr_up hf133 rfl) (fun H167 hI168 hf169 e170 => ?_)
              have k171 : H167 53 25 = 0 := by rw [e170]; exact (fz_up_s (by decide)).trans k134
              have k172 : H167 53 24 = v144 := by rw [e170]; exact (fz_up_s (by decide)).trans e145
              have k173 : H167 53 16 = 0 := by rw [e170]; exact fz_up_e
              have t174 : H167 53 24 = H123 53 24 := by rw [e170]; exact fz_up_s (by decide)
              have t175 : H167 53 26 = H123 53 26 := by rw [e170]; exact fz_up_s (by decide)
              have t176 : H167 53 27 = H123 53 27 := by rw [e170]; exact fz_up_s (by decide)
              have t177 : H167 53 19 = H123 53 19 := by rw [e170]; exact fz_up_s (by decide)
              have t178 : H167 53 18 = H123 53 18 := by rw [e170]; exact fz_up_s (by decide)
              have hXw179 : fz_Xw H167 := fz_Xw_eq (by rw [e170]; exact fz_up_s (by decide)) (by rw [e170]; exact fz_up_ne (by decide)) (by rw [e170]; exact fz_up_ne (by decide)) (by rw [e170]; exact fz_up_ne (by decide)) (by rw [e170]; exact fz_up_ne (by decide)) hXw135
              have hLn180 : fz_Ln H167 := fz_Ln_eq (by rw [e170]; exact fz_up_ne (by decide)) (by rw [e170]; exact fz_up_ne (by decide)) (by rw [e170]; exact fz_up_ne (by decide)) (by rw [e170]; exact fz_up_ne (by decide)) (by rw [e170]; exact fz_up_s (by decide)) (by rw [e170]; exact fz_up_s (by decide)) hLn136
              refine fz_iload_n kX11_law rfl rfl ?_
              refine fz_if_ne (tgt := 84) kX11_law rfl (by decide) (fun c181 => ?_) (fun c181 => ?_)
              · refine fz_aload_n kX11_law rfl rfl ?_
                refine fz_iconst ⟨by decide, by decide⟩ kX11_law rfl ?_
                refine fz_putZ kX11_law rfl rfl rfl (by omega) ?_
                refine fz_nmu (S := [(53, 16), (53, 18), (53, 19), (53, 24), (53, 25), (53, 26), (53, 27), (66, 99999), (67, 99999), (68, 99999), (69, 99999), (70, 99999), (71, 99999), (72, 99999), (73, 99999)]) (h0 := h) (fz_Iv_up hI168 (by decide) (show (0 : Int) ≤ 1 by decide) (show (1 : Int) ≤ 1 by decide)) (fz_fr_up hf169 rfl) (fun H182 hI183 hf184 e185 => ?_)
                have k186 : H182 53 25 = 0 := by rw [e185]; exact (fz_up_s (by decide)).trans k171
                have k187 : H182 53 24 = v144 := by rw [e185]; exact (fz_up_s (by decide)).trans k172
                have k188 : H182 53 16 = 0 := by rw [e185]; exact (fz_up_s (by decide)).trans k173
                have k189 : H182 53 18 = 1 := by rw [e185]; exact fz_up_e
                have t190 : H182 53 16 = H167 53 16 := by rw [e185]; exact fz_up_s (by decide)
                have t191 : H182 53 24 = H167 53 24 := by rw [e185]; exact fz_up_s (by decide)
                have t192 : H182 53 26 = H167 53 26 := by rw [e185]; exact fz_up_s (by decide)
                have t193 : H182 53 27 = H167 53 27 := by rw [e185]; exact fz_up_s (by decide)
                have t194 : H182 53 19 = H167 53 19 := by rw [e185]; exact fz_up_s (by decide)
                have hXw195 : fz_Xw H182 := fz_Xw_eq (by rw [e185]; exact fz_up_s (by decide)) (by rw [e185]; exact fz_up_ne (by decide)) (by rw [e185]; exact fz_up_ne (by decide)) (by rw [e185]; exact fz_up_ne (by decide)) (by rw [e185]; exact fz_up_ne (by decide)) hXw179
                have hLn196 : fz_Ln H182 := fz_Ln_eq (by rw [e185]; exact fz_up_ne (by decide)) (by rw [e185]; exact fz_up_ne (by decide)) (by rw [e185]; exact fz_up_ne (by decide)) (by rw [e185]; exact fz_up_ne (by decide)) (by rw [e185]; exact fz_up_s (by decide)) (by rw [e185]; exact fz_up_s (by decide)) hLn180
                refine fz_aload_n kX11_law rfl rfl ?_
                refine fz_aload_n kX11_law rfl rfl ?_
                obtain ⟨v197, e198⟩ : ∃ z, H182 53 (27) = z := ⟨_, rfl⟩
                refine fz_getV (v := v197) kX11_law rfl rfl e198 ?_
                have b199 : 0 ≤ v197 ∧ v197 ≤ 61 := by rw [← e198]; exact hI183.1 53 _
                refine fz_putI kX11_law rfl rfl rfl ?_
                refine fz_nmu (S := [(53, 16), (53, 18), (53, 19), (53, 24), (53, 25), (53, 26), (53, 27), (66, 99999), (67, 99999), (68, 99999), (69, 99999), (70, 99999), (71, 99999), (72, 99999), (73, 99999)]) (h0 := h) (fz_Iv_up hI183 (by decide) (show (0 : Int) ≤ v197 by omega) (show (v197 : Int) ≤ 60 by omega)) (fz_fr_up hf184 rfl) (fun H200 hI201 hf202 e203 => ?_)
                have k204 : H200 53 25 = 0 := by rw [e203]; exact (fz_up_s (by decide)).trans k186
                have k205 : H200 53 24 = v144 := by rw [e203]; exact (fz_up_s (by decide)).trans k187
                have k206 : H200 53 16 = 0 := by rw [e203]; exact (fz_up_s (by decide)).trans k188
                have k207 : H200 53 18 = 1 := by rw [e203]; exact (fz_up_s (by decide)).trans k189
                have k208 : H200 53 27 = v197 := by rw [e203]; exact (fz_up_s (by decide)).trans e198
                have k209 : H200 53 19 = v197 := by rw [e203]; exact fz_up_e
                have t210 : H200 53 16 = H182 53 16 := by rw [e203]; exact fz_up_s (by decide)
                have t211 : H200 53 24 = H182 53 24 := by rw [e203]; exact fz_up_s (by decide)
                have t212 : H200 53 26 = H182 53 26 := by rw [e203]; exact fz_up_s (by decide)
                have t213 : H200 53 27 = H182 53 27 := by rw [e203]; exact fz_up_s (by decide)
                have t214 : H200 53 18 = H182 53 18 := by rw [e203]; exact fz_up_s (by decide)
                have hLn216 : fz_Ln H200 := fz_Ln_eq (by rw [e203]; exact fz_up_ne (by decide)) (by rw [e203]; exact fz_up_ne (by decide)) (by rw [e203]; exact fz_up_ne (by decide)) (by rw [e203]; exact fz_up_ne (by decide)) (by rw [e203]; exact fz_up_s (by decide)) (by rw [e203]; exact fz_up_s (by decide)) hLn196
                have k217 : H200 70 = H81 70 ∧ H200 71 = H81 71 ∧ H200 72 = H81 72 ∧ H200 73 = H81 73 := ⟨by rw [e203, fz_up_ne (by decide), e185, fz_up_ne (by decide), e170, fz_up_ne (by decide)]; exact (funext fun s => hf128 70 s rfl), by rw [e203, fz_up_ne (by decide), e185, fz_up_ne (by decide), e170, fz_up_ne (by decide)]; exact (funext fun s => hf128 71 s rfl), by rw [e203, fz_up_ne (by decide), e185, fz_up_ne (by decide), e170, fz_up_ne (by decide)]; exact (funext fun s => hf128 72 s rfl), by rw [e203, fz_up_ne (by decide), e185, fz_up_ne (by decide), e170, fz_up_ne (by decide)]; exact (funext fun s => hf128 73 s rfl)⟩
                refine fz_iconst ⟨by decide, by decide⟩ kX11_law rfl ?_
                refine fz_istore_n (ls' := [(3, fz_i 0), (2, fz_i 1), (1, fz_i x79), (0, fz_r 53)]) kX11_law rfl (by decide) rfl ?_
                have lp225 : ∀ (n224 : Nat) (x219 : Int) (H221 : fz_H), fz_Iv H221 → fz_fr [(53, 16), (53, 18), (53, 19), (53, 24), (53, 25), (53, 26), (53, 27), (66, 99999), (67, 99999), (68, 99999), (69, 99999), (70, 99999), (71, 99999), (72, 99999), (73, 99999)] h H221 → fz_Ln H221 → (0 ≤ x219 ∧ x219 ≤ 2147483647) → (H221 53 19 = H221 53 27) → (H221 53 19 ≤ 60) → (H221 53 16 = 0) → (H221 53 26 = H81 53 26) → (H221 53 27 = H81 53 27) → (H221 53 18 = 1) → (fz_C3 H221 x219) → (H221 70 = H81 70 ∧ H221 71 = H81 71 ∧ H221 72 = H81 72 ∧ H221 73 = H81 73) → (H221 53 19 - x219).toNat < n224 → fz_R 45 mX11_law 99 [(3, fz_i x219), (2, fz_i 1), (1, fz_i x79), (0, fz_r 53)] [] H221 (qX11_law h) := by
                  intro n224
                  induction n224 with
                  | zero => intro x219 H221 hI222 hf223 hLn220 hv228 hv229 hv230 hv231 hv232 hv233 hv234 hv235 hv236 hm227; exact absurd hm227 (by omega)
                  | succ n224 ih226 =>
                    intro x219 H221 hI222 hf223 hLn220 hv228 hv229 hv230 hv231 hv232 hv233 hv234 hv235 hv236 hm227
                    refine fz_iload_n kX11_law rfl rfl ?_
                    refine fz_aload_n kX11_law rfl rfl ?_
                    obtain ⟨v237, e238⟩ : ∃ z, H221 53 (19) = z := ⟨_, rfl⟩
                    refine fz_getV (v := v237) kX11_law rfl rfl e238 ?_
                    have b239 : 0 ≤ v237 ∧ v237 ≤ 60 := by rw [← e238]; exact hI222.1 53 _
                    refine fz_icmp_ge (tgt := 149) kX11_law rfl (by decide) (fun c240 => ?_) (fun c240 => ?_)
                    · have hC3f241 : fz_C3f H221 := fun j z => hv235 j (by omega)
                      refine fz_iconst ⟨by decide, by decide⟩ kX11_law rfl ?_
                      refine fz_istore_n (ls' := [(3, fz_i 0), (2, fz_i 1), (1, fz_i x79), (0, fz_r 53)]) kX11_law rfl (by decide) rfl ?_
                      have lp250 : ∀ (n249 : Nat) (x243 : Int) (H246 : fz_H), fz_Iv H246 → fz_fr [(53, 16), (53, 18), (53, 19), (53, 24), (53, 25), (53, 26), (53, 27), (66, 99999), (67, 99999), (68, 99999), (69, 99999), (70, 99999), (71, 99999), (72, 99999), (73, 99999)] h H246 → fz_Ln H246 → fz_C3f H246 → (0 ≤ x243 ∧ x243 ≤ 2147483647) → (H246 53 19 = H246 53 27) → (H246 53 16 = 0) → (H246 53 26 = H81 53 26) → (H246 53 27 = H81 53 27) → (H246 53 18 = 1) → (fz_C4 H246 x243) → (H246 70 = H81 70 ∧ H246 71 = H81 71 ∧ H246 72 = H81 72 ∧ H246 73 = H81 73) → (H246 53 26 - x243).toNat < n249 → fz_R 45 mX11_law 151 [(3, fz_i x243), (2, fz_i 1), (1, fz_i x79), (0, fz_r 53)] [] H246 (qX11_law h) := by
                        intro n249
                        induction n249 with
                        | zero => intro x243 H246 hI247 hf248 hLn244 hC3f245 hv253 hv254 hv255 hv256 hv257 hv258 hv259 hv260 hm252; exact absurd hm252 (by omega)
                        | succ n249 ih251 =>
                          intro x243 H246 hI247 hf248 hLn244 hC3f245 hv253 hv254 hv255 hv256 hv257 hv258 hv259 hv260 hm252
                          refine fz_iload_n kX11_law rfl rfl ?_
                          refine fz_aload_n kX11_law rfl rfl ?_
                          obtain ⟨v261, e262⟩ : ∃ z, H246 53 (26) = z := ⟨_, rfl⟩
                          refine fz_getV (v := v261) kX11_law rfl rfl e262 ?_
                          have b263 : 0 ≤ v261 ∧ v261 ≤ 200 := by rw [← e262]; exact hI247.1 53 _
                          refine fz_icmp_ge (tgt := 177) kX11_law rfl (by decide) (fun c264 => ?_) (fun c264 => ?_)
                          · have hXw265 : fz_Xw H246 := fz_Xw_in hLn244 hC3f245 hv259 (by omega) (by omega) (by omega)
                            refine fz_iconst ⟨by decide, by decide⟩ kX11_law rfl ?_
                            exact fz_iret kX11_law rfl rfl (fun _ => ⟨hI247, hf248, hXw265, _, rfl, (by omega), (by omega), (by first | exact fl_laM_1 hv97 (by omega) (by omega) (by omega) hv260.1 hv260.2.1 hv260.2.2.1 hv260.2.2.2 (by omega) (by omega) hC3f245 hv259 (by omega) (by omega) (by omega) | exact fl_laM_0 hv97 (by omega) (by omega) (by omega) (by omega) (by rw [e170, fz_up_ne (by decide)]; exact (funext fun s => hf128 66 s rfl).trans hv98.1) (by rw [e170, fz_up_ne (by decide)]; exact (funext fun s => hf128 67 s rfl).trans hv98.2.1) (by rw [e170, fz_up_ne (by decide)]; exact (funext fun s => hf128 68 s rfl).trans hv98.2.2.1) (by rw [e170, fz_up_ne (by decide)]; exact (funext fun s => hf128 69 s rfl).trans hv98.2.2.2) | exact fl_laM_0 hv97 (by omega) (by omega) (by omega) (by omega) (by rw [e170, fz_up_ne (by decide)]; exact hv98.1) (by rw [e170, fz_up_ne (by decide)]; exact hv98.2.1) (by rw [e170, fz_up_ne (by decide)]; exact hv98.2.2.1) (by rw [e170, fz_up_ne (by decide)]; exact hv98.2.2.2))⟩)
                          · refine fz_aload_n kX11_law rfl rfl ?_
                            refine fz_getR (t := 69) kX11_law rfl rfl ?_
                            refine fz_iload_n kX11_law rfl rfl ?_
                            refine fz_aload_n kX11_law rfl rfl ?_
                            refine fz_getR (t := 73) kX11_law rfl rfl ?_
                            refine fz_iload_n kX11_law rfl rfl ?_
                            obtain ⟨v268, e269⟩ : ∃ z, H246 73 (x243.toNat) = z := ⟨_, rfl⟩
                            refine fz_ialdV (n := 200) (v := v268) kX11_law rfl rfl (by omega) (by omega) e269 ?_
                            have b270 : (-2147483648) ≤ v268 ∧ v268 ≤ 2147483647 := by rw [← e269]; exact hI247.1 73 _
                            refine fz_iast (n := 200) kX11_law rfl rfl (by omega) (by omega) ?_
                            refine fz_nmu (S := [(53, 16), (53, 18), (53, 19), (53, 24), (53, 25), (53, 26), (53, 27), (66, 99999), (67, 99999), (68, 99999), (69, 99999), (70, 99999), (71, 99999), (72, 99999), (73, 99999)]) (h0 := h) (fz_Iv_up hI247 (by decide) (show ((-2147483648) : Int) ≤ v268 by omega) (show (v268 : Int) ≤ 2147483647 by omega)) (fz_fr_up hf248 rfl) (fun H271 hI272 hf273 e274 => ?_)
                            have k275 : H271 53 26 = v261 := by rw [e274]; exact (fz_up_o (by decide)).trans e262
                            have t276 : H271 53 16 = H246 53 16 := by rw [e274]; exact fz_up_o (by decide)
                            have t277 : H271 53 24 = H246 53 24 := by rw [e274]; exact fz_up_o (by decide)
                            have t278 : H271 53 26 = H246 53 26 := by rw [e274]; exact fz_up_o (by decide)
                            have t279 : H271 53 27 = H246 53 27 := by rw [e274]; exact fz_up_o (by decide)
                            have t280 : H271 53 19 = H246 53 19 := by rw [e274]; exact fz_up_o (by decide)
                            have t281 : H271 53 18 = H246 53 18 := by rw [e274]; exact fz_up_o (by decide)
                            have hLn282 : fz_Ln H271 := fz_Ln_eq (by rw [e274]; exact fz_up_ne (by decide)) (by rw [e274]; exact fz_up_ne (by decide)) (by rw [e274]; exact fz_up_ne (by decide)) (by rw [e274]; exact fz_up_ne (by decide)) (by rw [e274]; exact fz_up_o (by decide)) (by rw [e274]; exact fz_up_o (by decide)) hLn244
                            have hC3f283 : fz_C3f H271 := fz_C3f_eq (by rw [e274]; exact fz_up_o (by decide)) (by rw [e274]; exact fz_up_ne (by decide)) (by rw [e274]; exact fz_up_ne (by decide)) (by rw [e274]; exact fz_up_ne (by decide)) (by rw [e274]; exact fz_up_ne (by decide)) (by rw [e274]; exact fz_up_ne (by decide)) (by rw [e274]; exact fz_up_ne (by decide)) hC3f245
                            refine fz_iincN (ls' := [(3, fz_i (x243 + 1)), (2, fz_i 1), (1, fz_i x79), (0, fz_r 53)]) kX11_law rfl (by decide) rfl (by omega) rfl ?_
                            refine fz_goto (tgt := 151) kX11_law rfl (by decide) ?_
                            exact ih251 (x243 + 1) H271 hI272 hf273 hLn282 hC3f283 (by omega) (by omega) (by omega) (by omega) (by omega) (by omega) (fz_C4_st hv259 (by omega) e274 e269) (⟨by rw [e274, fz_up_ne (by decide)]; exact hv260.1, by rw [e274, fz_up_ne (by decide)]; exact hv260.2.1, by rw [e274, fz_up_ne (by decide)]; exact hv260.2.2.1, by rw [e274, fz_up_ne (by decide)]; exact hv260.2.2.2⟩) (by omega)
                      exact lp250 _ 0 H221 hI222 hf223 hLn220 hC3f241 (by omega) (by omega) (by omega) (by omega) (by omega) (by omega) (fz_C4_0) (hv236) (Nat.lt_succ_self _)
                    · refine fz_aload_n kX11_law rfl rfl ?_
                      refine fz_getR (t := 66) kX11_law rfl rfl ?_
                      refine fz_iload_n kX11_law rfl rfl ?_
                      refine fz_aload_n kX11_law rfl rfl ?_
                      refine fz_getR (t := 70) kX11_law rfl rfl ?_
                      refine fz_iload_n kX11_law rfl rfl ?_
                      obtain ⟨v288, e289⟩ : ∃ z, H221 70 (x219.toNat) = z := ⟨_, rfl⟩
                      refine fz_ialdV (n := 61) (v := v288) kX11_law rfl rfl (by omega) (by omega) e289 ?_
                      have b290 : 0 ≤ v288 ∧ v288 ≤ 200 := by rw [← e289]; exact hI222.1 70 _
                      refine fz_iast (n := 60) kX11_law rfl rfl (by omega) (by omega) ?_
                      refine fz_nmu (S := [(53, 16), (53, 18), (53, 19), (53, 24), (53, 25), (53, 26), (53, 27), (66, 99999), (67, 99999), (68, 99999), (69, 99999), (70, 99999), (71, 99999), (72, 99999), (73, 99999)]) (h0 := h) (fz_Iv_up hI222 (by decide) (show (0 : Int) ≤ v288 by omega) (show (v288 : Int) ≤ 200 by omega)) (fz_fr_up hf223 rfl) (fun H291 hI292 hf293 e294 => ?_)
                      have k295 : H291 53 19 = v237 := by rw [e294]; exact (fz_up_o (by decide)).trans e238
                      have t296 : H291 53 16 = H221 53 16 := by rw [e294]; exact fz_up_o (by decide)
                      have t297 : H291 53 24 = H221 53 24 := by rw [e294]; exact fz_up_o (by decide)
                      have t298 : H291 53 26 = H221 53 26 := by rw [e294]; exact fz_up_o (by decide)
                      have t299 : H291 53 27 = H221 53 27 := by rw [e294]; exact fz_up_o (by decide)
                      have t300 : H291 53 19 = H221 53 19 := by rw [e294]; exact fz_up_o (by decide)
                      have t301 : H291 53 18 = H221 53 18 := by rw [e294]; exact fz_up_o (by decide)
                      have hLn302 : fz_Ln H291 := fz_Ln_eq (by rw [e294]; exact fz_up_ne (by decide)) (by rw [e294]; exact fz_up_ne (by decide)) (by rw [e294]; exact fz_up_ne (by decide)) (by rw [e294]; exact fz_up_ne (by decide)) (by rw [e294]; exact fz_up_o (by decide)) (by rw [e294]; exact fz_up_o (by decide)) hLn220
                      refine fz_aload_n kX11_law rfl rfl ?_
                      refine fz_getR (t := 67) kX11_law rfl rfl ?_
                      refine fz_iload_n kX11_law rfl rfl ?_
                      refine fz_aload_n kX11_law rfl rfl ?_
                      refine fz_getR (t := 71) kX11_law rfl rfl ?_
                      refine fz_iload_n kX11_law rfl rfl ?_
                      obtain ⟨v303, e304⟩ : ∃ z, H291 71 (x219.toNat) = z := ⟨_, rfl⟩
                      refine fz_ialdV (n := 61) (v := v303) kX11_law rfl rfl (by omega) (by omega) e304 ?_
                      have b305 : 0 ≤ v303 ∧ v303 ≤ 200 := by rw [← e304]; exact hI292.1 71 _
                      refine fz_iast (n := 60) kX11_law rfl rfl (by omega) (by omega) ?_
                      refine fz_nmu (S := [(53, 16), (53, 18), (53, 19), (53, 24), (53, 25), (53, 26), (53, 27), (66, 99999), (67, 99999), (68, 99999), (69, 99999), (70, 99999), (71, 99999), (72, 99999), (73, 99999)]) (h0 := h) (fz_Iv_up hI292 (by decide) (show (0 : Int) ≤ v303 by omega) (show (v303 : Int) ≤ 200 by omega)) (fz_fr_up hf293 rfl) (fun H306 hI307 hf308 e309 => ?_)
                      have k310 : H306 53 19 = v237 := by rw [e309]; exact (fz_up_o (by decide)).trans k295
                      have t311 : H306 53 16 = H291 53 16 := by rw [e309]; exact fz_up_o (by decide)
                      have t312 : H306 53 24 = H291 53 24 := by rw [e309]; exact fz_up_o (by decide)
                      have t313 : H306 53 26 = H291 53 26 := by rw [e309]; exact fz_up_o (by decide)
                      have t314 : H306 53 27 = H291 53 27 := by rw [e309]; exact fz_up_o (by decide)
                      have t315 : H306 53 19 = H291 53 19 := by rw [e309]; exact fz_up_o (by decide)
                      have t316 : H306 53 18 = H291 53 18 := by rw [e309]; exact fz_up_o (by decide)
                      have hLn317 : fz_Ln H306 := fz_Ln_eq (by rw [e309]; exact fz_up_ne (by decide)) (by rw [e309]; exact fz_up_ne (by decide)) (by rw [e309]; exact fz_up_ne (by decide)) (by rw [e309]; exact fz_up_ne (by decide)) (by rw [e309]; exact fz_up_o (by decide)) (by rw [e309]; exact fz_up_o (by decide)) hLn302
                      refine fz_aload_n kX11_law rfl rfl ?_
                      refine fz_getR (t := 68) kX11_law rfl rfl ?_
                      refine fz_iload_n kX11_law rfl rfl ?_
                      refine fz_aload_n kX11_law rfl rfl ?_
                      refine fz_getR (t := 72) kX11_law rfl rfl ?_
                      refine fz_iload_n kX11_law rfl rfl ?_
                      obtain ⟨v318, e319⟩ : ∃ z, H306 72 (x219.toNat) = z := ⟨_, rfl⟩
                      refine fz_ialdV (n := 61) (v := v318) kX11_law rfl rfl (by omega) (by omega) e319 ?_
                      have b320 : 0 ≤ v318 ∧ v318 ≤ 200 := by rw [← e319]; exact hI307.1 72 _
                      refine fz_iast (n := 60) kX11_law rfl rfl (by omega) (by omega) ?_
                      refine fz_nmu (S := [(53, 16), (53, 18), (53, 19), (53, 24), (53, 25), (53, 26), (53, 27), (66, 99999), (67, 99999), (68, 99999), (69, 99999), (70, 99999), (71, 99999), (72, 99999), (73, 99999)]) (h0 := h) (fz_Iv_up hI307 (by decide) (show (0 : Int) ≤ v318 by omega) (show (v318 : Int) ≤ 200 by omega)) (fz_fr_up hf308 rfl) (fun H321 hI322 hf323 e324 => ?_)
                      have k325 : H321 53 19 = v237 := by rw [e324]; exact (fz_up_o (by decide)).trans k310
                      have t326 : H321 53 16 = H306 53 16 := by rw [e324]; exact fz_up_o (by decide)
                      have t327 : H321 53 24 = H306 53 24 := by rw [e324]; exact fz_up_o (by decide)
                      have t328 : H321 53 26 = H306 53 26 := by rw [e324]; exact fz_up_o (by decide)
                      have t329 : H321 53 27 = H306 53 27 := by rw [e324]; exact fz_up_o (by decide)
                      have t330 : H321 53 19 = H306 53 19 := by rw [e324]; exact fz_up_o (by decide)
                      have t331 : H321 53 18 = H306 53 18 := by rw [e324]; exact fz_up_o (by decide)
                      have hLn332 : fz_Ln H321 := fz_Ln_eq (by rw [e324]; exact fz_up_ne (by decide)) (by rw [e324]; exact fz_up_ne (by decide)) (by rw [e324]; exact fz_up_ne (by decide)) (by rw [e324]; exact fz_up_ne (by decide)) (by rw [e324]; exact fz_up_o (by decide)) (by rw [e324]; exact fz_up_o (by decide)) hLn317
                      refine fz_iincN (ls' := [(3, fz_i (x219 + 1)), (2, fz_i 1), (1, fz_i x79), (0, fz_r 53)]) kX11_law rfl (by decide) rfl (by omega) rfl ?_
                      refine fz_goto (tgt := 99) kX11_law rfl (by decide) ?_
                      exact ih226 (x219 + 1) H321 hI322 hf323 hLn332 (by omega) (by omega) (by omega) (by omega) (by omega) (by omega) (by omega) (fz_C3_st hv235 (by omega) e294 e289 e309 e304 e324 e319) (⟨by rw [e324, fz_up_ne (by decide), e309, fz_up_ne (by decide), e294, fz_up_ne (by decide)]; exact hv236.1, by rw [e324, fz_up_ne (by decide), e309, fz_up_ne (by decide), e294, fz_up_ne (by decide)]; exact hv236.2.1, by rw [e324, fz_up_ne (by decide), e309, fz_up_ne (by decide), e294, fz_up_ne (by decide)]; exact hv236.2.2.1, by rw [e324, fz_up_ne (by decide), e309, fz_up_ne (by decide), e294, fz_up_ne (by decide)]; exact hv236.2.2.2⟩) (by omega)
                exact lp225 _ 0 H200 hI201 hf202 hLn216 (by omega) (by omega) (by omega) (by omega) (by omega) (by omega) (by omega) (fz_C3_0) (k217) (Nat.lt_succ_self _)
              · exfalso; omega
        · refine fz_aload_n kX11_law rfl rfl ?_
          have k337 := hLn136
          have b339 : 0 ≤ H123 53 25 ∧ H123 53 25 ≤ 6 := hI127.1 53 _
          have b340 : 0 ≤ H123 53 24 ∧ H123 53 24 ≤ 120 := hI127.1 53 _
          have b341 : 0 ≤ H123 53 16 ∧ H123 53 16 ≤ 120 := hI127.1 53 _
          have b342 : 0 ≤ H123 53 26 ∧ H123 53 26 ≤ 200 := hI127.1 53 _
          have b343 : 0 ≤ H123 53 27 ∧ H123 53 27 ≤ 61 := hI127.1 53 _
          refine fz_callV (d' := 44) (M' := mX11_isLine) (As := []) (st := []) kX11_law rfl rfl vX11_isLine rfl rfl rfl rfl (Nat.le_of_ble_eq_true rfl) (Nat.le_of_ble_eq_true rfl) (by decide) (sX11_isLine H123 hI127  (by omega) (by omega) (by omega) (by omega) k337) (fun H344 r345 q346 o347 => ?_)
          obtain ⟨hI348, hf349, y357, rfl, p358, f350, f351, f352, f353, f354, f355, f356⟩ := q346
          clear o347
          have hf359 := fz_fr_tr hf133 hf349 (show fz_su [(53, 24), (53, 25), (53, 26), (53, 27), (70, 99999), (71, 99999), (72, 99999), (73, 99999)] [(53, 16), (53, 18), (53, 19), (53, 24), (53, 25), (53, 26), (53, 27), (66, 99999), (67, 99999), (68, 99999), (69, 99999), (70, 99999), (71, 99999), (72, 99999), (73, 99999)] = true from rfl)
          have hXw360 : fz_Xw H344 := fz_Xw_eq (hf349 53 19 rfl) (funext fun s => hf349 66 s rfl) (funext fun s => hf349 67 s rfl) (funext fun s => hf349 68 s rfl) (funext fun s => hf349 69 s rfl) hXw135
          have t361 : H344 53 16 = H123 53 16 := hf349 53 16 rfl
          have t362 : H344 53 19 = H123 53 19 := hf349 53 19 rfl
          have t363 : H344 53 18 = H123 53 18 := hf349 53 18 rfl
          refine fz_istore_n (ls' := [(1, fz_i y357), (0, fz_r 53)]) kX11_law rfl (by decide) rfl ?_
          refine fz_goto (tgt := 25) kX11_law rfl (by decide) ?_
          exact ih86 y357 H344 hI348 hf359 hXw360 (by omega) (by omega) (by omega) (by omega) (by omega) (by omega) (by omega) (by omega) (f355) (fl_lwS_st hv97 (by omega) (fl_gl_lt (f := h 65) (n := h 53 16)) (by omega) (by omega) (by omega) (hf128 53 26 rfl) (hf128 53 27 rfl) (funext fun s => hf128 70 s rfl) (funext fun s => hf128 71 s rfl) (funext fun s => hf128 72 s rfl) (funext fun s => hf128 73 s rfl) (fl_gM_e (funext fun s => hf133 65 s rfl) (by omega)) f356) (⟨(funext fun s => (hf349 66 s rfl).trans (hf128 66 s rfl)).trans hv98.1, (funext fun s => (hf349 67 s rfl).trans (hf128 67 s rfl)).trans hv98.2.1, (funext fun s => (hf349 68 s rfl).trans (hf128 68 s rfl)).trans hv98.2.2.1, (funext fun s => (hf349 69 s rfl).trans (hf128 69 s rfl)).trans hv98.2.2.2⟩) (by omega)
  exact lp85 _ y72 H59 hI63 hf74 hXw75 (by omega) (by omega) (by omega) (by omega) (by omega) (by omega) (by omega) (by omega) (f70) (fl_lwS_0 f71 (fl_gM_e (funext fun s => hf40 65 s rfl) (by omega)) (fl_gl_lt (f := h 65) (n := h 53 16)) (by omega) (by omega) (by omega) (by omega)) (⟨by rw [show H59 66 = H38 66 from (funext fun s => hf64 66 s rfl), e41, fz_up_ne (by decide), e28, fz_up_ne (by decide), e15, fz_up_ne (by decide), e4, fz_up_ne (by decide)], by rw [show H59 67 = H38 67 from (funext fun s => hf64 67 s rfl), e41, fz_up_ne (by decide), e28, fz_up_ne (by decide), e15, fz_up_ne (by decide), e4, fz_up_ne (by decide)], by rw [show H59 68 = H38 68 from (funext fun s => hf64 68 s rfl), e41, fz_up_ne (by decide), e28, fz_up_ne (by decide), e15, fz_up_ne (by decide), e4, fz_up_ne (by decide)], by rw [show H59 69 = H38 69 from (funext fun s => hf64 69 s rfl), e41, fz_up_ne (by decide), e28, fz_up_ne (by decide), e15, fz_up_ne (by decide), e4, fz_up_ne (by decide)]⟩) (Nat.lt_succ_self _)
