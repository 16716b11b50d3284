/-! ===== what the methods keep ===== -/
abbrev qX10_mend (h : fz_H) (nu wh v : Int) : fz_H → Option fz_V → Prop := fun h' r0 => fz_Iv h' ∧ fz_fr [(2, 99999), (3, 99999), (4, 99999), (7, 99999), (8, 99999), (12, 99999), (13, 99999), (14, 99999), (27, 8), (27, 9), (28, 99999), (35, 4), (35, 5), (36, 99999), (37, 99999), (38, 99999), (39, 99999)] h h' ∧ fz_Xc h' ∧ fz_RE h' ∧ fz_RV h' ∧ ∃ r : Int, r0 = some (fz_i r) ∧ ((-2000000000) ≤ r ∧ r ≤ 999) ∧ (fz_mC h h' nu wh v r)
set_option maxHeartbeats 1000000 in
set_option maxRecDepth 100000 in
theorem sX10_mend (h : fz_H) (hI : fz_Iv h) (nu wh v : Int) (hX : fz_Xc h) (hRE : fz_RE h) (hRV : fz_RV h) : fz_R 4 mX10_mend 0 [(0, fz_r 0), (1, fz_i nu), (2, fz_i wh), (3, fz_i v)] [] h (qX10_mend h nu wh v) := by
  refine fz_knowl (fun hk => ?_)
  have hr_nu : -2147483648 ≤ nu ∧ nu < 2147483648 := hk _ (List.Mem.tail _ (List.Mem.head _))
  have hr_wh : -2147483648 ≤ wh ∧ wh < 2147483648 := hk _ (List.Mem.tail _ (List.Mem.tail _ (List.Mem.head _)))
  have hr_v : -2147483648 ≤ v ∧ v < 2147483648 := hk _ (List.Mem.tail _ (List.Mem.tail _ (List.Mem.tail _ (List.Mem.head _))))
  clear hk
  have hf : fz_fr [(2, 99999), (3, 99999), (4, 99999), (7, 99999), (8, 99999), (12, 99999), (13, 99999), (14, 99999), (27, 8), (27, 9), (28, 99999), (35, 4), (35, 5), (36, 99999), (37, 99999), (38, 99999), (39, 99999)] h h := fz_fr_rf
  refine fz_aload_n kX10_mend rfl rfl ?_
  refine fz_iload_n kX10_mend rfl rfl ?_
  refine fz_iload_n kX10_mend rfl rfl ?_
  have b1 : 0 ≤ h 1 7 ∧ h 1 7 ≤ 8 := hI.1 1 _
  have b2 : 0 ≤ h 1 8 ∧ h 1 8 ≤ 12 := hI.1 1 _
  have b3 : 0 ≤ h 9 5 ∧ h 9 5 ≤ 10 := hI.1 9 _
  refine fz_callV (d' := 1) (M' := mX10_isMendable) (As := [fz_i nu, fz_i wh]) (st := []) kX10_mend rfl rfl vX10_isMendable rfl rfl rfl rfl (Nat.le_of_ble_eq_true rfl) (Nat.le_of_ble_eq_true rfl) (by decide) (sX10_isMendable h hI nu wh ) (fun H4 r5 q6 o7 => ?_)
  obtain ⟨e8, y9, rfl, p10⟩ := q6
  subst H4
  clear o7
  rcases p10 with ⟨rfl, c11⟩ | ⟨rfl, c11⟩
  · refine fz_if_eq (tgt := 27) kX10_mend rfl (by decide) (fun c12 => ?_) (fun c12 => ?_)
    · exfalso; omega
    · have k13 := c11
      have k16 : 0 ≤ wh ∧ wh ≤ 8 := by omega
      refine fz_iload_n kX10_mend rfl rfl ?_
      refine fz_gets kX10_mend rfl ?_
      refine fz_iload_n kX10_mend rfl rfl ?_
      obtain ⟨z17, e18⟩ : ∃ z, h 201 (wh).toNat = z := ⟨_, rfl⟩
      refine fz_taldV (v := z17) kX10_mend rfl ⟨by decide, by decide⟩ (by omega) (by rw [show h 201 100000 = 9 by rw [hI.2.1]; rfl]; omega) e18 ?_
      refine fz_icmp_lt (tgt := 27) kX10_mend rfl (by decide) (fun c20 => ?_) (fun c20 => ?_)
      · refine fz_ldc (x := (-2000000000)) kX10_mend rfl rfl rfl ?_
        exact fz_iret kX10_mend rfl rfl (fun _ => ⟨hI, hf, hX, hRE, hRV, _, rfl, (by omega), (by first | exact Or.inr (Or.inr ⟨lost, lost, lost, _, lost, lost, lost (fz_PC_e (lost 1 7 rfl) (lost 1 8 rfl) (lost 9 5 rfl) k13)⟩) | exact Or.inr (Or.inl ⟨lost, lost, lost, rfl⟩) | exact Or.inl ⟨fun z => absurd z.1 c11, rfl, rfl⟩ | exact Or.inl ⟨fun z => (by have := z.2; omega), rfl, rfl⟩)⟩)
      · refine fz_iload_n kX10_mend rfl rfl ?_
        refine fz_gets kX10_mend rfl ?_
        refine fz_iload_n kX10_mend rfl rfl ?_
        obtain ⟨z22, e23⟩ : ∃ z, h 202 (wh).toNat = z := ⟨_, rfl⟩
        refine fz_taldV (v := z22) kX10_mend rfl ⟨by decide, by decide⟩ (by omega) (by rw [show h 202 100000 = 9 by rw [hI.2.2.1]; rfl]; omega) e23 ?_
        refine fz_icmp_le (tgt := 30) kX10_mend rfl (by decide) (fun c25 => ?_) (fun c25 => ?_)
        · have k26 : fz_okC h nu wh v := ⟨k13, by omega, by omega⟩
          refine fz_aload_n kX10_mend rfl rfl ?_
          refine fz_iload_n kX10_mend rfl rfl ?_
          refine fz_iload_n kX10_mend rfl rfl ?_
          refine fz_callV (d' := 2) (M' := mX10_numberOf) (As := [fz_i nu, fz_i wh]) (st := []) kX10_mend rfl rfl vX10_numberOf rfl rfl rfl rfl (Nat.le_of_ble_eq_true rfl) (Nat.le_of_ble_eq_true rfl) (by decide) (sX10_numberOf h hI nu wh ) (fun H28 r29 q30 o31 => ?_)
          obtain ⟨e32, y36, rfl, f33, f34, f35⟩ := q30
          subst H28
          clear o31
          have k37 : y36 = fz_gC h nu wh := fz_nC_y f35 k13
          refine fz_istore (ls' := [(4, fz_i y36), (0, fz_r 0), (1, fz_i nu), (2, fz_i wh), (3, fz_i v)]) kX10_mend rfl (by decide) rfl ?_
          refine fz_iload kX10_mend rfl rfl ?_
          refine fz_iload_n kX10_mend rfl rfl ?_
          refine fz_icmp_eq (tgt := 63) kX10_mend rfl (by decide) (fun c39 => ?_) (fun c39 => ?_)
          · refine fz_iload kX10_mend rfl rfl ?_
            exact fz_iret kX10_mend rfl rfl (fun _ => ⟨hI, hf, hX, hRE, hRV, _, rfl, (by omega), (by first | exact Or.inr (Or.inr ⟨k26, k37, c39, _, lost, lost, lost (fz_PC_e (lost 1 7 rfl) (lost 1 8 rfl) (lost 9 5 rfl) k13)⟩) | exact Or.inr (Or.inl ⟨k26, k37, c39, rfl⟩) | exact Or.inl ⟨fun z => absurd z.1 c11, rfl, rfl⟩ | exact Or.inl ⟨fun z => (by have := z.2; omega), rfl, rfl⟩)⟩)
          · have k41 := f34 c11
            have k43 := fz_ocT hI.2.1 hI.2.2.1 (show 0 ≤ wh ∧ wh ≤ 8 by omega) (show h 201 (wh).toNat ≤ v by omega) (show v ≤ h 202 (wh).toNat by omega)
            have k46 : 0 ≤ wh ∧ wh ≤ 8 := by omega
            have k47 := fz_oc_rng (by omega) k41
            have k48 := fz_oc_rng (by omega) k43
            refine fz_aload_n kX10_mend rfl rfl ?_
            refine fz_getR (t := 35) kX10_mend rfl rfl ?_
            refine fz_iload_n kX10_mend rfl rfl ?_
            refine fz_iload_n kX10_mend rfl rfl ?_
            refine fz_iload kX10_mend rfl rfl ?_
            refine fz_iload_n kX10_mend rfl rfl ?_
            refine fz_callV (d' := 2) (M' := mX0_add) (As := [fz_i nu, fz_i wh, fz_i y36, fz_i v]) (st := []) kX10_mend rfl rfl vX0_add rfl rfl rfl rfl (Nat.le_of_ble_eq_true rfl) (Nat.le_of_ble_eq_true rfl) (by decide) (sX0_add h hI nu wh y36 v (hX) (by omega) (by omega) (by omega) k41 k43) (fun H49 r50 q51 o52 => ?_)
            obtain ⟨hI53, hf54, hX55, rfl, f56⟩ := q51
            clear o52
            have hf57 := fz_fr_tr hf hf54 (show fz_su [(35, 4), (35, 5), (36, 99999), (37, 99999), (38, 99999), (39, 99999)] [(2, 99999), (3, 99999), (4, 99999), (7, 99999), (8, 99999), (12, 99999), (13, 99999), (14, 99999), (27, 8), (27, 9), (28, 99999), (35, 4), (35, 5), (36, 99999), (37, 99999), (38, 99999), (39, 99999)] = true from rfl)
            have hRE58 : fz_RE H49 := fz_RE_eq (funext fun s => hf54 5 s rfl) (funext fun s => hf54 6 s rfl) (hf54 1 8 rfl) (hf54 1 7 rfl) hRE
            have hRV59 : fz_RV H49 := fz_RV_eq (funext fun s => hf54 7 s rfl) (funext fun s => hf54 8 s rfl) (funext fun s => hf54 3 s rfl) (funext fun s => hf54 4 s rfl) (funext fun s => hf54 5 s rfl) (funext fun s => hf54 6 s rfl) (hf54 1 7 rfl) (hf54 1 8 rfl) hRV
            have k60 := k43
            refine fz_aload_n kX10_mend rfl rfl ?_
            refine fz_iload_n kX10_mend rfl rfl ?_
            refine fz_iload_n kX10_mend rfl rfl ?_
            refine fz_iload_n kX10_mend rfl rfl ?_
            refine fz_callV (d' := 3) (M' := mX10_assign) (As := [fz_i nu, fz_i wh, fz_i v]) (st := []) kX10_mend rfl rfl vX10_assign rfl rfl rfl rfl (Nat.le_of_ble_eq_true rfl) (Nat.le_of_ble_eq_true rfl) (by decide) (sX10_assign H49 hI53 nu wh v hRE58 hRV59 (by omega) k60) (fun H62 r63 q64 o65 => ?_)
            obtain ⟨hI66, hf67, hRE68, hRV69, rfl, f70⟩ := q64
            clear o65
            have hf71 := fz_fr_tr hf57 hf67 (show fz_su [(2, 99999), (3, 99999), (4, 99999), (7, 99999), (8, 99999), (12, 99999), (13, 99999), (14, 99999), (27, 8), (27, 9), (28, 99999)] [(2, 99999), (3, 99999), (4, 99999), (7, 99999), (8, 99999), (12, 99999), (13, 99999), (14, 99999), (27, 8), (27, 9), (28, 99999), (35, 4), (35, 5), (36, 99999), (37, 99999), (38, 99999), (39, 99999)] = true from rfl)
            have hX72 : fz_Xc H62 := fz_Xc_fr hf67 rfl hX55
            refine fz_iload kX10_mend rfl rfl ?_
            exact fz_iret kX10_mend rfl rfl (fun _ => ⟨hI66, hf71, hX72, hRE68, hRV69, _, rfl, (by omega), (by first | exact Or.inr (Or.inr ⟨k26, k37, c39, _, f56, hf54, f70 (fz_PC_e (hf54 1 7 rfl) (hf54 1 8 rfl) (hf54 9 5 rfl) k13)⟩) | exact Or.inr (Or.inl ⟨k26, k37, c39, rfl⟩) | exact Or.inl ⟨fun z => absurd z.1 c11, rfl, rfl⟩ | exact Or.inl ⟨fun z => (by have := z.2; omega), rfl, rfl⟩)⟩)
        · refine fz_ldc (x := (-2000000000)) kX10_mend rfl rfl rfl ?_
          exact fz_iret kX10_mend rfl rfl (fun _ => ⟨hI, hf, hX, hRE, hRV, _, rfl, (by omega), (by first | exact Or.inr (Or.inr ⟨lost, lost, lost, _, lost, lost, lost (fz_PC_e (lost 1 7 rfl) (lost 1 8 rfl) (lost 9 5 rfl) k13)⟩) | exact Or.inr (Or.inl ⟨lost, lost, lost, rfl⟩) | exact Or.inl ⟨fun z => absurd z.1 c11, rfl, rfl⟩ | exact Or.inl ⟨fun z => (by have := z.2; omega), rfl, rfl⟩)⟩)
  · refine fz_if_eq (tgt := 27) kX10_mend rfl (by decide) (fun c75 => ?_) (fun c75 => ?_)
    · refine fz_ldc (x := (-2000000000)) kX10_mend rfl rfl rfl ?_
      exact fz_iret kX10_mend rfl rfl (fun _ => ⟨hI, hf, hX, hRE, hRV, _, rfl, (by omega), (by first | exact Or.inr (Or.inr ⟨lost, lost, lost, _, lost, lost, lost (fz_PC_e (lost 1 7 rfl) (lost 1 8 rfl) (lost 9 5 rfl) lost)⟩) | exact Or.inr (Or.inl ⟨lost, lost, lost, rfl⟩) | exact Or.inl ⟨fun z => absurd z.1 c11, rfl, rfl⟩ | exact Or.inl ⟨fun z => (by have := z.2; omega), rfl, rfl⟩)⟩)
    · exfalso; omega

abbrev qX10_undo (h : fz_H) : fz_H → Option fz_V → Prop := fun h' r0 => fz_Iv h' ∧ fz_fr [(2, 99999), (3, 99999), (4, 99999), (7, 99999), (8, 99999), (12, 99999), (13, 99999), (14, 99999), (27, 8), (27, 9), (28, 99999), (35, 4)] h h' ∧ fz_Xc h' ∧ fz_RE h' ∧ fz_RV h' ∧ ∃ r : Int, r0 = some (fz_i r) ∧ ((-5) ≤ r ∧ r ≤ 40) ∧ (fz_uC h h' r)
set_option maxHeartbeats 1000000 in
set_option maxRecDepth 100000 in
theorem sX10_undo (h : fz_H) (hI : fz_Iv h) (hX : fz_Xc h) (hRE : fz_RE h) (hRV : fz_RV h) : fz_R 4 mX10_undo 0 [(0, fz_r 0)] [] h (qX10_undo h) := by
  have hf : fz_fr [(2, 99999), (3, 99999), (4, 99999), (7, 99999), (8, 99999), (12, 99999), (13, 99999), (14, 99999), (27, 8), (27, 9), (28, 99999), (35, 4)] h h := fz_fr_rf
  have k1 : 0 ≤ h 35 4 ∧ h 35 4 ≤ 40 := hI.1 35 _
  refine fz_aload_n kX10_undo rfl rfl ?_
  refine fz_getR (t := 35) kX10_undo rfl rfl ?_
  refine fz_callV (d' := 0) (M' := mX0_stepBack) (As := []) (st := []) kX10_undo rfl rfl vX0_stepBack rfl rfl rfl rfl (Nat.le_of_ble_eq_true rfl) (Nat.le_of_ble_eq_true rfl) (by decide) (sX0_stepBack h hI  ) (fun H2 r3 q4 o5 => ?_)
  obtain ⟨hI6, hf7, y10, rfl, f8, f9⟩ := q4
  clear o5
  have hf11 := fz_fr_tr hf hf7 (show fz_su [(35, 4)] [(2, 99999), (3, 99999), (4, 99999), (7, 99999), (8, 99999), (12, 99999), (13, 99999), (14, 99999), (27, 8), (27, 9), (28, 99999), (35, 4)] = true from rfl)
  have hRE12 : fz_RE H2 := fz_RE_eq (funext fun s => hf7 5 s rfl) (funext fun s => hf7 6 s rfl) (hf7 1 8 rfl) (hf7 1 7 rfl) hRE
  have hRV13 : fz_RV H2 := fz_RV_eq (funext fun s => hf7 7 s rfl) (funext fun s => hf7 8 s rfl) (funext fun s => hf7 3 s rfl) (funext fun s => hf7 4 s rfl) (funext fun s => hf7 5 s rfl) (funext fun s => hf7 6 s rfl) (hf7 1 7 rfl) (hf7 1 8 rfl) hRV
  have hX14 : fz_Xc H2 := fz_Xc_fr hf7 rfl hX
  refine fz_istore_n (ls' := [(1, fz_i y10), (0, fz_r 0)]) kX10_undo rfl (by decide) rfl ?_
  refine fz_iload_n kX10_undo rfl rfl ?_
  refine fz_if_ge (tgt := 15) kX10_undo rfl (by decide) (fun c15 => ?_) (fun c15 => ?_)
  · have k16 : 0 < h 35 4 ∧ y10 = h 35 4 - 1 ∧ H2 = fz_up h 35 4 (h 35 4 - 1) := f9.elim (fun z => absurd z.2.1 (by omega)) id
    refine fz_aload_n kX10_undo rfl rfl ?_
    refine fz_aload_n kX10_undo rfl rfl ?_
    refine fz_getR (t := 35) kX10_undo rfl rfl ?_
    refine fz_getR (t := 36) kX10_undo rfl rfl ?_
    refine fz_iload_n kX10_undo rfl rfl ?_
    refine fz_ialdV (n := 40) (v := h 36 (y10.toNat)) kX10_undo rfl rfl (by omega) (by omega) (hf11 36 _ rfl) ?_
    have b18 : (-2147483648) ≤ h 36 (y10.toNat) ∧ h 36 (y10.toNat) ≤ 2147483647 := hI.1 36 _
    refine fz_aload_n kX10_undo rfl rfl ?_
    refine fz_getR (t := 35) kX10_undo rfl rfl ?_
    refine fz_getR (t := 37) kX10_undo rfl rfl ?_
    refine fz_iload_n kX10_undo rfl rfl ?_
    refine fz_ialdV (n := 40) (v := h 37 (y10.toNat)) kX10_undo rfl rfl (by omega) (by omega) (hf11 37 _ rfl) ?_
    have b19 : 0 ≤ h 37 (y10.toNat) ∧ h 37 (y10.toNat) ≤ 8 := hI.1 37 _
    refine fz_aload_n kX10_undo rfl rfl ?_
    refine fz_getR (t := 35) kX10_undo rfl rfl ?_
    refine fz_getR (t := 38) kX10_undo rfl rfl ?_
    refine fz_iload_n kX10_undo rfl rfl ?_
    refine fz_ialdV (n := 40) (v := h 38 (y10.toNat)) kX10_undo rfl rfl (by omega) (by omega) (hf11 38 _ rfl) ?_
    have b20 : (-9) ≤ h 38 (y10.toNat) ∧ h 38 (y10.toNat) ≤ 999 := hI.1 38 _
    have k21 : fz_oc (h 37 (y10.toNat)) (h 38 (y10.toNat)) := (hX (y10).toNat (by omega)).1
    refine fz_callV (d' := 3) (M' := mX10_assign) (As := [fz_i (h 36 (y10.toNat)), fz_i (h 37 (y10.toNat)), fz_i (h 38 (y10.toNat))]) (st := []) kX10_undo rfl rfl vX10_assign rfl rfl rfl rfl (Nat.le_of_ble_eq_true rfl) (Nat.le_of_ble_eq_true rfl) (by decide) (sX10_assign H2 hI6 (h 36 (y10.toNat)) (h 37 (y10.toNat)) (h 38 (y10.toNat)) hRE12 hRV13 (by omega) k21) (fun H23 r24 q25 o26 => ?_)
    obtain ⟨hI27, hf28, hRE29, hRV30, rfl, f31⟩ := q25
    clear o26
    have hf32 := fz_fr_tr hf11 hf28 (show fz_su [(2, 99999), (3, 99999), (4, 99999), (7, 99999), (8, 99999), (12, 99999), (13, 99999), (14, 99999), (27, 8), (27, 9), (28, 99999)] [(2, 99999), (3, 99999), (4, 99999), (7, 99999), (8, 99999), (12, 99999), (13, 99999), (14, 99999), (27, 8), (27, 9), (28, 99999), (35, 4)] = true from rfl)
    have hX33 : fz_Xc H23 := fz_Xc_fr hf28 rfl hX14
    refine fz_aload_n kX10_undo rfl rfl ?_
    refine fz_getR (t := 35) kX10_undo rfl rfl ?_
    obtain ⟨v34, e35⟩ : ∃ z, H23 35 (4) = z := ⟨_, rfl⟩
    refine fz_getV (v := v34) kX10_undo rfl rfl e35 ?_
    have b36 : 0 ≤ v34 ∧ v34 ≤ 40 := by rw [← e35]; exact hI27.1 35 _
    have k37 : H23 35 4 = h 35 4 - 1 := (hf28 35 4 rfl).trans (by rw [k16.2.2]; exact fz_up_e)
    exact fz_iret kX10_undo rfl rfl (fun _ => ⟨hI27, hf32, hX33, hRE29, hRV30, _, rfl, (by omega), (by first | exact f9.elim (fun z => Or.inl ⟨by omega, by omega, z.2.2⟩) (fun z => absurd z.2.1 (by omega)) | exact fz_uC_in k16.2.2 rfl k16.1 (by omega) f31 (by rw [k16.2.1]) (by rw [k16.2.1]) (by rw [k16.2.1]))⟩)
  · refine fz_bipush ⟨by decide, by decide⟩ kX10_undo rfl ?_
    exact fz_iret kX10_undo rfl rfl (fun _ => ⟨hI6, hf11, hX14, hRE12, hRV13, _, rfl, (by omega), (by first | exact f9.elim (fun z => Or.inl ⟨by omega, by omega, z.2.2⟩) (fun z => absurd z.2.1 (by omega)) | exact fz_uC_in lost.2.2 rfl lost.1 (by omega) lost (by rw [lost.2.1]) (by rw [lost.2.1]) (by rw [lost.2.1]))⟩)

abbrev qX10_redo (h : fz_H) : fz_H → Option fz_V → Prop := fun h' r0 => fz_Iv h' ∧ fz_fr [(2, 99999), (3, 99999), (4, 99999), (7, 99999), (8, 99999), (12, 99999), (13, 99999), (14, 99999), (27, 8), (27, 9), (28, 99999), (35, 4)] h h' ∧ fz_Xc h' ∧ fz_RE h' ∧ fz_RV h' ∧ ∃ r : Int, r0 = some (fz_i r) ∧ ((-40) ≤ r ∧ r ≤ 40) ∧ (fz_vC h h' r)
set_option maxHeartbeats 1000000 in
set_option maxRecDepth 100000 in
theorem sX10_redo (h : fz_H) (hI : fz_Iv h) (hX : fz_Xc h) (hRE : fz_RE h) (hRV : fz_RV h) : fz_R 4 mX10_redo 0 [(0, fz_r 0)] [] h (qX10_redo h) := by
  have hf : fz_fr [(2, 99999), (3, 99999), (4, 99999), (7, 99999), (8, 99999), (12, 99999), (13, 99999), (14, 99999), (27, 8), (27, 9), (28, 99999), (35, 4)] h h := fz_fr_rf
  have k1 : 0 ≤ h 35 4 ∧ h 35 4 ≤ 40 := hI.1 35 _
  refine fz_aload_n kX10_redo rfl rfl ?_
  refine fz_getR (t := 35) kX10_redo rfl rfl ?_
  refine fz_callV (d' := 0) (M' := mX0_stepAhead) (As := []) (st := []) kX10_redo rfl rfl vX0_stepAhead rfl rfl rfl rfl (Nat.le_of_ble_eq_true rfl) (Nat.le_of_ble_eq_true rfl) (by decide) (sX0_stepAhead h hI  ) (fun H2 r3 q4 o5 => ?_)
  obtain ⟨hI6, hf7, y10, rfl, f8, f9⟩ := q4
  clear o5
  have hf11 := fz_fr_tr hf hf7 (show fz_su [(35, 4)] [(2, 99999), (3, 99999), (4, 99999), (7, 99999), (8, 99999), (12, 99999), (13, 99999), (14, 99999), (27, 8), (27, 9), (28, 99999), (35, 4)] = true from rfl)
  have hRE12 : fz_RE H2 := fz_RE_eq (funext fun s => hf7 5 s rfl) (funext fun s => hf7 6 s rfl) (hf7 1 8 rfl) (hf7 1 7 rfl) hRE
  have hRV13 : fz_RV H2 := fz_RV_eq (funext fun s => hf7 7 s rfl) (funext fun s => hf7 8 s rfl) (funext fun s => hf7 3 s rfl) (funext fun s => hf7 4 s rfl) (funext fun s => hf7 5 s rfl) (funext fun s => hf7 6 s rfl) (hf7 1 7 rfl) (hf7 1 8 rfl) hRV
  have hX14 : fz_Xc H2 := fz_Xc_fr hf7 rfl hX
  refine fz_istore_n (ls' := [(1, fz_i y10), (0, fz_r 0)]) kX10_redo rfl (by decide) rfl ?_
  refine fz_iload_n kX10_redo rfl rfl ?_
  refine fz_if_ge (tgt := 15) kX10_redo rfl (by decide) (fun c15 => ?_) (fun c15 => ?_)
  · have k16 : h 35 4 < h 35 5 ∧ y10 = h 35 4 ∧ H2 = fz_up h 35 4 (h 35 4 + 1) := f9.elim (fun z => absurd z.2.1 (by omega)) id
    refine fz_aload_n kX10_redo rfl rfl ?_
    refine fz_aload_n kX10_redo rfl rfl ?_
    refine fz_getR (t := 35) kX10_redo rfl rfl ?_
    refine fz_getR (t := 36) kX10_redo rfl rfl ?_
    refine fz_iload_n kX10_redo rfl rfl ?_
    refine fz_ialdV (n := 40) (v := h 36 (y10.toNat)) kX10_redo rfl rfl (by omega) (by omega) (hf11 36 _ rfl) ?_
    have b18 : (-2147483648) ≤ h 36 (y10.toNat) ∧ h 36 (y10.toNat) ≤ 2147483647 := hI.1 36 _
    refine fz_aload_n kX10_redo rfl rfl ?_
    refine fz_getR (t := 35) kX10_redo rfl rfl ?_
    refine fz_getR (t := 37) kX10_redo rfl rfl ?_
    refine fz_iload_n kX10_redo rfl rfl ?_
    refine fz_ialdV (n := 40) (v := h 37 (y10.toNat)) kX10_redo rfl rfl (by omega) (by omega) (hf11 37 _ rfl) ?_
    have b19 : 0 ≤ h 37 (y10.toNat) ∧ h 37 (y10.toNat) ≤ 8 := hI.1 37 _
    refine fz_aload_n kX10_redo rfl rfl ?_
    refine fz_getR (t := 35) kX10_redo rfl rfl ?_
    refine fz_getR (t := 39) kX10_redo rfl rfl ?_
    refine fz_iload_n kX10_redo rfl rfl ?_
    refine fz_ialdV (n := 40) (v := h 39 (y10.toNat)) kX10_redo rfl rfl (by omega) (by omega) (hf11 39 _ rfl) ?_
    have b20 : (-9) ≤ h 39 (y10.toNat) ∧ h 39 (y10.toNat) ≤ 999 := hI.1 39 _
    have k21 : fz_oc (h 37 (y10.toNat)) (h 39 (y10.toNat)) := (hX (y10).toNat (by omega)).2
    refine fz_callV (d' := 3) (M' := mX10_assign) (As := [fz_i (h 36 (y10.toNat)), fz_i (h 37 (y10.toNat)), fz_i (h 39 (y10.toNat))]) (st := []) kX10_redo rfl rfl vX10_assign rfl rfl rfl rfl (Nat.le_of_ble_eq_true rfl) (Nat.le_of_ble_eq_true rfl) (by decide) (sX10_assign H2 hI6 (h 36 (y10.toNat)) (h 37 (y10.toNat)) (h 39 (y10.toNat)) hRE12 hRV13 (by omega) k21) (fun H23 r24 q25 o26 => ?_)
    obtain ⟨hI27, hf28, hRE29, hRV30, rfl, f31⟩ := q25
    clear o26
    have hf32 := fz_fr_tr hf11 hf28 (show fz_su [(2, 99999), (3, 99999), (4, 99999), (7, 99999), (8, 99999), (12, 99999), (13, 99999), (14, 99999), (27, 8), (27, 9), (28, 99999)] [(2, 99999), (3, 99999), (4, 99999), (7, 99999), (8, 99999), (12, 99999), (13, 99999), (14, 99999), (27, 8), (27, 9), (28, 99999), (35, 4)] = true from rfl)
    have hX33 : fz_Xc H23 := fz_Xc_fr hf28 rfl hX14
    refine fz_aload_n kX10_redo rfl rfl ?_
    refine fz_getR (t := 35) kX10_redo rfl rfl ?_
    refine fz_getV (v := h 35 5) kX10_redo rfl rfl (hf32 35 5 rfl) ?_
    have b34 : 0 ≤ h 35 5 ∧ h 35 5 ≤ 40 := hI.1 35 _
    refine fz_aload_n kX10_redo rfl rfl ?_
    refine fz_getR (t := 35) kX10_redo rfl rfl ?_
    obtain ⟨v35, e36⟩ : ∃ z, H23 35 (4) = z := ⟨_, rfl⟩
    refine fz_getV (v := v35) kX10_redo rfl rfl e36 ?_
    have b37 : 0 ≤ v35 ∧ v35 ≤ 40 := by rw [← e36]; exact hI27.1 35 _
    have k38 : H23 35 4 = h 35 4 + 1 := (hf28 35 4 rfl).trans (by rw [k16.2.2]; exact fz_up_e)
    refine fz_isubN kX10_redo rfl (by omega) ?_
    exact fz_iret kX10_redo rfl rfl (fun _ => ⟨hI27, hf32, hX33, hRE29, hRV30, _, rfl, (by omega), (by first | exact f9.elim (fun z => Or.inl ⟨by omega, by omega, z.2.2⟩) (fun z => absurd z.2.1 (by omega)) | exact fz_vC_in k16.2.2 rfl k16.2.1 k16.1 (by omega) f31 rfl rfl rfl)⟩)
  · refine fz_bipush ⟨by decide, by decide⟩ kX10_redo rfl ?_
    exact fz_iret kX10_redo rfl rfl (fun _ => ⟨hI6, hf11, hX14, hRE12, hRV13, _, rfl, (by omega), (by first | exact f9.elim (fun z => Or.inl ⟨by omega, by omega, z.2.2⟩) (fun z => absurd z.2.1 (by omega)) | exact fz_vC_in lost.2.2 rfl lost.2.1 lost.1 (by omega) lost rfl rfl rfl)⟩)

abbrev qX10_feed (h : fz_H) (c : Int) : fz_H → Option fz_V → Prop := fun h' r0 => fz_Iv h' ∧ fz_fr [(20, 2), (26, 99999)] h h' ∧ ∃ r : Int, r0 = some (fz_i r) ∧ ((-3) ≤ r ∧ r ≤ 120) ∧ ((0 ≤ c ∧ c ≤ 255 ∧ h 20 2 < 120 ∧ r = h 20 2 + 1 ∧ h' 20 2 = h 20 2 + 1) ∨ (0 ≤ c ∧ c ≤ 255 ∧ 120 ≤ h 20 2 ∧ r = -3 ∧ h' 20 2 = h 20 2) ∨ (¬ (0 ≤ c ∧ c ≤ 255) ∧ r = -1 ∧ h' 20 2 = h 20 2)) ∧ (fl_fdC h h' c)
set_option maxHeartbeats 1000000 in
set_option maxRecDepth 100000 in
theorem sX10_feed (h : fz_H) (hI : fz_Iv h) (c : Int) : fz_R 1 mX10_feed 0 [(0, fz_r 0), (1, fz_i c)] [] h (qX10_feed h c) := by
  refine fz_knowl (fun hk => ?_)
  have hr_c : -2147483648 ≤ c ∧ c < 2147483648 := hk _ (List.Mem.tail _ (List.Mem.head _))
  clear hk
  have hf : fz_fr [(20, 2), (26, 99999)] h h := fz_fr_rf
  have b1 : 0 ≤ h 20 2 ∧ h 20 2 ≤ 120 := hI.1 20 _
  refine fz_iload_n kX10_feed rfl rfl ?_
  refine fz_if_lt (tgt := 11) kX10_feed rfl (by decide) (fun c2 => ?_) (fun c2 => ?_)
  · refine fz_iconst ⟨by decide, by decide⟩ kX10_feed rfl ?_
    exact fz_iret kX10_feed rfl rfl (fun _ => ⟨hI, hf, _, rfl, (by omega), (by omega), (by first | exact lost | exact Or.inr ⟨rfl, rfl⟩)⟩)
  · refine fz_iload_n kX10_feed rfl rfl ?_
    refine fz_sipush ⟨by decide, by decide⟩ kX10_feed rfl ?_
    refine fz_icmp_le (tgt := 13) kX10_feed rfl (by decide) (fun c4 => ?_) (fun c4 => ?_)
    · refine fz_aload_n kX10_feed rfl rfl ?_
      refine fz_getR (t := 20) kX10_feed rfl rfl ?_
      refine fz_iload_n kX10_feed rfl rfl ?_
      refine fz_callV (d' := 0) (M' := mX5_take) (As := [fz_i c]) (st := []) kX10_feed rfl rfl vX5_take rfl rfl rfl rfl (Nat.le_of_ble_eq_true rfl) (Nat.le_of_ble_eq_true rfl) (by decide) (sX5_take h hI c (by omega)) (fun H5 r6 q7 o8 => ?_)
      obtain ⟨hI9, hf10, y14, rfl, f11, f12, f13⟩ := q7
      clear o8
      have hf15 := fz_fr_tr hf hf10 (show fz_su [(20, 2), (26, 99999)] [(20, 2), (26, 99999)] = true from rfl)
      exact fz_iret kX10_feed rfl rfl (fun _ => ⟨hI9, hf15, _, rfl, (by omega), (by omega), (by first | exact f13 | exact Or.inr ⟨rfl, rfl⟩)⟩)
    · refine fz_iconst ⟨by decide, by decide⟩ kX10_feed rfl ?_
      exact fz_iret kX10_feed rfl rfl (fun _ => ⟨hI, hf, _, rfl, (by omega), (by omega), (by first | exact lost | exact Or.inr ⟨rfl, rfl⟩)⟩)

abbrev qX10_law (h : fz_H) : fz_H → Option fz_V → Prop := fun h' r0 => fz_Iv h' ∧ fz_fr [(15, 4), (16, 99999), (17, 99999), (20, 2), (20, 3), (20, 4), (21, 4), (22, 99999), (23, 99999)] h h' ∧ ∃ r : Int, r0 = some (fz_i r) ∧ ((-220) ≤ r ∧ r ≤ 1) ∧ (h' 20 2 = 0) ∧ (fl_laC h h' r)
set_option maxHeartbeats 1000000 in
set_option maxRecDepth 100000 in
theorem sX10_law (h : fz_H) (hI : fz_Iv h) : fz_R 46 mX10_law 0 [(0, fz_r 0)] [] h (qX10_law h) := by
  have hf : fz_fr [(15, 4), (16, 99999), (17, 99999), (20, 2), (20, 3), (20, 4), (21, 4), (22, 99999), (23, 99999)] h h := fz_fr_rf
  refine fz_aload_n kX10_law rfl rfl ?_
  refine fz_getR (t := 20) kX10_law rfl rfl ?_
  refine fz_callV (d' := 45) (M' := mX5_readText) (As := []) (st := []) kX10_law rfl rfl vX5_readText rfl rfl rfl rfl (Nat.le_of_ble_eq_true rfl) (Nat.le_of_ble_eq_true rfl) (by decide) (sX5_readText h hI  ) (fun H1 r2 q3 o4 => ?_)
  obtain ⟨hI5, hf6, y9, rfl, f7, f8⟩ := q3
  clear o4
  have hf10 := fz_fr_tr hf hf6 (show fz_su [(20, 3), (20, 4), (21, 4), (22, 99999), (23, 99999)] [(15, 4), (16, 99999), (17, 99999), (20, 2), (20, 3), (20, 4), (21, 4), (22, 99999), (23, 99999)] = true from rfl)
  have t11 : H1 20 2 = h 20 2 := hf6 20 2 rfl
  have k12 : 0 ≤ H1 21 4 ∧ H1 21 4 ≤ 128 := hI5.1 21 _
  refine fz_istore_n (ls' := [(1, fz_i y9), (0, fz_r 0)]) kX10_law rfl (by decide) rfl ?_
  refine fz_aload_n kX10_law rfl rfl ?_
  refine fz_getR (t := 20) kX10_law rfl rfl ?_
  refine fz_callV (d' := 0) (M' := mX5_clear) (As := []) (st := []) kX10_law rfl rfl vX5_clear rfl rfl rfl rfl (Nat.le_of_ble_eq_true rfl) (Nat.le_of_ble_eq_true rfl) (by decide) (sX5_clear H1 hI5  ) (fun H13 r14 q15 o16 => ?_)
  obtain ⟨hI17, hf18, rfl, f19⟩ := q15
  clear o16
  have hf20 := fz_fr_tr hf10 hf18 (show fz_su [(20, 2)] [(15, 4), (16, 99999), (17, 99999), (20, 2), (20, 3), (20, 4), (21, 4), (22, 99999), (23, 99999)] = true from rfl)
  refine fz_iload_n kX10_law rfl rfl ?_
  refine fz_if_lt (tgt := 24) kX10_law rfl (by decide) (fun c21 => ?_) (fun c21 => ?_)
  · refine fz_aload_n kX10_law rfl rfl ?_
    refine fz_getR (t := 15) kX10_law rfl rfl ?_
    refine fz_aload_n kX10_law rfl rfl ?_
    refine fz_getR (t := 20) kX10_law rfl rfl ?_
    refine fz_getR (t := 21) kX10_law rfl rfl ?_
    refine fz_callV (d' := 1) (M' := mX3_become) (As := [fz_r 21]) (st := []) kX10_law rfl rfl vX3_become rfl rfl rfl rfl (Nat.le_of_ble_eq_true rfl) (Nat.le_of_ble_eq_true rfl) (by decide) (sX3_become H13 hI17  ) (fun H22 r23 q24 o25 => ?_)
    obtain ⟨hI26, hf27, rfl, f28⟩ := q24
    clear o25
    have hf29 := fz_fr_tr hf20 hf27 (show fz_su [(15, 4), (16, 99999), (17, 99999)] [(15, 4), (16, 99999), (17, 99999), (20, 2), (20, 3), (20, 4), (21, 4), (22, 99999), (23, 99999)] = true from rfl)
    have k30 : H22 20 2 = 0 := (hf27 20 2 rfl).trans f19
    have t31 : H22 20 2 = H13 20 2 := hf27 20 2 rfl
    refine fz_iconst ⟨by decide, by decide⟩ kX10_law rfl ?_
    exact fz_iret kX10_law rfl rfl (fun _ => ⟨hI26, hf29, _, rfl, (by omega), (by omega), (by first | exact fl_laC_1 f8 (by omega) (hf18 21 4 rfl) (funext fun s => hf18 22 s rfl) (funext fun s => hf18 23 s rfl) f28 (by omega) | exact fl_laC_0 f8 (by omega) (by omega) ((hf18 15 4 rfl).trans (hf6 15 4 rfl)) (funext fun s => (hf18 16 s rfl).trans (hf6 16 s rfl)) (funext fun s => (hf18 17 s rfl).trans (hf6 17 s rfl)))⟩)
  · refine fz_bipush ⟨by decide, by decide⟩ kX10_law rfl ?_
    refine fz_iload_n kX10_law rfl rfl ?_
    refine fz_isubN kX10_law rfl (by omega) ?_
    exact fz_iret kX10_law rfl rfl (fun _ => ⟨hI17, hf20, _, rfl, (by omega), (by omega), (by first | exact fl_laC_1 f8 (by omega) (hf18 21 4 rfl) (funext fun s => hf18 22 s rfl) (funext fun s => hf18 23 s rfl) lost (by omega) | exact fl_laC_0 f8 (by omega) (by omega) ((hf18 15 4 rfl).trans (hf6 15 4 rfl)) (funext fun s => (hf18 16 s rfl).trans (hf6 16 s rfl)) (funext fun s => (hf18 17 s rfl).trans (hf6 17 s rfl)))⟩)

abbrev qX10_way (h : fz_H) (ab wh : Int) : fz_H → Option fz_V → Prop := fun h' r0 => h' = h ∧ ∃ r : Int, r0 = some (fz_i r) ∧ ((-2) ≤ r ∧ r ≤ 9999) ∧ (fz_wyC h ab wh r)
set_option maxHeartbeats 1000000 in
set_option maxRecDepth 100000 in
theorem sX10_way (h : fz_H) (hI : fz_Iv h) (ab wh : Int) : fz_R 2 mX10_way 0 [(0, fz_r 0), (1, fz_i ab), (2, fz_i wh)] [] h (qX10_way h ab wh) := by
  refine fz_knowl (fun hk => ?_)
  have hr_ab : -2147483648 ≤ ab ∧ ab < 2147483648 := hk _ (List.Mem.tail _ (List.Mem.head _))
  have hr_wh : -2147483648 ≤ wh ∧ wh < 2147483648 := hk _ (List.Mem.tail _ (List.Mem.tail _ (List.Mem.head _)))
  clear hk
  refine fz_aload_n kX10_way rfl rfl ?_
  refine fz_iload_n kX10_way rfl rfl ?_
  have b1 : 0 ≤ h 1 7 ∧ h 1 7 ≤ 8 := hI.1 1 _
  refine fz_callV (d' := 1) (M' := mX10_arePair) (As := [fz_i ab]) (st := []) kX10_way rfl rfl vX10_arePair rfl rfl rfl rfl (Nat.le_of_ble_eq_true rfl) (Nat.le_of_ble_eq_true rfl) (by decide) (sX10_arePair h hI ab ) (fun H2 r3 q4 o5 => ?_)
  obtain ⟨e6, y7, rfl, p8⟩ := q4
  subst H2
  clear o5
  rcases p8 with ⟨rfl, c9⟩ | ⟨rfl, c9⟩
  · refine fz_if_eq (tgt := 17) kX10_way rfl (by decide) (fun c10 => ?_) (fun c10 => ?_)
    · exfalso; omega
    · refine fz_iload_n kX10_way rfl rfl ?_
      refine fz_if_lt (tgt := 17) kX10_way rfl (by decide) (fun c11 => ?_) (fun c11 => ?_)
      · refine fz_iconst ⟨by decide, by decide⟩ kX10_way rfl ?_
        exact fz_iret kX10_way rfl rfl (fun _ => ⟨rfl, _, rfl, (by omega), (by first | exact Or.inr (Or.inl ⟨(by unfold fz_wyO; omega), by omega, lost⟩) | exact Or.inr (Or.inr ⟨(by unfold fz_wyO; omega), by omega, lost⟩) | exact Or.inl ⟨(by unfold fz_wyO; omega), rfl⟩)⟩)
      · refine fz_iload_n kX10_way rfl rfl ?_
        refine fz_iconst ⟨by decide, by decide⟩ kX10_way rfl ?_
        refine fz_icmp_le (tgt := 19) kX10_way rfl (by decide) (fun c13 => ?_) (fun c13 => ?_)
        · refine fz_iload_n kX10_way rfl rfl ?_
          refine fz_if_ne (tgt := 41) kX10_way rfl (by decide) (fun c14 => ?_) (fun c14 => ?_)
          · refine fz_aload_n kX10_way rfl rfl ?_
            refine fz_getR (t := 1) kX10_way rfl rfl ?_
            refine fz_iload_n kX10_way rfl rfl ?_
            refine fz_bipush ⟨by decide, by decide⟩ kX10_way rfl ?_
            refine fz_idivN kX10_way rfl (by omega) (by omega) (by omega) ?_
            refine fz_iload_n kX10_way rfl rfl ?_
            refine fz_bipush ⟨by decide, by decide⟩ kX10_way rfl ?_
            refine fz_iremN kX10_way rfl (by omega) (by omega) (by omega) ?_
            refine fz_callV (d' := 0) (M' := mX2_hoursByCarters) (As := [fz_i (ab / 10), fz_i (ab % 10)]) (st := []) kX10_way rfl rfl vX2_hoursByCarters rfl rfl rfl rfl (Nat.le_of_ble_eq_true rfl) (Nat.le_of_ble_eq_true rfl) (by decide) (sX2_hoursByCarters h hI (ab / 10) (ab % 10) (by omega) (by omega)) (fun H15 r16 q17 o18 => ?_)
            obtain ⟨e19, y22, rfl, f20, f21⟩ := q17
            subst H15
            clear o18
            exact fz_iret kX10_way rfl rfl (fun _ => ⟨rfl, _, rfl, (by omega), (by first | exact Or.inr (Or.inl ⟨(by unfold fz_wyO; omega), by omega, lost⟩) | exact Or.inr (Or.inr ⟨(by unfold fz_wyO; omega), by omega, f21⟩) | exact Or.inl ⟨(by unfold fz_wyO; omega), rfl⟩)⟩)
          · refine fz_aload_n kX10_way rfl rfl ?_
            refine fz_getR (t := 1) kX10_way rfl rfl ?_
            refine fz_iload_n kX10_way rfl rfl ?_
            refine fz_bipush ⟨by decide, by decide⟩ kX10_way rfl ?_
            refine fz_idivN kX10_way rfl (by omega) (by omega) (by omega) ?_
            refine fz_iload_n kX10_way rfl rfl ?_
            refine fz_bipush ⟨by decide, by decide⟩ kX10_way rfl ?_
            refine fz_iremN kX10_way rfl (by omega) (by omega) (by omega) ?_
            refine fz_callV (d' := 0) (M' := mX2_hoursByFeet) (As := [fz_i (ab / 10), fz_i (ab % 10)]) (st := []) kX10_way rfl rfl vX2_hoursByFeet rfl rfl rfl rfl (Nat.le_of_ble_eq_true rfl) (Nat.le_of_ble_eq_true rfl) (by decide) (sX2_hoursByFeet h hI (ab / 10) (ab % 10) (by omega) (by omega)) (fun H24 r25 q26 o27 => ?_)
            obtain ⟨e28, y31, rfl, f29, f30⟩ := q26
            subst H24
            clear o27
            refine fz_goto (tgt := 56) kX10_way rfl (by decide) ?_
            exact fz_iret kX10_way rfl rfl (fun _ => ⟨rfl, _, rfl, (by omega), (by first | exact Or.inr (Or.inl ⟨(by unfold fz_wyO; omega), by omega, f30⟩) | exact Or.inr (Or.inr ⟨(by unfold fz_wyO; omega), by omega, lost⟩) | exact Or.inl ⟨(by unfold fz_wyO; omega), rfl⟩)⟩)
        · refine fz_iconst ⟨by decide, by decide⟩ kX10_way rfl ?_
          exact fz_iret kX10_way rfl rfl (fun _ => ⟨rfl, _, rfl, (by omega), (by first | exact Or.inr (Or.inl ⟨(by unfold fz_wyO; omega), by omega, lost⟩) | exact Or.inr (Or.inr ⟨(by unfold fz_wyO; omega), by omega, lost⟩) | exact Or.inl ⟨(by unfold fz_wyO; omega), rfl⟩)⟩)
  · refine fz_if_eq (tgt := 17) kX10_way rfl (by decide) (fun c34 => ?_) (fun c34 => ?_)
    · refine fz_iconst ⟨by decide, by decide⟩ kX10_way rfl ?_
      exact fz_iret kX10_way rfl rfl (fun _ => ⟨rfl, _, rfl, (by omega), (by first | exact Or.inr (Or.inl ⟨(by unfold fz_wyO; omega), by omega, lost⟩) | exact Or.inr (Or.inr ⟨(by unfold fz_wyO; omega), by omega, lost⟩) | exact Or.inl ⟨(by unfold fz_wyO; omega), rfl⟩)⟩)
    · exfalso; omega

abbrev qX10_heard (h : fz_H) (d t : Int) : fz_H → Option fz_V → Prop := fun h' r0 => h' = h ∧ ∃ r : Int, r0 = some (fz_i r) ∧ ((-2) ≤ r ∧ r ≤ 11007) ∧ (((0 ≤ d ∧ d < h 9 5 ∧ 0 ≤ t ∧ t < h 1 7) ∧ r = fz_haC h d t) ∨ (¬ (0 ≤ d ∧ d < h 9 5 ∧ 0 ≤ t ∧ t < h 1 7) ∧ r = -1))
set_option maxHeartbeats 1000000 in
set_option maxRecDepth 100000 in
theorem sX10_heard (h : fz_H) (hI : fz_Iv h) (d t : Int) : fz_R 2 mX10_heard 0 [(0, fz_r 0), (1, fz_i d), (2, fz_i t)] [] h (qX10_heard h d t) := by
  refine fz_knowl (fun hk => ?_)
  have hr_d : -2147483648 ≤ d ∧ d < 2147483648 := hk _ (List.Mem.tail _ (List.Mem.head _))
  have hr_t : -2147483648 ≤ t ∧ t < 2147483648 := hk _ (List.Mem.tail _ (List.Mem.tail _ (List.Mem.head _)))
  clear hk
  have b1 : 0 ≤ h 9 5 ∧ h 9 5 ≤ 10 := hI.1 9 _
  have b2 : 0 ≤ h 1 7 ∧ h 1 7 ≤ 8 := hI.1 1 _
  refine fz_aload_n kX10_heard rfl rfl ?_
  refine fz_getR (t := 9) kX10_heard rfl rfl ?_
  refine fz_iload_n kX10_heard rfl rfl ?_
  refine fz_callV (d' := 0) (M' := mX4_isDeed) (As := [fz_i d]) (st := []) kX10_heard rfl rfl vX4_isDeed rfl rfl rfl rfl (Nat.le_of_ble_eq_true rfl) (Nat.le_of_ble_eq_true rfl) (by decide) (sX4_isDeed h hI d ) (fun H3 r4 q5 o6 => ?_)
  obtain ⟨e7, y8, rfl, p9⟩ := q5
  subst H3
  clear o6
  rcases p9 with ⟨rfl, c10⟩ | ⟨rfl, c10⟩
  · refine fz_if_eq (tgt := 22) kX10_heard rfl (by decide) (fun c11 => ?_) (fun c11 => ?_)
    · exfalso; omega
    · refine fz_aload_n kX10_heard rfl rfl ?_
      refine fz_getR (t := 1) kX10_heard rfl rfl ?_
      refine fz_iload_n kX10_heard rfl rfl ?_
      refine fz_callV (d' := 0) (M' := mX2_isTown) (As := [fz_i t]) (st := []) kX10_heard rfl rfl vX2_isTown rfl rfl rfl rfl (Nat.le_of_ble_eq_true rfl) (Nat.le_of_ble_eq_true rfl) (by decide) (sX2_isTown h hI t ) (fun H12 r13 q14 o15 => ?_)
      obtain ⟨e16, y17, rfl, p18⟩ := q14
      subst H12
      clear o15
      rcases p18 with ⟨rfl, c19⟩ | ⟨rfl, c19⟩
      · refine fz_if_ne (tgt := 24) kX10_heard rfl (by decide) (fun c20 => ?_) (fun c20 => ?_)
        · refine fz_aload_n kX10_heard rfl rfl ?_
          refine fz_getR (t := 27) kX10_heard rfl rfl ?_
          refine fz_iload_n kX10_heard rfl rfl ?_
          refine fz_iload_n kX10_heard rfl rfl ?_
          refine fz_callV (d' := 1) (M' := mX8_hourHeard) (As := [fz_i d, fz_i t]) (st := []) kX10_heard rfl rfl vX8_hourHeard rfl rfl rfl rfl (Nat.le_of_ble_eq_true rfl) (Nat.le_of_ble_eq_true rfl) (by decide) (sX8_hourHeard h hI d t (by omega) (by omega)) (fun H21 r22 q23 o24 => ?_)
          obtain ⟨e25, y28, rfl, f26, f27⟩ := q23
          subst H21
          clear o24
          exact fz_iret kX10_heard rfl rfl (fun _ => ⟨rfl, _, rfl, (by omega), (by first | exact Or.inl ⟨by omega, f27⟩ | exact Or.inr ⟨by omega, rfl⟩)⟩)
        · exfalso; omega
      · refine fz_if_ne (tgt := 24) kX10_heard rfl (by decide) (fun c30 => ?_) (fun c30 => ?_)
        · exfalso; omega
        · refine fz_iconst ⟨by decide, by decide⟩ kX10_heard rfl ?_
          exact fz_iret kX10_heard rfl rfl (fun _ => ⟨rfl, _, rfl, (by omega), (by first | exact Or.inl ⟨by omega, lost⟩ | exact Or.inr ⟨by omega, rfl⟩)⟩)
  · refine fz_if_eq (tgt := 22) kX10_heard rfl (by decide) (fun c32 => ?_) (fun c32 => ?_)
    · refine fz_iconst ⟨by decide, by decide⟩ kX10_heard rfl ?_
      exact fz_iret kX10_heard rfl rfl (fun _ => ⟨rfl, _, rfl, (by omega), (by first | exact Or.inl ⟨by omega, lost⟩ | exact Or.inr ⟨by omega, rfl⟩)⟩)
    · exfalso; omega

abbrev qX10_loud (h : fz_H) (d th : Int) : fz_H → Option fz_V → Prop := fun h' r0 => fz_Iv h' ∧ fz_fr [(18, 99999), (19, 99999)] h h' ∧ ∃ r : Int, r0 = some (fz_i r) ∧ ((-1) ≤ r ∧ r ≤ 99) ∧ (fl_loC h d th r)
set_option maxHeartbeats 1000000 in
set_option maxRecDepth 100000 in
theorem sX10_loud (h : fz_H) (hI : fz_Iv h) (d th : Int) : fz_R 4 mX10_loud 0 [(0, fz_r 0), (1, fz_i d), (2, fz_i th)] [] h (qX10_loud h d th) := by
  refine fz_knowl (fun hk => ?_)
  have hr_d : -2147483648 ≤ d ∧ d < 2147483648 := hk _ (List.Mem.tail _ (List.Mem.head _))
  have hr_th : -2147483648 ≤ th ∧ th < 2147483648 := hk _ (List.Mem.tail _ (List.Mem.tail _ (List.Mem.head _)))
  clear hk
  have hf : fz_fr [(18, 99999), (19, 99999)] h h := fz_fr_rf
  refine fz_aload_n kX10_loud rfl rfl ?_
  refine fz_getR (t := 9) kX10_loud rfl rfl ?_
  refine fz_iload_n kX10_loud rfl rfl ?_
  have b1 : 0 ≤ h 9 5 ∧ h 9 5 ≤ 10 := hI.1 9 _
  refine fz_callV (d' := 0) (M' := mX4_isDeed) (As := [fz_i d]) (st := []) kX10_loud rfl rfl vX4_isDeed rfl rfl rfl rfl (Nat.le_of_ble_eq_true rfl) (Nat.le_of_ble_eq_true rfl) (by decide) (sX4_isDeed h hI d ) (fun H2 r3 q4 o5 => ?_)
  obtain ⟨e6, y7, rfl, p8⟩ := q4
  subst H2
  clear o5
  rcases p8 with ⟨rfl, c9⟩ | ⟨rfl, c9⟩
  · refine fz_if_eq (tgt := 19) kX10_loud rfl (by decide) (fun c10 => ?_) (fun c10 => ?_)
    · exfalso; omega
    · refine fz_aload_n kX10_loud rfl rfl ?_
      refine fz_iload_n kX10_loud rfl rfl ?_
      have b11 : 0 ≤ h 1 7 ∧ h 1 7 ≤ 8 := hI.1 1 _
      refine fz_callV (d' := 1) (M' := mX10_isTownAndHour) (As := [fz_i th]) (st := []) kX10_loud rfl rfl vX10_isTownAndHour rfl rfl rfl rfl (Nat.le_of_ble_eq_true rfl) (Nat.le_of_ble_eq_true rfl) (by decide) (sX10_isTownAndHour h hI th ) (fun H12 r13 q14 o15 => ?_)
      obtain ⟨e16, y17, rfl, p18⟩ := q14
      subst H12
      clear o15
      rcases p18 with ⟨rfl, c19⟩ | ⟨rfl, c19⟩
      · refine fz_if_ne (tgt := 21) kX10_loud rfl (by decide) (fun c20 => ?_) (fun c20 => ?_)
        · refine fz_aload_n kX10_loud rfl rfl ?_
          refine fz_getR (t := 27) kX10_loud rfl rfl ?_
          refine fz_iload_n kX10_loud rfl rfl ?_
          refine fz_aload_n kX10_loud rfl rfl ?_
          refine fz_getR (t := 9) kX10_loud rfl rfl ?_
          refine fz_getR (t := 10) kX10_loud rfl rfl ?_
          refine fz_iload_n kX10_loud rfl rfl ?_
          refine fz_ialdV (n := 11) (v := h 10 (d.toNat)) kX10_loud rfl rfl (by omega) (by omega) rfl ?_
          have b21 : 0 ≤ h 10 (d.toNat) ∧ h 10 (d.toNat) ≤ 3 := hI.1 10 _
          refine fz_iload_n kX10_loud rfl rfl ?_
          refine fz_sipush ⟨by decide, by decide⟩ kX10_loud rfl ?_
          refine fz_idivN kX10_loud rfl (by omega) (by omega) (by omega) ?_
          refine fz_iload_n kX10_loud rfl rfl ?_
          refine fz_sipush ⟨by decide, by decide⟩ kX10_loud rfl ?_
          refine fz_iremN kX10_loud rfl (by omega) (by omega) (by omega) ?_
          refine fz_callV (d' := 3) (M' := mX8_loudness) (As := [fz_i d, fz_i (h 10 (d.toNat)), fz_i (th / 1000), fz_i (th % 1000)]) (st := []) kX10_loud rfl rfl vX8_loudness rfl rfl rfl rfl (Nat.le_of_ble_eq_true rfl) (Nat.le_of_ble_eq_true rfl) (by decide) (sX8_loudness h hI d (h 10 (d.toNat)) (th / 1000) (th % 1000) (by omega) (by omega)) (fun H22 r23 q24 o25 => ?_)
          obtain ⟨hI26, hf27, y30, rfl, f28, f29⟩ := q24
          clear o25
          have hf31 := fz_fr_tr hf hf27 (show fz_su [(18, 99999), (19, 99999)] [(18, 99999), (19, 99999)] = true from rfl)
          exact fz_iret kX10_loud rfl rfl (fun _ => ⟨hI26, hf31, _, rfl, (by omega), (by first | exact Or.inl ⟨(by unfold fl_oL; omega), f29⟩ | exact Or.inr ⟨(by unfold fl_oL; omega), rfl⟩)⟩)
        · exfalso; omega
      · refine fz_if_ne (tgt := 21) kX10_loud rfl (by decide) (fun c33 => ?_) (fun c33 => ?_)
        · exfalso; omega
        · refine fz_iconst ⟨by decide, by decide⟩ kX10_loud rfl ?_
          exact fz_iret kX10_loud rfl rfl (fun _ => ⟨hI, hf, _, rfl, (by omega), (by first | exact Or.inl ⟨(by unfold fl_oL; omega), lost⟩ | exact Or.inr ⟨(by unfold fl_oL; omega), rfl⟩)⟩)
  · refine fz_if_eq (tgt := 19) kX10_loud rfl (by decide) (fun c35 => ?_) (fun c35 => ?_)
    · refine fz_iconst ⟨by decide, by decide⟩ kX10_loud rfl ?_
      exact fz_iret kX10_loud rfl rfl (fun _ => ⟨hI, hf, _, rfl, (by omega), (by first | exact Or.inl ⟨(by unfold fl_oL; omega), lost⟩ | exact Or.inr ⟨(by unfold fl_oL; omega), rfl⟩)⟩)
    · exfalso; omega

abbrev qX10_said (h : fz_H) (pm th : Int) : fz_H → Option fz_V → Prop := fun h' r0 => fz_Iv h' ∧ fz_fr [(18, 99999), (19, 99999)] h h' ∧ ∃ r : Int, r0 = some (fz_i r) ∧ ((-2147483648) ≤ r ∧ r ≤ 2147483647) ∧ (fl_saC h pm th r)
set_option maxHeartbeats 1000000 in
set_option maxRecDepth 100000 in
theorem sX10_said (h : fz_H) (hI : fz_Iv h) (pm th : Int) : fz_R 5 mX10_said 0 [(0, fz_r 0), (1, fz_i pm), (2, fz_i th)] [] h (qX10_said h pm th) := by
  refine fz_knowl (fun hk => ?_)
  have hr_pm : -2147483648 ≤ pm ∧ pm < 2147483648 := hk _ (List.Mem.tail _ (List.Mem.head _))
  have hr_th : -2147483648 ≤ th ∧ th < 2147483648 := hk _ (List.Mem.tail _ (List.Mem.tail _ (List.Mem.head _)))
  clear hk
  have hf : fz_fr [(18, 99999), (19, 99999)] h h := fz_fr_rf
  refine fz_aload_n kX10_said rfl rfl ?_
  refine fz_iload_n kX10_said rfl rfl ?_
  refine fz_callV (d' := 1) (M' := mX10_isMarkOfOne) (As := [fz_i pm]) (st := []) kX10_said rfl rfl vX10_isMarkOfOne rfl rfl rfl rfl (Nat.le_of_ble_eq_true rfl) (Nat.le_of_ble_eq_true rfl) (by decide) (sX10_isMarkOfOne h hI pm ) (fun H1 r2 q3 o4 => ?_)
  obtain ⟨e5, y6, rfl, p7⟩ := q3
  subst H1
  clear o4
  rcases p7 with ⟨rfl, c8⟩ | ⟨rfl, c8⟩
  · refine fz_if_eq (tgt := 16) kX10_said rfl (by decide) (fun c9 => ?_) (fun c9 => ?_)
    · exfalso; omega
    · refine fz_aload_n kX10_said rfl rfl ?_
      refine fz_iload_n kX10_said rfl rfl ?_
      have b10 : 0 ≤ h 1 7 ∧ h 1 7 ≤ 8 := hI.1 1 _
      refine fz_callV (d' := 1) (M' := mX10_isTownAndHour) (As := [fz_i th]) (st := []) kX10_said rfl rfl vX10_isTownAndHour rfl rfl rfl rfl (Nat.le_of_ble_eq_true rfl) (Nat.le_of_ble_eq_true rfl) (by decide) (sX10_isTownAndHour h hI th ) (fun H11 r12 q13 o14 => ?_)
      obtain ⟨e15, y16, rfl, p17⟩ := q13
      subst H11
      clear o14
      rcases p17 with ⟨rfl, c18⟩ | ⟨rfl, c18⟩
      · refine fz_if_ne (tgt := 18) kX10_said rfl (by decide) (fun c19 => ?_) (fun c19 => ?_)
        · refine fz_aload_n kX10_said rfl rfl ?_
          refine fz_getR (t := 27) kX10_said rfl rfl ?_
          refine fz_iload_n kX10_said rfl rfl ?_
          refine fz_iload_n kX10_said rfl rfl ?_
          refine fz_sipush ⟨by decide, by decide⟩ kX10_said rfl ?_
          refine fz_idivN kX10_said rfl (by omega) (by omega) (by omega) ?_
          refine fz_iload_n kX10_said rfl rfl ?_
          refine fz_sipush ⟨by decide, by decide⟩ kX10_said rfl ?_
          refine fz_iremN kX10_said rfl (by omega) (by omega) (by omega) ?_
          refine fz_callV (d' := 4) (M' := mX8_loudestOf) (As := [fz_i pm, fz_i (th / 1000), fz_i (th % 1000)]) (st := []) kX10_said rfl rfl vX8_loudestOf rfl rfl rfl rfl (Nat.le_of_ble_eq_true rfl) (Nat.le_of_ble_eq_true rfl) (by decide) (sX8_loudestOf h hI pm (th / 1000) (th % 1000) (by omega) (by omega)) (fun H20 r21 q22 o23 => ?_)
          obtain ⟨hI24, hf25, y28, rfl, f26, f27⟩ := q22
          clear o23
          have hf29 := fz_fr_tr hf hf25 (show fz_su [(18, 99999), (19, 99999)] [(18, 99999), (19, 99999)] = true from rfl)
          exact fz_iret kX10_said rfl rfl (fun _ => ⟨hI24, hf29, _, rfl, (by omega), (by first | exact Or.inl ⟨(by unfold fl_oS_; omega), f27⟩ | exact Or.inr ⟨(by unfold fl_oS_; omega), rfl⟩)⟩)
        · exfalso; omega
      · refine fz_if_ne (tgt := 18) kX10_said rfl (by decide) (fun c31 => ?_) (fun c31 => ?_)
        · exfalso; omega
        · refine fz_iconst ⟨by decide, by decide⟩ kX10_said rfl ?_
          exact fz_iret kX10_said rfl rfl (fun _ => ⟨hI, hf, _, rfl, (by omega), (by first | exact Or.inl ⟨(by unfold fl_oS_; omega), lost⟩ | exact Or.inr ⟨(by unfold fl_oS_; omega), rfl⟩)⟩)
  · refine fz_if_eq (tgt := 16) kX10_said rfl (by decide) (fun c33 => ?_) (fun c33 => ?_)
    · refine fz_iconst ⟨by decide, by decide⟩ kX10_said rfl ?_
      exact fz_iret kX10_said rfl rfl (fun _ => ⟨hI, hf, _, rfl, (by omega), (by first | exact Or.inl ⟨(by unfold fl_oS_; omega), lost⟩ | exact Or.inr ⟨(by unfold fl_oS_; omega), rfl⟩)⟩)
    · exfalso; omega

abbrev qX10_received (h : fz_H) (on th wh : Int) : fz_H → Option fz_V → Prop := fun h' r0 => fz_Iv h' ∧ fz_fr [(18, 99999), (19, 99999), (29, 99999)] h h' ∧ ∃ r : Int, r0 = some (fz_i r) ∧ ((-2147483648) ≤ r ∧ r ≤ 2147483647) ∧ (fl_rcC h on th wh r)
set_option maxHeartbeats 1000000 in
set_option maxRecDepth 100000 in
theorem sX10_received (h : fz_H) (hI : fz_Iv h) (on th wh : Int) : fz_R 5 mX10_received 0 [(0, fz_r 0), (1, fz_i on), (2, fz_i th), (3, fz_i wh)] [] h (qX10_received h on th wh) := by
  refine fz_knowl (fun hk => ?_)
  have hr_on : -2147483648 ≤ on ∧ on < 2147483648 := hk _ (List.Mem.tail _ (List.Mem.head _))
  have hr_th : -2147483648 ≤ th ∧ th < 2147483648 := hk _ (List.Mem.tail _ (List.Mem.tail _ (List.Mem.head _)))
  have hr_wh : -2147483648 ≤ wh ∧ wh < 2147483648 := hk _ (List.Mem.tail _ (List.Mem.tail _ (List.Mem.tail _ (List.Mem.head _))))
  clear hk
  have hf : fz_fr [(18, 99999), (19, 99999), (29, 99999)] h h := fz_fr_rf
  refine fz_aload_n kX10_received rfl rfl ?_
  refine fz_iload_n kX10_received rfl rfl ?_
  refine fz_callV (d' := 0) (M' := mX10_isOne) (As := [fz_i on]) (st := []) kX10_received rfl rfl vX10_isOne rfl rfl rfl rfl (Nat.le_of_ble_eq_true rfl) (Nat.le_of_ble_eq_true rfl) (by decide) (sX10_isOne h hI on ) (fun H1 r2 q3 o4 => ?_)
  obtain ⟨e5, y6, rfl, p7⟩ := q3
  subst H1
  clear o4
  rcases p7 with ⟨rfl, c8⟩ | ⟨rfl, c8⟩
  · refine fz_if_eq (tgt := 25) kX10_received rfl (by decide) (fun c9 => ?_) (fun c9 => ?_)
    · exfalso; omega
    · refine fz_aload_n kX10_received rfl rfl ?_
      refine fz_iload_n kX10_received rfl rfl ?_
      have b10 : 0 ≤ h 1 7 ∧ h 1 7 ≤ 8 := hI.1 1 _
      refine fz_callV (d' := 1) (M' := mX10_isTownAndHour) (As := [fz_i th]) (st := []) kX10_received rfl rfl vX10_isTownAndHour rfl rfl rfl rfl (Nat.le_of_ble_eq_true rfl) (Nat.le_of_ble_eq_true rfl) (by decide) (sX10_isTownAndHour h hI th ) (fun H11 r12 q13 o14 => ?_)
      obtain ⟨e15, y16, rfl, p17⟩ := q13
      subst H11
      clear o14
      rcases p17 with ⟨rfl, c18⟩ | ⟨rfl, c18⟩
      · refine fz_if_eq (tgt := 25) kX10_received rfl (by decide) (fun c19 => ?_) (fun c19 => ?_)
        · exfalso; omega
        · refine fz_iload_n kX10_received rfl rfl ?_
          refine fz_if_lt (tgt := 25) kX10_received rfl (by decide) (fun c20 => ?_) (fun c20 => ?_)
          · refine fz_ldc (x := (-2000000000)) kX10_received rfl rfl rfl ?_
            exact fz_iret kX10_received rfl rfl (fun _ => ⟨hI, hf, _, rfl, (by omega), (by first | exact Or.inl ⟨(by unfold fl_oR; omega), (lost.trans (fl_re_0 (ar := h 27 8) (by omega)).symm).trans (fl_re_eq lost (funext fun s => hf 28 s rfl))⟩ | exact Or.inl ⟨(by unfold fl_oR; omega), (fl_re_1 (v := h 29) (w := h 28) (ar := h 27 8) (by omega) (by have e : h 27 8 = h 27 8 := hf 27 8 rfl; omega)).trans (fl_re_eq lost (funext fun s => hf 28 s rfl))⟩ | exact Or.inl ⟨(by unfold fl_oR; omega), (lost.trans (fl_re_2 (w := h 28) (ar := h 27 8) (by omega)).symm).trans (fl_re_eq lost (funext fun s => hf 28 s rfl))⟩ | exact Or.inl ⟨(by unfold fl_oR; omega), (lost.trans (fl_re_3 (w := h 28) (ar := h 27 8) (by omega)).symm).trans (fl_re_eq lost (funext fun s => hf 28 s rfl))⟩ | exact Or.inr ⟨(by unfold fl_oR; omega), rfl⟩)⟩)
          · refine fz_iload_n kX10_received rfl rfl ?_
            refine fz_iconst ⟨by decide, by decide⟩ kX10_received rfl ?_
            refine fz_icmp_le (tgt := 28) kX10_received rfl (by decide) (fun c22 => ?_) (fun c22 => ?_)
            · refine fz_aload_n kX10_received rfl rfl ?_
              refine fz_getR (t := 27) kX10_received rfl rfl ?_
              refine fz_iload_n kX10_received rfl rfl ?_
              refine fz_iload_n kX10_received rfl rfl ?_
              refine fz_iload_n kX10_received rfl rfl ?_
              refine fz_sipush ⟨by decide, by decide⟩ kX10_received rfl ?_
              refine fz_idivN kX10_received rfl (by omega) (by omega) (by omega) ?_
              refine fz_iload_n kX10_received rfl rfl ?_
              refine fz_sipush ⟨by decide, by decide⟩ kX10_received rfl ?_
              refine fz_iremN kX10_received rfl (by omega) (by omega) (by omega) ?_
              refine fz_callV (d' := 4) (M' := mX8_listen) (As := [fz_i on, fz_i on, fz_i (th / 1000), fz_i (th % 1000)]) (st := []) kX10_received rfl rfl vX8_listen rfl rfl rfl rfl (Nat.le_of_ble_eq_true rfl) (Nat.le_of_ble_eq_true rfl) (by decide) (sX8_listen h hI on on (th / 1000) (th % 1000) (by omega)) (fun H23 r24 q25 o26 => ?_)
              obtain ⟨hI27, hf28, rfl, f29⟩ := q25
              clear o26
              have hf30 := fz_fr_tr hf hf28 (show fz_su [(18, 99999), (19, 99999), (29, 99999)] [(18, 99999), (19, 99999), (29, 99999)] = true from rfl)
              refine fz_iload_n kX10_received rfl rfl ?_
              rcases (show wh = 0 ∨ wh = 1 ∨ wh = 2 ∨ (wh < 0 ∨ 2 < wh) by omega) with c31 | c31 | c31 | c31
              · refine fz_tswC (j := 0) (tgt := 76) kX10_received rfl c31 (by decide) (by decide) rfl (by decide) ?_
                refine fz_aload_n kX10_received rfl rfl ?_
                refine fz_getR (t := 27) kX10_received rfl rfl ?_
                refine fz_callV (d' := 0) (M' := mX8_reception) (As := []) (st := []) kX10_received rfl rfl vX8_reception rfl rfl rfl rfl (Nat.le_of_ble_eq_true rfl) (Nat.le_of_ble_eq_true rfl) (by decide) (sX8_reception H23 hI27  ) (fun H32 r33 q34 o35 => ?_)
                obtain ⟨e36, y39, rfl, f37, f38⟩ := q34
                subst H32
                clear o35
                exact fz_iret kX10_received rfl rfl (fun _ => ⟨hI27, hf30, _, rfl, (by omega), (by first | exact Or.inl ⟨(by unfold fl_oR; omega), (f38.trans (fl_re_0 (ar := h 27 8) (by omega)).symm).trans (fl_re_eq f29 (funext fun s => hf30 28 s rfl))⟩ | exact Or.inl ⟨(by unfold fl_oR; omega), (fl_re_1 (v := H23 29) (w := H23 28) (ar := h 27 8) (by omega) (by have e : H23 27 8 = h 27 8 := hf30 27 8 rfl; omega)).trans (fl_re_eq f29 (funext fun s => hf30 28 s rfl))⟩ | exact Or.inl ⟨(by unfold fl_oR; omega), (lost.trans (fl_re_2 (w := H23 28) (ar := h 27 8) (by omega)).symm).trans (fl_re_eq f29 (funext fun s => hf30 28 s rfl))⟩ | exact Or.inl ⟨(by unfold fl_oR; omega), (lost.trans (fl_re_3 (w := H23 28) (ar := h 27 8) (by omega)).symm).trans (fl_re_eq f29 (funext fun s => hf30 28 s rfl))⟩ | exact Or.inr ⟨(by unfold fl_oR; omega), rfl⟩)⟩)
              · refine fz_tswC (j := 1) (tgt := 84) kX10_received rfl c31 (by decide) (by decide) rfl (by decide) ?_
                refine fz_aload_n kX10_received rfl rfl ?_
                refine fz_getR (t := 27) kX10_received rfl rfl ?_
                have b41 : (-2147483648) ≤ H23 29 1 ∧ H23 29 1 ≤ 2147483647 := hI27.1 29 _
                have b42 : 0 ≤ h 27 8 ∧ h 27 8 ≤ 99 := hI.1 27 _
                have e43 : H23 27 8 = h 27 8 := hf30 27 8 rfl
                refine fz_callV (d' := 1) (M' := mX8_isArrested) (As := []) (st := []) kX10_received rfl rfl vX8_isArrested rfl rfl rfl rfl (Nat.le_of_ble_eq_true rfl) (Nat.le_of_ble_eq_true rfl) (by decide) (sX8_isArrested H23 hI27  ) (fun H44 r45 q46 o47 => ?_)
                obtain ⟨e48, y50, rfl, p51, f49⟩ := q46
                subst H44
                clear o47
                refine fz_if_eq (tgt := 98) kX10_received rfl (by decide) (fun c52 => ?_) (fun c52 => ?_)
                · refine fz_iconst ⟨by decide, by decide⟩ kX10_received rfl ?_
                  exact fz_iret kX10_received rfl rfl (fun _ => ⟨hI27, hf30, _, rfl, (by omega), (by first | exact Or.inl ⟨(by unfold fl_oR; omega), (lost.trans (fl_re_0 (ar := h 27 8) (by omega)).symm).trans (fl_re_eq f29 (funext fun s => hf30 28 s rfl))⟩ | exact Or.inl ⟨(by unfold fl_oR; omega), (fl_re_1 (v := H23 29) (w := H23 28) (ar := h 27 8) (by omega) (by have e : H23 27 8 = h 27 8 := hf30 27 8 rfl; omega)).trans (fl_re_eq f29 (funext fun s => hf30 28 s rfl))⟩ | exact Or.inl ⟨(by unfold fl_oR; omega), (lost.trans (fl_re_2 (w := H23 28) (ar := h 27 8) (by omega)).symm).trans (fl_re_eq f29 (funext fun s => hf30 28 s rfl))⟩ | exact Or.inl ⟨(by unfold fl_oR; omega), (lost.trans (fl_re_3 (w := H23 28) (ar := h 27 8) (by omega)).symm).trans (fl_re_eq f29 (funext fun s => hf30 28 s rfl))⟩ | exact Or.inr ⟨(by unfold fl_oR; omega), rfl⟩)⟩)
                · refine fz_iconst ⟨by decide, by decide⟩ kX10_received rfl ?_
                  refine fz_goto (tgt := 99) kX10_received rfl (by decide) ?_
                  exact fz_iret kX10_received rfl rfl (fun _ => ⟨hI27, hf30, _, rfl, (by omega), (by first | exact Or.inl ⟨(by unfold fl_oR; omega), (lost.trans (fl_re_0 (ar := h 27 8) (by omega)).symm).trans (fl_re_eq f29 (funext fun s => hf30 28 s rfl))⟩ | exact Or.inl ⟨(by unfold fl_oR; omega), (fl_re_1 (v := H23 29) (w := H23 28) (ar := h 27 8) (by omega) (by have e : H23 27 8 = h 27 8 := hf30 27 8 rfl; omega)).trans (fl_re_eq f29 (funext fun s => hf30 28 s rfl))⟩ | exact Or.inl ⟨(by unfold fl_oR; omega), (lost.trans (fl_re_2 (w := H23 28) (ar := h 27 8) (by omega)).symm).trans (fl_re_eq f29 (funext fun s => hf30 28 s rfl))⟩ | exact Or.inl ⟨(by unfold fl_oR; omega), (lost.trans (fl_re_3 (w := H23 28) (ar := h 27 8) (by omega)).symm).trans (fl_re_eq f29 (funext fun s => hf30 28 s rfl))⟩ | exact Or.inr ⟨(by unfold fl_oR; omega), rfl⟩)⟩)
              · refine fz_tswC (j := 2) (tgt := 100) kX10_received rfl c31 (by decide) (by decide) rfl (by decide) ?_
                refine fz_aload_n kX10_received rfl rfl ?_
                refine fz_getR (t := 27) kX10_received rfl rfl ?_
                refine fz_callV (d' := 0) (M' := mX8_marksSaid) (As := []) (st := []) kX10_received rfl rfl vX8_marksSaid rfl rfl rfl rfl (Nat.le_of_ble_eq_true rfl) (Nat.le_of_ble_eq_true rfl) (by decide) (sX8_marksSaid H23 hI27  ) (fun H55 r56 q57 o58 => ?_)
                obtain ⟨e59, y62, rfl, f60, f61⟩ := q57
                subst H55
                clear o58
                exact fz_iret kX10_received rfl rfl (fun _ => ⟨hI27, hf30, _, rfl, (by omega), (by first | exact Or.inl ⟨(by unfold fl_oR; omega), (lost.trans (fl_re_0 (ar := h 27 8) (by omega)).symm).trans (fl_re_eq f29 (funext fun s => hf30 28 s rfl))⟩ | exact Or.inl ⟨(by unfold fl_oR; omega), (fl_re_1 (v := H23 29) (w := H23 28) (ar := h 27 8) (by omega) (by have e : H23 27 8 = h 27 8 := hf30 27 8 rfl; omega)).trans (fl_re_eq f29 (funext fun s => hf30 28 s rfl))⟩ | exact Or.inl ⟨(by unfold fl_oR; omega), (f61.trans (fl_re_2 (w := H23 28) (ar := h 27 8) (by omega)).symm).trans (fl_re_eq f29 (funext fun s => hf30 28 s rfl))⟩ | exact Or.inl ⟨(by unfold fl_oR; omega), (lost.trans (fl_re_3 (w := H23 28) (ar := h 27 8) (by omega)).symm).trans (fl_re_eq f29 (funext fun s => hf30 28 s rfl))⟩ | exact Or.inr ⟨(by unfold fl_oR; omega), rfl⟩)⟩)
              · refine fz_tswO (tgt := 108) kX10_received rfl c31 (by decide) ?_
                refine fz_aload_n kX10_received rfl rfl ?_
                refine fz_getR (t := 27) kX10_received rfl rfl ?_
                refine fz_callV (d' := 0) (M' := mX8_loudestMark) (As := []) (st := []) kX10_received rfl rfl vX8_loudestMark rfl rfl rfl rfl (Nat.le_of_ble_eq_true rfl) (Nat.le_of_ble_eq_true rfl) (by decide) (sX8_loudestMark H23 hI27  ) (fun H64 r65 q66 o67 => ?_)
                obtain ⟨e68, y71, rfl, f69, f70⟩ := q66
                subst H64
                clear o67
                exact fz_iret kX10_received rfl rfl (fun _ => ⟨hI27, hf30, _, rfl, (by omega), (by first | exact Or.inl ⟨(by unfold fl_oR; omega), (lost.trans (fl_re_0 (ar := h 27 8) (by omega)).symm).trans (fl_re_eq f29 (funext fun s => hf30 28 s rfl))⟩ | exact Or.inl ⟨(by unfold fl_oR; omega), (fl_re_1 (v := H23 29) (w := H23 28) (ar := h 27 8) (by omega) (by have e : H23 27 8 = h 27 8 := hf30 27 8 rfl; omega)).trans (fl_re_eq f29 (funext fun s => hf30 28 s rfl))⟩ | exact Or.inl ⟨(by unfold fl_oR; omega), (lost.trans (fl_re_2 (w := H23 28) (ar := h 27 8) (by omega)).symm).trans (fl_re_eq f29 (funext fun s => hf30 28 s rfl))⟩ | exact Or.inl ⟨(by unfold fl_oR; omega), (f70.trans (fl_re_3 (w := H23 28) (ar := h 27 8) (by omega)).symm).trans (fl_re_eq f29 (funext fun s => hf30 28 s rfl))⟩ | exact Or.inr ⟨(by unfold fl_oR; omega), rfl⟩)⟩)
            · refine fz_ldc (x := (-2000000000)) kX10_received rfl rfl rfl ?_
              exact fz_iret kX10_received rfl rfl (fun _ => ⟨hI, hf, _, rfl, (by omega), (by first | exact Or.inl ⟨(by unfold fl_oR; omega), (lost.trans (fl_re_0 (ar := h 27 8) (by omega)).symm).trans (fl_re_eq lost (funext fun s => hf 28 s rfl))⟩ | exact Or.inl ⟨(by unfold fl_oR; omega), (fl_re_1 (v := h 29) (w := h 28) (ar := h 27 8) (by omega) (by have e : h 27 8 = h 27 8 := hf 27 8 rfl; omega)).trans (fl_re_eq lost (funext fun s => hf 28 s rfl))⟩ | exact Or.inl ⟨(by unfold fl_oR; omega), (lost.trans (fl_re_2 (w := h 28) (ar := h 27 8) (by omega)).symm).trans (fl_re_eq lost (funext fun s => hf 28 s rfl))⟩ | exact Or.inl ⟨(by unfold fl_oR; omega), (lost.trans (fl_re_3 (w := h 28) (ar := h 27 8) (by omega)).symm).trans (fl_re_eq lost (funext fun s => hf 28 s rfl))⟩ | exact Or.inr ⟨(by unfold fl_oR; omega), rfl⟩)⟩)
      · refine fz_if_eq (tgt := 25) kX10_received rfl (by decide) (fun c74 => ?_) (fun c74 => ?_)
        · refine fz_ldc (x := (-2000000000)) kX10_received rfl rfl rfl ?_
          exact fz_iret kX10_received rfl rfl (fun _ => ⟨hI, hf, _, rfl, (by omega), (by first | exact Or.inl ⟨(by unfold fl_oR; omega), (lost.trans (fl_re_0 (ar := h 27 8) (by omega)).symm).trans (fl_re_eq lost (funext fun s => hf 28 s rfl))⟩ | exact Or.inl ⟨(by unfold fl_oR; omega), (fl_re_1 (v := h 29) (w := h 28) (ar := h 27 8) (by omega) (by have e : h 27 8 = h 27 8 := hf 27 8 rfl; omega)).trans (fl_re_eq lost (funext fun s => hf 28 s rfl))⟩ | exact Or.inl ⟨(by unfold fl_oR; omega), (lost.trans (fl_re_2 (w := h 28) (ar := h 27 8) (by omega)).symm).trans (fl_re_eq lost (funext fun s => hf 28 s rfl))⟩ | exact Or.inl ⟨(by unfold fl_oR; omega), (lost.trans (fl_re_3 (w := h 28) (ar := h 27 8) (by omega)).symm).trans (fl_re_eq lost (funext fun s => hf 28 s rfl))⟩ | exact Or.inr ⟨(by unfold fl_oR; omega), rfl⟩)⟩)
        · exfalso; omega
  · refine fz_if_eq (tgt := 25) kX10_received rfl (by decide) (fun c76 => ?_) (fun c76 => ?_)
    · refine fz_ldc (x := (-2000000000)) kX10_received rfl rfl rfl ?_
      exact fz_iret kX10_received rfl rfl (fun _ => ⟨hI, hf, _, rfl, (by omega), (by first | exact Or.inl ⟨(by unfold fl_oR; omega), (lost.trans (fl_re_0 (ar := h 27 8) (by omega)).symm).trans (fl_re_eq lost (funext fun s => hf 28 s rfl))⟩ | exact Or.inl ⟨(by unfold fl_oR; omega), (fl_re_1 (v := h 29) (w := h 28) (ar := h 27 8) (by omega) (by have e : h 27 8 = h 27 8 := hf 27 8 rfl; omega)).trans (fl_re_eq lost (funext fun s => hf 28 s rfl))⟩ | exact Or.inl ⟨(by unfold fl_oR; omega), (lost.trans (fl_re_2 (w := h 28) (ar := h 27 8) (by omega)).symm).trans (fl_re_eq lost (funext fun s => hf 28 s rfl))⟩ | exact Or.inl ⟨(by unfold fl_oR; omega), (lost.trans (fl_re_3 (w := h 28) (ar := h 27 8) (by omega)).symm).trans (fl_re_eq lost (funext fun s => hf 28 s rfl))⟩ | exact Or.inr ⟨(by unfold fl_oR; omega), rfl⟩)⟩)
    · exfalso; omega

abbrev qX10_townsWhere (h : fz_H) (on hr ar : Int) : fz_H → Option fz_V → Prop := fun h' r0 => fz_Iv h' ∧ fz_fr [(18, 99999), (19, 99999), (29, 99999)] h h' ∧ ∃ r : Int, r0 = some (fz_i r) ∧ ((-2147483648) ≤ r ∧ r ≤ 2147483647) ∧ (r = fl_tb (fl_cC h on hr ar) (h 1 7).toNat)
set_option maxHeartbeats 1000000 in
set_option maxRecDepth 100000 in
theorem sX10_townsWhere (h : fz_H) (hI : fz_Iv h) (on hr ar : Int) : fz_R 5 mX10_townsWhere 0 [(0, fz_r 0), (1, fz_i on), (2, fz_i hr), (3, fz_i ar)] [] h (qX10_townsWhere h on hr ar) := by
  refine fz_knowl (fun hk => ?_)
  have hr_on : -2147483648 ≤ on ∧ on < 2147483648 := hk _ (List.Mem.tail _ (List.Mem.head _))
  have hr_hr : -2147483648 ≤ hr ∧ hr < 2147483648 := hk _ (List.Mem.tail _ (List.Mem.tail _ (List.Mem.head _)))
  have hr_ar : -2147483648 ≤ ar ∧ ar < 2147483648 := hk _ (List.Mem.tail _ (List.Mem.tail _ (List.Mem.tail _ (List.Mem.head _))))
  clear hk
  have hf : fz_fr [(18, 99999), (19, 99999), (29, 99999)] h h := fz_fr_rf
  have b1 : 0 ≤ h 1 7 ∧ h 1 7 ≤ 8 := hI.1 1 _
  have k2 : 0 ≤ h 1 7 ∧ h 1 7 ≤ 8 := hI.1 1 _
  refine fz_iconst ⟨by decide, by decide⟩ kX10_townsWhere rfl ?_
  refine fz_istore (ls' := [(4, fz_i 0), (0, fz_r 0), (1, fz_i on), (2, fz_i hr), (3, fz_i ar)]) kX10_townsWhere rfl (by decide) rfl ?_
  refine fz_iconst ⟨by decide, by decide⟩ kX10_townsWhere rfl ?_
  refine fz_istore (ls' := [(5, fz_i 0), (4, fz_i 0), (0, fz_r 0), (1, fz_i on), (2, fz_i hr), (3, fz_i ar)]) kX10_townsWhere rfl (by decide) rfl ?_
  have lp9 : ∀ (n8 : Nat) (x3 : Int) (x4 : Int) (H5 : fz_H), fz_Iv H5 → fz_fr [(18, 99999), (19, 99999), (29, 99999)] h H5 → (0 ≤ x3 ∧ x3 ≤ 2147483647) → ((-2147483648) ≤ x4 ∧ x4 ≤ 2147483647) → (x3 ≤ h 1 7) → (x4 = fl_tb (fl_cC h on hr ar) (x3).toNat) → ((h 1 7) - x3).toNat < n8 → fz_R 5 mX10_townsWhere 6 [(5, fz_i x3), (4, fz_i x4), (0, fz_r 0), (1, fz_i on), (2, fz_i hr), (3, fz_i ar)] [] H5 (qX10_townsWhere h on hr ar) := by
    intro n8
    induction n8 with
    | zero => intro x3 x4 H5 hI6 hf7 hv12 hv13 hv14 hv15 hm11; exact absurd hm11 (by omega)
    | succ n8 ih10 =>
      intro x3 x4 H5 hI6 hf7 hv12 hv13 hv14 hv15 hm11
      refine fz_iload kX10_townsWhere rfl rfl ?_
      refine fz_aload_n kX10_townsWhere rfl rfl ?_
      refine fz_getR (t := 1) kX10_townsWhere rfl rfl ?_
      refine fz_getV (v := h 1 7) kX10_townsWhere rfl rfl (hf7 1 7 rfl) ?_
      have b16 : 0 ≤ h 1 7 ∧ h 1 7 ≤ 8 := hI.1 1 _
      refine fz_icmp_ge (tgt := 72) kX10_townsWhere rfl (by decide) (fun c17 => ?_) (fun c17 => ?_)
      · refine fz_iload kX10_townsWhere rfl rfl ?_
        exact fz_iret kX10_townsWhere rfl rfl (fun _ => ⟨hI6, hf7, _, rfl, (by omega), (by exact fl_at (f := fl_tb (fl_cC h on hr ar)) hv15 (by omega))⟩)
      · refine fz_aload_n kX10_townsWhere rfl rfl ?_
        refine fz_getR (t := 27) kX10_townsWhere rfl rfl ?_
        refine fz_iload_n kX10_townsWhere rfl rfl ?_
        refine fz_iload_n kX10_townsWhere rfl rfl ?_
        refine fz_iload kX10_townsWhere rfl rfl ?_
        refine fz_iload_n kX10_townsWhere rfl rfl ?_
        refine fz_callV (d' := 4) (M' := mX8_listen) (As := [fz_i on, fz_i on, fz_i x3, fz_i hr]) (st := []) kX10_townsWhere rfl rfl vX8_listen rfl rfl rfl rfl (Nat.le_of_ble_eq_true rfl) (Nat.le_of_ble_eq_true rfl) (by decide) (sX8_listen H5 hI6 on on x3 hr (by omega)) (fun H19 r20 q21 o22 => ?_)
        obtain ⟨hI23, hf24, rfl, f25⟩ := q21
        clear o22
        have hf26 := fz_fr_tr hf7 hf24 (show fz_su [(18, 99999), (19, 99999), (29, 99999)] [(18, 99999), (19, 99999), (29, 99999)] = true from rfl)
        refine fz_iload_n kX10_townsWhere rfl rfl ?_
        refine fz_if_eq (tgt := 47) kX10_townsWhere rfl (by decide) (fun c27 => ?_) (fun c27 => ?_)
        · refine fz_aload_n kX10_townsWhere rfl rfl ?_
          refine fz_getR (t := 27) kX10_townsWhere rfl rfl ?_
          refine fz_callV (d' := 0) (M' := mX8_marksSaid) (As := []) (st := []) kX10_townsWhere rfl rfl vX8_marksSaid rfl rfl rfl rfl (Nat.le_of_ble_eq_true rfl) (Nat.le_of_ble_eq_true rfl) (by decide) (sX8_marksSaid H19 hI23  ) (fun H28 r29 q30 o31 => ?_)
          obtain ⟨e32, y35, rfl, f33, f34⟩ := q30
          subst H28
          clear o31
          refine fz_if_ne (tgt := 66) kX10_townsWhere rfl (by decide) (fun c36 => ?_) (fun c36 => ?_)
          · refine fz_iincN (ls' := [(5, fz_i (x3 + 1)), (4, fz_i x4), (0, fz_r 0), (1, fz_i on), (2, fz_i hr), (3, fz_i ar)]) kX10_townsWhere rfl (by decide) rfl (by omega) rfl ?_
            refine fz_goto (tgt := 6) kX10_townsWhere rfl (by decide) ?_
            exact ih10 (x3 + 1) x4 H19 hI23 hf26 (by omega) (by omega) (by omega) (by first | exact fl_tb_1 hv15 (by omega) (fl_cC_m (fl_SC_fr hf7 rfl) f25 (by omega) f34 (Or.inl ⟨by omega, rfl⟩)) | exact fl_tb_0 hv15 (by omega) (fl_cC_m (fl_SC_fr hf7 rfl) f25 (by omega) f34 (Or.inr ⟨by omega, rfl⟩)) | exact fl_tb_1 hv15 (by omega) (fl_cC_a (fl_SC_fr hf7 rfl) f25 (hf26 27 8 rfl) (by omega) lost (Or.inl ⟨by omega, rfl⟩)) | exact fl_tb_0 hv15 (by omega) (fl_cC_a (fl_SC_fr hf7 rfl) f25 (hf26 27 8 rfl) (by omega) lost (Or.inr ⟨by omega, rfl⟩))) (by omega)
          · refine fz_iload kX10_townsWhere rfl rfl ?_
            refine fz_iconst ⟨by decide, by decide⟩ kX10_townsWhere rfl ?_
            refine fz_iload kX10_townsWhere rfl rfl ?_
            refine fz_ishl kX10_townsWhere rfl ?_
            have b38 : -2147483648 ≤ (fz_shl 1 x3) ∧ (fz_shl 1 x3) < 2147483648 := fz_b32 _
            refine fz_ior kX10_townsWhere rfl ?_
            have b39 : -2147483648 ≤ (fz_or x4 (fz_shl 1 x3)) ∧ (fz_or x4 (fz_shl 1 x3)) < 2147483648 := fz_b32 _
            refine fz_istore (ls' := [(4, fz_i (fz_or x4 (fz_shl 1 x3))), (5, fz_i x3), (0, fz_r 0), (1, fz_i on), (2, fz_i hr), (3, fz_i ar)]) kX10_townsWhere rfl (by decide) rfl ?_
            refine fz_iincN (ls' := [(5, fz_i (x3 + 1)), (4, fz_i (fz_or x4 (fz_shl 1 x3))), (0, fz_r 0), (1, fz_i on), (2, fz_i hr), (3, fz_i ar)]) kX10_townsWhere rfl (by decide) rfl (by omega) rfl ?_
            refine fz_goto (tgt := 6) kX10_townsWhere rfl (by decide) ?_
            exact ih10 (x3 + 1) (fz_or x4 (fz_shl 1 x3)) H19 hI23 hf26 (by omega) (by omega) (by omega) (by first | exact fl_tb_1 hv15 (by omega) (fl_cC_m (fl_SC_fr hf7 rfl) f25 (by omega) f34 (Or.inl ⟨by omega, rfl⟩)) | exact fl_tb_0 hv15 (by omega) (fl_cC_m (fl_SC_fr hf7 rfl) f25 (by omega) f34 (Or.inr ⟨by omega, rfl⟩)) | exact fl_tb_1 hv15 (by omega) (fl_cC_a (fl_SC_fr hf7 rfl) f25 (hf26 27 8 rfl) (by omega) lost (Or.inl ⟨by omega, rfl⟩)) | exact fl_tb_0 hv15 (by omega) (fl_cC_a (fl_SC_fr hf7 rfl) f25 (hf26 27 8 rfl) (by omega) lost (Or.inr ⟨by omega, rfl⟩))) (by omega)
        · refine fz_aload_n kX10_townsWhere rfl rfl ?_
          refine fz_getR (t := 27) kX10_townsWhere rfl rfl ?_
          have b41 : (-2147483648) ≤ H19 29 1 ∧ H19 29 1 ≤ 2147483647 := hI23.1 29 _
          have b42 : 0 ≤ h 27 8 ∧ h 27 8 ≤ 99 := hI.1 27 _
          have e43 : H19 27 8 = h 27 8 := hf26 27 8 rfl
          refine fz_callV (d' := 1) (M' := mX8_isArrested) (As := []) (st := []) kX10_townsWhere rfl rfl vX8_isArrested rfl rfl rfl rfl (Nat.le_of_ble_eq_true rfl) (Nat.le_of_ble_eq_true rfl) (by decide) (sX8_isArrested H19 hI23  ) (fun H44 r45 q46 o47 => ?_)
          obtain ⟨e48, y50, rfl, p51, f49⟩ := q46
          subst H44
          clear o47
          refine fz_if_eq (tgt := 66) kX10_townsWhere rfl (by decide) (fun c52 => ?_) (fun c52 => ?_)
          · refine fz_iincN (ls' := [(5, fz_i (x3 + 1)), (4, fz_i x4), (0, fz_r 0), (1, fz_i on), (2, fz_i hr), (3, fz_i ar)]) kX10_townsWhere rfl (by decide) rfl (by omega) rfl ?_
            refine fz_goto (tgt := 6) kX10_townsWhere rfl (by decide) ?_
            exact ih10 (x3 + 1) x4 H19 hI23 hf26 (by omega) (by omega) (by omega) (by first | exact fl_tb_1 hv15 (by omega) (fl_cC_m (fl_SC_fr hf7 rfl) f25 (by omega) lost (Or.inl ⟨by omega, rfl⟩)) | exact fl_tb_0 hv15 (by omega) (fl_cC_m (fl_SC_fr hf7 rfl) f25 (by omega) lost (Or.inr ⟨by omega, rfl⟩)) | exact fl_tb_1 hv15 (by omega) (fl_cC_a (fl_SC_fr hf7 rfl) f25 (hf26 27 8 rfl) (by omega) f49 (Or.inl ⟨by omega, rfl⟩)) | exact fl_tb_0 hv15 (by omega) (fl_cC_a (fl_SC_fr hf7 rfl) f25 (hf26 27 8 rfl) (by omega) f49 (Or.inr ⟨by omega, rfl⟩))) (by omega)
          · refine fz_goto (tgt := 57) kX10_townsWhere rfl (by decide) ?_
            refine fz_iload kX10_townsWhere rfl rfl ?_
            refine fz_iconst ⟨by decide, by decide⟩ kX10_townsWhere rfl ?_
            refine fz_iload kX10_townsWhere rfl rfl ?_
            refine fz_ishl kX10_townsWhere rfl ?_
            have b54 : -2147483648 ≤ (fz_shl 1 x3) ∧ (fz_shl 1 x3) < 2147483648 := fz_b32 _
            refine fz_ior kX10_townsWhere rfl ?_
            have b55 : -2147483648 ≤ (fz_or x4 (fz_shl 1 x3)) ∧ (fz_or x4 (fz_shl 1 x3)) < 2147483648 := fz_b32 _
            refine fz_istore (ls' := [(4, fz_i (fz_or x4 (fz_shl 1 x3))), (5, fz_i x3), (0, fz_r 0), (1, fz_i on), (2, fz_i hr), (3, fz_i ar)]) kX10_townsWhere rfl (by decide) rfl ?_
            refine fz_iincN (ls' := [(5, fz_i (x3 + 1)), (4, fz_i (fz_or x4 (fz_shl 1 x3))), (0, fz_r 0), (1, fz_i on), (2, fz_i hr), (3, fz_i ar)]) kX10_townsWhere rfl (by decide) rfl (by omega) rfl ?_
            refine fz_goto (tgt := 6) kX10_townsWhere rfl (by decide) ?_
            exact ih10 (x3 + 1) (fz_or x4 (fz_shl 1 x3)) H19 hI23 hf26 (by omega) (by omega) (by omega) (by first | exact fl_tb_1 hv15 (by omega) (fl_cC_m (fl_SC_fr hf7 rfl) f25 (by omega) lost (Or.inl ⟨by omega, rfl⟩)) | exact fl_tb_0 hv15 (by omega) (fl_cC_m (fl_SC_fr hf7 rfl) f25 (by omega) lost (Or.inr ⟨by omega, rfl⟩)) | exact fl_tb_1 hv15 (by omega) (fl_cC_a (fl_SC_fr hf7 rfl) f25 (hf26 27 8 rfl) (by omega) f49 (Or.inl ⟨by omega, rfl⟩)) | exact fl_tb_0 hv15 (by omega) (fl_cC_a (fl_SC_fr hf7 rfl) f25 (hf26 27 8 rfl) (by omega) f49 (Or.inr ⟨by omega, rfl⟩))) (by omega)
  exact lp9 _ 0 0 h hI hf (by omega) (by omega) (by omega) (rfl) (Nat.lt_succ_self _)

abbrev qX10_bestTown (h : fz_H) (on hr : Int) : fz_H → Option fz_V → Prop := fun h' r0 => fz_Iv h' ∧ fz_fr [(18, 99999), (19, 99999), (29, 99999)] h h' ∧ ∃ r : Int, r0 = some (fz_i r) ∧ ((-2147483648) ≤ r ∧ r ≤ 2147483647) ∧ (r = (fl_bt (fl_reC h on hr) (h 1 7).toNat).1)
set_option maxHeartbeats 1000000 in
set_option maxRecDepth 100000 in
theorem sX10_bestTown (h : fz_H) (hI : fz_Iv h) (on hr : Int) : fz_R 5 mX10_bestTown 0 [(0, fz_r 0), (1, fz_i on), (2, fz_i hr)] [] h (qX10_bestTown h on hr) := by
  refine fz_knowl (fun hk => ?_)
  have hr_on : -2147483648 ≤ on ∧ on < 2147483648 := hk _ (List.Mem.tail _ (List.Mem.head _))
  have hr_hr : -2147483648 ≤ hr ∧ hr < 2147483648 := hk _ (List.Mem.tail _ (List.Mem.tail _ (List.Mem.head _)))
  clear hk
  have hf : fz_fr [(18, 99999), (19, 99999), (29, 99999)] h h := fz_fr_rf
  have b1 : 0 ≤ h 1 7 ∧ h 1 7 ≤ 8 := hI.1 1 _
  have k2 : 0 ≤ h 1 7 ∧ h 1 7 ≤ 8 := hI.1 1 _
  refine fz_bipush ⟨by decide, by decide⟩ kX10_bestTown rfl ?_
  refine fz_istore_n (ls' := [(3, fz_i (-2)), (0, fz_r 0), (1, fz_i on), (2, fz_i hr)]) kX10_bestTown rfl (by decide) rfl ?_
  refine fz_iconst ⟨by decide, by decide⟩ kX10_bestTown rfl ?_
  refine fz_istore (ls' := [(4, fz_i 0), (3, fz_i (-2)), (0, fz_r 0), (1, fz_i on), (2, fz_i hr)]) kX10_bestTown rfl (by decide) rfl ?_
  refine fz_iconst ⟨by decide, by decide⟩ kX10_bestTown rfl ?_
  refine fz_istore (ls' := [(5, fz_i 0), (4, fz_i 0), (3, fz_i (-2)), (0, fz_r 0), (1, fz_i on), (2, fz_i hr)]) kX10_bestTown rfl (by decide) rfl ?_
  have lp10 : ∀ (n9 : Nat) (x3 : Int) (x4 : Int) (x5 : Int) (H6 : fz_H), fz_Iv H6 → fz_fr [(18, 99999), (19, 99999), (29, 99999)] h H6 → (0 ≤ x3 ∧ x3 ≤ 2147483647) → ((-2147483648) ≤ x4 ∧ x4 ≤ 2147483647) → ((-2147483648) ≤ x5 ∧ x5 ≤ 2147483647) → (x3 ≤ h 1 7) → ((x5, x4) = fl_bt (fl_reC h on hr) (x3).toNat) → ((h 1 7) - x3).toNat < n9 → fz_R 5 mX10_bestTown 9 [(5, fz_i x3), (4, fz_i x4), (3, fz_i x5), (0, fz_r 0), (1, fz_i on), (2, fz_i hr)] [] H6 (qX10_bestTown h on hr) := by
    intro n9
    induction n9 with
    | zero => intro x3 x4 x5 H6 hI7 hf8 hv13 hv14 hv15 hv16 hv17 hm12; exact absurd hm12 (by omega)
    | succ n9 ih11 =>
      intro x3 x4 x5 H6 hI7 hf8 hv13 hv14 hv15 hv16 hv17 hm12
      refine fz_iload kX10_bestTown rfl rfl ?_
      refine fz_aload_n kX10_bestTown rfl rfl ?_
      refine fz_getR (t := 1) kX10_bestTown rfl rfl ?_
      refine fz_getV (v := h 1 7) kX10_bestTown rfl rfl (hf8 1 7 rfl) ?_
      have b18 : 0 ≤ h 1 7 ∧ h 1 7 ≤ 8 := hI.1 1 _
      refine fz_icmp_ge (tgt := 68) kX10_bestTown rfl (by decide) (fun c19 => ?_) (fun c19 => ?_)
      · refine fz_iload_n kX10_bestTown rfl rfl ?_
        exact fz_iret kX10_bestTown rfl rfl (fun _ => ⟨hI7, hf8, _, rfl, (by omega), (by exact fl_bt_e hv17 (by omega))⟩)
      · refine fz_aload_n kX10_bestTown rfl rfl ?_
        refine fz_getR (t := 27) kX10_bestTown rfl rfl ?_
        refine fz_iload_n kX10_bestTown rfl rfl ?_
        refine fz_iload_n kX10_bestTown rfl rfl ?_
        refine fz_iload kX10_bestTown rfl rfl ?_
        refine fz_iload_n kX10_bestTown rfl rfl ?_
        refine fz_callV (d' := 4) (M' := mX8_listen) (As := [fz_i on, fz_i on, fz_i x3, fz_i hr]) (st := []) kX10_bestTown rfl rfl vX8_listen rfl rfl rfl rfl (Nat.le_of_ble_eq_true rfl) (Nat.le_of_ble_eq_true rfl) (by decide) (sX8_listen H6 hI7 on on x3 hr (by omega)) (fun H21 r22 q23 o24 => ?_)
        obtain ⟨hI25, hf26, rfl, f27⟩ := q23
        clear o24
        have hf28 := fz_fr_tr hf8 hf26 (show fz_su [(18, 99999), (19, 99999), (29, 99999)] [(18, 99999), (19, 99999), (29, 99999)] = true from rfl)
        refine fz_aload_n kX10_bestTown rfl rfl ?_
        refine fz_getR (t := 27) kX10_bestTown rfl rfl ?_
        refine fz_callV (d' := 0) (M' := mX8_reception) (As := []) (st := []) kX10_bestTown rfl rfl vX8_reception rfl rfl rfl rfl (Nat.le_of_ble_eq_true rfl) (Nat.le_of_ble_eq_true rfl) (by decide) (sX8_reception H21 hI25  ) (fun H29 r30 q31 o32 => ?_)
        obtain ⟨e33, y36, rfl, f34, f35⟩ := q31
        subst H29
        clear o32
        have k37 : y36 = fl_reC h on hr x3 := fl_reC_in (fl_SC_fr hf8 rfl) f27 (funext fun s => hf28 28 s rfl) f35
        refine fz_istore (ls' := [(6, fz_i y36), (5, fz_i x3), (4, fz_i x4), (3, fz_i x5), (0, fz_r 0), (1, fz_i on), (2, fz_i hr)]) kX10_bestTown rfl (by decide) rfl ?_
        refine fz_iload_n kX10_bestTown rfl rfl ?_
        refine fz_bipush ⟨by decide, by decide⟩ kX10_bestTown rfl ?_
        refine fz_icmp_eq (tgt := 55) kX10_bestTown rfl (by decide) (fun c39 => ?_) (fun c39 => ?_)
        · refine fz_iload kX10_bestTown rfl rfl ?_
          refine fz_istore_n (ls' := [(3, fz_i x3), (6, fz_i y36), (5, fz_i x3), (4, fz_i x4), (0, fz_r 0), (1, fz_i on), (2, fz_i hr)]) kX10_bestTown rfl (by decide) rfl ?_
          refine fz_iload kX10_bestTown rfl rfl ?_
          refine fz_istore (ls' := [(4, fz_i y36), (3, fz_i x3), (6, fz_i y36), (5, fz_i x3), (0, fz_r 0), (1, fz_i on), (2, fz_i hr)]) kX10_bestTown rfl (by decide) rfl ?_
          refine fz_iincN (ls' := [(5, fz_i (x3 + 1)), (4, fz_i y36), (3, fz_i x3), (6, fz_i y36), (0, fz_r 0), (1, fz_i on), (2, fz_i hr)]) kX10_bestTown rfl (by decide) rfl (by omega) rfl ?_
          refine fz_goto (tgt := 9) kX10_bestTown rfl (by decide) ?_
          refine fz_sub (fz_pk_sub (ls' := [(5, fz_i (x3 + 1)), (4, fz_i y36), (3, fz_i x3), (0, fz_r 0), (1, fz_i on), (2, fz_i hr)]) [0, 1, 2, 4, 5, 6] rfl) ?_
          exact ih11 (x3 + 1) y36 x3 H21 hI25 hf28 (by omega) (by omega) (by omega) (by omega) (by first | exact fl_bt_y hv17 (by omega) k37 (by omega) | exact fl_bt_n hv17 (by omega) k37 (by omega)) (by omega)
        · refine fz_iload kX10_bestTown rfl rfl ?_
          refine fz_iload kX10_bestTown rfl rfl ?_
          refine fz_icmp_le (tgt := 62) kX10_bestTown rfl (by decide) (fun c41 => ?_) (fun c41 => ?_)
          · refine fz_iincN (ls' := [(5, fz_i (x3 + 1)), (6, fz_i y36), (4, fz_i x4), (3, fz_i x5), (0, fz_r 0), (1, fz_i on), (2, fz_i hr)]) kX10_bestTown rfl (by decide) rfl (by omega) rfl ?_
            refine fz_goto (tgt := 9) kX10_bestTown rfl (by decide) ?_
            refine fz_sub (fz_pk_sub (ls' := [(5, fz_i (x3 + 1)), (4, fz_i x4), (3, fz_i x5), (0, fz_r 0), (1, fz_i on), (2, fz_i hr)]) [0, 2, 3, 4, 5, 6] rfl) ?_
            exact ih11 (x3 + 1) x4 x5 H21 hI25 hf28 (by omega) (by omega) (by omega) (by omega) (by first | exact fl_bt_y hv17 (by omega) k37 (by omega) | exact fl_bt_n hv17 (by omega) k37 (by omega)) (by omega)
          · refine fz_iload kX10_bestTown rfl rfl ?_
            refine fz_istore_n (ls' := [(3, fz_i x3), (6, fz_i y36), (5, fz_i x3), (4, fz_i x4), (0, fz_r 0), (1, fz_i on), (2, fz_i hr)]) kX10_bestTown rfl (by decide) rfl ?_
            refine fz_iload kX10_bestTown rfl rfl ?_
            refine fz_istore (ls' := [(4, fz_i y36), (3, fz_i x3), (6, fz_i y36), (5, fz_i x3), (0, fz_r 0), (1, fz_i on), (2, fz_i hr)]) kX10_bestTown rfl (by decide) rfl ?_
            refine fz_iincN (ls' := [(5, fz_i (x3 + 1)), (4, fz_i y36), (3, fz_i x3), (6, fz_i y36), (0, fz_r 0), (1, fz_i on), (2, fz_i hr)]) kX10_bestTown rfl (by decide) rfl (by omega) rfl ?_
            refine fz_goto (tgt := 9) kX10_bestTown rfl (by decide) ?_
            refine fz_sub (fz_pk_sub (ls' := [(5, fz_i (x3 + 1)), (4, fz_i y36), (3, fz_i x3), (0, fz_r 0), (1, fz_i on), (2, fz_i hr)]) [0, 1, 2, 4, 5, 6] rfl) ?_
            exact ih11 (x3 + 1) y36 x3 H21 hI25 hf28 (by omega) (by omega) (by omega) (by omega) (by first | exact fl_bt_y hv17 (by omega) k37 (by omega) | exact fl_bt_n hv17 (by omega) k37 (by omega)) (by omega)
  exact lp10 _ 0 0 (-2) h hI hf (by omega) (by omega) (by omega) (by omega) (rfl) (Nat.lt_succ_self _)

abbrev qX10_isUnsaid (h : fz_H) (on t hr : Int) : fz_H → Option fz_V → Prop := fun h' r0 => fz_Iv h' ∧ fz_fr [(18, 99999), (19, 99999), (29, 99999)] h h' ∧ ∃ r : Int, r0 = some (fz_i r) ∧ (r = 0 ∨ r = 1) ∧ ((r = 1 ∧ fl_uC h on t hr = 0) ∨ (r = 0 ∧ fl_uC h on t hr ≠ 0))
set_option maxHeartbeats 1000000 in
set_option maxRecDepth 100000 in
theorem sX10_isUnsaid (h : fz_H) (hI : fz_Iv h) (on t hr : Int) (hp0 : 0 ≤ t ∧ t < 8) : fz_R 5 mX10_isUnsaid 0 [(0, fz_r 0), (1, fz_i on), (2, fz_i t), (3, fz_i hr)] [] h (qX10_isUnsaid h on t hr) := by
  refine fz_knowl (fun hk => ?_)
  have hr_on : -2147483648 ≤ on ∧ on < 2147483648 := hk _ (List.Mem.tail _ (List.Mem.head _))
  have hr_t : -2147483648 ≤ t ∧ t < 2147483648 := hk _ (List.Mem.tail _ (List.Mem.tail _ (List.Mem.head _)))
  have hr_hr : -2147483648 ≤ hr ∧ hr < 2147483648 := hk _ (List.Mem.tail _ (List.Mem.tail _ (List.Mem.tail _ (List.Mem.head _))))
  clear hk
  have hf : fz_fr [(18, 99999), (19, 99999), (29, 99999)] h h := fz_fr_rf
  refine fz_aload_n kX10_isUnsaid rfl rfl ?_
  refine fz_getR (t := 27) kX10_isUnsaid rfl rfl ?_
  refine fz_iload_n kX10_isUnsaid rfl rfl ?_
  refine fz_iload_n kX10_isUnsaid rfl rfl ?_
  refine fz_iload_n kX10_isUnsaid rfl rfl ?_
  refine fz_iload_n kX10_isUnsaid rfl rfl ?_
  refine fz_callV (d' := 4) (M' := mX8_listen) (As := [fz_i on, fz_i on, fz_i t, fz_i hr]) (st := []) kX10_isUnsaid rfl rfl vX8_listen rfl rfl rfl rfl (Nat.le_of_ble_eq_true rfl) (Nat.le_of_ble_eq_true rfl) (by decide) (sX8_listen h hI on on t hr (by omega)) (fun H1 r2 q3 o4 => ?_)
  obtain ⟨hI5, hf6, rfl, f7⟩ := q3
  clear o4
  have hf8 := fz_fr_tr hf hf6 (show fz_su [(18, 99999), (19, 99999), (29, 99999)] [(18, 99999), (19, 99999), (29, 99999)] = true from rfl)
  refine fz_aload_n kX10_isUnsaid rfl rfl ?_
  refine fz_getR (t := 27) kX10_isUnsaid rfl rfl ?_
  refine fz_callV (d' := 0) (M' := mX8_marksSaid) (As := []) (st := []) kX10_isUnsaid rfl rfl vX8_marksSaid rfl rfl rfl rfl (Nat.le_of_ble_eq_true rfl) (Nat.le_of_ble_eq_true rfl) (by decide) (sX8_marksSaid H1 hI5  ) (fun H9 r10 q11 o12 => ?_)
  obtain ⟨e13, y16, rfl, f14, f15⟩ := q11
  subst H9
  clear o12
  refine fz_if_ne (tgt := 25) kX10_isUnsaid rfl (by decide) (fun c17 => ?_) (fun c17 => ?_)
  · refine fz_iconst ⟨by decide, by decide⟩ kX10_isUnsaid rfl ?_
    exact fz_zret kX10_isUnsaid rfl rfl (by omega) ⟨hI5, hf8, _, rfl, (by omega), (by first | exact Or.inl ⟨rfl, (fl_uC_in rfl f7 f15).symm.trans (by omega)⟩ | exact Or.inr ⟨rfl, fun z => by have q := fl_uC_in rfl f7 f15; omega⟩)⟩
  · refine fz_iconst ⟨by decide, by decide⟩ kX10_isUnsaid rfl ?_
    refine fz_goto (tgt := 26) kX10_isUnsaid rfl (by decide) ?_
    exact fz_zret kX10_isUnsaid rfl rfl (by omega) ⟨hI5, hf8, _, rfl, (by omega), (by first | exact Or.inl ⟨rfl, (fl_uC_in rfl f7 f15).symm.trans (by omega)⟩ | exact Or.inr ⟨rfl, fun z => by have q := fl_uC_in rfl f7 f15; omega⟩)⟩

abbrev qX10_atHour (h : fz_H) (on hr wh : Int) : fz_H → Option fz_V → Prop := fun h' r0 => fz_Iv h' ∧ fz_fr [(18, 99999), (19, 99999), (29, 99999)] h h' ∧ ∃ r : Int, r0 = some (fz_i r) ∧ ((-2147483648) ≤ r ∧ r ≤ 2147483647) ∧ (fl_ahC h on hr wh r)
set_option maxHeartbeats 1000000 in
set_option maxRecDepth 100000 in
theorem sX10_atHour (h : fz_H) (hI : fz_Iv h) (on hr wh : Int) : fz_R 6 mX10_atHour 0 [(0, fz_r 0), (1, fz_i on), (2, fz_i hr), (3, fz_i wh)] [] h (qX10_atHour h on hr wh) := by
  refine fz_knowl (fun hk => ?_)
  have hr_on : -2147483648 ≤ on ∧ on < 2147483648 := hk _ (List.Mem.tail _ (List.Mem.head _))
  have hr_hr : -2147483648 ≤ hr ∧ hr < 2147483648 := hk _ (List.Mem.tail _ (List.Mem.tail _ (List.Mem.head _)))
  have hr_wh : -2147483648 ≤ wh ∧ wh < 2147483648 := hk _ (List.Mem.tail _ (List.Mem.tail _ (List.Mem.tail _ (List.Mem.head _))))
  clear hk
  have hf : fz_fr [(18, 99999), (19, 99999), (29, 99999)] h h := fz_fr_rf
  refine fz_aload_n kX10_atHour rfl rfl ?_
  refine fz_iload_n kX10_atHour rfl rfl ?_
  refine fz_callV (d' := 0) (M' := mX10_isOne) (As := [fz_i on]) (st := []) kX10_atHour rfl rfl vX10_isOne rfl rfl rfl rfl (Nat.le_of_ble_eq_true rfl) (Nat.le_of_ble_eq_true rfl) (by decide) (sX10_isOne h hI on ) (fun H1 r2 q3 o4 => ?_)
  obtain ⟨e5, y6, rfl, p7⟩ := q3
  subst H1
  clear o4
  rcases p7 with ⟨rfl, c8⟩ | ⟨rfl, c8⟩
  · refine fz_if_eq (tgt := 25) kX10_atHour rfl (by decide) (fun c9 => ?_) (fun c9 => ?_)
    · exfalso; omega
    · refine fz_aload_n kX10_atHour rfl rfl ?_
      refine fz_iload_n kX10_atHour rfl rfl ?_
      refine fz_callV (d' := 0) (M' := mX10_isHour) (As := [fz_i hr]) (st := []) kX10_atHour rfl rfl vX10_isHour rfl rfl rfl rfl (Nat.le_of_ble_eq_true rfl) (Nat.le_of_ble_eq_true rfl) (by decide) (sX10_isHour h hI hr ) (fun H10 r11 q12 o13 => ?_)
      obtain ⟨e14, y15, rfl, p16⟩ := q12
      subst H10
      clear o13
      rcases p16 with ⟨rfl, c17⟩ | ⟨rfl, c17⟩
      · refine fz_if_eq (tgt := 25) kX10_atHour rfl (by decide) (fun c18 => ?_) (fun c18 => ?_)
        · exfalso; omega
        · refine fz_iload_n kX10_atHour rfl rfl ?_
          refine fz_if_lt (tgt := 25) kX10_atHour rfl (by decide) (fun c19 => ?_) (fun c19 => ?_)
          · refine fz_iconst ⟨by decide, by decide⟩ kX10_atHour rfl ?_
            exact fz_iret kX10_atHour rfl rfl (fun _ => ⟨hI, hf, _, rfl, (by omega), (by first | exact Or.inl ⟨(by unfold fl_ohA; omega), fl_ahx_2 (by omega) lost⟩ | exact Or.inl ⟨(by unfold fl_ohA; omega), fl_ahx_1 (by omega) (fl_eqw (f := fun w => fl_tb (fl_cC h on hr w) (h 1 7).toNat) lost (by omega))⟩ | exact Or.inr ⟨(by unfold fl_ohA; omega), rfl⟩)⟩)
          · refine fz_iload_n kX10_atHour rfl rfl ?_
            refine fz_iconst ⟨by decide, by decide⟩ kX10_atHour rfl ?_
            refine fz_icmp_le (tgt := 27) kX10_atHour rfl (by decide) (fun c21 => ?_) (fun c21 => ?_)
            · refine fz_iload_n kX10_atHour rfl rfl ?_
              refine fz_iconst ⟨by decide, by decide⟩ kX10_atHour rfl ?_
              refine fz_icmp_ne (tgt := 41) kX10_atHour rfl (by decide) (fun c22 => ?_) (fun c22 => ?_)
              · refine fz_aload_n kX10_atHour rfl rfl ?_
                refine fz_iload_n kX10_atHour rfl rfl ?_
                refine fz_iload_n kX10_atHour rfl rfl ?_
                refine fz_iload_n kX10_atHour rfl rfl ?_
                refine fz_iconst ⟨by decide, by decide⟩ kX10_atHour rfl ?_
                refine fz_icmp_ne (tgt := 53) kX10_atHour rfl (by decide) (fun c23 => ?_) (fun c23 => ?_)
                · refine fz_iconst ⟨by decide, by decide⟩ kX10_atHour rfl ?_
                  have b24 : 0 ≤ h 1 7 ∧ h 1 7 ≤ 8 := hI.1 1 _
                  refine fz_callV (d' := 5) (M' := mX10_townsWhere) (As := [fz_i on, fz_i hr, fz_i 0]) (st := []) kX10_atHour rfl rfl vX10_townsWhere rfl rfl rfl rfl (Nat.le_of_ble_eq_true rfl) (Nat.le_of_ble_eq_true rfl) (by decide) (sX10_townsWhere h hI on hr 0 ) (fun H25 r26 q27 o28 => ?_)
                  obtain ⟨hI29, hf30, y33, rfl, f31, f32⟩ := q27
                  clear o28
                  have hf34 := fz_fr_tr hf hf30 (show fz_su [(18, 99999), (19, 99999), (29, 99999)] [(18, 99999), (19, 99999), (29, 99999)] = true from rfl)
                  exact fz_iret kX10_atHour rfl rfl (fun _ => ⟨hI29, hf34, _, rfl, (by omega), (by first | exact Or.inl ⟨(by unfold fl_ohA; omega), fl_ahx_2 (by omega) lost⟩ | exact Or.inl ⟨(by unfold fl_ohA; omega), fl_ahx_1 (by omega) (fl_eqw (f := fun w => fl_tb (fl_cC h on hr w) (h 1 7).toNat) f32 (by omega))⟩ | exact Or.inr ⟨(by unfold fl_ohA; omega), rfl⟩)⟩)
                · refine fz_iconst ⟨by decide, by decide⟩ kX10_atHour rfl ?_
                  refine fz_goto (tgt := 54) kX10_atHour rfl (by decide) ?_
                  have b36 : 0 ≤ h 1 7 ∧ h 1 7 ≤ 8 := hI.1 1 _
                  refine fz_callV (d' := 5) (M' := mX10_townsWhere) (As := [fz_i on, fz_i hr, fz_i 1]) (st := []) kX10_atHour rfl rfl vX10_townsWhere rfl rfl rfl rfl (Nat.le_of_ble_eq_true rfl) (Nat.le_of_ble_eq_true rfl) (by decide) (sX10_townsWhere h hI on hr 1 ) (fun H37 r38 q39 o40 => ?_)
                  obtain ⟨hI41, hf42, y45, rfl, f43, f44⟩ := q39
                  clear o40
                  have hf46 := fz_fr_tr hf hf42 (show fz_su [(18, 99999), (19, 99999), (29, 99999)] [(18, 99999), (19, 99999), (29, 99999)] = true from rfl)
                  exact fz_iret kX10_atHour rfl rfl (fun _ => ⟨hI41, hf46, _, rfl, (by omega), (by first | exact Or.inl ⟨(by unfold fl_ohA; omega), fl_ahx_2 (by omega) lost⟩ | exact Or.inl ⟨(by unfold fl_ohA; omega), fl_ahx_1 (by omega) (fl_eqw (f := fun w => fl_tb (fl_cC h on hr w) (h 1 7).toNat) f44 (by omega))⟩ | exact Or.inr ⟨(by unfold fl_ohA; omega), rfl⟩)⟩)
              · refine fz_aload_n kX10_atHour rfl rfl ?_
                refine fz_iload_n kX10_atHour rfl rfl ?_
                refine fz_iload_n kX10_atHour rfl rfl ?_
                have b48 : 0 ≤ h 1 7 ∧ h 1 7 ≤ 8 := hI.1 1 _
                refine fz_callV (d' := 5) (M' := mX10_bestTown) (As := [fz_i on, fz_i hr]) (st := []) kX10_atHour rfl rfl vX10_bestTown rfl rfl rfl rfl (Nat.le_of_ble_eq_true rfl) (Nat.le_of_ble_eq_true rfl) (by decide) (sX10_bestTown h hI on hr ) (fun H49 r50 q51 o52 => ?_)
                obtain ⟨hI53, hf54, y57, rfl, f55, f56⟩ := q51
                clear o52
                have hf58 := fz_fr_tr hf hf54 (show fz_su [(18, 99999), (19, 99999), (29, 99999)] [(18, 99999), (19, 99999), (29, 99999)] = true from rfl)
                refine fz_goto (tgt := 57) kX10_atHour rfl (by decide) ?_
                exact fz_iret kX10_atHour rfl rfl (fun _ => ⟨hI53, hf58, _, rfl, (by omega), (by first | exact Or.inl ⟨(by unfold fl_ohA; omega), fl_ahx_2 (by omega) f56⟩ | exact Or.inl ⟨(by unfold fl_ohA; omega), fl_ahx_1 (by omega) (fl_eqw (f := fun w => fl_tb (fl_cC h on hr w) (h 1 7).toNat) lost (by omega))⟩ | exact Or.inr ⟨(by unfold fl_ohA; omega), rfl⟩)⟩)
            · refine fz_iconst ⟨by decide, by decide⟩ kX10_atHour rfl ?_
              exact fz_iret kX10_atHour rfl rfl (fun _ => ⟨hI, hf, _, rfl, (by omega), (by first | exact Or.inl ⟨(by unfold fl_ohA; omega), fl_ahx_2 (by omega) lost⟩ | exact Or.inl ⟨(by unfold fl_ohA; omega), fl_ahx_1 (by omega) (fl_eqw (f := fun w => fl_tb (fl_cC h on hr w) (h 1 7).toNat) lost (by omega))⟩ | exact Or.inr ⟨(by unfold fl_ohA; omega), rfl⟩)⟩)
      · refine fz_if_eq (tgt := 25) kX10_atHour rfl (by decide) (fun c61 => ?_) (fun c61 => ?_)
        · refine fz_iconst ⟨by decide, by decide⟩ kX10_atHour rfl ?_
          exact fz_iret kX10_atHour rfl rfl (fun _ => ⟨hI, hf, _, rfl, (by omega), (by first | exact Or.inl ⟨(by unfold fl_ohA; omega), fl_ahx_2 (by omega) lost⟩ | exact Or.inl ⟨(by unfold fl_ohA; omega), fl_ahx_1 (by omega) (fl_eqw (f := fun w => fl_tb (fl_cC h on hr w) (h 1 7).toNat) lost (by omega))⟩ | exact Or.inr ⟨(by unfold fl_ohA; omega), rfl⟩)⟩)
        · exfalso; omega
  · refine fz_if_eq (tgt := 25) kX10_atHour rfl (by decide) (fun c63 => ?_) (fun c63 => ?_)
    · refine fz_iconst ⟨by decide, by decide⟩ kX10_atHour rfl ?_
      exact fz_iret kX10_atHour rfl rfl (fun _ => ⟨hI, hf, _, rfl, (by omega), (by first | exact Or.inl ⟨(by unfold fl_ohA; omega), fl_ahx_2 (by omega) lost⟩ | exact Or.inl ⟨(by unfold fl_ohA; omega), fl_ahx_1 (by omega) (fl_eqw (f := fun w => fl_tb (fl_cC h on hr w) (h 1 7).toNat) lost (by omega))⟩ | exact Or.inr ⟨(by unfold fl_ohA; omega), rfl⟩)⟩)
    · exfalso; omega

abbrev qX10_home (h : fz_H) (on th wh : Int) : fz_H → Option fz_V → Prop := fun h' r0 => fz_Iv h' ∧ fz_fr [(18, 99999), (19, 99999), (29, 99999)] h h' ∧ ∃ r : Int, r0 = some (fz_i r) ∧ ((-2147483648) ≤ r ∧ r ≤ 2147483647) ∧ (fl_hoC h on th wh r)
set_option maxHeartbeats 1000000 in
set_option maxRecDepth 100000 in
theorem sX10_home (h : fz_H) (hI : fz_Iv h) (on th wh : Int) : fz_R 6 mX10_home 0 [(0, fz_r 0), (1, fz_i on), (2, fz_i th), (3, fz_i wh)] [] h (qX10_home h on th wh) := by
  refine fz_knowl (fun hk => ?_)
  have hr_on : -2147483648 ≤ on ∧ on < 2147483648 := hk _ (List.Mem.tail _ (List.Mem.head _))
  have hr_th : -2147483648 ≤ th ∧ th < 2147483648 := hk _ (List.Mem.tail _ (List.Mem.tail _ (List.Mem.head _)))
  have hr_wh : -2147483648 ≤ wh ∧ wh < 2147483648 := hk _ (List.Mem.tail _ (List.Mem.tail _ (List.Mem.tail _ (List.Mem.head _))))
  clear hk
  have hf : fz_fr [(18, 99999), (19, 99999), (29, 99999)] h h := fz_fr_rf
  have k1 : 0 ≤ h 1 7 ∧ h 1 7 ≤ 8 := hI.1 1 _
  refine fz_aload_n kX10_home rfl rfl ?_
  refine fz_iload_n kX10_home rfl rfl ?_
  refine fz_callV (d' := 0) (M' := mX10_isOne) (As := [fz_i on]) (st := []) kX10_home rfl rfl vX10_isOne rfl rfl rfl rfl (Nat.le_of_ble_eq_true rfl) (Nat.le_of_ble_eq_true rfl) (by decide) (sX10_isOne h hI on ) (fun H2 r3 q4 o5 => ?_)
  obtain ⟨e6, y7, rfl, p8⟩ := q4
  subst H2
  clear o5
  rcases p8 with ⟨rfl, c9⟩ | ⟨rfl, c9⟩
  · refine fz_if_eq (tgt := 25) kX10_home rfl (by decide) (fun c10 => ?_) (fun c10 => ?_)
    · exfalso; omega
    · refine fz_aload_n kX10_home rfl rfl ?_
      refine fz_iload_n kX10_home rfl rfl ?_
      have b11 : 0 ≤ h 1 7 ∧ h 1 7 ≤ 8 := hI.1 1 _
      refine fz_callV (d' := 1) (M' := mX10_isTownAndHour) (As := [fz_i th]) (st := []) kX10_home rfl rfl vX10_isTownAndHour rfl rfl rfl rfl (Nat.le_of_ble_eq_true rfl) (Nat.le_of_ble_eq_true rfl) (by decide) (sX10_isTownAndHour h hI th ) (fun H12 r13 q14 o15 => ?_)
      obtain ⟨e16, y17, rfl, p18⟩ := q14
      subst H12
      clear o15
      rcases p18 with ⟨rfl, c19⟩ | ⟨rfl, c19⟩
      · refine fz_if_eq (tgt := 25) kX10_home rfl (by decide) (fun c20 => ?_) (fun c20 => ?_)
        · exfalso; omega
        · refine fz_iload_n kX10_home rfl rfl ?_
          refine fz_if_lt (tgt := 25) kX10_home rfl (by decide) (fun c21 => ?_) (fun c21 => ?_)
          · refine fz_iconst ⟨by decide, by decide⟩ kX10_home rfl ?_
            exact fz_iret kX10_home rfl rfl (fun _ => ⟨hI, hf, _, rfl, (by omega), (by first | exact Or.inl ⟨(by unfold fl_oH; omega), fl_hx_1 lost (by omega) (by omega)⟩ | exact Or.inl ⟨(by unfold fl_oH; omega), fl_hx_2 lost (by omega) (by omega)⟩ | exact Or.inr ⟨(by unfold fl_oH; omega), rfl⟩)⟩)
          · refine fz_iload_n kX10_home rfl rfl ?_
            refine fz_iconst ⟨by decide, by decide⟩ kX10_home rfl ?_
            refine fz_icmp_le (tgt := 27) kX10_home rfl (by decide) (fun c23 => ?_) (fun c23 => ?_)
            · refine fz_bipush ⟨by decide, by decide⟩ kX10_home rfl ?_
              refine fz_istore (ls' := [(4, fz_i (-2)), (0, fz_r 0), (1, fz_i on), (2, fz_i th), (3, fz_i wh)]) kX10_home rfl (by decide) rfl ?_
              refine fz_sipush ⟨by decide, by decide⟩ kX10_home rfl ?_
              refine fz_istore (ls' := [(5, fz_i 1000), (4, fz_i (-2)), (0, fz_r 0), (1, fz_i on), (2, fz_i th), (3, fz_i wh)]) kX10_home rfl (by decide) rfl ?_
              refine fz_iconst ⟨by decide, by decide⟩ kX10_home rfl ?_
              refine fz_istore (ls' := [(6, fz_i 0), (5, fz_i 1000), (4, fz_i (-2)), (0, fz_r 0), (1, fz_i on), (2, fz_i th), (3, fz_i wh)]) kX10_home rfl (by decide) rfl ?_
              have lp31 : ∀ (n30 : Nat) (x24 : Int) (x25 : Int) (x26 : Int) (H27 : fz_H), fz_Iv H27 → fz_fr [(18, 99999), (19, 99999), (29, 99999)] h H27 → (0 ≤ x24 ∧ x24 ≤ 2147483647) → ((-2147483648) ≤ x25 ∧ x25 ≤ 2147483647) → ((-2147483648) ≤ x26 ∧ x26 ≤ 2147483647) → (x24 ≤ h 1 7) → ((x26, x25) = fl_hm (fl_ftC h (th / 1000)) (fl_uC h on) (th % 1000) (x24).toNat) → ((h 1 7) - x24).toNat < n30 → fz_R 6 mX10_home 39 [(6, fz_i x24), (5, fz_i x25), (4, fz_i x26), (0, fz_r 0), (1, fz_i on), (2, fz_i th), (3, fz_i wh)] [] H27 (qX10_home h on th wh) := by
                intro n30
                induction n30 with
                | zero => intro x24 x25 x26 H27 hI28 hf29 hv34 hv35 hv36 hv37 hv38 hm33; exact absurd hm33 (by omega)
                | succ n30 ih32 =>
                  intro x24 x25 x26 H27 hI28 hf29 hv34 hv35 hv36 hv37 hv38 hm33
                  refine fz_iload kX10_home rfl rfl ?_
                  refine fz_aload_n kX10_home rfl rfl ?_
                  refine fz_getR (t := 1) kX10_home rfl rfl ?_
                  refine fz_getV (v := h 1 7) kX10_home rfl rfl (hf29 1 7 rfl) ?_
                  have b39 : 0 ≤ h 1 7 ∧ h 1 7 ≤ 8 := hI.1 1 _
                  refine fz_icmp_ge (tgt := 115) kX10_home rfl (by decide) (fun c40 => ?_) (fun c40 => ?_)
                  · refine fz_iload kX10_home rfl rfl ?_
                    refine fz_bipush ⟨by decide, by decide⟩ kX10_home rfl ?_
                    refine fz_icmp_eq (tgt := 127) kX10_home rfl (by decide) (fun c41 => ?_) (fun c41 => ?_)
                    · refine fz_iload kX10_home rfl rfl ?_
                      refine fz_goto (tgt := 134) kX10_home rfl (by decide) ?_
                      exact fz_iret kX10_home rfl rfl (fun _ => ⟨hI28, hf29, _, rfl, (by omega), (by first | exact Or.inl ⟨(by unfold fl_oH; omega), fl_hx_1 hv38 (by omega) (by omega)⟩ | exact Or.inl ⟨(by unfold fl_oH; omega), fl_hx_2 hv38 (by omega) (by omega)⟩ | exact Or.inr ⟨(by unfold fl_oH; omega), rfl⟩)⟩)
                    · refine fz_iload_n kX10_home rfl rfl ?_
                      refine fz_iconst ⟨by decide, by decide⟩ kX10_home rfl ?_
                      refine fz_icmp_ne (tgt := 132) kX10_home rfl (by decide) (fun c43 => ?_) (fun c43 => ?_)
                      · refine fz_iload kX10_home rfl rfl ?_
                        exact fz_iret kX10_home rfl rfl (fun _ => ⟨hI28, hf29, _, rfl, (by omega), (by first | exact Or.inl ⟨(by unfold fl_oH; omega), fl_hx_1 hv38 (by omega) (by omega)⟩ | exact Or.inl ⟨(by unfold fl_oH; omega), fl_hx_2 hv38 (by omega) (by omega)⟩ | exact Or.inr ⟨(by unfold fl_oH; omega), rfl⟩)⟩)
                      · refine fz_iload kX10_home rfl rfl ?_
                        refine fz_goto (tgt := 134) kX10_home rfl (by decide) ?_
                        exact fz_iret kX10_home rfl rfl (fun _ => ⟨hI28, hf29, _, rfl, (by omega), (by first | exact Or.inl ⟨(by unfold fl_oH; omega), fl_hx_1 hv38 (by omega) (by omega)⟩ | exact Or.inl ⟨(by unfold fl_oH; omega), fl_hx_2 hv38 (by omega) (by omega)⟩ | exact Or.inr ⟨(by unfold fl_oH; omega), rfl⟩)⟩)
                  · refine fz_aload_n kX10_home rfl rfl ?_
                    refine fz_getR (t := 1) kX10_home rfl rfl ?_
                    refine fz_iload_n kX10_home rfl rfl ?_
                    refine fz_sipush ⟨by decide, by decide⟩ kX10_home rfl ?_
                    refine fz_idivN kX10_home rfl (by omega) (by omega) (by omega) ?_
                    refine fz_iload kX10_home rfl rfl ?_
                    refine fz_callV (d' := 0) (M' := mX2_hoursByFeet) (As := [fz_i (th / 1000), fz_i x24]) (st := []) kX10_home rfl rfl vX2_hoursByFeet rfl rfl rfl rfl (Nat.le_of_ble_eq_true rfl) (Nat.le_of_ble_eq_true rfl) (by decide) (sX2_hoursByFeet H27 hI28 (th / 1000) x24 (by omega) (by omega)) (fun H46 r47 q48 o49 => ?_)
                    obtain ⟨e50, y53, rfl, f51, f52⟩ := q48
                    subst H46
                    clear o49
                    have k54 : y53 = fl_ftC h (th / 1000) x24 := by have z := f52; rw [hf29 7 _ rfl] at z; exact z
                    refine fz_istore (ls' := [(7, fz_i y53), (6, fz_i x24), (5, fz_i x25), (4, fz_i x26), (0, fz_r 0), (1, fz_i on), (2, fz_i th), (3, fz_i wh)]) kX10_home rfl (by decide) rfl ?_
                    refine fz_iload_n kX10_home rfl rfl ?_
                    refine fz_sipush ⟨by decide, by decide⟩ kX10_home rfl ?_
                    refine fz_iremN kX10_home rfl (by omega) (by omega) (by omega) ?_
                    refine fz_iload kX10_home rfl rfl ?_
                    refine fz_iaddN kX10_home rfl (by omega) ?_
                    refine fz_istore (ls' := [(8, fz_i ((th % 1000) + y53)), (7, fz_i y53), (6, fz_i x24), (5, fz_i x25), (4, fz_i x26), (0, fz_r 0), (1, fz_i on), (2, fz_i th), (3, fz_i wh)]) kX10_home rfl (by decide) rfl ?_
                    refine fz_iload kX10_home rfl rfl ?_
                    refine fz_if_lt (tgt := 109) kX10_home rfl (by decide) (fun c56 => ?_) (fun c56 => ?_)
                    · refine fz_iincN (ls' := [(6, fz_i (x24 + 1)), (8, fz_i ((th % 1000) + y53)), (7, fz_i y53), (5, fz_i x25), (4, fz_i x26), (0, fz_r 0), (1, fz_i on), (2, fz_i th), (3, fz_i wh)]) kX10_home rfl (by decide) rfl (by omega) rfl ?_
                      refine fz_goto (tgt := 39) kX10_home rfl (by decide) ?_
                      refine fz_sub (fz_pk_sub (ls' := [(6, fz_i (x24 + 1)), (5, fz_i x25), (4, fz_i x26), (0, fz_r 0), (1, fz_i on), (2, fz_i th), (3, fz_i wh)]) [0, 3, 4, 5, 6, 7, 8] rfl) ?_
                      exact ih32 (x24 + 1) x25 x26 H27 hI28 hf29 (by omega) (by omega) (by omega) (by omega) (by first | exact fl_hm_y hv38 (by omega) k54 rfl ⟨by omega, by omega⟩ (lost.elim (fun q => q.2) (fun q => absurd q.1 (by omega))) | exact fl_hm_n hv38 (by omega) k54 rfl (Or.inl (by omega)) | exact fl_hm_n hv38 (by omega) k54 rfl (Or.inr (lost.elim (fun q => absurd q.1 (by omega)) (fun q => q.2)))) (by omega)
                    · refine fz_iload kX10_home rfl rfl ?_
                      refine fz_iload kX10_home rfl rfl ?_
                      refine fz_icmp_ge (tgt := 109) kX10_home rfl (by decide) (fun c58 => ?_) (fun c58 => ?_)
                      · refine fz_iincN (ls' := [(6, fz_i (x24 + 1)), (8, fz_i ((th % 1000) + y53)), (7, fz_i y53), (5, fz_i x25), (4, fz_i x26), (0, fz_r 0), (1, fz_i on), (2, fz_i th), (3, fz_i wh)]) kX10_home rfl (by decide) rfl (by omega) rfl ?_
                        refine fz_goto (tgt := 39) kX10_home rfl (by decide) ?_
                        refine fz_sub (fz_pk_sub (ls' := [(6, fz_i (x24 + 1)), (5, fz_i x25), (4, fz_i x26), (0, fz_r 0), (1, fz_i on), (2, fz_i th), (3, fz_i wh)]) [0, 3, 4, 5, 6, 7, 8] rfl) ?_
                        exact ih32 (x24 + 1) x25 x26 H27 hI28 hf29 (by omega) (by omega) (by omega) (by omega) (by first | exact fl_hm_y hv38 (by omega) k54 rfl ⟨by omega, by omega⟩ (lost.elim (fun q => q.2) (fun q => absurd q.1 (by omega))) | exact fl_hm_n hv38 (by omega) k54 rfl (Or.inl (by omega)) | exact fl_hm_n hv38 (by omega) k54 rfl (Or.inr (lost.elim (fun q => absurd q.1 (by omega)) (fun q => q.2)))) (by omega)
                      · refine fz_aload_n kX10_home rfl rfl ?_
                        refine fz_iload_n kX10_home rfl rfl ?_
                        refine fz_iload kX10_home rfl rfl ?_
                        refine fz_iload kX10_home rfl rfl ?_
                        refine fz_callV (d' := 5) (M' := mX10_isUnsaid) (As := [fz_i on, fz_i x24, fz_i ((th % 1000) + y53)]) (st := []) kX10_home rfl rfl vX10_isUnsaid rfl rfl rfl rfl (Nat.le_of_ble_eq_true rfl) (Nat.le_of_ble_eq_true rfl) (by decide) (sX10_isUnsaid H27 hI28 on x24 ((th % 1000) + y53) (by omega)) (fun H60 r61 q62 o63 => ?_)
                        obtain ⟨hI64, hf65, y67, rfl, p68, f66⟩ := q62
                        clear o63
                        have hf69 := fz_fr_tr hf29 hf65 (show fz_su [(18, 99999), (19, 99999), (29, 99999)] [(18, 99999), (19, 99999), (29, 99999)] = true from rfl)
                        have k70 : (y67 = 1 ∧ fl_uC h on x24 ((th % 1000) + y53) = 0) ∨ (y67 = 0 ∧ fl_uC h on x24 ((th % 1000) + y53) ≠ 0) := by rw [← fl_uC_fr (fl_SC_fr hf29 rfl)]; exact f66
                        refine fz_if_eq (tgt := 109) kX10_home rfl (by decide) (fun c72 => ?_) (fun c72 => ?_)
                        · refine fz_iincN (ls' := [(6, fz_i (x24 + 1)), (8, fz_i ((th % 1000) + y53)), (7, fz_i y53), (5, fz_i x25), (4, fz_i x26), (0, fz_r 0), (1, fz_i on), (2, fz_i th), (3, fz_i wh)]) kX10_home rfl (by decide) rfl (by omega) rfl ?_
                          refine fz_goto (tgt := 39) kX10_home rfl (by decide) ?_
                          refine fz_sub (fz_pk_sub (ls' := [(6, fz_i (x24 + 1)), (5, fz_i x25), (4, fz_i x26), (0, fz_r 0), (1, fz_i on), (2, fz_i th), (3, fz_i wh)]) [0, 3, 4, 5, 6, 7, 8] rfl) ?_
                          exact ih32 (x24 + 1) x25 x26 H60 hI64 hf69 (by omega) (by omega) (by omega) (by omega) (by first | exact fl_hm_y hv38 (by omega) k54 rfl ⟨by omega, by omega⟩ (k70.elim (fun q => q.2) (fun q => absurd q.1 (by omega))) | exact fl_hm_n hv38 (by omega) k54 rfl (Or.inl (by omega)) | exact fl_hm_n hv38 (by omega) k54 rfl (Or.inr (k70.elim (fun q => absurd q.1 (by omega)) (fun q => q.2)))) (by omega)
                        · refine fz_iload kX10_home rfl rfl ?_
                          refine fz_istore (ls' := [(4, fz_i x24), (8, fz_i ((th % 1000) + y53)), (7, fz_i y53), (6, fz_i x24), (5, fz_i x25), (0, fz_r 0), (1, fz_i on), (2, fz_i th), (3, fz_i wh)]) kX10_home rfl (by decide) rfl ?_
                          refine fz_iload kX10_home rfl rfl ?_
                          refine fz_istore (ls' := [(5, fz_i ((th % 1000) + y53)), (4, fz_i x24), (8, fz_i ((th % 1000) + y53)), (7, fz_i y53), (6, fz_i x24), (0, fz_r 0), (1, fz_i on), (2, fz_i th), (3, fz_i wh)]) kX10_home rfl (by decide) rfl ?_
                          refine fz_iincN (ls' := [(6, fz_i (x24 + 1)), (5, fz_i ((th % 1000) + y53)), (4, fz_i x24), (8, fz_i ((th % 1000) + y53)), (7, fz_i y53), (0, fz_r 0), (1, fz_i on), (2, fz_i th), (3, fz_i wh)]) kX10_home rfl (by decide) rfl (by omega) rfl ?_
                          refine fz_goto (tgt := 39) kX10_home rfl (by decide) ?_
                          refine fz_sub (fz_pk_sub (ls' := [(6, fz_i (x24 + 1)), (5, fz_i ((th % 1000) + y53)), (4, fz_i x24), (0, fz_r 0), (1, fz_i on), (2, fz_i th), (3, fz_i wh)]) [0, 1, 2, 5, 6, 7, 8] rfl) ?_
                          exact ih32 (x24 + 1) ((th % 1000) + y53) x24 H60 hI64 hf69 (by omega) (by omega) (by omega) (by omega) (by first | exact fl_hm_y hv38 (by omega) k54 rfl ⟨by omega, by omega⟩ (k70.elim (fun q => q.2) (fun q => absurd q.1 (by omega))) | exact fl_hm_n hv38 (by omega) k54 rfl (Or.inl (by omega)) | exact fl_hm_n hv38 (by omega) k54 rfl (Or.inr (k70.elim (fun q => absurd q.1 (by omega)) (fun q => q.2)))) (by omega)
              exact lp31 _ 0 1000 (-2) h hI hf (by omega) (by omega) (by omega) (by omega) (rfl) (Nat.lt_succ_self _)
            · refine fz_iconst ⟨by decide, by decide⟩ kX10_home rfl ?_
              exact fz_iret kX10_home rfl rfl (fun _ => ⟨hI, hf, _, rfl, (by omega), (by first | exact Or.inl ⟨(by unfold fl_oH; omega), fl_hx_1 lost (by omega) (by omega)⟩ | exact Or.inl ⟨(by unfold fl_oH; omega), fl_hx_2 lost (by omega) (by omega)⟩ | exact Or.inr ⟨(by unfold fl_oH; omega), rfl⟩)⟩)
      · refine fz_if_eq (tgt := 25) kX10_home rfl (by decide) (fun c77 => ?_) (fun c77 => ?_)
        · refine fz_iconst ⟨by decide, by decide⟩ kX10_home rfl ?_
          exact fz_iret kX10_home rfl rfl (fun _ => ⟨hI, hf, _, rfl, (by omega), (by first | exact Or.inl ⟨(by unfold fl_oH; omega), fl_hx_1 lost (by omega) (by omega)⟩ | exact Or.inl ⟨(by unfold fl_oH; omega), fl_hx_2 lost (by omega) (by omega)⟩ | exact Or.inr ⟨(by unfold fl_oH; omega), rfl⟩)⟩)
        · exfalso; omega
  · refine fz_if_eq (tgt := 25) kX10_home rfl (by decide) (fun c79 => ?_) (fun c79 => ?_)
    · refine fz_iconst ⟨by decide, by decide⟩ kX10_home rfl ?_
      exact fz_iret kX10_home rfl rfl (fun _ => ⟨hI, hf, _, rfl, (by omega), (by first | exact Or.inl ⟨(by unfold fl_oH; omega), fl_hx_1 lost (by omega) (by omega)⟩ | exact Or.inl ⟨(by unfold fl_oH; omega), fl_hx_2 lost (by omega) (by omega)⟩ | exact Or.inr ⟨(by unfold fl_oH; omega), rfl⟩)⟩)
    · exfalso; omega

abbrev qX10_route (h : fz_H) (on th k : Int) : fz_H → Option fz_V → Prop := fun h' r0 => fz_Iv h' ∧ fz_fr [(18, 99999), (19, 99999), (29, 99999), (33, 3), (33, 4), (33, 5), (33, 6), (33, 7), (34, 99999)] h h' ∧ ∃ r : Int, r0 = some (fz_i r) ∧ ((-2147483648) ≤ r ∧ r ≤ 2147483647) ∧ (fl_rtCC h on th k r)
set_option maxHeartbeats 1000000 in
set_option maxRecDepth 100000 in
theorem sX10_route (h : fz_H) (hI : fz_Iv h) (on th k : Int) : fz_R 10 mX10_route 0 [(0, fz_r 0), (1, fz_i on), (2, fz_i th), (3, fz_i k)] [] h (qX10_route h on th k) := by
  refine fz_knowl (fun hk => ?_)
  have hr_on : -2147483648 ≤ on ∧ on < 2147483648 := hk _ (List.Mem.tail _ (List.Mem.head _))
  have hr_th : -2147483648 ≤ th ∧ th < 2147483648 := hk _ (List.Mem.tail _ (List.Mem.tail _ (List.Mem.head _)))
  have hr_k : -2147483648 ≤ k ∧ k < 2147483648 := hk _ (List.Mem.tail _ (List.Mem.tail _ (List.Mem.tail _ (List.Mem.head _))))
  clear hk
  have hf : fz_fr [(18, 99999), (19, 99999), (29, 99999), (33, 3), (33, 4), (33, 5), (33, 6), (33, 7), (34, 99999)] h h := fz_fr_rf
  refine fz_aload_n kX10_route rfl rfl ?_
  refine fz_iload_n kX10_route rfl rfl ?_
  refine fz_callV (d' := 0) (M' := mX10_isOne) (As := [fz_i on]) (st := []) kX10_route rfl rfl vX10_isOne rfl rfl rfl rfl (Nat.le_of_ble_eq_true rfl) (Nat.le_of_ble_eq_true rfl) (by decide) (sX10_isOne h hI on ) (fun H1 r2 q3 o4 => ?_)
  obtain ⟨e5, y6, rfl, p7⟩ := q3
  subst H1
  clear o4
  rcases p7 with ⟨rfl, c8⟩ | ⟨rfl, c8⟩
  · refine fz_if_eq (tgt := 21) kX10_route rfl (by decide) (fun c9 => ?_) (fun c9 => ?_)
    · exfalso; omega
    · refine fz_aload_n kX10_route rfl rfl ?_
      refine fz_iload_n kX10_route rfl rfl ?_
      have b10 : 0 ≤ h 1 7 ∧ h 1 7 ≤ 8 := hI.1 1 _
      refine fz_callV (d' := 1) (M' := mX10_isTownAndHour) (As := [fz_i th]) (st := []) kX10_route rfl rfl vX10_isTownAndHour rfl rfl rfl rfl (Nat.le_of_ble_eq_true rfl) (Nat.le_of_ble_eq_true rfl) (by decide) (sX10_isTownAndHour h hI th ) (fun H11 r12 q13 o14 => ?_)
      obtain ⟨e15, y16, rfl, p17⟩ := q13
      subst H11
      clear o14
      rcases p17 with ⟨rfl, c18⟩ | ⟨rfl, c18⟩
      · refine fz_if_eq (tgt := 21) kX10_route rfl (by decide) (fun c19 => ?_) (fun c19 => ?_)
        · exfalso; omega
        · refine fz_iload_n kX10_route rfl rfl ?_
          refine fz_iconst ⟨by decide, by decide⟩ kX10_route rfl ?_
          refine fz_icmp_ge (tgt := 24) kX10_route rfl (by decide) (fun c20 => ?_) (fun c20 => ?_)
          · refine fz_aload_n kX10_route rfl rfl ?_
            refine fz_getR (t := 33) kX10_route rfl rfl ?_
            refine fz_iload_n kX10_route rfl rfl ?_
            refine fz_iload_n kX10_route rfl rfl ?_
            refine fz_sipush ⟨by decide, by decide⟩ kX10_route rfl ?_
            refine fz_idivN kX10_route rfl (by omega) (by omega) (by omega) ?_
            refine fz_iload_n kX10_route rfl rfl ?_
            refine fz_sipush ⟨by decide, by decide⟩ kX10_route rfl ?_
            refine fz_iremN kX10_route rfl (by omega) (by omega) (by omega) ?_
            refine fz_callV (d' := 9) (M' := mX6_seek) (As := [fz_i on, fz_i (th / 1000), fz_i (th % 1000)]) (st := []) kX10_route rfl rfl vX6_seek rfl rfl rfl rfl (Nat.le_of_ble_eq_true rfl) (Nat.le_of_ble_eq_true rfl) (by decide) (sX6_seek h hI on (th / 1000) (th % 1000) (by omega) (by omega) (by omega)) (fun H21 r22 q23 o24 => ?_)
            obtain ⟨hI25, hf26, rfl, f27⟩ := q23
            clear o24
            have hf28 := fz_fr_tr hf hf26 (show fz_su [(18, 99999), (19, 99999), (29, 99999), (33, 3), (33, 4), (33, 5), (33, 6), (33, 7), (34, 99999)] [(18, 99999), (19, 99999), (29, 99999), (33, 3), (33, 4), (33, 5), (33, 6), (33, 7), (34, 99999)] = true from rfl)
            refine fz_iload_n kX10_route rfl rfl ?_
            refine fz_iconst ⟨by decide, by decide⟩ kX10_route rfl ?_
            refine fz_icmp_ne (tgt := 57) kX10_route rfl (by decide) (fun c29 => ?_) (fun c29 => ?_)
            · refine fz_aload_n kX10_route rfl rfl ?_
              refine fz_getR (t := 33) kX10_route rfl rfl ?_
              refine fz_iload_n kX10_route rfl rfl ?_
              have b30 : 0 ≤ H21 33 6 ∧ H21 33 6 ≤ 4 := hI25.1 33 _
              have b31 : (-2147483648) ≤ H21 33 7 ∧ H21 33 7 ≤ 2147483647 := hI25.1 33 _
              refine fz_callV (d' := 0) (M' := mX6_townAt) (As := [fz_i k]) (st := []) kX10_route rfl rfl vX6_townAt rfl rfl rfl rfl (Nat.le_of_ble_eq_true rfl) (Nat.le_of_ble_eq_true rfl) (by decide) (sX6_townAt H21 hI25 k ) (fun H32 r33 q34 o35 => ?_)
              obtain ⟨e36, y39, rfl, f37, f38⟩ := q34
              subst H32
              clear o35
              exact fz_iret kX10_route rfl rfl (fun _ => ⟨hI25, hf28, _, rfl, (by omega), (by first | exact Or.inl ⟨(by unfold fl_oRo; omega), lost.symm.trans (fl_rox_1 f27 (by omega))⟩ | exact Or.inl ⟨(by unfold fl_oRo; omega), fl_rox_2 f27 (by omega) f38⟩ | exact Or.inr ⟨(by unfold fl_oRo; omega), rfl⟩)⟩)
            · refine fz_aload_n kX10_route rfl rfl ?_
              refine fz_getR (t := 33) kX10_route rfl rfl ?_
              obtain ⟨v41, e42⟩ : ∃ z, H21 33 (5) = z := ⟨_, rfl⟩
              refine fz_getV (v := v41) kX10_route rfl rfl e42 ?_
              have b43 : (-2147483648) ≤ v41 ∧ v41 ≤ 2147483647 := by rw [← e42]; exact hI25.1 33 _
              refine fz_goto (tgt := 65) kX10_route rfl (by decide) ?_
              exact fz_iret kX10_route rfl rfl (fun _ => ⟨hI25, hf28, _, rfl, (by omega), (by first | exact Or.inl ⟨(by unfold fl_oRo; omega), e42.symm.trans (fl_rox_1 f27 (by omega))⟩ | exact Or.inl ⟨(by unfold fl_oRo; omega), fl_rox_2 f27 (by omega) lost⟩ | exact Or.inr ⟨(by unfold fl_oRo; omega), rfl⟩)⟩)
          · refine fz_ldc (x := (-2000000000)) kX10_route rfl rfl rfl ?_
            exact fz_iret kX10_route rfl rfl (fun _ => ⟨hI, hf, _, rfl, (by omega), (by first | exact Or.inl ⟨(by unfold fl_oRo; omega), lost.symm.trans (fl_rox_1 lost (by omega))⟩ | exact Or.inl ⟨(by unfold fl_oRo; omega), fl_rox_2 lost (by omega) lost⟩ | exact Or.inr ⟨(by unfold fl_oRo; omega), rfl⟩)⟩)
      · refine fz_if_eq (tgt := 21) kX10_route rfl (by decide) (fun c46 => ?_) (fun c46 => ?_)
        · refine fz_ldc (x := (-2000000000)) kX10_route rfl rfl rfl ?_
          exact fz_iret kX10_route rfl rfl (fun _ => ⟨hI, hf, _, rfl, (by omega), (by first | exact Or.inl ⟨(by unfold fl_oRo; omega), lost.symm.trans (fl_rox_1 lost (by omega))⟩ | exact Or.inl ⟨(by unfold fl_oRo; omega), fl_rox_2 lost (by omega) lost⟩ | exact Or.inr ⟨(by unfold fl_oRo; omega), rfl⟩)⟩)
        · exfalso; omega
  · refine fz_if_eq (tgt := 21) kX10_route rfl (by decide) (fun c48 => ?_) (fun c48 => ?_)
    · refine fz_ldc (x := (-2000000000)) kX10_route rfl rfl rfl ?_
      exact fz_iret kX10_route rfl rfl (fun _ => ⟨hI, hf, _, rfl, (by omega), (by first | exact Or.inl ⟨(by unfold fl_oRo; omega), lost.symm.trans (fl_rox_1 lost (by omega))⟩ | exact Or.inl ⟨(by unfold fl_oRo; omega), fl_rox_2 lost (by omega) lost⟩ | exact Or.inr ⟨(by unfold fl_oRo; omega), rfl⟩)⟩)
    · exfalso; omega
