/-! ===== what the methods keep ===== -/
abbrev qX10_mend (h : fz_H) (nu wh v : Int) : fz_H → Option fz_V → Prop := fun h' r0 => fz_Iv h' ∧ fz_fr [(2, 99999), (3, 99999), (4, 99999), (7, 99999), (8, 99999), (12, 99999), (13, 99999), (14, 99999), (27, 8), (27, 9), (28, 99999), (35, 4), (35, 5), (36, 99999), (37, 99999), (38, 99999), (39, 99999)] h h' ∧ fz_Xc h' ∧ ∃ r : Int, r0 = some (fz_i r) ∧ ((-2000000000) ≤ r ∧ r ≤ 999) ∧ (fz_mC h h' nu wh v r)
set_option maxHeartbeats 1000000 in
set_option maxRecDepth 100000 in
theorem sX10_mend (h : fz_H) (hI : fz_Iv h) (nu wh v : Int) (hX : fz_Xc h) : fz_R 4 mX10_mend 0 [(0, fz_r 0), (1, fz_i nu), (2, fz_i wh), (3, fz_i v)] [] h (qX10_mend h nu wh v) := by
  refine fz_knowl (fun hk => ?_)
  have hr_nu : -2147483648 ≤ nu ∧ nu < 2147483648 := hk _ (List.Mem.tail _ (List.Mem.head _))
  have hr_wh : -2147483648 ≤ wh ∧ wh < 2147483648 := hk _ (List.Mem.tail _ (List.Mem.tail _ (List.Mem.head _)))
  have hr_v : -2147483648 ≤ v ∧ v < 2147483648 := hk _ (List.Mem.tail _ (List.Mem.tail _ (List.Mem.tail _ (List.Mem.head _))))
  clear hk
  have hf : fz_fr [(2, 99999), (3, 99999), (4, 99999), (7, 99999), (8, 99999), (12, 99999), (13, 99999), (14, 99999), (27, 8), (27, 9), (28, 99999), (35, 4), (35, 5), (36, 99999), (37, 99999), (38, 99999), (39, 99999)] h h := fz_fr_rf
  refine fz_aload_n kX10_mend rfl rfl ?_
  refine fz_iload_n kX10_mend rfl rfl ?_
  refine fz_iload_n kX10_mend rfl rfl ?_
  have b1 : 0 ≤ h 1 7 ∧ h 1 7 ≤ 8 := hI.1 1 _
  have b2 : 0 ≤ h 1 8 ∧ h 1 8 ≤ 12 := hI.1 1 _
  have b3 : 0 ≤ h 9 5 ∧ h 9 5 ≤ 10 := hI.1 9 _
  refine fz_callV (d' := 1) (M' := mX10_isMendable) (As := [fz_i nu, fz_i wh]) (st := []) kX10_mend rfl rfl vX10_isMendable rfl rfl rfl rfl (Nat.le_of_ble_eq_true rfl) (Nat.le_of_ble_eq_true rfl) (by decide) (sX10_isMendable h hI nu wh ) (fun H4 r5 q6 o7 => ?_)
  obtain ⟨e8, y9, rfl, p10⟩ := q6
  subst H4
  clear o7
  rcases p10 with ⟨rfl, c11⟩ | ⟨rfl, c11⟩
  · refine fz_if_eq (tgt := 27) kX10_mend rfl (by decide) (fun c12 => ?_) (fun c12 => ?_)
    · exfalso; omega
    · have k13 := c11
      have k16 : 0 ≤ wh ∧ wh ≤ 8 := by omega
      refine fz_iload_n kX10_mend rfl rfl ?_
      refine fz_gets kX10_mend rfl ?_
      refine fz_iload_n kX10_mend rfl rfl ?_
      obtain ⟨z17, e18⟩ : ∃ z, h 201 (wh).toNat = z := ⟨_, rfl⟩
      refine fz_taldV (v := z17) kX10_mend rfl ⟨by decide, by decide⟩ (by omega) (by rw [show h 201 100000 = 9 by rw [hI.2.1]; rfl]; omega) e18 ?_
      refine fz_icmp_lt (tgt := 27) kX10_mend rfl (by decide) (fun c20 => ?_) (fun c20 => ?_)
      · refine fz_ldc (x := (-2000000000)) kX10_mend rfl rfl rfl ?_
        exact fz_iret kX10_mend rfl rfl (fun _ => ⟨hI, hf, hX, _, rfl, (by omega), (by first | exact Or.inr (Or.inr ⟨lost, lost, lost, _, lost, lost, lost (fz_PC_e (lost 1 7 rfl) (lost 1 8 rfl) (lost 9 5 rfl) k13)⟩) | exact Or.inr (Or.inl ⟨lost, lost, lost, rfl⟩) | exact Or.inl ⟨fun z => absurd z.1 c11, rfl, rfl⟩ | exact Or.inl ⟨fun z => (by have := z.2; omega), rfl, rfl⟩)⟩)
      · refine fz_iload_n kX10_mend rfl rfl ?_
        refine fz_gets kX10_mend rfl ?_
        refine fz_iload_n kX10_mend rfl rfl ?_
        obtain ⟨z22, e23⟩ : ∃ z, h 202 (wh).toNat = z := ⟨_, rfl⟩
        refine fz_taldV (v := z22) kX10_mend rfl ⟨by decide, by decide⟩ (by omega) (by rw [show h 202 100000 = 9 by rw [hI.2.2.1]; rfl]; omega) e23 ?_
        refine fz_icmp_le (tgt := 30) kX10_mend rfl (by decide) (fun c25 => ?_) (fun c25 => ?_)
        · have k26 : fz_okC h nu wh v := ⟨k13, by omega, by omega⟩
          refine fz_aload_n kX10_mend rfl rfl ?_
          refine fz_iload_n kX10_mend rfl rfl ?_
          refine fz_iload_n kX10_mend rfl rfl ?_
          refine fz_callV (d' := 2) (M' := mX10_numberOf) (As := [fz_i nu, fz_i wh]) (st := []) kX10_mend rfl rfl vX10_numberOf rfl rfl rfl rfl (Nat.le_of_ble_eq_true rfl) (Nat.le_of_ble_eq_true rfl) (by decide) (sX10_numberOf h hI nu wh ) (fun H28 r29 q30 o31 => ?_)
          obtain ⟨e32, y36, rfl, f33, f34, f35⟩ := q30
          subst H28
          clear o31
          have k37 : y36 = fz_gC h nu wh := fz_nC_y f35 k13
          refine fz_istore (ls' := [(4, fz_i y36), (0, fz_r 0), (1, fz_i nu), (2, fz_i wh), (3, fz_i v)]) kX10_mend rfl (by decide) rfl ?_
          refine fz_iload kX10_mend rfl rfl ?_
          refine fz_iload_n kX10_mend rfl rfl ?_
          refine fz_icmp_eq (tgt := 63) kX10_mend rfl (by decide) (fun c39 => ?_) (fun c39 => ?_)
          · refine fz_iload kX10_mend rfl rfl ?_
            exact fz_iret kX10_mend rfl rfl (fun _ => ⟨hI, hf, hX, _, rfl, (by omega), (by first | exact Or.inr (Or.inr ⟨k26, k37, c39, _, lost, lost, lost (fz_PC_e (lost 1 7 rfl) (lost 1 8 rfl) (lost 9 5 rfl) k13)⟩) | exact Or.inr (Or.inl ⟨k26, k37, c39, rfl⟩) | exact Or.inl ⟨fun z => absurd z.1 c11, rfl, rfl⟩ | exact Or.inl ⟨fun z => (by have := z.2; omega), rfl, rfl⟩)⟩)
          · have k41 := f34 c11
            have k43 := fz_ocT hI.2.1 hI.2.2.1 (show 0 ≤ wh ∧ wh ≤ 8 by omega) (show h 201 (wh).toNat ≤ v by omega) (show v ≤ h 202 (wh).toNat by omega)
            have k46 : 0 ≤ wh ∧ wh ≤ 8 := by omega
            have k47 := fz_oc_rng (by omega) k41
            have k48 := fz_oc_rng (by omega) k43
            refine fz_aload_n kX10_mend rfl rfl ?_
            refine fz_getR (t := 35) kX10_mend rfl rfl ?_
            refine fz_iload_n kX10_mend rfl rfl ?_
            refine fz_iload_n kX10_mend rfl rfl ?_
            refine fz_iload kX10_mend rfl rfl ?_
            refine fz_iload_n kX10_mend rfl rfl ?_
            refine fz_callV (d' := 2) (M' := mX0_add) (As := [fz_i nu, fz_i wh, fz_i y36, fz_i v]) (st := []) kX10_mend rfl rfl vX0_add rfl rfl rfl rfl (Nat.le_of_ble_eq_true rfl) (Nat.le_of_ble_eq_true rfl) (by decide) (sX0_add h hI nu wh y36 v (hX) (by omega) (by omega) (by omega) k41 k43) (fun H49 r50 q51 o52 => ?_)
            obtain ⟨hI53, hf54, hX55, rfl, f56⟩ := q51
            clear o52
            have hf57 := fz_fr_tr hf hf54 (show fz_su [(35, 4), (35, 5), (36, 99999), (37, 99999), (38, 99999), (39, 99999)] [(2, 99999), (3, 99999), (4, 99999), (7, 99999), (8, 99999), (12, 99999), (13, 99999), (14, 99999), (27, 8), (27, 9), (28, 99999), (35, 4), (35, 5), (36, 99999), (37, 99999), (38, 99999), (39, 99999)] = true from rfl)
            have k58 := k43
            refine fz_aload_n kX10_mend rfl rfl ?_
            refine fz_iload_n kX10_mend rfl rfl ?_
            refine fz_iload_n kX10_mend rfl rfl ?_
            refine fz_iload_n kX10_mend rfl rfl ?_
            refine fz_callV (d' := 3) (M' := mX10_assign) (As := [fz_i nu, fz_i wh, fz_i v]) (st := []) kX10_mend rfl rfl vX10_assign rfl rfl rfl rfl (Nat.le_of_ble_eq_true rfl) (Nat.le_of_ble_eq_true rfl) (by decide) (sX10_assign H49 hI53 nu wh v (by omega) k58) (fun H60 r61 q62 o63 => ?_)
            obtain ⟨hI64, hf65, rfl, f66⟩ := q62
            clear o63
            have hf67 := fz_fr_tr hf57 hf65 (show fz_su [(2, 99999), (3, 99999), (4, 99999), (7, 99999), (8, 99999), (12, 99999), (13, 99999), (14, 99999), (27, 8), (27, 9), (28, 99999)] [(2, 99999), (3, 99999), (4, 99999), (7, 99999), (8, 99999), (12, 99999), (13, 99999), (14, 99999), (27, 8), (27, 9), (28, 99999), (35, 4), (35, 5), (36, 99999), (37, 99999), (38, 99999), (39, 99999)] = true from rfl)
            have hX68 : fz_Xc H60 := fz_Xc_fr hf65 rfl hX55
            refine fz_iload kX10_mend rfl rfl ?_
            exact fz_iret kX10_mend rfl rfl (fun _ => ⟨hI64, hf67, hX68, _, rfl, (by omega), (by first | exact Or.inr (Or.inr ⟨k26, k37, c39, _, f56, hf54, f66 (fz_PC_e (hf54 1 7 rfl) (hf54 1 8 rfl) (hf54 9 5 rfl) k13)⟩) | exact Or.inr (Or.inl ⟨k26, k37, c39, rfl⟩) | exact Or.inl ⟨fun z => absurd z.1 c11, rfl, rfl⟩ | exact Or.inl ⟨fun z => (by have := z.2; omega), rfl, rfl⟩)⟩)
        · refine fz_ldc (x := (-2000000000)) kX10_mend rfl rfl rfl ?_
          exact fz_iret kX10_mend rfl rfl (fun _ => ⟨hI, hf, hX, _, rfl, (by omega), (by first | exact Or.inr (Or.inr ⟨lost, lost, lost, _, lost, lost, lost (fz_PC_e (lost 1 7 rfl) (lost 1 8 rfl) (lost 9 5 rfl) k13)⟩) | exact Or.inr (Or.inl ⟨lost, lost, lost, rfl⟩) | exact Or.inl ⟨fun z => absurd z.1 c11, rfl, rfl⟩ | exact Or.inl ⟨fun z => (by have := z.2; omega), rfl, rfl⟩)⟩)
  · refine fz_if_eq (tgt := 27) kX10_mend rfl (by decide) (fun c71 => ?_) (fun c71 => ?_)
    · refine fz_ldc (x := (-2000000000)) kX10_mend rfl rfl rfl ?_
      exact fz_iret kX10_mend rfl rfl (fun _ => ⟨hI, hf, hX, _, rfl, (by omega), (by first | exact Or.inr (Or.inr ⟨lost, lost, lost, _, lost, lost, lost (fz_PC_e (lost 1 7 rfl) (lost 1 8 rfl) (lost 9 5 rfl) lost)⟩) | exact Or.inr (Or.inl ⟨lost, lost, lost, rfl⟩) | exact Or.inl ⟨fun z => absurd z.1 c11, rfl, rfl⟩ | exact Or.inl ⟨fun z => (by have := z.2; omega), rfl, rfl⟩)⟩)
    · exfalso; omega

abbrev qX10_undo (h : fz_H) : fz_H → Option fz_V → Prop := fun h' r0 => fz_Iv h' ∧ fz_fr [(2, 99999), (3, 99999), (4, 99999), (7, 99999), (8, 99999), (12, 99999), (13, 99999), (14, 99999), (27, 8), (27, 9), (28, 99999), (35, 4)] h h' ∧ fz_Xc h' ∧ ∃ r : Int, r0 = some (fz_i r) ∧ ((-5) ≤ r ∧ r ≤ 40) ∧ (fz_uC h h' r)
set_option maxHeartbeats 1000000 in
set_option maxRecDepth 100000 in
theorem sX10_undo (h : fz_H) (hI : fz_Iv h) (hX : fz_Xc h) : fz_R 4 mX10_undo 0 [(0, fz_r 0)] [] h (qX10_undo h) := by
  have hf : fz_fr [(2, 99999), (3, 99999), (4, 99999), (7, 99999), (8, 99999), (12, 99999), (13, 99999), (14, 99999), (27, 8), (27, 9), (28, 99999), (35, 4)] h h := fz_fr_rf
  have k1 : 0 ≤ h 35 4 ∧ h 35 4 ≤ 40 := hI.1 35 _
  refine fz_aload_n kX10_undo rfl rfl ?_
  refine fz_getR (t := 35) kX10_undo rfl rfl ?_
  refine fz_callV (d' := 0) (M' := mX0_stepBack) (As := []) (st := []) kX10_undo rfl rfl vX0_stepBack rfl rfl rfl rfl (Nat.le_of_ble_eq_true rfl) (Nat.le_of_ble_eq_true rfl) (by decide) (sX0_stepBack h hI  ) (fun H2 r3 q4 o5 => ?_)
  obtain ⟨hI6, hf7, y10, rfl, f8, f9⟩ := q4
  clear o5
  have hf11 := fz_fr_tr hf hf7 (show fz_su [(35, 4)] [(2, 99999), (3, 99999), (4, 99999), (7, 99999), (8, 99999), (12, 99999), (13, 99999), (14, 99999), (27, 8), (27, 9), (28, 99999), (35, 4)] = true from rfl)
  have hX12 : fz_Xc H2 := fz_Xc_fr hf7 rfl hX
  refine fz_istore_n (ls' := [(1, fz_i y10), (0, fz_r 0)]) kX10_undo rfl (by decide) rfl ?_
  refine fz_iload_n kX10_undo rfl rfl ?_
  refine fz_if_ge (tgt := 15) kX10_undo rfl (by decide) (fun c13 => ?_) (fun c13 => ?_)
  · have k14 : 0 < h 35 4 ∧ y10 = h 35 4 - 1 ∧ H2 = fz_up h 35 4 (h 35 4 - 1) := f9.elim (fun z => absurd z.2.1 (by omega)) id
    refine fz_aload_n kX10_undo rfl rfl ?_
    refine fz_aload_n kX10_undo rfl rfl ?_
    refine fz_getR (t := 35) kX10_undo rfl rfl ?_
    refine fz_getR (t := 36) kX10_undo rfl rfl ?_
    refine fz_iload_n kX10_undo rfl rfl ?_
    refine fz_ialdV (n := 40) (v := h 36 (y10.toNat)) kX10_undo rfl rfl (by omega) (by omega) (hf11 36 _ rfl) ?_
    have b16 : (-2147483648) ≤ h 36 (y10.toNat) ∧ h 36 (y10.toNat) ≤ 2147483647 := hI.1 36 _
    refine fz_aload_n kX10_undo rfl rfl ?_
    refine fz_getR (t := 35) kX10_undo rfl rfl ?_
    refine fz_getR (t := 37) kX10_undo rfl rfl ?_
    refine fz_iload_n kX10_undo rfl rfl ?_
    refine fz_ialdV (n := 40) (v := h 37 (y10.toNat)) kX10_undo rfl rfl (by omega) (by omega) (hf11 37 _ rfl) ?_
    have b17 : 0 ≤ h 37 (y10.toNat) ∧ h 37 (y10.toNat) ≤ 8 := hI.1 37 _
    refine fz_aload_n kX10_undo rfl rfl ?_
    refine fz_getR (t := 35) kX10_undo rfl rfl ?_
    refine fz_getR (t := 38) kX10_undo rfl rfl ?_
    refine fz_iload_n kX10_undo rfl rfl ?_
    refine fz_ialdV (n := 40) (v := h 38 (y10.toNat)) kX10_undo rfl rfl (by omega) (by omega) (hf11 38 _ rfl) ?_
    have b18 : (-9) ≤ h 38 (y10.toNat) ∧ h 38 (y10.toNat) ≤ 999 := hI.1 38 _
    have k19 : fz_oc (h 37 (y10.toNat)) (h 38 (y10.toNat)) := (hX (y10).toNat (by omega)).1
    refine fz_callV (d' := 3) (M' := mX10_assign) (As := [fz_i (h 36 (y10.toNat)), fz_i (h 37 (y10.toNat)), fz_i (h 38 (y10.toNat))]) (st := []) kX10_undo rfl rfl vX10_assign rfl rfl rfl rfl (Nat.le_of_ble_eq_true rfl) (Nat.le_of_ble_eq_true rfl) (by decide) (sX10_assign H2 hI6 (h 36 (y10.toNat)) (h 37 (y10.toNat)) (h 38 (y10.toNat)) (by omega) k19) (fun H21 r22 q23 o24 => ?_)
    obtain ⟨hI25, hf26, rfl, f27⟩ := q23
    clear o24
    have hf28 := fz_fr_tr hf11 hf26 (show fz_su [(2, 99999), (3, 99999), (4, 99999), (7, 99999), (8, 99999), (12, 99999), (13, 99999), (14, 99999), (27, 8), (27, 9), (28, 99999)] [(2, 99999), (3, 99999), (4, 99999), (7, 99999), (8, 99999), (12, 99999), (13, 99999), (14, 99999), (27, 8), (27, 9), (28, 99999), (35, 4)] = true from rfl)
    have hX29 : fz_Xc H21 := fz_Xc_fr hf26 rfl hX12
    refine fz_aload_n kX10_undo rfl rfl ?_
    refine fz_getR (t := 35) kX10_undo rfl rfl ?_
    obtain ⟨v30, e31⟩ : ∃ z, H21 35 (4) = z := ⟨_, rfl⟩
    refine fz_getV (v := v30) kX10_undo rfl rfl e31 ?_
    have b32 : 0 ≤ v30 ∧ v30 ≤ 40 := by rw [← e31]; exact hI25.1 35 _
    have k33 : H21 35 4 = h 35 4 - 1 := (hf26 35 4 rfl).trans (by rw [k14.2.2]; exact fz_up_e)
    exact fz_iret kX10_undo rfl rfl (fun _ => ⟨hI25, hf28, hX29, _, rfl, (by omega), (by first | exact f9.elim (fun z => Or.inl ⟨by omega, by omega, z.2.2⟩) (fun z => absurd z.2.1 (by omega)) | exact fz_uC_in k14.2.2 rfl k14.1 (by omega) f27 (by rw [k14.2.1]) (by rw [k14.2.1]) (by rw [k14.2.1]))⟩)
  · refine fz_bipush ⟨by decide, by decide⟩ kX10_undo rfl ?_
    exact fz_iret kX10_undo rfl rfl (fun _ => ⟨hI6, hf11, hX12, _, rfl, (by omega), (by first | exact f9.elim (fun z => Or.inl ⟨by omega, by omega, z.2.2⟩) (fun z => absurd z.2.1 (by omega)) | exact fz_uC_in lost.2.2 rfl lost.1 (by omega) lost (by rw [lost.2.1]) (by rw [lost.2.1]) (by rw [lost.2.1]))⟩)

abbrev qX10_redo (h : fz_H) : fz_H → Option fz_V → Prop := fun h' r0 => fz_Iv h' ∧ fz_fr [(2, 99999), (3, 99999), (4, 99999), (7, 99999), (8, 99999), (12, 99999), (13, 99999), (14, 99999), (27, 8), (27, 9), (28, 99999), (35, 4)] h h' ∧ fz_Xc h' ∧ ∃ r : Int, r0 = some (fz_i r) ∧ ((-40) ≤ r ∧ r ≤ 40) ∧ (fz_vC h h' r)
set_option maxHeartbeats 1000000 in
set_option maxRecDepth 100000 in
theorem sX10_redo (h : fz_H) (hI : fz_Iv h) (hX : fz_Xc h) : fz_R 4 mX10_redo 0 [(0, fz_r 0)] [] h (qX10_redo h) := by
  have hf : fz_fr [(2, 99999), (3, 99999), (4, 99999), (7, 99999), (8, 99999), (12, 99999), (13, 99999), (14, 99999), (27, 8), (27, 9), (28, 99999), (35, 4)] h h := fz_fr_rf
  have k1 : 0 ≤ h 35 4 ∧ h 35 4 ≤ 40 := hI.1 35 _
  refine fz_aload_n kX10_redo rfl rfl ?_
  refine fz_getR (t := 35) kX10_redo rfl rfl ?_
  refine fz_callV (d' := 0) (M' := mX0_stepAhead) (As := []) (st := []) kX10_redo rfl rfl vX0_stepAhead rfl rfl rfl rfl (Nat.le_of_ble_eq_true rfl) (Nat.le_of_ble_eq_true rfl) (by decide) (sX0_stepAhead h hI  ) (fun H2 r3 q4 o5 => ?_)
  obtain ⟨hI6, hf7, y10, rfl, f8, f9⟩ := q4
  clear o5
  have hf11 := fz_fr_tr hf hf7 (show fz_su [(35, 4)] [(2, 99999), (3, 99999), (4, 99999), (7, 99999), (8, 99999), (12, 99999), (13, 99999), (14, 99999), (27, 8), (27, 9), (28, 99999), (35, 4)] = true from rfl)
  have hX12 : fz_Xc H2 := fz_Xc_fr hf7 rfl hX
  refine fz_istore_n (ls' := [(1, fz_i y10), (0, fz_r 0)]) kX10_redo rfl (by decide) rfl ?_
  refine fz_iload_n kX10_redo rfl rfl ?_
  refine fz_if_ge (tgt := 15) kX10_redo rfl (by decide) (fun c13 => ?_) (fun c13 => ?_)
  · have k14 : h 35 4 < h 35 5 ∧ y10 = h 35 4 ∧ H2 = fz_up h 35 4 (h 35 4 + 1) := f9.elim (fun z => absurd z.2.1 (by omega)) id
    refine fz_aload_n kX10_redo rfl rfl ?_
    refine fz_aload_n kX10_redo rfl rfl ?_
    refine fz_getR (t := 35) kX10_redo rfl rfl ?_
    refine fz_getR (t := 36) kX10_redo rfl rfl ?_
    refine fz_iload_n kX10_redo rfl rfl ?_
    refine fz_ialdV (n := 40) (v := h 36 (y10.toNat)) kX10_redo rfl rfl (by omega) (by omega) (hf11 36 _ rfl) ?_
    have b16 : (-2147483648) ≤ h 36 (y10.toNat) ∧ h 36 (y10.toNat) ≤ 2147483647 := hI.1 36 _
    refine fz_aload_n kX10_redo rfl rfl ?_
    refine fz_getR (t := 35) kX10_redo rfl rfl ?_
    refine fz_getR (t := 37) kX10_redo rfl rfl ?_
    refine fz_iload_n kX10_redo rfl rfl ?_
    refine fz_ialdV (n := 40) (v := h 37 (y10.toNat)) kX10_redo rfl rfl (by omega) (by omega) (hf11 37 _ rfl) ?_
    have b17 : 0 ≤ h 37 (y10.toNat) ∧ h 37 (y10.toNat) ≤ 8 := hI.1 37 _
    refine fz_aload_n kX10_redo rfl rfl ?_
    refine fz_getR (t := 35) kX10_redo rfl rfl ?_
    refine fz_getR (t := 39) kX10_redo rfl rfl ?_
    refine fz_iload_n kX10_redo rfl rfl ?_
    refine fz_ialdV (n := 40) (v := h 39 (y10.toNat)) kX10_redo rfl rfl (by omega) (by omega) (hf11 39 _ rfl) ?_
    have b18 : (-9) ≤ h 39 (y10.toNat) ∧ h 39 (y10.toNat) ≤ 999 := hI.1 39 _
    have k19 : fz_oc (h 37 (y10.toNat)) (h 39 (y10.toNat)) := (hX (y10).toNat (by omega)).2
    refine fz_callV (d' := 3) (M' := mX10_assign) (As := [fz_i (h 36 (y10.toNat)), fz_i (h 37 (y10.toNat)), fz_i (h 39 (y10.toNat))]) (st := []) kX10_redo rfl rfl vX10_assign rfl rfl rfl rfl (Nat.le_of_ble_eq_true rfl) (Nat.le_of_ble_eq_true rfl) (by decide) (sX10_assign H2 hI6 (h 36 (y10.toNat)) (h 37 (y10.toNat)) (h 39 (y10.toNat)) (by omega) k19) (fun H21 r22 q23 o24 => ?_)
    obtain ⟨hI25, hf26, rfl, f27⟩ := q23
    clear o24
    have hf28 := fz_fr_tr hf11 hf26 (show fz_su [(2, 99999), (3, 99999), (4, 99999), (7, 99999), (8, 99999), (12, 99999), (13, 99999), (14, 99999), (27, 8), (27, 9), (28, 99999)] [(2, 99999), (3, 99999), (4, 99999), (7, 99999), (8, 99999), (12, 99999), (13, 99999), (14, 99999), (27, 8), (27, 9), (28, 99999), (35, 4)] = true from rfl)
    have hX29 : fz_Xc H21 := fz_Xc_fr hf26 rfl hX12
    refine fz_aload_n kX10_redo rfl rfl ?_
    refine fz_getR (t := 35) kX10_redo rfl rfl ?_
    refine fz_getV (v := h 35 5) kX10_redo rfl rfl (hf28 35 5 rfl) ?_
    have b30 : 0 ≤ h 35 5 ∧ h 35 5 ≤ 40 := hI.1 35 _
    refine fz_aload_n kX10_redo rfl rfl ?_
    refine fz_getR (t := 35) kX10_redo rfl rfl ?_
    obtain ⟨v31, e32⟩ : ∃ z, H21 35 (4) = z := ⟨_, rfl⟩
    refine fz_getV (v := v31) kX10_redo rfl rfl e32 ?_
    have b33 : 0 ≤ v31 ∧ v31 ≤ 40 := by rw [← e32]; exact hI25.1 35 _
    have k34 : H21 35 4 = h 35 4 + 1 := (hf26 35 4 rfl).trans (by rw [k14.2.2]; exact fz_up_e)
    refine fz_isubN kX10_redo rfl (by omega) ?_
    exact fz_iret kX10_redo rfl rfl (fun _ => ⟨hI25, hf28, hX29, _, rfl, (by omega), (by first | exact f9.elim (fun z => Or.inl ⟨by omega, by omega, z.2.2⟩) (fun z => absurd z.2.1 (by omega)) | exact fz_vC_in k14.2.2 rfl k14.2.1 k14.1 (by omega) f27 rfl rfl rfl)⟩)
  · refine fz_bipush ⟨by decide, by decide⟩ kX10_redo rfl ?_
    exact fz_iret kX10_redo rfl rfl (fun _ => ⟨hI6, hf11, hX12, _, rfl, (by omega), (by first | exact f9.elim (fun z => Or.inl ⟨by omega, by omega, z.2.2⟩) (fun z => absurd z.2.1 (by omega)) | exact fz_vC_in lost.2.2 rfl lost.2.1 lost.1 (by omega) lost rfl rfl rfl)⟩)

abbrev qX10_feed (h : fz_H) (c : Int) : fz_H → Option fz_V → Prop := fun h' r0 => fz_Iv h' ∧ fz_fr [(20, 2), (26, 99999)] h h' ∧ ∃ r : Int, r0 = some (fz_i r) ∧ ((-3) ≤ r ∧ r ≤ 120) ∧ ((0 ≤ c ∧ c ≤ 255 ∧ h 20 2 < 120 ∧ r = h 20 2 + 1 ∧ h' 20 2 = h 20 2 + 1) ∨ (0 ≤ c ∧ c ≤ 255 ∧ 120 ≤ h 20 2 ∧ r = -3 ∧ h' 20 2 = h 20 2) ∨ (¬ (0 ≤ c ∧ c ≤ 255) ∧ r = -1 ∧ h' 20 2 = h 20 2))
set_option maxHeartbeats 1000000 in
set_option maxRecDepth 100000 in
theorem sX10_feed (h : fz_H) (hI : fz_Iv h) (c : Int) : fz_R 1 mX10_feed 0 [(0, fz_r 0), (1, fz_i c)] [] h (qX10_feed h c) := by
  refine fz_knowl (fun hk => ?_)
  have hr_c : -2147483648 ≤ c ∧ c < 2147483648 := hk _ (List.Mem.tail _ (List.Mem.head _))
  clear hk
  have hf : fz_fr [(20, 2), (26, 99999)] h h := fz_fr_rf
  have b1 : 0 ≤ h 20 2 ∧ h 20 2 ≤ 120 := hI.1 20 _
  refine fz_iload_n kX10_feed rfl rfl ?_
  refine fz_if_lt (tgt := 11) kX10_feed rfl (by decide) (fun c2 => ?_) (fun c2 => ?_)
  · refine fz_iconst ⟨by decide, by decide⟩ kX10_feed rfl ?_
    exact fz_iret kX10_feed rfl rfl (fun _ => ⟨hI, hf, _, rfl, (by omega), (by omega)⟩)
  · refine fz_iload_n kX10_feed rfl rfl ?_
    refine fz_sipush ⟨by decide, by decide⟩ kX10_feed rfl ?_
    refine fz_icmp_le (tgt := 13) kX10_feed rfl (by decide) (fun c3 => ?_) (fun c3 => ?_)
    · refine fz_aload_n kX10_feed rfl rfl ?_
      refine fz_getR (t := 20) kX10_feed rfl rfl ?_
      refine fz_iload_n kX10_feed rfl rfl ?_
      refine fz_callV (d' := 0) (M' := mX5_take) (As := [fz_i c]) (st := []) kX10_feed rfl rfl vX5_take rfl rfl rfl rfl (Nat.le_of_ble_eq_true rfl) (Nat.le_of_ble_eq_true rfl) (by decide) (sX5_take h hI c (by omega)) (fun H4 r5 q6 o7 => ?_)
      obtain ⟨hI8, hf9, y12, rfl, f10, f11⟩ := q6
      clear o7
      have hf13 := fz_fr_tr hf hf9 (show fz_su [(20, 2), (26, 99999)] [(20, 2), (26, 99999)] = true from rfl)
      exact fz_iret kX10_feed rfl rfl (fun _ => ⟨hI8, hf13, _, rfl, (by omega), (by omega)⟩)
    · refine fz_iconst ⟨by decide, by decide⟩ kX10_feed rfl ?_
      exact fz_iret kX10_feed rfl rfl (fun _ => ⟨hI, hf, _, rfl, (by omega), (by omega)⟩)

abbrev qX10_law (h : fz_H) : fz_H → Option fz_V → Prop := fun h' r0 => fz_Iv h' ∧ fz_fr [(15, 4), (16, 99999), (17, 99999), (20, 2), (20, 3), (20, 4), (21, 4), (22, 99999), (23, 99999)] h h' ∧ ∃ r : Int, r0 = some (fz_i r) ∧ ((-220) ≤ r ∧ r ≤ 1) ∧ (h' 20 2 = 0)
set_option maxHeartbeats 1000000 in
set_option maxRecDepth 100000 in
theorem sX10_law (h : fz_H) (hI : fz_Iv h) : fz_R 46 mX10_law 0 [(0, fz_r 0)] [] h (qX10_law h) := by
  have hf : fz_fr [(15, 4), (16, 99999), (17, 99999), (20, 2), (20, 3), (20, 4), (21, 4), (22, 99999), (23, 99999)] h h := fz_fr_rf
  refine fz_aload_n kX10_law rfl rfl ?_
  refine fz_getR (t := 20) kX10_law rfl rfl ?_
  refine fz_callV (d' := 45) (M' := mX5_readText) (As := []) (st := []) kX10_law rfl rfl vX5_readText rfl rfl rfl rfl (Nat.le_of_ble_eq_true rfl) (Nat.le_of_ble_eq_true rfl) (by decide) (sX5_readText h hI  ) (fun H1 r2 q3 o4 => ?_)
  obtain ⟨hI5, hf6, y8, rfl, f7⟩ := q3
  clear o4
  have hf9 := fz_fr_tr hf hf6 (show fz_su [(20, 3), (20, 4), (21, 4), (22, 99999), (23, 99999)] [(15, 4), (16, 99999), (17, 99999), (20, 2), (20, 3), (20, 4), (21, 4), (22, 99999), (23, 99999)] = true from rfl)
  have t10 : H1 20 2 = h 20 2 := hf6 20 2 rfl
  refine fz_istore_n (ls' := [(1, fz_i y8), (0, fz_r 0)]) kX10_law rfl (by decide) rfl ?_
  refine fz_aload_n kX10_law rfl rfl ?_
  refine fz_getR (t := 20) kX10_law rfl rfl ?_
  refine fz_callV (d' := 0) (M' := mX5_clear) (As := []) (st := []) kX10_law rfl rfl vX5_clear rfl rfl rfl rfl (Nat.le_of_ble_eq_true rfl) (Nat.le_of_ble_eq_true rfl) (by decide) (sX5_clear H1 hI5  ) (fun H11 r12 q13 o14 => ?_)
  obtain ⟨hI15, hf16, rfl, f17⟩ := q13
  clear o14
  have hf18 := fz_fr_tr hf9 hf16 (show fz_su [(20, 2)] [(15, 4), (16, 99999), (17, 99999), (20, 2), (20, 3), (20, 4), (21, 4), (22, 99999), (23, 99999)] = true from rfl)
  refine fz_iload_n kX10_law rfl rfl ?_
  refine fz_if_lt (tgt := 24) kX10_law rfl (by decide) (fun c19 => ?_) (fun c19 => ?_)
  · refine fz_aload_n kX10_law rfl rfl ?_
    refine fz_getR (t := 15) kX10_law rfl rfl ?_
    refine fz_aload_n kX10_law rfl rfl ?_
    refine fz_getR (t := 20) kX10_law rfl rfl ?_
    refine fz_getR (t := 21) kX10_law rfl rfl ?_
    refine fz_callV (d' := 1) (M' := mX3_become) (As := [fz_r 21]) (st := []) kX10_law rfl rfl vX3_become rfl rfl rfl rfl (Nat.le_of_ble_eq_true rfl) (Nat.le_of_ble_eq_true rfl) (by decide) (sX3_become H11 hI15  ) (fun H20 r21 q22 o23 => ?_)
    obtain ⟨hI24, hf25, rfl⟩ := q22
    clear o23
    have hf26 := fz_fr_tr hf18 hf25 (show fz_su [(15, 4), (16, 99999), (17, 99999)] [(15, 4), (16, 99999), (17, 99999), (20, 2), (20, 3), (20, 4), (21, 4), (22, 99999), (23, 99999)] = true from rfl)
    have k27 : H20 20 2 = 0 := (hf25 20 2 rfl).trans f17
    have t28 : H20 20 2 = H11 20 2 := hf25 20 2 rfl
    refine fz_iconst ⟨by decide, by decide⟩ kX10_law rfl ?_
    exact fz_iret kX10_law rfl rfl (fun _ => ⟨hI24, hf26, _, rfl, (by omega), (by omega)⟩)
  · refine fz_bipush ⟨by decide, by decide⟩ kX10_law rfl ?_
    refine fz_iload_n kX10_law rfl rfl ?_
    refine fz_isubN kX10_law rfl (by omega) ?_
    exact fz_iret kX10_law rfl rfl (fun _ => ⟨hI15, hf18, _, rfl, (by omega), (by omega)⟩)

abbrev qX10_way (h : fz_H) (ab wh : Int) : fz_H → Option fz_V → Prop := fun h' r0 => h' = h ∧ ∃ r : Int, r0 = some (fz_i r) ∧ ((-2) ≤ r ∧ r ≤ 9999)
set_option maxHeartbeats 1000000 in
set_option maxRecDepth 100000 in
theorem sX10_way (h : fz_H) (hI : fz_Iv h) (ab wh : Int) : fz_R 2 mX10_way 0 [(0, fz_r 0), (1, fz_i ab), (2, fz_i wh)] [] h (qX10_way h ab wh) := by
  refine fz_knowl (fun hk => ?_)
  have hr_ab : -2147483648 ≤ ab ∧ ab < 2147483648 := hk _ (List.Mem.tail _ (List.Mem.head _))
  have hr_wh : -2147483648 ≤ wh ∧ wh < 2147483648 := hk _ (List.Mem.tail _ (List.Mem.tail _ (List.Mem.head _)))
  clear hk
  refine fz_aload_n kX10_way rfl rfl ?_
  refine fz_iload_n kX10_way rfl rfl ?_
  have b1 : 0 ≤ h 1 7 ∧ h 1 7 ≤ 8 := hI.1 1 _
  refine fz_callV (d' := 1) (M' := mX10_arePair) (As := [fz_i ab]) (st := []) kX10_way rfl rfl vX10_arePair rfl rfl rfl rfl (Nat.le_of_ble_eq_true rfl) (Nat.le_of_ble_eq_true rfl) (by decide) (sX10_arePair h hI ab ) (fun H2 r3 q4 o5 => ?_)
  obtain ⟨e6, y7, rfl, p8⟩ := q4
  subst H2
  clear o5
  rcases p8 with ⟨rfl, c9⟩ | ⟨rfl, c9⟩
  · refine fz_if_eq (tgt := 17) kX10_way rfl (by decide) (fun c10 => ?_) (fun c10 => ?_)
    · exfalso; omega
    · refine fz_iload_n kX10_way rfl rfl ?_
      refine fz_if_lt (tgt := 17) kX10_way rfl (by decide) (fun c11 => ?_) (fun c11 => ?_)
      · refine fz_iconst ⟨by decide, by decide⟩ kX10_way rfl ?_
        exact fz_iret kX10_way rfl rfl (fun _ => ⟨rfl, _, rfl, (by omega)⟩)
      · refine fz_iload_n kX10_way rfl rfl ?_
        refine fz_iconst ⟨by decide, by decide⟩ kX10_way rfl ?_
        refine fz_icmp_le (tgt := 19) kX10_way rfl (by decide) (fun c12 => ?_) (fun c12 => ?_)
        · refine fz_iload_n kX10_way rfl rfl ?_
          refine fz_if_ne (tgt := 41) kX10_way rfl (by decide) (fun c13 => ?_) (fun c13 => ?_)
          · refine fz_aload_n kX10_way rfl rfl ?_
            refine fz_getR (t := 1) kX10_way rfl rfl ?_
            refine fz_iload_n kX10_way rfl rfl ?_
            refine fz_bipush ⟨by decide, by decide⟩ kX10_way rfl ?_
            refine fz_idivN kX10_way rfl (by omega) (by omega) (by omega) ?_
            refine fz_iload_n kX10_way rfl rfl ?_
            refine fz_bipush ⟨by decide, by decide⟩ kX10_way rfl ?_
            refine fz_iremN kX10_way rfl (by omega) (by omega) (by omega) ?_
            refine fz_callV (d' := 0) (M' := mX2_hoursByCarters) (As := [fz_i (ab / 10), fz_i (ab % 10)]) (st := []) kX10_way rfl rfl vX2_hoursByCarters rfl rfl rfl rfl (Nat.le_of_ble_eq_true rfl) (Nat.le_of_ble_eq_true rfl) (by decide) (sX2_hoursByCarters h hI (ab / 10) (ab % 10) (by omega) (by omega)) (fun H14 r15 q16 o17 => ?_)
            obtain ⟨e18, y20, rfl, f19⟩ := q16
            subst H14
            clear o17
            exact fz_iret kX10_way rfl rfl (fun _ => ⟨rfl, _, rfl, (by omega)⟩)
          · refine fz_aload_n kX10_way rfl rfl ?_
            refine fz_getR (t := 1) kX10_way rfl rfl ?_
            refine fz_iload_n kX10_way rfl rfl ?_
            refine fz_bipush ⟨by decide, by decide⟩ kX10_way rfl ?_
            refine fz_idivN kX10_way rfl (by omega) (by omega) (by omega) ?_
            refine fz_iload_n kX10_way rfl rfl ?_
            refine fz_bipush ⟨by decide, by decide⟩ kX10_way rfl ?_
            refine fz_iremN kX10_way rfl (by omega) (by omega) (by omega) ?_
            refine fz_callV (d' := 0) (M' := mX2_hoursByFeet) (As := [fz_i (ab / 10), fz_i (ab % 10)]) (st := []) kX10_way rfl rfl vX2_hoursByFeet rfl rfl rfl rfl (Nat.le_of_ble_eq_true rfl) (Nat.le_of_ble_eq_true rfl) (by decide) (sX2_hoursByFeet h hI (ab / 10) (ab % 10) (by omega) (by omega)) (fun H21 r22 q23 o24 => ?_)
            obtain ⟨e25, y27, rfl, f26⟩ := q23
            subst H21
            clear o24
            refine fz_goto (tgt := 56) kX10_way rfl (by decide) ?_
            exact fz_iret kX10_way rfl rfl (fun _ => ⟨rfl, _, rfl, (by omega)⟩)
        · refine fz_iconst ⟨by decide, by decide⟩ kX10_way rfl ?_
          exact fz_iret kX10_way rfl rfl (fun _ => ⟨rfl, _, rfl, (by omega)⟩)
  · refine fz_if_eq (tgt := 17) kX10_way rfl (by decide) (fun c28 => ?_) (fun c28 => ?_)
    · refine fz_iconst ⟨by decide, by decide⟩ kX10_way rfl ?_
      exact fz_iret kX10_way rfl rfl (fun _ => ⟨rfl, _, rfl, (by omega)⟩)
    · exfalso; omega

abbrev qX10_heard (h : fz_H) (d t : Int) : fz_H → Option fz_V → Prop := fun h' r0 => h' = h ∧ ∃ r : Int, r0 = some (fz_i r) ∧ ((-2) ≤ r ∧ r ≤ 11007)
set_option maxHeartbeats 1000000 in
set_option maxRecDepth 100000 in
theorem sX10_heard (h : fz_H) (hI : fz_Iv h) (d t : Int) : fz_R 2 mX10_heard 0 [(0, fz_r 0), (1, fz_i d), (2, fz_i t)] [] h (qX10_heard h d t) := by
  refine fz_knowl (fun hk => ?_)
  have hr_d : -2147483648 ≤ d ∧ d < 2147483648 := hk _ (List.Mem.tail _ (List.Mem.head _))
  have hr_t : -2147483648 ≤ t ∧ t < 2147483648 := hk _ (List.Mem.tail _ (List.Mem.tail _ (List.Mem.head _)))
  clear hk
  refine fz_aload_n kX10_heard rfl rfl ?_
  refine fz_getR (t := 9) kX10_heard rfl rfl ?_
  refine fz_iload_n kX10_heard rfl rfl ?_
  have b1 : 0 ≤ h 9 5 ∧ h 9 5 ≤ 10 := hI.1 9 _
  refine fz_callV (d' := 0) (M' := mX4_isDeed) (As := [fz_i d]) (st := []) kX10_heard rfl rfl vX4_isDeed rfl rfl rfl rfl (Nat.le_of_ble_eq_true rfl) (Nat.le_of_ble_eq_true rfl) (by decide) (sX4_isDeed h hI d ) (fun H2 r3 q4 o5 => ?_)
  obtain ⟨e6, y7, rfl, p8⟩ := q4
  subst H2
  clear o5
  rcases p8 with ⟨rfl, c9⟩ | ⟨rfl, c9⟩
  · refine fz_if_eq (tgt := 22) kX10_heard rfl (by decide) (fun c10 => ?_) (fun c10 => ?_)
    · exfalso; omega
    · refine fz_aload_n kX10_heard rfl rfl ?_
      refine fz_getR (t := 1) kX10_heard rfl rfl ?_
      refine fz_iload_n kX10_heard rfl rfl ?_
      have b11 : 0 ≤ h 1 7 ∧ h 1 7 ≤ 8 := hI.1 1 _
      refine fz_callV (d' := 0) (M' := mX2_isTown) (As := [fz_i t]) (st := []) kX10_heard rfl rfl vX2_isTown rfl rfl rfl rfl (Nat.le_of_ble_eq_true rfl) (Nat.le_of_ble_eq_true rfl) (by decide) (sX2_isTown h hI t ) (fun H12 r13 q14 o15 => ?_)
      obtain ⟨e16, y17, rfl, p18⟩ := q14
      subst H12
      clear o15
      rcases p18 with ⟨rfl, c19⟩ | ⟨rfl, c19⟩
      · refine fz_if_ne (tgt := 24) kX10_heard rfl (by decide) (fun c20 => ?_) (fun c20 => ?_)
        · refine fz_aload_n kX10_heard rfl rfl ?_
          refine fz_getR (t := 27) kX10_heard rfl rfl ?_
          refine fz_iload_n kX10_heard rfl rfl ?_
          refine fz_iload_n kX10_heard rfl rfl ?_
          refine fz_callV (d' := 1) (M' := mX8_hourHeard) (As := [fz_i d, fz_i t]) (st := []) kX10_heard rfl rfl vX8_hourHeard rfl rfl rfl rfl (Nat.le_of_ble_eq_true rfl) (Nat.le_of_ble_eq_true rfl) (by decide) (sX8_hourHeard h hI d t (by omega) (by omega)) (fun H21 r22 q23 o24 => ?_)
          obtain ⟨e25, y27, rfl, f26⟩ := q23
          subst H21
          clear o24
          exact fz_iret kX10_heard rfl rfl (fun _ => ⟨rfl, _, rfl, (by omega)⟩)
        · exfalso; omega
      · refine fz_if_ne (tgt := 24) kX10_heard rfl (by decide) (fun c28 => ?_) (fun c28 => ?_)
        · exfalso; omega
        · refine fz_iconst ⟨by decide, by decide⟩ kX10_heard rfl ?_
          exact fz_iret kX10_heard rfl rfl (fun _ => ⟨rfl, _, rfl, (by omega)⟩)
  · refine fz_if_eq (tgt := 22) kX10_heard rfl (by decide) (fun c29 => ?_) (fun c29 => ?_)
    · refine fz_iconst ⟨by decide, by decide⟩ kX10_heard rfl ?_
      exact fz_iret kX10_heard rfl rfl (fun _ => ⟨rfl, _, rfl, (by omega)⟩)
    · exfalso; omega

abbrev qX10_loud (h : fz_H) (d th : Int) : fz_H → Option fz_V → Prop := fun h' r0 => fz_Iv h' ∧ fz_fr [(18, 99999), (19, 99999)] h h' ∧ ∃ r : Int, r0 = some (fz_i r) ∧ ((-1) ≤ r ∧ r ≤ 805306404)
set_option maxHeartbeats 1000000 in
set_option maxRecDepth 100000 in
theorem sX10_loud (h : fz_H) (hI : fz_Iv h) (d th : Int) : fz_R 4 mX10_loud 0 [(0, fz_r 0), (1, fz_i d), (2, fz_i th)] [] h (qX10_loud h d th) := by
  refine fz_knowl (fun hk => ?_)
  have hr_d : -2147483648 ≤ d ∧ d < 2147483648 := hk _ (List.Mem.tail _ (List.Mem.head _))
  have hr_th : -2147483648 ≤ th ∧ th < 2147483648 := hk _ (List.Mem.tail _ (List.Mem.tail _ (List.Mem.head _)))
  clear hk
  have hf : fz_fr [(18, 99999), (19, 99999)] h h := fz_fr_rf
  refine fz_aload_n kX10_loud rfl rfl ?_
  refine fz_getR (t := 9) kX10_loud rfl rfl ?_
  refine fz_iload_n kX10_loud rfl rfl ?_
  have b1 : 0 ≤ h 9 5 ∧ h 9 5 ≤ 10 := hI.1 9 _
  refine fz_callV (d' := 0) (M' := mX4_isDeed) (As := [fz_i d]) (st := []) kX10_loud rfl rfl vX4_isDeed rfl rfl rfl rfl (Nat.le_of_ble_eq_true rfl) (Nat.le_of_ble_eq_true rfl) (by decide) (sX4_isDeed h hI d ) (fun H2 r3 q4 o5 => ?_)
  obtain ⟨e6, y7, rfl, p8⟩ := q4
  subst H2
  clear o5
  rcases p8 with ⟨rfl, c9⟩ | ⟨rfl, c9⟩
  · refine fz_if_eq (tgt := 19) kX10_loud rfl (by decide) (fun c10 => ?_) (fun c10 => ?_)
    · exfalso; omega
    · refine fz_aload_n kX10_loud rfl rfl ?_
      refine fz_iload_n kX10_loud rfl rfl ?_
      have b11 : 0 ≤ h 1 7 ∧ h 1 7 ≤ 8 := hI.1 1 _
      refine fz_callV (d' := 1) (M' := mX10_isTownAndHour) (As := [fz_i th]) (st := []) kX10_loud rfl rfl vX10_isTownAndHour rfl rfl rfl rfl (Nat.le_of_ble_eq_true rfl) (Nat.le_of_ble_eq_true rfl) (by decide) (sX10_isTownAndHour h hI th ) (fun H12 r13 q14 o15 => ?_)
      obtain ⟨e16, y17, rfl, p18⟩ := q14
      subst H12
      clear o15
      rcases p18 with ⟨rfl, c19⟩ | ⟨rfl, c19⟩
      · refine fz_if_ne (tgt := 21) kX10_loud rfl (by decide) (fun c20 => ?_) (fun c20 => ?_)
        · refine fz_aload_n kX10_loud rfl rfl ?_
          refine fz_getR (t := 27) kX10_loud rfl rfl ?_
          refine fz_iload_n kX10_loud rfl rfl ?_
          refine fz_aload_n kX10_loud rfl rfl ?_
          refine fz_getR (t := 9) kX10_loud rfl rfl ?_
          refine fz_getR (t := 10) kX10_loud rfl rfl ?_
          refine fz_iload_n kX10_loud rfl rfl ?_
          refine fz_ialdV (n := 11) (v := h 10 (d.toNat)) kX10_loud rfl rfl (by omega) (by omega) rfl ?_
          have b21 : 0 ≤ h 10 (d.toNat) ∧ h 10 (d.toNat) ≤ 3 := hI.1 10 _
          refine fz_iload_n kX10_loud rfl rfl ?_
          refine fz_sipush ⟨by decide, by decide⟩ kX10_loud rfl ?_
          refine fz_idivN kX10_loud rfl (by omega) (by omega) (by omega) ?_
          refine fz_iload_n kX10_loud rfl rfl ?_
          refine fz_sipush ⟨by decide, by decide⟩ kX10_loud rfl ?_
          refine fz_iremN kX10_loud rfl (by omega) (by omega) (by omega) ?_
          refine fz_callV (d' := 3) (M' := mX8_loudness) (As := [fz_i d, fz_i (h 10 (d.toNat)), fz_i (th / 1000), fz_i (th % 1000)]) (st := []) kX10_loud rfl rfl vX8_loudness rfl rfl rfl rfl (Nat.le_of_ble_eq_true rfl) (Nat.le_of_ble_eq_true rfl) (by decide) (sX8_loudness h hI d (h 10 (d.toNat)) (th / 1000) (th % 1000) (by omega) (by omega)) (fun H22 r23 q24 o25 => ?_)
          obtain ⟨hI26, hf27, y29, rfl, f28⟩ := q24
          clear o25
          have hf30 := fz_fr_tr hf hf27 (show fz_su [(18, 99999), (19, 99999)] [(18, 99999), (19, 99999)] = true from rfl)
          exact fz_iret kX10_loud rfl rfl (fun _ => ⟨hI26, hf30, _, rfl, (by omega)⟩)
        · exfalso; omega
      · refine fz_if_ne (tgt := 21) kX10_loud rfl (by decide) (fun c31 => ?_) (fun c31 => ?_)
        · exfalso; omega
        · refine fz_iconst ⟨by decide, by decide⟩ kX10_loud rfl ?_
          exact fz_iret kX10_loud rfl rfl (fun _ => ⟨hI, hf, _, rfl, (by omega)⟩)
  · refine fz_if_eq (tgt := 19) kX10_loud rfl (by decide) (fun c32 => ?_) (fun c32 => ?_)
    · refine fz_iconst ⟨by decide, by decide⟩ kX10_loud rfl ?_
      exact fz_iret kX10_loud rfl rfl (fun _ => ⟨hI, hf, _, rfl, (by omega)⟩)
    · exfalso; omega

abbrev qX10_said (h : fz_H) (pm th : Int) : fz_H → Option fz_V → Prop := fun h' r0 => fz_Iv h' ∧ fz_fr [(18, 99999), (19, 99999)] h h' ∧ ∃ r : Int, r0 = some (fz_i r) ∧ ((-2147483648) ≤ r ∧ r ≤ 2147483647)
set_option maxHeartbeats 1000000 in
set_option maxRecDepth 100000 in
theorem sX10_said (h : fz_H) (hI : fz_Iv h) (pm th : Int) : fz_R 5 mX10_said 0 [(0, fz_r 0), (1, fz_i pm), (2, fz_i th)] [] h (qX10_said h pm th) := by
  refine fz_knowl (fun hk => ?_)
  have hr_pm : -2147483648 ≤ pm ∧ pm < 2147483648 := hk _ (List.Mem.tail _ (List.Mem.head _))
  have hr_th : -2147483648 ≤ th ∧ th < 2147483648 := hk _ (List.Mem.tail _ (List.Mem.tail _ (List.Mem.head _)))
  clear hk
  have hf : fz_fr [(18, 99999), (19, 99999)] h h := fz_fr_rf
  refine fz_aload_n kX10_said rfl rfl ?_
  refine fz_iload_n kX10_said rfl rfl ?_
  refine fz_callV (d' := 1) (M' := mX10_isMarkOfOne) (As := [fz_i pm]) (st := []) kX10_said rfl rfl vX10_isMarkOfOne rfl rfl rfl rfl (Nat.le_of_ble_eq_true rfl) (Nat.le_of_ble_eq_true rfl) (by decide) (sX10_isMarkOfOne h hI pm ) (fun H1 r2 q3 o4 => ?_)
  obtain ⟨e5, y6, rfl, p7⟩ := q3
  subst H1
  clear o4
  rcases p7 with ⟨rfl, c8⟩ | ⟨rfl, c8⟩
  · refine fz_if_eq (tgt := 16) kX10_said rfl (by decide) (fun c9 => ?_) (fun c9 => ?_)
    · exfalso; omega
    · refine fz_aload_n kX10_said rfl rfl ?_
      refine fz_iload_n kX10_said rfl rfl ?_
      have b10 : 0 ≤ h 1 7 ∧ h 1 7 ≤ 8 := hI.1 1 _
      refine fz_callV (d' := 1) (M' := mX10_isTownAndHour) (As := [fz_i th]) (st := []) kX10_said rfl rfl vX10_isTownAndHour rfl rfl rfl rfl (Nat.le_of_ble_eq_true rfl) (Nat.le_of_ble_eq_true rfl) (by decide) (sX10_isTownAndHour h hI th ) (fun H11 r12 q13 o14 => ?_)
      obtain ⟨e15, y16, rfl, p17⟩ := q13
      subst H11
      clear o14
      rcases p17 with ⟨rfl, c18⟩ | ⟨rfl, c18⟩
      · refine fz_if_ne (tgt := 18) kX10_said rfl (by decide) (fun c19 => ?_) (fun c19 => ?_)
        · refine fz_aload_n kX10_said rfl rfl ?_
          refine fz_getR (t := 27) kX10_said rfl rfl ?_
          refine fz_iload_n kX10_said rfl rfl ?_
          refine fz_iload_n kX10_said rfl rfl ?_
          refine fz_sipush ⟨by decide, by decide⟩ kX10_said rfl ?_
          refine fz_idivN kX10_said rfl (by omega) (by omega) (by omega) ?_
          refine fz_iload_n kX10_said rfl rfl ?_
          refine fz_sipush ⟨by decide, by decide⟩ kX10_said rfl ?_
          refine fz_iremN kX10_said rfl (by omega) (by omega) (by omega) ?_
          refine fz_callV (d' := 4) (M' := mX8_loudestOf) (As := [fz_i pm, fz_i (th / 1000), fz_i (th % 1000)]) (st := []) kX10_said rfl rfl vX8_loudestOf rfl rfl rfl rfl (Nat.le_of_ble_eq_true rfl) (Nat.le_of_ble_eq_true rfl) (by decide) (sX8_loudestOf h hI pm (th / 1000) (th % 1000) (by omega)) (fun H20 r21 q22 o23 => ?_)
          obtain ⟨hI24, hf25, y27, rfl, f26⟩ := q22
          clear o23
          have hf28 := fz_fr_tr hf hf25 (show fz_su [(18, 99999), (19, 99999)] [(18, 99999), (19, 99999)] = true from rfl)
          exact fz_iret kX10_said rfl rfl (fun _ => ⟨hI24, hf28, _, rfl, (by omega)⟩)
        · exfalso; omega
      · refine fz_if_ne (tgt := 18) kX10_said rfl (by decide) (fun c29 => ?_) (fun c29 => ?_)
        · exfalso; omega
        · refine fz_iconst ⟨by decide, by decide⟩ kX10_said rfl ?_
          exact fz_iret kX10_said rfl rfl (fun _ => ⟨hI, hf, _, rfl, (by omega)⟩)
  · refine fz_if_eq (tgt := 16) kX10_said rfl (by decide) (fun c30 => ?_) (fun c30 => ?_)
    · refine fz_iconst ⟨by decide, by decide⟩ kX10_said rfl ?_
      exact fz_iret kX10_said rfl rfl (fun _ => ⟨hI, hf, _, rfl, (by omega)⟩)
    · exfalso; omega

abbrev qX10_received (h : fz_H) (on th wh : Int) : fz_H → Option fz_V → Prop := fun h' r0 => fz_Iv h' ∧ fz_fr [(18, 99999), (19, 99999), (29, 99999)] h h' ∧ ∃ r : Int, r0 = some (fz_i r) ∧ ((-2147483648) ≤ r ∧ r ≤ 2147483647)
set_option maxHeartbeats 1000000 in
set_option maxRecDepth 100000 in
theorem sX10_received (h : fz_H) (hI : fz_Iv h) (on th wh : Int) : fz_R 5 mX10_received 0 [(0, fz_r 0), (1, fz_i on), (2, fz_i th), (3, fz_i wh)] [] h (qX10_received h on th wh) := by
  refine fz_knowl (fun hk => ?_)
  have hr_on : -2147483648 ≤ on ∧ on < 2147483648 := hk _ (List.Mem.tail _ (List.Mem.head _))
  have hr_th : -2147483648 ≤ th ∧ th < 2147483648 := hk _ (List.Mem.tail _ (List.Mem.tail _ (List.Mem.head _)))
  have hr_wh : -2147483648 ≤ wh ∧ wh < 2147483648 := hk _ (List.Mem.tail _ (List.Mem.tail _ (List.Mem.tail _ (List.Mem.head _))))
  clear hk
  have hf : fz_fr [(18, 99999), (19, 99999), (29, 99999)] h h := fz_fr_rf
  refine fz_aload_n kX10_received rfl rfl ?_
  refine fz_iload_n kX10_received rfl rfl ?_
  refine fz_callV (d' := 0) (M' := mX10_isOne) (As := [fz_i on]) (st := []) kX10_received rfl rfl vX10_isOne rfl rfl rfl rfl (Nat.le_of_ble_eq_true rfl) (Nat.le_of_ble_eq_true rfl) (by decide) (sX10_isOne h hI on ) (fun H1 r2 q3 o4 => ?_)
  obtain ⟨e5, y6, rfl, p7⟩ := q3
  subst H1
  clear o4
  rcases p7 with ⟨rfl, c8⟩ | ⟨rfl, c8⟩
  · refine fz_if_eq (tgt := 25) kX10_received rfl (by decide) (fun c9 => ?_) (fun c9 => ?_)
    · exfalso; omega
    · refine fz_aload_n kX10_received rfl rfl ?_
      refine fz_iload_n kX10_received rfl rfl ?_
      have b10 : 0 ≤ h 1 7 ∧ h 1 7 ≤ 8 := hI.1 1 _
      refine fz_callV (d' := 1) (M' := mX10_isTownAndHour) (As := [fz_i th]) (st := []) kX10_received rfl rfl vX10_isTownAndHour rfl rfl rfl rfl (Nat.le_of_ble_eq_true rfl) (Nat.le_of_ble_eq_true rfl) (by decide) (sX10_isTownAndHour h hI th ) (fun H11 r12 q13 o14 => ?_)
      obtain ⟨e15, y16, rfl, p17⟩ := q13
      subst H11
      clear o14
      rcases p17 with ⟨rfl, c18⟩ | ⟨rfl, c18⟩
      · refine fz_if_eq (tgt := 25) kX10_received rfl (by decide) (fun c19 => ?_) (fun c19 => ?_)
        · exfalso; omega
        · refine fz_iload_n kX10_received rfl rfl ?_
          refine fz_if_lt (tgt := 25) kX10_received rfl (by decide) (fun c20 => ?_) (fun c20 => ?_)
          · refine fz_ldc (x := (-2000000000)) kX10_received rfl rfl rfl ?_
            exact fz_iret kX10_received rfl rfl (fun _ => ⟨hI, hf, _, rfl, (by omega)⟩)
          · refine fz_iload_n kX10_received rfl rfl ?_
            refine fz_iconst ⟨by decide, by decide⟩ kX10_received rfl ?_
            refine fz_icmp_le (tgt := 28) kX10_received rfl (by decide) (fun c21 => ?_) (fun c21 => ?_)
            · refine fz_aload_n kX10_received rfl rfl ?_
              refine fz_getR (t := 27) kX10_received rfl rfl ?_
              refine fz_iload_n kX10_received rfl rfl ?_
              refine fz_iload_n kX10_received rfl rfl ?_
              refine fz_iload_n kX10_received rfl rfl ?_
              refine fz_sipush ⟨by decide, by decide⟩ kX10_received rfl ?_
              refine fz_idivN kX10_received rfl (by omega) (by omega) (by omega) ?_
              refine fz_iload_n kX10_received rfl rfl ?_
              refine fz_sipush ⟨by decide, by decide⟩ kX10_received rfl ?_
              refine fz_iremN kX10_received rfl (by omega) (by omega) (by omega) ?_
              refine fz_callV (d' := 4) (M' := mX8_listen) (As := [fz_i on, fz_i on, fz_i (th / 1000), fz_i (th % 1000)]) (st := []) kX10_received rfl rfl vX8_listen rfl rfl rfl rfl (Nat.le_of_ble_eq_true rfl) (Nat.le_of_ble_eq_true rfl) (by decide) (sX8_listen h hI on on (th / 1000) (th % 1000) (by omega)) (fun H22 r23 q24 o25 => ?_)
              obtain ⟨hI26, hf27, rfl⟩ := q24
              clear o25
              have hf28 := fz_fr_tr hf hf27 (show fz_su [(18, 99999), (19, 99999), (29, 99999)] [(18, 99999), (19, 99999), (29, 99999)] = true from rfl)
              refine fz_iload_n kX10_received rfl rfl ?_
              rcases (show wh = 0 ∨ wh = 1 ∨ wh = 2 ∨ (wh < 0 ∨ 2 < wh) by omega) with c29 | c29 | c29 | c29
              · refine fz_tswC (j := 0) (tgt := 76) kX10_received rfl c29 (by decide) (by decide) rfl (by decide) ?_
                refine fz_aload_n kX10_received rfl rfl ?_
                refine fz_getR (t := 27) kX10_received rfl rfl ?_
                refine fz_callV (d' := 0) (M' := mX8_reception) (As := []) (st := []) kX10_received rfl rfl vX8_reception rfl rfl rfl rfl (Nat.le_of_ble_eq_true rfl) (Nat.le_of_ble_eq_true rfl) (by decide) (sX8_reception H22 hI26  ) (fun H30 r31 q32 o33 => ?_)
                obtain ⟨e34, y36, rfl, f35⟩ := q32
                subst H30
                clear o33
                exact fz_iret kX10_received rfl rfl (fun _ => ⟨hI26, hf28, _, rfl, (by omega)⟩)
              · refine fz_tswC (j := 1) (tgt := 84) kX10_received rfl c29 (by decide) (by decide) rfl (by decide) ?_
                refine fz_aload_n kX10_received rfl rfl ?_
                refine fz_getR (t := 27) kX10_received rfl rfl ?_
                refine fz_callV (d' := 1) (M' := mX8_isArrested) (As := []) (st := []) kX10_received rfl rfl vX8_isArrested rfl rfl rfl rfl (Nat.le_of_ble_eq_true rfl) (Nat.le_of_ble_eq_true rfl) (by decide) (sX8_isArrested H22 hI26  ) (fun H37 r38 q39 o40 => ?_)
                obtain ⟨e41, y42, rfl, p43⟩ := q39
                subst H37
                clear o40
                refine fz_if_eq (tgt := 98) kX10_received rfl (by decide) (fun c44 => ?_) (fun c44 => ?_)
                · refine fz_iconst ⟨by decide, by decide⟩ kX10_received rfl ?_
                  exact fz_iret kX10_received rfl rfl (fun _ => ⟨hI26, hf28, _, rfl, (by omega)⟩)
                · refine fz_iconst ⟨by decide, by decide⟩ kX10_received rfl ?_
                  refine fz_goto (tgt := 99) kX10_received rfl (by decide) ?_
                  exact fz_iret kX10_received rfl rfl (fun _ => ⟨hI26, hf28, _, rfl, (by omega)⟩)
              · refine fz_tswC (j := 2) (tgt := 100) kX10_received rfl c29 (by decide) (by decide) rfl (by decide) ?_
                refine fz_aload_n kX10_received rfl rfl ?_
                refine fz_getR (t := 27) kX10_received rfl rfl ?_
                refine fz_callV (d' := 0) (M' := mX8_marksSaid) (As := []) (st := []) kX10_received rfl rfl vX8_marksSaid rfl rfl rfl rfl (Nat.le_of_ble_eq_true rfl) (Nat.le_of_ble_eq_true rfl) (by decide) (sX8_marksSaid H22 hI26  ) (fun H45 r46 q47 o48 => ?_)
                obtain ⟨e49, y51, rfl, f50⟩ := q47
                subst H45
                clear o48
                exact fz_iret kX10_received rfl rfl (fun _ => ⟨hI26, hf28, _, rfl, (by omega)⟩)
              · refine fz_tswO (tgt := 108) kX10_received rfl c29 (by decide) ?_
                refine fz_aload_n kX10_received rfl rfl ?_
                refine fz_getR (t := 27) kX10_received rfl rfl ?_
                refine fz_callV (d' := 0) (M' := mX8_loudestMark) (As := []) (st := []) kX10_received rfl rfl vX8_loudestMark rfl rfl rfl rfl (Nat.le_of_ble_eq_true rfl) (Nat.le_of_ble_eq_true rfl) (by decide) (sX8_loudestMark H22 hI26  ) (fun H52 r53 q54 o55 => ?_)
                obtain ⟨e56, y58, rfl, f57⟩ := q54
                subst H52
                clear o55
                exact fz_iret kX10_received rfl rfl (fun _ => ⟨hI26, hf28, _, rfl, (by omega)⟩)
            · refine fz_ldc (x := (-2000000000)) kX10_received rfl rfl rfl ?_
              exact fz_iret kX10_received rfl rfl (fun _ => ⟨hI, hf, _, rfl, (by omega)⟩)
      · refine fz_if_eq (tgt := 25) kX10_received rfl (by decide) (fun c59 => ?_) (fun c59 => ?_)
        · refine fz_ldc (x := (-2000000000)) kX10_received rfl rfl rfl ?_
          exact fz_iret kX10_received rfl rfl (fun _ => ⟨hI, hf, _, rfl, (by omega)⟩)
        · exfalso; omega
  · refine fz_if_eq (tgt := 25) kX10_received rfl (by decide) (fun c60 => ?_) (fun c60 => ?_)
    · refine fz_ldc (x := (-2000000000)) kX10_received rfl rfl rfl ?_
      exact fz_iret kX10_received rfl rfl (fun _ => ⟨hI, hf, _, rfl, (by omega)⟩)
    · exfalso; omega

abbrev qX10_townsWhere (h : fz_H) (on hr ar : Int) : fz_H → Option fz_V → Prop := fun h' r0 => fz_Iv h' ∧ fz_fr [(18, 99999), (19, 99999), (29, 99999)] h h' ∧ ∃ r : Int, r0 = some (fz_i r) ∧ ((-2147483648) ≤ r ∧ r ≤ 2147483647)
set_option maxHeartbeats 1000000 in
set_option maxRecDepth 100000 in
theorem sX10_townsWhere (h : fz_H) (hI : fz_Iv h) (on hr ar : Int) : fz_R 5 mX10_townsWhere 0 [(0, fz_r 0), (1, fz_i on), (2, fz_i hr), (3, fz_i ar)] [] h (qX10_townsWhere h on hr ar) := by
  refine fz_knowl (fun hk => ?_)
  have hr_on : -2147483648 ≤ on ∧ on < 2147483648 := hk _ (List.Mem.tail _ (List.Mem.head _))
  have hr_hr : -2147483648 ≤ hr ∧ hr < 2147483648 := hk _ (List.Mem.tail _ (List.Mem.tail _ (List.Mem.head _)))
  have hr_ar : -2147483648 ≤ ar ∧ ar < 2147483648 := hk _ (List.Mem.tail _ (List.Mem.tail _ (List.Mem.tail _ (List.Mem.head _))))
  clear hk
  have hf : fz_fr [(18, 99999), (19, 99999), (29, 99999)] h h := fz_fr_rf
  refine fz_iconst ⟨by decide, by decide⟩ kX10_townsWhere rfl ?_
  refine fz_istore (ls' := [(4, fz_i 0), (0, fz_r 0), (1, fz_i on), (2, fz_i hr), (3, fz_i ar)]) kX10_townsWhere rfl (by decide) rfl ?_
  refine fz_iconst ⟨by decide, by decide⟩ kX10_townsWhere rfl ?_
  refine fz_istore (ls' := [(5, fz_i 0), (4, fz_i 0), (0, fz_r 0), (1, fz_i on), (2, fz_i hr), (3, fz_i ar)]) kX10_townsWhere rfl (by decide) rfl ?_
  have lp7 : ∀ (n6 : Nat) (x1 : Int) (x2 : Int) (H3 : fz_H), fz_Iv H3 → fz_fr [(18, 99999), (19, 99999), (29, 99999)] h H3 → (0 ≤ x1 ∧ x1 ≤ 2147483647) → ((-2147483648) ≤ x2 ∧ x2 ≤ 2147483647) → ((h 1 7) - x1).toNat < n6 → fz_R 5 mX10_townsWhere 6 [(5, fz_i x1), (4, fz_i x2), (0, fz_r 0), (1, fz_i on), (2, fz_i hr), (3, fz_i ar)] [] H3 (qX10_townsWhere h on hr ar) := by
    intro n6
    induction n6 with
    | zero => intro x1 x2 H3 hI4 hf5 hv10 hv11 hm9; exact absurd hm9 (by omega)
    | succ n6 ih8 =>
      intro x1 x2 H3 hI4 hf5 hv10 hv11 hm9
      refine fz_iload kX10_townsWhere rfl rfl ?_
      refine fz_aload_n kX10_townsWhere rfl rfl ?_
      refine fz_getR (t := 1) kX10_townsWhere rfl rfl ?_
      refine fz_getV (v := h 1 7) kX10_townsWhere rfl rfl (hf5 1 7 rfl) ?_
      have b12 : 0 ≤ h 1 7 ∧ h 1 7 ≤ 8 := hI.1 1 _
      refine fz_icmp_ge (tgt := 72) kX10_townsWhere rfl (by decide) (fun c13 => ?_) (fun c13 => ?_)
      · refine fz_iload kX10_townsWhere rfl rfl ?_
        exact fz_iret kX10_townsWhere rfl rfl (fun _ => ⟨hI4, hf5, _, rfl, (by omega)⟩)
      · refine fz_aload_n kX10_townsWhere rfl rfl ?_
        refine fz_getR (t := 27) kX10_townsWhere rfl rfl ?_
        refine fz_iload_n kX10_townsWhere rfl rfl ?_
        refine fz_iload_n kX10_townsWhere rfl rfl ?_
        refine fz_iload kX10_townsWhere rfl rfl ?_
        refine fz_iload_n kX10_townsWhere rfl rfl ?_
        refine fz_callV (d' := 4) (M' := mX8_listen) (As := [fz_i on, fz_i on, fz_i x1, fz_i hr]) (st := []) kX10_townsWhere rfl rfl vX8_listen rfl rfl rfl rfl (Nat.le_of_ble_eq_true rfl) (Nat.le_of_ble_eq_true rfl) (by decide) (sX8_listen H3 hI4 on on x1 hr (by omega)) (fun H14 r15 q16 o17 => ?_)
        obtain ⟨hI18, hf19, rfl⟩ := q16
        clear o17
        have hf20 := fz_fr_tr hf5 hf19 (show fz_su [(18, 99999), (19, 99999), (29, 99999)] [(18, 99999), (19, 99999), (29, 99999)] = true from rfl)
        refine fz_iload_n kX10_townsWhere rfl rfl ?_
        refine fz_if_eq (tgt := 47) kX10_townsWhere rfl (by decide) (fun c21 => ?_) (fun c21 => ?_)
        · refine fz_aload_n kX10_townsWhere rfl rfl ?_
          refine fz_getR (t := 27) kX10_townsWhere rfl rfl ?_
          refine fz_callV (d' := 0) (M' := mX8_marksSaid) (As := []) (st := []) kX10_townsWhere rfl rfl vX8_marksSaid rfl rfl rfl rfl (Nat.le_of_ble_eq_true rfl) (Nat.le_of_ble_eq_true rfl) (by decide) (sX8_marksSaid H14 hI18  ) (fun H22 r23 q24 o25 => ?_)
          obtain ⟨e26, y28, rfl, f27⟩ := q24
          subst H22
          clear o25
          refine fz_if_ne (tgt := 66) kX10_townsWhere rfl (by decide) (fun c29 => ?_) (fun c29 => ?_)
          · refine fz_iincN (ls' := [(5, fz_i (x1 + 1)), (4, fz_i x2), (0, fz_r 0), (1, fz_i on), (2, fz_i hr), (3, fz_i ar)]) kX10_townsWhere rfl (by decide) rfl (by omega) rfl ?_
            refine fz_goto (tgt := 6) kX10_townsWhere rfl (by decide) ?_
            exact ih8 (x1 + 1) x2 H14 hI18 hf20 (by omega) (by omega) (by omega)
          · refine fz_iload kX10_townsWhere rfl rfl ?_
            refine fz_iconst ⟨by decide, by decide⟩ kX10_townsWhere rfl ?_
            refine fz_iload kX10_townsWhere rfl rfl ?_
            refine fz_ishl kX10_townsWhere rfl ?_
            have b30 : -2147483648 ≤ (fz_shl 1 x1) ∧ (fz_shl 1 x1) < 2147483648 := fz_b32 _
            refine fz_ior kX10_townsWhere rfl ?_
            have b31 : -2147483648 ≤ (fz_or x2 (fz_shl 1 x1)) ∧ (fz_or x2 (fz_shl 1 x1)) < 2147483648 := fz_b32 _
            refine fz_istore (ls' := [(4, fz_i (fz_or x2 (fz_shl 1 x1))), (5, fz_i x1), (0, fz_r 0), (1, fz_i on), (2, fz_i hr), (3, fz_i ar)]) kX10_townsWhere rfl (by decide) rfl ?_
            refine fz_iincN (ls' := [(5, fz_i (x1 + 1)), (4, fz_i (fz_or x2 (fz_shl 1 x1))), (0, fz_r 0), (1, fz_i on), (2, fz_i hr), (3, fz_i ar)]) kX10_townsWhere rfl (by decide) rfl (by omega) rfl ?_
            refine fz_goto (tgt := 6) kX10_townsWhere rfl (by decide) ?_
            exact ih8 (x1 + 1) (fz_or x2 (fz_shl 1 x1)) H14 hI18 hf20 (by omega) (by omega) (by omega)
        · refine fz_aload_n kX10_townsWhere rfl rfl ?_
          refine fz_getR (t := 27) kX10_townsWhere rfl rfl ?_
          refine fz_callV (d' := 1) (M' := mX8_isArrested) (As := []) (st := []) kX10_townsWhere rfl rfl vX8_isArrested rfl rfl rfl rfl (Nat.le_of_ble_eq_true rfl) (Nat.le_of_ble_eq_true rfl) (by decide) (sX8_isArrested H14 hI18  ) (fun H32 r33 q34 o35 => ?_)
          obtain ⟨e36, y37, rfl, p38⟩ := q34
          subst H32
          clear o35
          refine fz_if_eq (tgt := 66) kX10_townsWhere rfl (by decide) (fun c39 => ?_) (fun c39 => ?_)
          · refine fz_iincN (ls' := [(5, fz_i (x1 + 1)), (4, fz_i x2), (0, fz_r 0), (1, fz_i on), (2, fz_i hr), (3, fz_i ar)]) kX10_townsWhere rfl (by decide) rfl (by omega) rfl ?_
            refine fz_goto (tgt := 6) kX10_townsWhere rfl (by decide) ?_
            exact ih8 (x1 + 1) x2 H14 hI18 hf20 (by omega) (by omega) (by omega)
          · refine fz_goto (tgt := 57) kX10_townsWhere rfl (by decide) ?_
            refine fz_iload kX10_townsWhere rfl rfl ?_
            refine fz_iconst ⟨by decide, by decide⟩ kX10_townsWhere rfl ?_
            refine fz_iload kX10_townsWhere rfl rfl ?_
            refine fz_ishl kX10_townsWhere rfl ?_
            have b40 : -2147483648 ≤ (fz_shl 1 x1) ∧ (fz_shl 1 x1) < 2147483648 := fz_b32 _
            refine fz_ior kX10_townsWhere rfl ?_
            have b41 : -2147483648 ≤ (fz_or x2 (fz_shl 1 x1)) ∧ (fz_or x2 (fz_shl 1 x1)) < 2147483648 := fz_b32 _
            refine fz_istore (ls' := [(4, fz_i (fz_or x2 (fz_shl 1 x1))), (5, fz_i x1), (0, fz_r 0), (1, fz_i on), (2, fz_i hr), (3, fz_i ar)]) kX10_townsWhere rfl (by decide) rfl ?_
            refine fz_iincN (ls' := [(5, fz_i (x1 + 1)), (4, fz_i (fz_or x2 (fz_shl 1 x1))), (0, fz_r 0), (1, fz_i on), (2, fz_i hr), (3, fz_i ar)]) kX10_townsWhere rfl (by decide) rfl (by omega) rfl ?_
            refine fz_goto (tgt := 6) kX10_townsWhere rfl (by decide) ?_
            exact ih8 (x1 + 1) (fz_or x2 (fz_shl 1 x1)) H14 hI18 hf20 (by omega) (by omega) (by omega)
  exact lp7 _ 0 0 h hI hf (by omega) (by omega) (Nat.lt_succ_self _)

abbrev qX10_bestTown (h : fz_H) (on hr : Int) : fz_H → Option fz_V → Prop := fun h' r0 => fz_Iv h' ∧ fz_fr [(18, 99999), (19, 99999), (29, 99999)] h h' ∧ ∃ r : Int, r0 = some (fz_i r) ∧ ((-2147483648) ≤ r ∧ r ≤ 2147483647)
set_option maxHeartbeats 1000000 in
set_option maxRecDepth 100000 in
theorem sX10_bestTown (h : fz_H) (hI : fz_Iv h) (on hr : Int) : fz_R 5 mX10_bestTown 0 [(0, fz_r 0), (1, fz_i on), (2, fz_i hr)] [] h (qX10_bestTown h on hr) := by
  refine fz_knowl (fun hk => ?_)
  have hr_on : -2147483648 ≤ on ∧ on < 2147483648 := hk _ (List.Mem.tail _ (List.Mem.head _))
  have hr_hr : -2147483648 ≤ hr ∧ hr < 2147483648 := hk _ (List.Mem.tail _ (List.Mem.tail _ (List.Mem.head _)))
  clear hk
  have hf : fz_fr [(18, 99999), (19, 99999), (29, 99999)] h h := fz_fr_rf
  refine fz_bipush ⟨by decide, by decide⟩ kX10_bestTown rfl ?_
  refine fz_istore_n (ls' := [(3, fz_i (-2)), (0, fz_r 0), (1, fz_i on), (2, fz_i hr)]) kX10_bestTown rfl (by decide) rfl ?_
  refine fz_iconst ⟨by decide, by decide⟩ kX10_bestTown rfl ?_
  refine fz_istore (ls' := [(4, fz_i 0), (3, fz_i (-2)), (0, fz_r 0), (1, fz_i on), (2, fz_i hr)]) kX10_bestTown rfl (by decide) rfl ?_
  refine fz_iconst ⟨by decide, by decide⟩ kX10_bestTown rfl ?_
  refine fz_istore (ls' := [(5, fz_i 0), (4, fz_i 0), (3, fz_i (-2)), (0, fz_r 0), (1, fz_i on), (2, fz_i hr)]) kX10_bestTown rfl (by decide) rfl ?_
  have lp8 : ∀ (n7 : Nat) (x1 : Int) (x2 : Int) (x3 : Int) (H4 : fz_H), fz_Iv H4 → fz_fr [(18, 99999), (19, 99999), (29, 99999)] h H4 → (0 ≤ x1 ∧ x1 ≤ 2147483647) → ((-2147483648) ≤ x2 ∧ x2 ≤ 2147483647) → ((-2147483648) ≤ x3 ∧ x3 ≤ 2147483647) → ((h 1 7) - x1).toNat < n7 → fz_R 5 mX10_bestTown 9 [(5, fz_i x1), (4, fz_i x2), (3, fz_i x3), (0, fz_r 0), (1, fz_i on), (2, fz_i hr)] [] H4 (qX10_bestTown h on hr) := by
    intro n7
    induction n7 with
    | zero => intro x1 x2 x3 H4 hI5 hf6 hv11 hv12 hv13 hm10; exact absurd hm10 (by omega)
    | succ n7 ih9 =>
      intro x1 x2 x3 H4 hI5 hf6 hv11 hv12 hv13 hm10
      refine fz_iload kX10_bestTown rfl rfl ?_
      refine fz_aload_n kX10_bestTown rfl rfl ?_
      refine fz_getR (t := 1) kX10_bestTown rfl rfl ?_
      refine fz_getV (v := h 1 7) kX10_bestTown rfl rfl (hf6 1 7 rfl) ?_
      have b14 : 0 ≤ h 1 7 ∧ h 1 7 ≤ 8 := hI.1 1 _
      refine fz_icmp_ge (tgt := 68) kX10_bestTown rfl (by decide) (fun c15 => ?_) (fun c15 => ?_)
      · refine fz_iload_n kX10_bestTown rfl rfl ?_
        exact fz_iret kX10_bestTown rfl rfl (fun _ => ⟨hI5, hf6, _, rfl, (by omega)⟩)
      · refine fz_aload_n kX10_bestTown rfl rfl ?_
        refine fz_getR (t := 27) kX10_bestTown rfl rfl ?_
        refine fz_iload_n kX10_bestTown rfl rfl ?_
        refine fz_iload_n kX10_bestTown rfl rfl ?_
        refine fz_iload kX10_bestTown rfl rfl ?_
        refine fz_iload_n kX10_bestTown rfl rfl ?_
        refine fz_callV (d' := 4) (M' := mX8_listen) (As := [fz_i on, fz_i on, fz_i x1, fz_i hr]) (st := []) kX10_bestTown rfl rfl vX8_listen rfl rfl rfl rfl (Nat.le_of_ble_eq_true rfl) (Nat.le_of_ble_eq_true rfl) (by decide) (sX8_listen H4 hI5 on on x1 hr (by omega)) (fun H16 r17 q18 o19 => ?_)
        obtain ⟨hI20, hf21, rfl⟩ := q18
        clear o19
        have hf22 := fz_fr_tr hf6 hf21 (show fz_su [(18, 99999), (19, 99999), (29, 99999)] [(18, 99999), (19, 99999), (29, 99999)] = true from rfl)
        refine fz_aload_n kX10_bestTown rfl rfl ?_
        refine fz_getR (t := 27) kX10_bestTown rfl rfl ?_
        refine fz_callV (d' := 0) (M' := mX8_reception) (As := []) (st := []) kX10_bestTown rfl rfl vX8_reception rfl rfl rfl rfl (Nat.le_of_ble_eq_true rfl) (Nat.le_of_ble_eq_true rfl) (by decide) (sX8_reception H16 hI20  ) (fun H23 r24 q25 o26 => ?_)
        obtain ⟨e27, y29, rfl, f28⟩ := q25
        subst H23
        clear o26
        refine fz_istore (ls' := [(6, fz_i y29), (5, fz_i x1), (4, fz_i x2), (3, fz_i x3), (0, fz_r 0), (1, fz_i on), (2, fz_i hr)]) kX10_bestTown rfl (by decide) rfl ?_
        refine fz_iload_n kX10_bestTown rfl rfl ?_
        refine fz_bipush ⟨by decide, by decide⟩ kX10_bestTown rfl ?_
        refine fz_icmp_eq (tgt := 55) kX10_bestTown rfl (by decide) (fun c30 => ?_) (fun c30 => ?_)
        · refine fz_iload kX10_bestTown rfl rfl ?_
          refine fz_istore_n (ls' := [(3, fz_i x1), (6, fz_i y29), (5, fz_i x1), (4, fz_i x2), (0, fz_r 0), (1, fz_i on), (2, fz_i hr)]) kX10_bestTown rfl (by decide) rfl ?_
          refine fz_iload kX10_bestTown rfl rfl ?_
          refine fz_istore (ls' := [(4, fz_i y29), (3, fz_i x1), (6, fz_i y29), (5, fz_i x1), (0, fz_r 0), (1, fz_i on), (2, fz_i hr)]) kX10_bestTown rfl (by decide) rfl ?_
          refine fz_iincN (ls' := [(5, fz_i (x1 + 1)), (4, fz_i y29), (3, fz_i x1), (6, fz_i y29), (0, fz_r 0), (1, fz_i on), (2, fz_i hr)]) kX10_bestTown rfl (by decide) rfl (by omega) rfl ?_
          refine fz_goto (tgt := 9) kX10_bestTown rfl (by decide) ?_
          refine fz_sub (fz_pk_sub (ls' := [(5, fz_i (x1 + 1)), (4, fz_i y29), (3, fz_i x1), (0, fz_r 0), (1, fz_i on), (2, fz_i hr)]) [0, 1, 2, 4, 5, 6] rfl) ?_
          exact ih9 (x1 + 1) y29 x1 H16 hI20 hf22 (by omega) (by omega) (by omega) (by omega)
        · refine fz_iload kX10_bestTown rfl rfl ?_
          refine fz_iload kX10_bestTown rfl rfl ?_
          refine fz_icmp_le (tgt := 62) kX10_bestTown rfl (by decide) (fun c31 => ?_) (fun c31 => ?_)
          · refine fz_iincN (ls' := [(5, fz_i (x1 + 1)), (6, fz_i y29), (4, fz_i x2), (3, fz_i x3), (0, fz_r 0), (1, fz_i on), (2, fz_i hr)]) kX10_bestTown rfl (by decide) rfl (by omega) rfl ?_
            refine fz_goto (tgt := 9) kX10_bestTown rfl (by decide) ?_
            refine fz_sub (fz_pk_sub (ls' := [(5, fz_i (x1 + 1)), (4, fz_i x2), (3, fz_i x3), (0, fz_r 0), (1, fz_i on), (2, fz_i hr)]) [0, 2, 3, 4, 5, 6] rfl) ?_
            exact ih9 (x1 + 1) x2 x3 H16 hI20 hf22 (by omega) (by omega) (by omega) (by omega)
          · refine fz_iload kX10_bestTown rfl rfl ?_
            refine fz_istore_n (ls' := [(3, fz_i x1), (6, fz_i y29), (5, fz_i x1), (4, fz_i x2), (0, fz_r 0), (1, fz_i on), (2, fz_i hr)]) kX10_bestTown rfl (by decide) rfl ?_
            refine fz_iload kX10_bestTown rfl rfl ?_
            refine fz_istore (ls' := [(4, fz_i y29), (3, fz_i x1), (6, fz_i y29), (5, fz_i x1), (0, fz_r 0), (1, fz_i on), (2, fz_i hr)]) kX10_bestTown rfl (by decide) rfl ?_
            refine fz_iincN (ls' := [(5, fz_i (x1 + 1)), (4, fz_i y29), (3, fz_i x1), (6, fz_i y29), (0, fz_r 0), (1, fz_i on), (2, fz_i hr)]) kX10_bestTown rfl (by decide) rfl (by omega) rfl ?_
            refine fz_goto (tgt := 9) kX10_bestTown rfl (by decide) ?_
            refine fz_sub (fz_pk_sub (ls' := [(5, fz_i (x1 + 1)), (4, fz_i y29), (3, fz_i x1), (0, fz_r 0), (1, fz_i on), (2, fz_i hr)]) [0, 1, 2, 4, 5, 6] rfl) ?_
            exact ih9 (x1 + 1) y29 x1 H16 hI20 hf22 (by omega) (by omega) (by omega) (by omega)
  exact lp8 _ 0 0 (-2) h hI hf (by omega) (by omega) (by omega) (Nat.lt_succ_self _)

abbrev qX10_isUnsaid (h : fz_H) (on t hr : Int) : fz_H → Option fz_V → Prop := fun h' r0 => fz_Iv h' ∧ fz_fr [(18, 99999), (19, 99999), (29, 99999)] h h' ∧ ∃ r : Int, r0 = some (fz_i r) ∧ (r = 0 ∨ r = 1)
set_option maxHeartbeats 1000000 in
set_option maxRecDepth 100000 in
theorem sX10_isUnsaid (h : fz_H) (hI : fz_Iv h) (on t hr : Int) (hp0 : 0 ≤ t ∧ t < 8) : fz_R 5 mX10_isUnsaid 0 [(0, fz_r 0), (1, fz_i on), (2, fz_i t), (3, fz_i hr)] [] h (qX10_isUnsaid h on t hr) := by
  refine fz_knowl (fun hk => ?_)
  have hr_on : -2147483648 ≤ on ∧ on < 2147483648 := hk _ (List.Mem.tail _ (List.Mem.head _))
  have hr_t : -2147483648 ≤ t ∧ t < 2147483648 := hk _ (List.Mem.tail _ (List.Mem.tail _ (List.Mem.head _)))
  have hr_hr : -2147483648 ≤ hr ∧ hr < 2147483648 := hk _ (List.Mem.tail _ (List.Mem.tail _ (List.Mem.tail _ (List.Mem.head _))))
  clear hk
  have hf : fz_fr [(18, 99999), (19, 99999), (29, 99999)] h h := fz_fr_rf
  refine fz_aload_n kX10_isUnsaid rfl rfl ?_
  refine fz_getR (t := 27) kX10_isUnsaid rfl rfl ?_
  refine fz_iload_n kX10_isUnsaid rfl rfl ?_
  refine fz_iload_n kX10_isUnsaid rfl rfl ?_
  refine fz_iload_n kX10_isUnsaid rfl rfl ?_
  refine fz_iload_n kX10_isUnsaid rfl rfl ?_
  refine fz_callV (d' := 4) (M' := mX8_listen) (As := [fz_i on, fz_i on, fz_i t, fz_i hr]) (st := []) kX10_isUnsaid rfl rfl vX8_listen rfl rfl rfl rfl (Nat.le_of_ble_eq_true rfl) (Nat.le_of_ble_eq_true rfl) (by decide) (sX8_listen h hI on on t hr (by omega)) (fun H1 r2 q3 o4 => ?_)
  obtain ⟨hI5, hf6, rfl⟩ := q3
  clear o4
  have hf7 := fz_fr_tr hf hf6 (show fz_su [(18, 99999), (19, 99999), (29, 99999)] [(18, 99999), (19, 99999), (29, 99999)] = true from rfl)
  refine fz_aload_n kX10_isUnsaid rfl rfl ?_
  refine fz_getR (t := 27) kX10_isUnsaid rfl rfl ?_
  refine fz_callV (d' := 0) (M' := mX8_marksSaid) (As := []) (st := []) kX10_isUnsaid rfl rfl vX8_marksSaid rfl rfl rfl rfl (Nat.le_of_ble_eq_true rfl) (Nat.le_of_ble_eq_true rfl) (by decide) (sX8_marksSaid H1 hI5  ) (fun H8 r9 q10 o11 => ?_)
  obtain ⟨e12, y14, rfl, f13⟩ := q10
  subst H8
  clear o11
  refine fz_if_ne (tgt := 25) kX10_isUnsaid rfl (by decide) (fun c15 => ?_) (fun c15 => ?_)
  · refine fz_iconst ⟨by decide, by decide⟩ kX10_isUnsaid rfl ?_
    exact fz_zret kX10_isUnsaid rfl rfl (by omega) ⟨hI5, hf7, _, rfl, (by omega)⟩
  · refine fz_iconst ⟨by decide, by decide⟩ kX10_isUnsaid rfl ?_
    refine fz_goto (tgt := 26) kX10_isUnsaid rfl (by decide) ?_
    exact fz_zret kX10_isUnsaid rfl rfl (by omega) ⟨hI5, hf7, _, rfl, (by omega)⟩

abbrev qX10_atHour (h : fz_H) (on hr wh : Int) : fz_H → Option fz_V → Prop := fun h' r0 => fz_Iv h' ∧ fz_fr [(18, 99999), (19, 99999), (29, 99999)] h h' ∧ ∃ r : Int, r0 = some (fz_i r) ∧ ((-2147483648) ≤ r ∧ r ≤ 2147483647)
set_option maxHeartbeats 1000000 in
set_option maxRecDepth 100000 in
theorem sX10_atHour (h : fz_H) (hI : fz_Iv h) (on hr wh : Int) : fz_R 6 mX10_atHour 0 [(0, fz_r 0), (1, fz_i on), (2, fz_i hr), (3, fz_i wh)] [] h (qX10_atHour h on hr wh) := by
  refine fz_knowl (fun hk => ?_)
  have hr_on : -2147483648 ≤ on ∧ on < 2147483648 := hk _ (List.Mem.tail _ (List.Mem.head _))
  have hr_hr : -2147483648 ≤ hr ∧ hr < 2147483648 := hk _ (List.Mem.tail _ (List.Mem.tail _ (List.Mem.head _)))
  have hr_wh : -2147483648 ≤ wh ∧ wh < 2147483648 := hk _ (List.Mem.tail _ (List.Mem.tail _ (List.Mem.tail _ (List.Mem.head _))))
  clear hk
  have hf : fz_fr [(18, 99999), (19, 99999), (29, 99999)] h h := fz_fr_rf
  refine fz_aload_n kX10_atHour rfl rfl ?_
  refine fz_iload_n kX10_atHour rfl rfl ?_
  refine fz_callV (d' := 0) (M' := mX10_isOne) (As := [fz_i on]) (st := []) kX10_atHour rfl rfl vX10_isOne rfl rfl rfl rfl (Nat.le_of_ble_eq_true rfl) (Nat.le_of_ble_eq_true rfl) (by decide) (sX10_isOne h hI on ) (fun H1 r2 q3 o4 => ?_)
  obtain ⟨e5, y6, rfl, p7⟩ := q3
  subst H1
  clear o4
  rcases p7 with ⟨rfl, c8⟩ | ⟨rfl, c8⟩
  · refine fz_if_eq (tgt := 25) kX10_atHour rfl (by decide) (fun c9 => ?_) (fun c9 => ?_)
    · exfalso; omega
    · refine fz_aload_n kX10_atHour rfl rfl ?_
      refine fz_iload_n kX10_atHour rfl rfl ?_
      refine fz_callV (d' := 0) (M' := mX10_isHour) (As := [fz_i hr]) (st := []) kX10_atHour rfl rfl vX10_isHour rfl rfl rfl rfl (Nat.le_of_ble_eq_true rfl) (Nat.le_of_ble_eq_true rfl) (by decide) (sX10_isHour h hI hr ) (fun H10 r11 q12 o13 => ?_)
      obtain ⟨e14, y15, rfl, p16⟩ := q12
      subst H10
      clear o13
      rcases p16 with ⟨rfl, c17⟩ | ⟨rfl, c17⟩
      · refine fz_if_eq (tgt := 25) kX10_atHour rfl (by decide) (fun c18 => ?_) (fun c18 => ?_)
        · exfalso; omega
        · refine fz_iload_n kX10_atHour rfl rfl ?_
          refine fz_if_lt (tgt := 25) kX10_atHour rfl (by decide) (fun c19 => ?_) (fun c19 => ?_)
          · refine fz_iconst ⟨by decide, by decide⟩ kX10_atHour rfl ?_
            exact fz_iret kX10_atHour rfl rfl (fun _ => ⟨hI, hf, _, rfl, (by omega)⟩)
          · refine fz_iload_n kX10_atHour rfl rfl ?_
            refine fz_iconst ⟨by decide, by decide⟩ kX10_atHour rfl ?_
            refine fz_icmp_le (tgt := 27) kX10_atHour rfl (by decide) (fun c20 => ?_) (fun c20 => ?_)
            · refine fz_iload_n kX10_atHour rfl rfl ?_
              refine fz_iconst ⟨by decide, by decide⟩ kX10_atHour rfl ?_
              refine fz_icmp_ne (tgt := 41) kX10_atHour rfl (by decide) (fun c21 => ?_) (fun c21 => ?_)
              · refine fz_aload_n kX10_atHour rfl rfl ?_
                refine fz_iload_n kX10_atHour rfl rfl ?_
                refine fz_iload_n kX10_atHour rfl rfl ?_
                refine fz_iload_n kX10_atHour rfl rfl ?_
                refine fz_iconst ⟨by decide, by decide⟩ kX10_atHour rfl ?_
                refine fz_icmp_ne (tgt := 53) kX10_atHour rfl (by decide) (fun c22 => ?_) (fun c22 => ?_)
                · refine fz_iconst ⟨by decide, by decide⟩ kX10_atHour rfl ?_
                  refine fz_callV (d' := 5) (M' := mX10_townsWhere) (As := [fz_i on, fz_i hr, fz_i 0]) (st := []) kX10_atHour rfl rfl vX10_townsWhere rfl rfl rfl rfl (Nat.le_of_ble_eq_true rfl) (Nat.le_of_ble_eq_true rfl) (by decide) (sX10_townsWhere h hI on hr 0 ) (fun H23 r24 q25 o26 => ?_)
                  obtain ⟨hI27, hf28, y30, rfl, f29⟩ := q25
                  clear o26
                  have hf31 := fz_fr_tr hf hf28 (show fz_su [(18, 99999), (19, 99999), (29, 99999)] [(18, 99999), (19, 99999), (29, 99999)] = true from rfl)
                  exact fz_iret kX10_atHour rfl rfl (fun _ => ⟨hI27, hf31, _, rfl, (by omega)⟩)
                · refine fz_iconst ⟨by decide, by decide⟩ kX10_atHour rfl ?_
                  refine fz_goto (tgt := 54) kX10_atHour rfl (by decide) ?_
                  refine fz_callV (d' := 5) (M' := mX10_townsWhere) (As := [fz_i on, fz_i hr, fz_i 1]) (st := []) kX10_atHour rfl rfl vX10_townsWhere rfl rfl rfl rfl (Nat.le_of_ble_eq_true rfl) (Nat.le_of_ble_eq_true rfl) (by decide) (sX10_townsWhere h hI on hr 1 ) (fun H32 r33 q34 o35 => ?_)
                  obtain ⟨hI36, hf37, y39, rfl, f38⟩ := q34
                  clear o35
                  have hf40 := fz_fr_tr hf hf37 (show fz_su [(18, 99999), (19, 99999), (29, 99999)] [(18, 99999), (19, 99999), (29, 99999)] = true from rfl)
                  exact fz_iret kX10_atHour rfl rfl (fun _ => ⟨hI36, hf40, _, rfl, (by omega)⟩)
              · refine fz_aload_n kX10_atHour rfl rfl ?_
                refine fz_iload_n kX10_atHour rfl rfl ?_
                refine fz_iload_n kX10_atHour rfl rfl ?_
                refine fz_callV (d' := 5) (M' := mX10_bestTown) (As := [fz_i on, fz_i hr]) (st := []) kX10_atHour rfl rfl vX10_bestTown rfl rfl rfl rfl (Nat.le_of_ble_eq_true rfl) (Nat.le_of_ble_eq_true rfl) (by decide) (sX10_bestTown h hI on hr ) (fun H41 r42 q43 o44 => ?_)
                obtain ⟨hI45, hf46, y48, rfl, f47⟩ := q43
                clear o44
                have hf49 := fz_fr_tr hf hf46 (show fz_su [(18, 99999), (19, 99999), (29, 99999)] [(18, 99999), (19, 99999), (29, 99999)] = true from rfl)
                refine fz_goto (tgt := 57) kX10_atHour rfl (by decide) ?_
                exact fz_iret kX10_atHour rfl rfl (fun _ => ⟨hI45, hf49, _, rfl, (by omega)⟩)
            · refine fz_iconst ⟨by decide, by decide⟩ kX10_atHour rfl ?_
              exact fz_iret kX10_atHour rfl rfl (fun _ => ⟨hI, hf, _, rfl, (by omega)⟩)
      · refine fz_if_eq (tgt := 25) kX10_atHour rfl (by decide) (fun c50 => ?_) (fun c50 => ?_)
        · refine fz_iconst ⟨by decide, by decide⟩ kX10_atHour rfl ?_
          exact fz_iret kX10_atHour rfl rfl (fun _ => ⟨hI, hf, _, rfl, (by omega)⟩)
        · exfalso; omega
  · refine fz_if_eq (tgt := 25) kX10_atHour rfl (by decide) (fun c51 => ?_) (fun c51 => ?_)
    · refine fz_iconst ⟨by decide, by decide⟩ kX10_atHour rfl ?_
      exact fz_iret kX10_atHour rfl rfl (fun _ => ⟨hI, hf, _, rfl, (by omega)⟩)
    · exfalso; omega

abbrev qX10_home (h : fz_H) (on th wh : Int) : fz_H → Option fz_V → Prop := fun h' r0 => fz_Iv h' ∧ fz_fr [(18, 99999), (19, 99999), (29, 99999)] h h' ∧ ∃ r : Int, r0 = some (fz_i r) ∧ ((-2147483648) ≤ r ∧ r ≤ 2147483647)
set_option maxHeartbeats 1000000 in
set_option maxRecDepth 100000 in
theorem sX10_home (h : fz_H) (hI : fz_Iv h) (on th wh : Int) : fz_R 6 mX10_home 0 [(0, fz_r 0), (1, fz_i on), (2, fz_i th), (3, fz_i wh)] [] h (qX10_home h on th wh) := by
  refine fz_knowl (fun hk => ?_)
  have hr_on : -2147483648 ≤ on ∧ on < 2147483648 := hk _ (List.Mem.tail _ (List.Mem.head _))
  have hr_th : -2147483648 ≤ th ∧ th < 2147483648 := hk _ (List.Mem.tail _ (List.Mem.tail _ (List.Mem.head _)))
  have hr_wh : -2147483648 ≤ wh ∧ wh < 2147483648 := hk _ (List.Mem.tail _ (List.Mem.tail _ (List.Mem.tail _ (List.Mem.head _))))
  clear hk
  have hf : fz_fr [(18, 99999), (19, 99999), (29, 99999)] h h := fz_fr_rf
  refine fz_aload_n kX10_home rfl rfl ?_
  refine fz_iload_n kX10_home rfl rfl ?_
  refine fz_callV (d' := 0) (M' := mX10_isOne) (As := [fz_i on]) (st := []) kX10_home rfl rfl vX10_isOne rfl rfl rfl rfl (Nat.le_of_ble_eq_true rfl) (Nat.le_of_ble_eq_true rfl) (by decide) (sX10_isOne h hI on ) (fun H1 r2 q3 o4 => ?_)
  obtain ⟨e5, y6, rfl, p7⟩ := q3
  subst H1
  clear o4
  rcases p7 with ⟨rfl, c8⟩ | ⟨rfl, c8⟩
  · refine fz_if_eq (tgt := 25) kX10_home rfl (by decide) (fun c9 => ?_) (fun c9 => ?_)
    · exfalso; omega
    · refine fz_aload_n kX10_home rfl rfl ?_
      refine fz_iload_n kX10_home rfl rfl ?_
      have b10 : 0 ≤ h 1 7 ∧ h 1 7 ≤ 8 := hI.1 1 _
      refine fz_callV (d' := 1) (M' := mX10_isTownAndHour) (As := [fz_i th]) (st := []) kX10_home rfl rfl vX10_isTownAndHour rfl rfl rfl rfl (Nat.le_of_ble_eq_true rfl) (Nat.le_of_ble_eq_true rfl) (by decide) (sX10_isTownAndHour h hI th ) (fun H11 r12 q13 o14 => ?_)
      obtain ⟨e15, y16, rfl, p17⟩ := q13
      subst H11
      clear o14
      rcases p17 with ⟨rfl, c18⟩ | ⟨rfl, c18⟩
      · refine fz_if_eq (tgt := 25) kX10_home rfl (by decide) (fun c19 => ?_) (fun c19 => ?_)
        · exfalso; omega
        · refine fz_iload_n kX10_home rfl rfl ?_
          refine fz_if_lt (tgt := 25) kX10_home rfl (by decide) (fun c20 => ?_) (fun c20 => ?_)
          · refine fz_iconst ⟨by decide, by decide⟩ kX10_home rfl ?_
            exact fz_iret kX10_home rfl rfl (fun _ => ⟨hI, hf, _, rfl, (by omega)⟩)
          · refine fz_iload_n kX10_home rfl rfl ?_
            refine fz_iconst ⟨by decide, by decide⟩ kX10_home rfl ?_
            refine fz_icmp_le (tgt := 27) kX10_home rfl (by decide) (fun c21 => ?_) (fun c21 => ?_)
            · refine fz_bipush ⟨by decide, by decide⟩ kX10_home rfl ?_
              refine fz_istore (ls' := [(4, fz_i (-2)), (0, fz_r 0), (1, fz_i on), (2, fz_i th), (3, fz_i wh)]) kX10_home rfl (by decide) rfl ?_
              refine fz_sipush ⟨by decide, by decide⟩ kX10_home rfl ?_
              refine fz_istore (ls' := [(5, fz_i 1000), (4, fz_i (-2)), (0, fz_r 0), (1, fz_i on), (2, fz_i th), (3, fz_i wh)]) kX10_home rfl (by decide) rfl ?_
              refine fz_iconst ⟨by decide, by decide⟩ kX10_home rfl ?_
              refine fz_istore (ls' := [(6, fz_i 0), (5, fz_i 1000), (4, fz_i (-2)), (0, fz_r 0), (1, fz_i on), (2, fz_i th), (3, fz_i wh)]) kX10_home rfl (by decide) rfl ?_
              have lp29 : ∀ (n28 : Nat) (x22 : Int) (x23 : Int) (x24 : Int) (H25 : fz_H), fz_Iv H25 → fz_fr [(18, 99999), (19, 99999), (29, 99999)] h H25 → (0 ≤ x22 ∧ x22 ≤ 2147483647) → ((-2147483648) ≤ x23 ∧ x23 ≤ 2147483647) → ((-2147483648) ≤ x24 ∧ x24 ≤ 2147483647) → ((h 1 7) - x22).toNat < n28 → fz_R 6 mX10_home 39 [(6, fz_i x22), (5, fz_i x23), (4, fz_i x24), (0, fz_r 0), (1, fz_i on), (2, fz_i th), (3, fz_i wh)] [] H25 (qX10_home h on th wh) := by
                intro n28
                induction n28 with
                | zero => intro x22 x23 x24 H25 hI26 hf27 hv32 hv33 hv34 hm31; exact absurd hm31 (by omega)
                | succ n28 ih30 =>
                  intro x22 x23 x24 H25 hI26 hf27 hv32 hv33 hv34 hm31
                  refine fz_iload kX10_home rfl rfl ?_
                  refine fz_aload_n kX10_home rfl rfl ?_
                  refine fz_getR (t := 1) kX10_home rfl rfl ?_
                  refine fz_getV (v := h 1 7) kX10_home rfl rfl (hf27 1 7 rfl) ?_
                  have b35 : 0 ≤ h 1 7 ∧ h 1 7 ≤ 8 := hI.1 1 _
                  refine fz_icmp_ge (tgt := 115) kX10_home rfl (by decide) (fun c36 => ?_) (fun c36 => ?_)
                  · refine fz_iload kX10_home rfl rfl ?_
                    refine fz_bipush ⟨by decide, by decide⟩ kX10_home rfl ?_
                    refine fz_icmp_eq (tgt := 127) kX10_home rfl (by decide) (fun c37 => ?_) (fun c37 => ?_)
                    · refine fz_iload kX10_home rfl rfl ?_
                      refine fz_goto (tgt := 134) kX10_home rfl (by decide) ?_
                      exact fz_iret kX10_home rfl rfl (fun _ => ⟨hI26, hf27, _, rfl, (by omega)⟩)
                    · refine fz_iload_n kX10_home rfl rfl ?_
                      refine fz_iconst ⟨by decide, by decide⟩ kX10_home rfl ?_
                      refine fz_icmp_ne (tgt := 132) kX10_home rfl (by decide) (fun c38 => ?_) (fun c38 => ?_)
                      · refine fz_iload kX10_home rfl rfl ?_
                        exact fz_iret kX10_home rfl rfl (fun _ => ⟨hI26, hf27, _, rfl, (by omega)⟩)
                      · refine fz_iload kX10_home rfl rfl ?_
                        refine fz_goto (tgt := 134) kX10_home rfl (by decide) ?_
                        exact fz_iret kX10_home rfl rfl (fun _ => ⟨hI26, hf27, _, rfl, (by omega)⟩)
                  · refine fz_aload_n kX10_home rfl rfl ?_
                    refine fz_getR (t := 1) kX10_home rfl rfl ?_
                    refine fz_iload_n kX10_home rfl rfl ?_
                    refine fz_sipush ⟨by decide, by decide⟩ kX10_home rfl ?_
                    refine fz_idivN kX10_home rfl (by omega) (by omega) (by omega) ?_
                    refine fz_iload kX10_home rfl rfl ?_
                    refine fz_callV (d' := 0) (M' := mX2_hoursByFeet) (As := [fz_i (th / 1000), fz_i x22]) (st := []) kX10_home rfl rfl vX2_hoursByFeet rfl rfl rfl rfl (Nat.le_of_ble_eq_true rfl) (Nat.le_of_ble_eq_true rfl) (by decide) (sX2_hoursByFeet H25 hI26 (th / 1000) x22 (by omega) (by omega)) (fun H39 r40 q41 o42 => ?_)
                    obtain ⟨e43, y45, rfl, f44⟩ := q41
                    subst H39
                    clear o42
                    refine fz_istore (ls' := [(7, fz_i y45), (6, fz_i x22), (5, fz_i x23), (4, fz_i x24), (0, fz_r 0), (1, fz_i on), (2, fz_i th), (3, fz_i wh)]) kX10_home rfl (by decide) rfl ?_
                    refine fz_iload_n kX10_home rfl rfl ?_
                    refine fz_sipush ⟨by decide, by decide⟩ kX10_home rfl ?_
                    refine fz_iremN kX10_home rfl (by omega) (by omega) (by omega) ?_
                    refine fz_iload kX10_home rfl rfl ?_
                    refine fz_iaddN kX10_home rfl (by omega) ?_
                    refine fz_istore (ls' := [(8, fz_i ((th % 1000) + y45)), (7, fz_i y45), (6, fz_i x22), (5, fz_i x23), (4, fz_i x24), (0, fz_r 0), (1, fz_i on), (2, fz_i th), (3, fz_i wh)]) kX10_home rfl (by decide) rfl ?_
                    refine fz_iload kX10_home rfl rfl ?_
                    refine fz_if_lt (tgt := 109) kX10_home rfl (by decide) (fun c46 => ?_) (fun c46 => ?_)
                    · refine fz_iincN (ls' := [(6, fz_i (x22 + 1)), (8, fz_i ((th % 1000) + y45)), (7, fz_i y45), (5, fz_i x23), (4, fz_i x24), (0, fz_r 0), (1, fz_i on), (2, fz_i th), (3, fz_i wh)]) kX10_home rfl (by decide) rfl (by omega) rfl ?_
                      refine fz_goto (tgt := 39) kX10_home rfl (by decide) ?_
                      refine fz_sub (fz_pk_sub (ls' := [(6, fz_i (x22 + 1)), (5, fz_i x23), (4, fz_i x24), (0, fz_r 0), (1, fz_i on), (2, fz_i th), (3, fz_i wh)]) [0, 3, 4, 5, 6, 7, 8] rfl) ?_
                      exact ih30 (x22 + 1) x23 x24 H25 hI26 hf27 (by omega) (by omega) (by omega) (by omega)
                    · refine fz_iload kX10_home rfl rfl ?_
                      refine fz_iload kX10_home rfl rfl ?_
                      refine fz_icmp_ge (tgt := 109) kX10_home rfl (by decide) (fun c47 => ?_) (fun c47 => ?_)
                      · refine fz_iincN (ls' := [(6, fz_i (x22 + 1)), (8, fz_i ((th % 1000) + y45)), (7, fz_i y45), (5, fz_i x23), (4, fz_i x24), (0, fz_r 0), (1, fz_i on), (2, fz_i th), (3, fz_i wh)]) kX10_home rfl (by decide) rfl (by omega) rfl ?_
                        refine fz_goto (tgt := 39) kX10_home rfl (by decide) ?_
                        refine fz_sub (fz_pk_sub (ls' := [(6, fz_i (x22 + 1)), (5, fz_i x23), (4, fz_i x24), (0, fz_r 0), (1, fz_i on), (2, fz_i th), (3, fz_i wh)]) [0, 3, 4, 5, 6, 7, 8] rfl) ?_
                        exact ih30 (x22 + 1) x23 x24 H25 hI26 hf27 (by omega) (by omega) (by omega) (by omega)
                      · refine fz_aload_n kX10_home rfl rfl ?_
                        refine fz_iload_n kX10_home rfl rfl ?_
                        refine fz_iload kX10_home rfl rfl ?_
                        refine fz_iload kX10_home rfl rfl ?_
                        refine fz_callV (d' := 5) (M' := mX10_isUnsaid) (As := [fz_i on, fz_i x22, fz_i ((th % 1000) + y45)]) (st := []) kX10_home rfl rfl vX10_isUnsaid rfl rfl rfl rfl (Nat.le_of_ble_eq_true rfl) (Nat.le_of_ble_eq_true rfl) (by decide) (sX10_isUnsaid H25 hI26 on x22 ((th % 1000) + y45) (by omega)) (fun H48 r49 q50 o51 => ?_)
                        obtain ⟨hI52, hf53, y54, rfl, p55⟩ := q50
                        clear o51
                        have hf56 := fz_fr_tr hf27 hf53 (show fz_su [(18, 99999), (19, 99999), (29, 99999)] [(18, 99999), (19, 99999), (29, 99999)] = true from rfl)
                        refine fz_if_eq (tgt := 109) kX10_home rfl (by decide) (fun c57 => ?_) (fun c57 => ?_)
                        · refine fz_iincN (ls' := [(6, fz_i (x22 + 1)), (8, fz_i ((th % 1000) + y45)), (7, fz_i y45), (5, fz_i x23), (4, fz_i x24), (0, fz_r 0), (1, fz_i on), (2, fz_i th), (3, fz_i wh)]) kX10_home rfl (by decide) rfl (by omega) rfl ?_
                          refine fz_goto (tgt := 39) kX10_home rfl (by decide) ?_
                          refine fz_sub (fz_pk_sub (ls' := [(6, fz_i (x22 + 1)), (5, fz_i x23), (4, fz_i x24), (0, fz_r 0), (1, fz_i on), (2, fz_i th), (3, fz_i wh)]) [0, 3, 4, 5, 6, 7, 8] rfl) ?_
                          exact ih30 (x22 + 1) x23 x24 H48 hI52 hf56 (by omega) (by omega) (by omega) (by omega)
                        · refine fz_iload kX10_home rfl rfl ?_
                          refine fz_istore (ls' := [(4, fz_i x22), (8, fz_i ((th % 1000) + y45)), (7, fz_i y45), (6, fz_i x22), (5, fz_i x23), (0, fz_r 0), (1, fz_i on), (2, fz_i th), (3, fz_i wh)]) kX10_home rfl (by decide) rfl ?_
                          refine fz_iload kX10_home rfl rfl ?_
                          refine fz_istore (ls' := [(5, fz_i ((th % 1000) + y45)), (4, fz_i x22), (8, fz_i ((th % 1000) + y45)), (7, fz_i y45), (6, fz_i x22), (0, fz_r 0), (1, fz_i on), (2, fz_i th), (3, fz_i wh)]) kX10_home rfl (by decide) rfl ?_
                          refine fz_iincN (ls' := [(6, fz_i (x22 + 1)), (5, fz_i ((th % 1000) + y45)), (4, fz_i x22), (8, fz_i ((th % 1000) + y45)), (7, fz_i y45), (0, fz_r 0), (1, fz_i on), (2, fz_i th), (3, fz_i wh)]) kX10_home rfl (by decide) rfl (by omega) rfl ?_
                          refine fz_goto (tgt := 39) kX10_home rfl (by decide) ?_
                          refine fz_sub (fz_pk_sub (ls' := [(6, fz_i (x22 + 1)), (5, fz_i ((th % 1000) + y45)), (4, fz_i x22), (0, fz_r 0), (1, fz_i on), (2, fz_i th), (3, fz_i wh)]) [0, 1, 2, 5, 6, 7, 8] rfl) ?_
                          exact ih30 (x22 + 1) ((th % 1000) + y45) x22 H48 hI52 hf56 (by omega) (by omega) (by omega) (by omega)
              exact lp29 _ 0 1000 (-2) h hI hf (by omega) (by omega) (by omega) (Nat.lt_succ_self _)
            · refine fz_iconst ⟨by decide, by decide⟩ kX10_home rfl ?_
              exact fz_iret kX10_home rfl rfl (fun _ => ⟨hI, hf, _, rfl, (by omega)⟩)
      · refine fz_if_eq (tgt := 25) kX10_home rfl (by decide) (fun c58 => ?_) (fun c58 => ?_)
        · refine fz_iconst ⟨by decide, by decide⟩ kX10_home rfl ?_
          exact fz_iret kX10_home rfl rfl (fun _ => ⟨hI, hf, _, rfl, (by omega)⟩)
        · exfalso; omega
  · refine fz_if_eq (tgt := 25) kX10_home rfl (by decide) (fun c59 => ?_) (fun c59 => ?_)
    · refine fz_iconst ⟨by decide, by decide⟩ kX10_home rfl ?_
      exact fz_iret kX10_home rfl rfl (fun _ => ⟨hI, hf, _, rfl, (by omega)⟩)
    · exfalso; omega

abbrev qX10_route (h : fz_H) (on th k : Int) : fz_H → Option fz_V → Prop := fun h' r0 => fz_Iv h' ∧ fz_fr [(18, 99999), (19, 99999), (29, 99999), (33, 3), (33, 4), (33, 5), (33, 6), (33, 7), (34, 99999)] h h' ∧ ∃ r : Int, r0 = some (fz_i r) ∧ ((-2147483648) ≤ r ∧ r ≤ 2147483647)
set_option maxHeartbeats 1000000 in
set_option maxRecDepth 100000 in
theorem sX10_route (h : fz_H) (hI : fz_Iv h) (on th k : Int) : fz_R 10 mX10_route 0 [(0, fz_r 0), (1, fz_i on), (2, fz_i th), (3, fz_i k)] [] h (qX10_route h on th k) := by
  refine fz_knowl (fun hk => ?_)
  have hr_on : -2147483648 ≤ on ∧ on < 2147483648 := hk _ (List.Mem.tail _ (List.Mem.head _))
  have hr_th : -2147483648 ≤ th ∧ th < 2147483648 := hk _ (List.Mem.tail _ (List.Mem.tail _ (List.Mem.head _)))
  have hr_k : -2147483648 ≤ k ∧ k < 2147483648 := hk _ (List.Mem.tail _ (List.Mem.tail _ (List.Mem.tail _ (List.Mem.head _))))
  clear hk
  have hf : fz_fr [(18, 99999), (19, 99999), (29, 99999), (33, 3), (33, 4), (33, 5), (33, 6), (33, 7), (34, 99999)] h h := fz_fr_rf
  refine fz_aload_n kX10_route rfl rfl ?_
  refine fz_iload_n kX10_route rfl rfl ?_
  refine fz_callV (d' := 0) (M' := mX10_isOne) (As := [fz_i on]) (st := []) kX10_route rfl rfl vX10_isOne rfl rfl rfl rfl (Nat.le_of_ble_eq_true rfl) (Nat.le_of_ble_eq_true rfl) (by decide) (sX10_isOne h hI on ) (fun H1 r2 q3 o4 => ?_)
  obtain ⟨e5, y6, rfl, p7⟩ := q3
  subst H1
  clear o4
  rcases p7 with ⟨rfl, c8⟩ | ⟨rfl, c8⟩
  · refine fz_if_eq (tgt := 21) kX10_route rfl (by decide) (fun c9 => ?_) (fun c9 => ?_)
    · exfalso; omega
    · refine fz_aload_n kX10_route rfl rfl ?_
      refine fz_iload_n kX10_route rfl rfl ?_
      have b10 : 0 ≤ h 1 7 ∧ h 1 7 ≤ 8 := hI.1 1 _
      refine fz_callV (d' := 1) (M' := mX10_isTownAndHour) (As := [fz_i th]) (st := []) kX10_route rfl rfl vX10_isTownAndHour rfl rfl rfl rfl (Nat.le_of_ble_eq_true rfl) (Nat.le_of_ble_eq_true rfl) (by decide) (sX10_isTownAndHour h hI th ) (fun H11 r12 q13 o14 => ?_)
      obtain ⟨e15, y16, rfl, p17⟩ := q13
      subst H11
      clear o14
      rcases p17 with ⟨rfl, c18⟩ | ⟨rfl, c18⟩
      · refine fz_if_eq (tgt := 21) kX10_route rfl (by decide) (fun c19 => ?_) (fun c19 => ?_)
        · exfalso; omega
        · refine fz_iload_n kX10_route rfl rfl ?_
          refine fz_iconst ⟨by decide, by decide⟩ kX10_route rfl ?_
          refine fz_icmp_ge (tgt := 24) kX10_route rfl (by decide) (fun c20 => ?_) (fun c20 => ?_)
          · refine fz_aload_n kX10_route rfl rfl ?_
            refine fz_getR (t := 33) kX10_route rfl rfl ?_
            refine fz_iload_n kX10_route rfl rfl ?_
            refine fz_iload_n kX10_route rfl rfl ?_
            refine fz_sipush ⟨by decide, by decide⟩ kX10_route rfl ?_
            refine fz_idivN kX10_route rfl (by omega) (by omega) (by omega) ?_
            refine fz_iload_n kX10_route rfl rfl ?_
            refine fz_sipush ⟨by decide, by decide⟩ kX10_route rfl ?_
            refine fz_iremN kX10_route rfl (by omega) (by omega) (by omega) ?_
            refine fz_callV (d' := 9) (M' := mX6_seek) (As := [fz_i on, fz_i (th / 1000), fz_i (th % 1000)]) (st := []) kX10_route rfl rfl vX6_seek rfl rfl rfl rfl (Nat.le_of_ble_eq_true rfl) (Nat.le_of_ble_eq_true rfl) (by decide) (sX6_seek h hI on (th / 1000) (th % 1000) (by omega) (by omega) (by omega)) (fun H21 r22 q23 o24 => ?_)
            obtain ⟨hI25, hf26, rfl⟩ := q23
            clear o24
            have hf27 := fz_fr_tr hf hf26 (show fz_su [(18, 99999), (19, 99999), (29, 99999), (33, 3), (33, 4), (33, 5), (33, 6), (33, 7), (34, 99999)] [(18, 99999), (19, 99999), (29, 99999), (33, 3), (33, 4), (33, 5), (33, 6), (33, 7), (34, 99999)] = true from rfl)
            refine fz_iload_n kX10_route rfl rfl ?_
            refine fz_iconst ⟨by decide, by decide⟩ kX10_route rfl ?_
            refine fz_icmp_ne (tgt := 57) kX10_route rfl (by decide) (fun c28 => ?_) (fun c28 => ?_)
            · refine fz_aload_n kX10_route rfl rfl ?_
              refine fz_getR (t := 33) kX10_route rfl rfl ?_
              refine fz_iload_n kX10_route rfl rfl ?_
              refine fz_callV (d' := 0) (M' := mX6_townAt) (As := [fz_i k]) (st := []) kX10_route rfl rfl vX6_townAt rfl rfl rfl rfl (Nat.le_of_ble_eq_true rfl) (Nat.le_of_ble_eq_true rfl) (by decide) (sX6_townAt H21 hI25 k ) (fun H29 r30 q31 o32 => ?_)
              obtain ⟨e33, y35, rfl, f34⟩ := q31
              subst H29
              clear o32
              exact fz_iret kX10_route rfl rfl (fun _ => ⟨hI25, hf27, _, rfl, (by omega)⟩)
            · refine fz_aload_n kX10_route rfl rfl ?_
              refine fz_getR (t := 33) kX10_route rfl rfl ?_
              obtain ⟨v36, e37⟩ : ∃ z, H21 33 (5) = z := ⟨_, rfl⟩
              refine fz_getV (v := v36) kX10_route rfl rfl e37 ?_
              have b38 : (-2147483648) ≤ v36 ∧ v36 ≤ 2147483647 := by rw [← e37]; exact hI25.1 33 _
              refine fz_goto (tgt := 65) kX10_route rfl (by decide) ?_
              exact fz_iret kX10_route rfl rfl (fun _ => ⟨hI25, hf27, _, rfl, (by omega)⟩)
          · refine fz_ldc (x := (-2000000000)) kX10_route rfl rfl rfl ?_
            exact fz_iret kX10_route rfl rfl (fun _ => ⟨hI, hf, _, rfl, (by omega)⟩)
      · refine fz_if_eq (tgt := 21) kX10_route rfl (by decide) (fun c39 => ?_) (fun c39 => ?_)
        · refine fz_ldc (x := (-2000000000)) kX10_route rfl rfl rfl ?_
          exact fz_iret kX10_route rfl rfl (fun _ => ⟨hI, hf, _, rfl, (by omega)⟩)
        · exfalso; omega
  · refine fz_if_eq (tgt := 21) kX10_route rfl (by decide) (fun c40 => ?_) (fun c40 => ?_)
    · refine fz_ldc (x := (-2000000000)) kX10_route rfl rfl rfl ?_
      exact fz_iret kX10_route rfl rfl (fun _ => ⟨hI, hf, _, rfl, (by omega)⟩)
    · exfalso; omega
