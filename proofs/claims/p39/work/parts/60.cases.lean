/-! ===== the law, case by case ===== -/
def fz_all : List (Nat × Nat) := [(0, 99999), (1, 99999), (2, 99999), (3, 99999), (4, 99999), (5, 99999), (6, 99999), (7, 99999), (8, 99999), (9, 99999), (10, 99999), (11, 99999), (12, 99999), (13, 99999), (14, 99999), (15, 99999), (16, 99999), (17, 99999), (18, 99999), (19, 99999), (20, 99999), (21, 99999), (22, 99999), (23, 99999), (24, 99999), (25, 99999), (26, 99999), (27, 99999), (28, 99999), (29, 99999), (30, 99999), (31, 99999), (32, 99999), (33, 99999), (34, 99999), (35, 99999), (36, 99999), (37, 99999), (38, 99999), (39, 99999), (40, 99999), (41, 99999), (42, 99999), (43, 99999), (44, 99999), (45, 99999), (46, 99999), (47, 99999), (48, 99999), (49, 99999), (50, 99999), (51, 99999), (52, 99999), (53, 99999), (54, 99999), (55, 99999), (56, 99999), (57, 99999), (58, 99999), (59, 99999), (60, 99999), (61, 99999), (62, 99999), (63, 99999), (64, 99999), (65, 99999), (66, 99999), (67, 99999), (68, 99999), (69, 99999), (70, 99999), (71, 99999), (72, 99999), (73, 99999), (74, 99999), (75, 99999), (76, 99999), (77, 99999), (78, 99999), (79, 99999), (80, 99999), (81, 99999), (82, 99999), (83, 99999), (84, 99999), (85, 99999), (86, 99999), (87, 99999), (88, 99999), (89, 99999), (90, 99999)]
/-- what holds between two calls -/
def fz_Gd (h : fz_H) : Prop := fz_Iv h ∧ fz_Xc h ∧ fz_Xd h ∧ fz_Xh h ∧ fz_Xw h ∧ h 53 10 ≤ 10 ∧ h 53 42 ≤ h 53 41 ∧ h 44 2 = h 53 44 ∧ h 20 2 = h 53 16 ∧ h 1 7 = h 53 0 ∧ h 1 8 = h 53 2
theorem fz_su_all {S : List (Nat × Nat)} (h : S.all (fun q => Nat.blt q.1 91) = true) : fz_su S fz_all = true := by
  have key : ∀ n, n < 91 → (n, 99999) ∈ fz_all := by decide +kernel
  refine List.all_eq_true.mpr (fun q hq => List.any_eq_true.mpr ⟨_, key q.1 (by have h1 := List.all_eq_true.mp h q hq; exact Nat.le_of_ble_eq_true h1), ?_⟩)
  simp
theorem fz_sw {y : MethodName} {c : ByteArray} {n : Nat} {r : Option FieldType} {L L' : List fz_I} {d pc : Nat} {ls : List (Nat × fz_V)} {st : List fz_V} {h : fz_H} {Q : fz_H → Option fz_V → Prop} (k : fz_R d (y, c, n, r, L') pc ls st h Q) : fz_R d (y, c, n, r, L) pc ls st h Q := k
def mLe : fz_M := (yL_law, code, 4, (some .boolean), [(1816, .iinc 3 6, 3, 0, 0, 0), (1819, .goto (-1801), 3, 0, 0, 0), (1822, .iconst 1, 1, 0, 0, 0), (1823, .ireturn, 1, 0, 0, 0)])
set_option maxRecDepth 100000 in
theorem kLe : fz_okM mLe = true := by decide +kernel
def mLc0 : fz_M := (yL_law, code, 4, (some .boolean), [(224, .aload_n 1, 1, 0, 0, 0), (225, .aload_n 0, 1, 0, 0, 0), (226, .iload_n 3, 1, 0, 0, 0), (227, .iconst 1, 1, 0, 0, 0), (228, .iadd, 1, 0, 0, 0), (229, .iaload, 1, 0, 0, 0), (230, .invokevirtual 13, 3, 2142, 73, 0), (233, .pop, 1, 0, 0, 0), (234, .aload_n 2, 1, 0, 0, 0), (235, .aload_n 0, 1, 0, 0, 0), (236, .iload_n 3, 1, 0, 0, 0), (237, .iconst 1, 1, 0, 0, 0), (238, .iadd, 1, 0, 0, 0), (239, .iaload, 1, 0, 0, 0), (240, .invokevirtual 17, 3, 6022, 177, 0), (243, .pop, 1, 0, 0, 0), (244, .goto 1572, 3, 0, 0, 0)])
set_option maxRecDepth 100000 in
theorem kLc0 : fz_okM mLc0 = true := by decide +kernel
set_option maxHeartbeats 1000000 in
set_option maxRecDepth 100000 in
theorem lc0 (h : fz_H) (hI : fz_Iv h) (hX : fz_Xc h) (hXd : fz_Xd h) (hXh : fz_Xh h) (hXw : fz_Xw h) (hv1 : h 53 10 ≤ 10) (hv2 : h 53 42 ≤ h 53 41) (hr0 : h 44 2 = h 53 44) (hr1 : h 20 2 = h 53 16) (hr2 : h 1 7 = h 53 0) (hr3 : h 1 8 = h 53 2) (i : Int) (hi : 0 ≤ i ∧ i + 6 ≤ h 200 100000 ∧ h 200 100000 ≤ 3072) {Q : fz_H → Option fz_V → Prop} (K : ∀ H : fz_H, fz_Gd H → H 200 = h 200 → fz_R 47 mLe 1816 [(3, fz_i i), (0, fz_r 200), (1, fz_r 0), (2, fz_r 53)] [] H Q) : fz_R 47 mLc0 224 [(3, fz_i i), (0, fz_r 200), (1, fz_r 0), (2, fz_r 53)] [] h Q := by
  have hf : fz_fr fz_all h h := fz_fr_rf
  refine fz_aload_n kLc0 rfl rfl ?_
  refine fz_aload_n kLc0 rfl rfl ?_
  refine fz_iload_n kLc0 rfl rfl ?_
  refine fz_iconst ⟨by decide, by decide⟩ kLc0 rfl ?_
  refine fz_iaddN kLc0 rfl (by omega) ?_
  obtain ⟨a1, e2⟩ : ∃ z, h 200 ((i + 1)).toNat = z := ⟨_, rfl⟩
  refine fz_taldV (v := a1) kLc0 rfl ⟨by decide, by decide⟩ (by omega) (by omega) e2 ?_
  have b3 : 0 ≤ h 1 7 ∧ h 1 7 ≤ 8 := hI.1 1 _
  refine fz_callV (d' := 4) (M' := mX10_town) (As := [fz_i a1]) (st := []) kLc0 rfl rfl vX10_town rfl rfl rfl rfl (Nat.le_of_ble_eq_true rfl) (Nat.le_of_ble_eq_true rfl) (by decide) (sX10_town h hI a1 ) (fun H4 r5 q6 o7 => ?_)
  obtain ⟨hI8, hf9, y12, rfl, f10, f11⟩ := q6
  clear o7
  have hf13 := fz_fr_tr hf hf9 (fz_su_all rfl)
  have hXd14 : fz_Xd H4 := fz_Xd_eq (funext fun s => hf9 80 s rfl) hXd
  have hXh15 : fz_Xh H4 := fz_Xh_eq (funext fun s => hf9 83 s rfl) hXh
  have hXw16 : fz_Xw H4 := fz_Xw_eq (hf9 53 19 rfl) (funext fun s => hf9 66 s rfl) (funext fun s => hf9 67 s rfl) (funext fun s => hf9 68 s rfl) (funext fun s => hf9 69 s rfl) hXw
  have hX17 : fz_Xc H4 := fz_Xc_fr hf9 rfl hX
  have t18 : H4 53 10 = h 53 10 := hf9 53 10 rfl
  have t19 : H4 53 41 = h 53 41 := hf9 53 41 rfl
  have t20 : H4 53 42 = h 53 42 := hf9 53 42 rfl
  have t21 : H4 44 2 = h 44 2 := hf9 44 2 rfl
  have t22 : H4 53 44 = h 53 44 := hf9 53 44 rfl
  have t23 : H4 20 2 = h 20 2 := hf9 20 2 rfl
  have t24 : H4 53 16 = h 53 16 := hf9 53 16 rfl
  have t25 : H4 53 0 = h 53 0 := hf9 53 0 rfl
  have t26 : H4 1 8 = h 1 8 := hf9 1 8 rfl
  have t27 : H4 53 2 = h 53 2 := hf9 53 2 rfl
  refine fz_pop rfl kLc0 rfl ?_
  refine fz_aload_n kLc0 rfl rfl ?_
  refine fz_aload_n kLc0 rfl rfl ?_
  refine fz_iload_n kLc0 rfl rfl ?_
  refine fz_iconst ⟨by decide, by decide⟩ kLc0 rfl ?_
  refine fz_iaddN kLc0 rfl (by omega) ?_
  obtain ⟨a28, e29⟩ : ∃ z, h 200 ((i + 1)).toNat = z := ⟨_, rfl⟩
  refine fz_taldV (v := a28) kLc0 rfl ⟨by decide, by decide⟩ (by omega) (by rw [hf13 200 _ rfl]; omega) ((hf13 200 _ rfl).trans e29) ?_
  have b30 : 0 ≤ H4 53 0 ∧ H4 53 0 ≤ 8 := hI8.1 53 _
  refine fz_callV (d' := 1) (M' := mX11_town) (As := [fz_i a28]) (st := []) kLc0 rfl rfl vX11_town rfl rfl rfl rfl (Nat.le_of_ble_eq_true rfl) (Nat.le_of_ble_eq_true rfl) (by decide) (sX11_town H4 hI8 a28 ) (fun H31 r32 q33 o34 => ?_)
  obtain ⟨hI35, hf36, y39, rfl, f37, f38⟩ := q33
  clear o34
  have hf40 := fz_fr_tr hf13 hf36 (fz_su_all rfl)
  have hXd41 : fz_Xd H31 := fz_Xd_eq (funext fun s => hf36 80 s rfl) hXd14
  have hXh42 : fz_Xh H31 := fz_Xh_eq (funext fun s => hf36 83 s rfl) hXh15
  have hXw43 : fz_Xw H31 := fz_Xw_eq (hf36 53 19 rfl) (funext fun s => hf36 66 s rfl) (funext fun s => hf36 67 s rfl) (funext fun s => hf36 68 s rfl) (funext fun s => hf36 69 s rfl) hXw16
  have hX44 : fz_Xc H31 := fz_Xc_fr hf36 rfl hX17
  have t45 : H31 53 10 = H4 53 10 := hf36 53 10 rfl
  have t46 : H31 53 41 = H4 53 41 := hf36 53 41 rfl
  have t47 : H31 53 42 = H4 53 42 := hf36 53 42 rfl
  have t48 : H31 44 2 = H4 44 2 := hf36 44 2 rfl
  have t49 : H31 53 44 = H4 53 44 := hf36 53 44 rfl
  have t50 : H31 20 2 = H4 20 2 := hf36 20 2 rfl
  have t51 : H31 53 16 = H4 53 16 := hf36 53 16 rfl
  have t52 : H31 1 7 = H4 1 7 := hf36 1 7 rfl
  have t53 : H31 1 8 = H4 1 8 := hf36 1 8 rfl
  have t54 : H31 53 2 = H4 53 2 := hf36 53 2 rfl
  refine fz_pop rfl kLc0 rfl ?_
  refine fz_goto (tgt := 1816) kLc0 rfl (by decide) ?_
  exact K H31 ⟨hI35, hX44, hXd41, hXh42, hXw43, by omega, by omega, by omega, by omega, by omega, by omega⟩ (funext fun s => hf40 200 s rfl)
def mLc1 : fz_M := (yL_law, code, 4, (some .boolean), [(247, .aload_n 1, 1, 0, 0, 0), (248, .aload_n 0, 1, 0, 0, 0), (249, .iload_n 3, 1, 0, 0, 0), (250, .iconst 1, 1, 0, 0, 0), (251, .iadd, 1, 0, 0, 0), (252, .iaload, 1, 0, 0, 0), (253, .aload_n 0, 1, 0, 0, 0), (254, .iload_n 3, 1, 0, 0, 0), (255, .iconst 2, 1, 0, 0, 0), (256, .iadd, 1, 0, 0, 0), (257, .iaload, 1, 0, 0, 0), (258, .invokevirtual 18, 3, 2173, 67, 0), (261, .pop, 1, 0, 0, 0), (262, .aload_n 2, 1, 0, 0, 0), (263, .aload_n 0, 1, 0, 0, 0), (264, .iload_n 3, 1, 0, 0, 0), (265, .iconst 1, 1, 0, 0, 0), (266, .iadd, 1, 0, 0, 0), (267, .iaload, 1, 0, 0, 0), (268, .aload_n 0, 1, 0, 0, 0), (269, .iload_n 3, 1, 0, 0, 0), (270, .iconst 2, 1, 0, 0, 0), (271, .iadd, 1, 0, 0, 0), (272, .iaload, 1, 0, 0, 0), (273, .invokevirtual 22, 3, 6033, 166, 0), (276, .pop, 1, 0, 0, 0), (277, .goto 1539, 3, 0, 0, 0)])
set_option maxRecDepth 100000 in
theorem kLc1 : fz_okM mLc1 = true := by decide +kernel
set_option maxHeartbeats 1000000 in
set_option maxRecDepth 100000 in
theorem lc1 (h : fz_H) (hI : fz_Iv h) (hX : fz_Xc h) (hXd : fz_Xd h) (hXh : fz_Xh h) (hXw : fz_Xw h) (hv1 : h 53 10 ≤ 10) (hv2 : h 53 42 ≤ h 53 41) (hr0 : h 44 2 = h 53 44) (hr1 : h 20 2 = h 53 16) (hr2 : h 1 7 = h 53 0) (hr3 : h 1 8 = h 53 2) (i : Int) (hi : 0 ≤ i ∧ i + 6 ≤ h 200 100000 ∧ h 200 100000 ≤ 3072) {Q : fz_H → Option fz_V → Prop} (K : ∀ H : fz_H, fz_Gd H → H 200 = h 200 → fz_R 47 mLe 1816 [(3, fz_i i), (0, fz_r 200), (1, fz_r 0), (2, fz_r 53)] [] H Q) : fz_R 47 mLc1 247 [(3, fz_i i), (0, fz_r 200), (1, fz_r 0), (2, fz_r 53)] [] h Q := by
  have hf : fz_fr fz_all h h := fz_fr_rf
  refine fz_aload_n kLc1 rfl rfl ?_
  refine fz_aload_n kLc1 rfl rfl ?_
  refine fz_iload_n kLc1 rfl rfl ?_
  refine fz_iconst ⟨by decide, by decide⟩ kLc1 rfl ?_
  refine fz_iaddN kLc1 rfl (by omega) ?_
  obtain ⟨a1, e2⟩ : ∃ z, h 200 ((i + 1)).toNat = z := ⟨_, rfl⟩
  refine fz_taldV (v := a1) kLc1 rfl ⟨by decide, by decide⟩ (by omega) (by omega) e2 ?_
  refine fz_aload_n kLc1 rfl rfl ?_
  refine fz_iload_n kLc1 rfl rfl ?_
  refine fz_iconst ⟨by decide, by decide⟩ kLc1 rfl ?_
  refine fz_iaddN kLc1 rfl (by omega) ?_
  obtain ⟨a3, e4⟩ : ∃ z, h 200 ((i + 2)).toNat = z := ⟨_, rfl⟩
  refine fz_taldV (v := a3) kLc1 rfl ⟨by decide, by decide⟩ (by omega) (by omega) e4 ?_
  have b5 : 0 ≤ h 1 7 ∧ h 1 7 ≤ 8 := hI.1 1 _
  have b6 : 0 ≤ h 1 8 ∧ h 1 8 ≤ 12 := hI.1 1 _
  refine fz_callV (d' := 4) (M' := mX10_road) (As := [fz_i a1, fz_i a3]) (st := []) kLc1 rfl rfl vX10_road rfl rfl rfl rfl (Nat.le_of_ble_eq_true rfl) (Nat.le_of_ble_eq_true rfl) (by decide) (sX10_road h hI a1 a3 ) (fun H7 r8 q9 o10 => ?_)
  obtain ⟨hI11, hf12, y15, rfl, f13, f14⟩ := q9
  clear o10
  have hf16 := fz_fr_tr hf hf12 (fz_su_all rfl)
  have hXd17 : fz_Xd H7 := fz_Xd_eq (funext fun s => hf12 80 s rfl) hXd
  have hXh18 : fz_Xh H7 := fz_Xh_eq (funext fun s => hf12 83 s rfl) hXh
  have hXw19 : fz_Xw H7 := fz_Xw_eq (hf12 53 19 rfl) (funext fun s => hf12 66 s rfl) (funext fun s => hf12 67 s rfl) (funext fun s => hf12 68 s rfl) (funext fun s => hf12 69 s rfl) hXw
  have hX20 : fz_Xc H7 := fz_Xc_fr hf12 rfl hX
  have t21 : H7 53 10 = h 53 10 := hf12 53 10 rfl
  have t22 : H7 53 41 = h 53 41 := hf12 53 41 rfl
  have t23 : H7 53 42 = h 53 42 := hf12 53 42 rfl
  have t24 : H7 44 2 = h 44 2 := hf12 44 2 rfl
  have t25 : H7 53 44 = h 53 44 := hf12 53 44 rfl
  have t26 : H7 20 2 = h 20 2 := hf12 20 2 rfl
  have t27 : H7 53 16 = h 53 16 := hf12 53 16 rfl
  have t28 : H7 1 7 = h 1 7 := hf12 1 7 rfl
  have t29 : H7 53 0 = h 53 0 := hf12 53 0 rfl
  have t30 : H7 53 2 = h 53 2 := hf12 53 2 rfl
  refine fz_pop rfl kLc1 rfl ?_
  refine fz_aload_n kLc1 rfl rfl ?_
  refine fz_aload_n kLc1 rfl rfl ?_
  refine fz_iload_n kLc1 rfl rfl ?_
  refine fz_iconst ⟨by decide, by decide⟩ kLc1 rfl ?_
  refine fz_iaddN kLc1 rfl (by omega) ?_
  obtain ⟨a31, e32⟩ : ∃ z, h 200 ((i + 1)).toNat = z := ⟨_, rfl⟩
  refine fz_taldV (v := a31) kLc1 rfl ⟨by decide, by decide⟩ (by omega) (by rw [hf16 200 _ rfl]; omega) ((hf16 200 _ rfl).trans e32) ?_
  refine fz_aload_n kLc1 rfl rfl ?_
  refine fz_iload_n kLc1 rfl rfl ?_
  refine fz_iconst ⟨by decide, by decide⟩ kLc1 rfl ?_
  refine fz_iaddN kLc1 rfl (by omega) ?_
  obtain ⟨a33, e34⟩ : ∃ z, h 200 ((i + 2)).toNat = z := ⟨_, rfl⟩
  refine fz_taldV (v := a33) kLc1 rfl ⟨by decide, by decide⟩ (by omega) (by rw [hf16 200 _ rfl]; omega) ((hf16 200 _ rfl).trans e34) ?_
  have b35 : 0 ≤ H7 53 0 ∧ H7 53 0 ≤ 8 := hI11.1 53 _
  have b36 : 0 ≤ H7 53 2 ∧ H7 53 2 ≤ 12 := hI11.1 53 _
  refine fz_callV (d' := 3) (M' := mX11_road) (As := [fz_i a31, fz_i a33]) (st := []) kLc1 rfl rfl vX11_road rfl rfl rfl rfl (Nat.le_of_ble_eq_true rfl) (Nat.le_of_ble_eq_true rfl) (by decide) (sX11_road H7 hI11 a31 a33 ) (fun H37 r38 q39 o40 => ?_)
  obtain ⟨hI41, hf42, y45, rfl, f43, f44⟩ := q39
  clear o40
  have hf46 := fz_fr_tr hf16 hf42 (fz_su_all rfl)
  have hXd47 : fz_Xd H37 := fz_Xd_eq (funext fun s => hf42 80 s rfl) hXd17
  have hXh48 : fz_Xh H37 := fz_Xh_eq (funext fun s => hf42 83 s rfl) hXh18
  have hXw49 : fz_Xw H37 := fz_Xw_eq (hf42 53 19 rfl) (funext fun s => hf42 66 s rfl) (funext fun s => hf42 67 s rfl) (funext fun s => hf42 68 s rfl) (funext fun s => hf42 69 s rfl) hXw19
  have hX50 : fz_Xc H37 := fz_Xc_fr hf42 rfl hX20
  have t51 : H37 53 10 = H7 53 10 := hf42 53 10 rfl
  have t52 : H37 53 41 = H7 53 41 := hf42 53 41 rfl
  have t53 : H37 53 42 = H7 53 42 := hf42 53 42 rfl
  have t54 : H37 44 2 = H7 44 2 := hf42 44 2 rfl
  have t55 : H37 53 44 = H7 53 44 := hf42 53 44 rfl
  have t56 : H37 20 2 = H7 20 2 := hf42 20 2 rfl
  have t57 : H37 53 16 = H7 53 16 := hf42 53 16 rfl
  have t58 : H37 1 7 = H7 1 7 := hf42 1 7 rfl
  have t59 : H37 53 0 = H7 53 0 := hf42 53 0 rfl
  have t60 : H37 1 8 = H7 1 8 := hf42 1 8 rfl
  refine fz_pop rfl kLc1 rfl ?_
  refine fz_goto (tgt := 1816) kLc1 rfl (by decide) ?_
  exact K H37 ⟨hI41, hX50, hXd47, hXh48, hXw49, by omega, by omega, by omega, by omega, by omega, by omega⟩ (funext fun s => hf46 200 s rfl)
def mLc2 : fz_M := (yL_law, code, 4, (some .boolean), [(280, .aload_n 1, 1, 0, 0, 0), (281, .aload_n 0, 1, 0, 0, 0), (282, .iload_n 3, 1, 0, 0, 0), (283, .iconst 1, 1, 0, 0, 0), (284, .iadd, 1, 0, 0, 0), (285, .iaload, 1, 0, 0, 0), (286, .aload_n 0, 1, 0, 0, 0), (287, .iload_n 3, 1, 0, 0, 0), (288, .iconst 2, 1, 0, 0, 0), (289, .iadd, 1, 0, 0, 0), (290, .iaload, 1, 0, 0, 0), (291, .aload_n 0, 1, 0, 0, 0), (292, .iload_n 3, 1, 0, 0, 0), (293, .iconst 3, 1, 0, 0, 0), (294, .iadd, 1, 0, 0, 0), (295, .iaload, 1, 0, 0, 0), (296, .invokevirtual 23, 3, 2189, 25, 0), (299, .pop, 1, 0, 0, 0), (300, .aload_n 2, 1, 0, 0, 0), (301, .aload_n 0, 1, 0, 0, 0), (302, .iload_n 3, 1, 0, 0, 0), (303, .iconst 1, 1, 0, 0, 0), (304, .iadd, 1, 0, 0, 0), (305, .iaload, 1, 0, 0, 0), (306, .aload_n 0, 1, 0, 0, 0), (307, .iload_n 3, 1, 0, 0, 0), (308, .iconst 2, 1, 0, 0, 0), (309, .iadd, 1, 0, 0, 0), (310, .iaload, 1, 0, 0, 0), (311, .aload_n 0, 1, 0, 0, 0), (312, .iload_n 3, 1, 0, 0, 0), (313, .iconst 3, 1, 0, 0, 0), (314, .iadd, 1, 0, 0, 0), (315, .iaload, 1, 0, 0, 0), (316, .invokevirtual 27, 3, 6045, 93, 0), (319, .pop, 1, 0, 0, 0), (320, .goto 1496, 3, 0, 0, 0)])
set_option maxRecDepth 100000 in
theorem kLc2 : fz_okM mLc2 = true := by decide +kernel
set_option maxHeartbeats 1000000 in
set_option maxRecDepth 100000 in
theorem lc2 (h : fz_H) (hI : fz_Iv h) (hX : fz_Xc h) (hXd : fz_Xd h) (hXh : fz_Xh h) (hXw : fz_Xw h) (hv1 : h 53 10 ≤ 10) (hv2 : h 53 42 ≤ h 53 41) (hr0 : h 44 2 = h 53 44) (hr1 : h 20 2 = h 53 16) (hr2 : h 1 7 = h 53 0) (hr3 : h 1 8 = h 53 2) (i : Int) (hi : 0 ≤ i ∧ i + 6 ≤ h 200 100000 ∧ h 200 100000 ≤ 3072) {Q : fz_H → Option fz_V → Prop} (K : ∀ H : fz_H, fz_Gd H → H 200 = h 200 → fz_R 47 mLe 1816 [(3, fz_i i), (0, fz_r 200), (1, fz_r 0), (2, fz_r 53)] [] H Q) : fz_R 47 mLc2 280 [(3, fz_i i), (0, fz_r 200), (1, fz_r 0), (2, fz_r 53)] [] h Q := by
  have hf : fz_fr fz_all h h := fz_fr_rf
  refine fz_aload_n kLc2 rfl rfl ?_
  refine fz_aload_n kLc2 rfl rfl ?_
  refine fz_iload_n kLc2 rfl rfl ?_
  refine fz_iconst ⟨by decide, by decide⟩ kLc2 rfl ?_
  refine fz_iaddN kLc2 rfl (by omega) ?_
  obtain ⟨a1, e2⟩ : ∃ z, h 200 ((i + 1)).toNat = z := ⟨_, rfl⟩
  refine fz_taldV (v := a1) kLc2 rfl ⟨by decide, by decide⟩ (by omega) (by omega) e2 ?_
  refine fz_aload_n kLc2 rfl rfl ?_
  refine fz_iload_n kLc2 rfl rfl ?_
  refine fz_iconst ⟨by decide, by decide⟩ kLc2 rfl ?_
  refine fz_iaddN kLc2 rfl (by omega) ?_
  obtain ⟨a3, e4⟩ : ∃ z, h 200 ((i + 2)).toNat = z := ⟨_, rfl⟩
  refine fz_taldV (v := a3) kLc2 rfl ⟨by decide, by decide⟩ (by omega) (by omega) e4 ?_
  refine fz_aload_n kLc2 rfl rfl ?_
  refine fz_iload_n kLc2 rfl rfl ?_
  refine fz_iconst ⟨by decide, by decide⟩ kLc2 rfl ?_
  refine fz_iaddN kLc2 rfl (by omega) ?_
  obtain ⟨a5, e6⟩ : ∃ z, h 200 ((i + 3)).toNat = z := ⟨_, rfl⟩
  refine fz_taldV (v := a5) kLc2 rfl ⟨by decide, by decide⟩ (by omega) (by omega) e6 ?_
  refine fz_callV (d' := 2) (M' := mX10_deed) (As := [fz_i a1, fz_i a3, fz_i a5]) (st := []) kLc2 rfl rfl vX10_deed rfl rfl rfl rfl (Nat.le_of_ble_eq_true rfl) (Nat.le_of_ble_eq_true rfl) (by decide) (sX10_deed h hI a1 a3 a5 ) (fun H7 r8 q9 o10 => ?_)
  obtain ⟨hI11, hf12, y14, rfl, f13⟩ := q9
  clear o10
  have hf15 := fz_fr_tr hf hf12 (fz_su_all rfl)
  have hXd16 : fz_Xd H7 := fz_Xd_eq (funext fun s => hf12 80 s rfl) hXd
  have hXh17 : fz_Xh H7 := fz_Xh_eq (funext fun s => hf12 83 s rfl) hXh
  have hXw18 : fz_Xw H7 := fz_Xw_eq (hf12 53 19 rfl) (funext fun s => hf12 66 s rfl) (funext fun s => hf12 67 s rfl) (funext fun s => hf12 68 s rfl) (funext fun s => hf12 69 s rfl) hXw
  have hX19 : fz_Xc H7 := fz_Xc_fr hf12 rfl hX
  have t20 : H7 53 10 = h 53 10 := hf12 53 10 rfl
  have t21 : H7 53 41 = h 53 41 := hf12 53 41 rfl
  have t22 : H7 53 42 = h 53 42 := hf12 53 42 rfl
  have t23 : H7 44 2 = h 44 2 := hf12 44 2 rfl
  have t24 : H7 53 44 = h 53 44 := hf12 53 44 rfl
  have t25 : H7 20 2 = h 20 2 := hf12 20 2 rfl
  have t26 : H7 53 16 = h 53 16 := hf12 53 16 rfl
  have t27 : H7 1 7 = h 1 7 := hf12 1 7 rfl
  have t28 : H7 53 0 = h 53 0 := hf12 53 0 rfl
  have t29 : H7 1 8 = h 1 8 := hf12 1 8 rfl
  have t30 : H7 53 2 = h 53 2 := hf12 53 2 rfl
  refine fz_pop rfl kLc2 rfl ?_
  refine fz_aload_n kLc2 rfl rfl ?_
  refine fz_aload_n kLc2 rfl rfl ?_
  refine fz_iload_n kLc2 rfl rfl ?_
  refine fz_iconst ⟨by decide, by decide⟩ kLc2 rfl ?_
  refine fz_iaddN kLc2 rfl (by omega) ?_
  obtain ⟨a31, e32⟩ : ∃ z, h 200 ((i + 1)).toNat = z := ⟨_, rfl⟩
  refine fz_taldV (v := a31) kLc2 rfl ⟨by decide, by decide⟩ (by omega) (by rw [hf15 200 _ rfl]; omega) ((hf15 200 _ rfl).trans e32) ?_
  refine fz_aload_n kLc2 rfl rfl ?_
  refine fz_iload_n kLc2 rfl rfl ?_
  refine fz_iconst ⟨by decide, by decide⟩ kLc2 rfl ?_
  refine fz_iaddN kLc2 rfl (by omega) ?_
  obtain ⟨a33, e34⟩ : ∃ z, h 200 ((i + 2)).toNat = z := ⟨_, rfl⟩
  refine fz_taldV (v := a33) kLc2 rfl ⟨by decide, by decide⟩ (by omega) (by rw [hf15 200 _ rfl]; omega) ((hf15 200 _ rfl).trans e34) ?_
  refine fz_aload_n kLc2 rfl rfl ?_
  refine fz_iload_n kLc2 rfl rfl ?_
  refine fz_iconst ⟨by decide, by decide⟩ kLc2 rfl ?_
  refine fz_iaddN kLc2 rfl (by omega) ?_
  obtain ⟨a35, e36⟩ : ∃ z, h 200 ((i + 3)).toNat = z := ⟨_, rfl⟩
  refine fz_taldV (v := a35) kLc2 rfl ⟨by decide, by decide⟩ (by omega) (by rw [hf15 200 _ rfl]; omega) ((hf15 200 _ rfl).trans e36) ?_
  have b37 : 0 ≤ H7 53 10 ∧ H7 53 10 ≤ 11 := hI11.1 53 _
  refine fz_callV (d' := 3) (M' := mX11_deed) (As := [fz_i a31, fz_i a33, fz_i a35]) (st := []) kLc2 rfl rfl vX11_deed rfl rfl rfl rfl (Nat.le_of_ble_eq_true rfl) (Nat.le_of_ble_eq_true rfl) (by decide) (sX11_deed H7 hI11 a31 a33 a35 (by omega)) (fun H38 r39 q40 o41 => ?_)
  obtain ⟨hI42, hf43, y46, rfl, f44, f45⟩ := q40
  clear o41
  have hf47 := fz_fr_tr hf15 hf43 (fz_su_all rfl)
  have hXd48 : fz_Xd H38 := fz_Xd_eq (funext fun s => hf43 80 s rfl) hXd16
  have hXh49 : fz_Xh H38 := fz_Xh_eq (funext fun s => hf43 83 s rfl) hXh17
  have hXw50 : fz_Xw H38 := fz_Xw_eq (hf43 53 19 rfl) (funext fun s => hf43 66 s rfl) (funext fun s => hf43 67 s rfl) (funext fun s => hf43 68 s rfl) (funext fun s => hf43 69 s rfl) hXw18
  have hX51 : fz_Xc H38 := fz_Xc_fr hf43 rfl hX19
  have t52 : H38 53 41 = H7 53 41 := hf43 53 41 rfl
  have t53 : H38 53 42 = H7 53 42 := hf43 53 42 rfl
  have t54 : H38 44 2 = H7 44 2 := hf43 44 2 rfl
  have t55 : H38 53 44 = H7 53 44 := hf43 53 44 rfl
  have t56 : H38 20 2 = H7 20 2 := hf43 20 2 rfl
  have t57 : H38 53 16 = H7 53 16 := hf43 53 16 rfl
  have t58 : H38 1 7 = H7 1 7 := hf43 1 7 rfl
  have t59 : H38 53 0 = H7 53 0 := hf43 53 0 rfl
  have t60 : H38 1 8 = H7 1 8 := hf43 1 8 rfl
  have t61 : H38 53 2 = H7 53 2 := hf43 53 2 rfl
  refine fz_pop rfl kLc2 rfl ?_
  refine fz_goto (tgt := 1816) kLc2 rfl (by decide) ?_
  exact K H38 ⟨hI42, hX51, hXd48, hXh49, hXw50, by omega, by omega, by omega, by omega, by omega, by omega⟩ (funext fun s => hf47 200 s rfl)
def mLc3 : fz_M := (yL_law, code, 4, (some .boolean), [(323, .aload_n 1, 1, 0, 0, 0), (324, .aload_n 0, 1, 0, 0, 0), (325, .iload_n 3, 1, 0, 0, 0), (326, .iconst 1, 1, 0, 0, 0), (327, .iadd, 1, 0, 0, 0), (328, .iaload, 1, 0, 0, 0), (329, .aload_n 0, 1, 0, 0, 0), (330, .iload_n 3, 1, 0, 0, 0), (331, .iconst 2, 1, 0, 0, 0), (332, .iadd, 1, 0, 0, 0), (333, .iaload, 1, 0, 0, 0), (334, .aload_n 0, 1, 0, 0, 0), (335, .iload_n 3, 1, 0, 0, 0), (336, .iconst 3, 1, 0, 0, 0), (337, .iadd, 1, 0, 0, 0), (338, .iaload, 1, 0, 0, 0), (339, .invokevirtual 28, 3, 2217, 26, 0), (342, .pop, 1, 0, 0, 0), (343, .aload_n 2, 1, 0, 0, 0), (344, .aload_n 0, 1, 0, 0, 0), (345, .iload_n 3, 1, 0, 0, 0), (346, .iconst 1, 1, 0, 0, 0), (347, .iadd, 1, 0, 0, 0), (348, .iaload, 1, 0, 0, 0), (349, .aload_n 0, 1, 0, 0, 0), (350, .iload_n 3, 1, 0, 0, 0), (351, .iconst 2, 1, 0, 0, 0), (352, .iadd, 1, 0, 0, 0), (353, .iaload, 1, 0, 0, 0), (354, .aload_n 0, 1, 0, 0, 0), (355, .iload_n 3, 1, 0, 0, 0), (356, .iconst 3, 1, 0, 0, 0), (357, .iadd, 1, 0, 0, 0), (358, .iaload, 1, 0, 0, 0), (359, .invokevirtual 31, 3, 6066, 94, 0), (362, .pop, 1, 0, 0, 0), (363, .goto 1453, 3, 0, 0, 0)])
set_option maxRecDepth 100000 in
theorem kLc3 : fz_okM mLc3 = true := by decide +kernel
set_option maxHeartbeats 1000000 in
set_option maxRecDepth 100000 in
theorem lc3 (h : fz_H) (hI : fz_Iv h) (hX : fz_Xc h) (hXd : fz_Xd h) (hXh : fz_Xh h) (hXw : fz_Xw h) (hv1 : h 53 10 ≤ 10) (hv2 : h 53 42 ≤ h 53 41) (hr0 : h 44 2 = h 53 44) (hr1 : h 20 2 = h 53 16) (hr2 : h 1 7 = h 53 0) (hr3 : h 1 8 = h 53 2) (i : Int) (hi : 0 ≤ i ∧ i + 6 ≤ h 200 100000 ∧ h 200 100000 ≤ 3072) {Q : fz_H → Option fz_V → Prop} (K : ∀ H : fz_H, fz_Gd H → H 200 = h 200 → fz_R 47 mLe 1816 [(3, fz_i i), (0, fz_r 200), (1, fz_r 0), (2, fz_r 53)] [] H Q) : fz_R 47 mLc3 323 [(3, fz_i i), (0, fz_r 200), (1, fz_r 0), (2, fz_r 53)] [] h Q := by
  have hf : fz_fr fz_all h h := fz_fr_rf
  refine fz_aload_n kLc3 rfl rfl ?_
  refine fz_aload_n kLc3 rfl rfl ?_
  refine fz_iload_n kLc3 rfl rfl ?_
  refine fz_iconst ⟨by decide, by decide⟩ kLc3 rfl ?_
  refine fz_iaddN kLc3 rfl (by omega) ?_
  obtain ⟨a1, e2⟩ : ∃ z, h 200 ((i + 1)).toNat = z := ⟨_, rfl⟩
  refine fz_taldV (v := a1) kLc3 rfl ⟨by decide, by decide⟩ (by omega) (by omega) e2 ?_
  refine fz_aload_n kLc3 rfl rfl ?_
  refine fz_iload_n kLc3 rfl rfl ?_
  refine fz_iconst ⟨by decide, by decide⟩ kLc3 rfl ?_
  refine fz_iaddN kLc3 rfl (by omega) ?_
  obtain ⟨a3, e4⟩ : ∃ z, h 200 ((i + 2)).toNat = z := ⟨_, rfl⟩
  refine fz_taldV (v := a3) kLc3 rfl ⟨by decide, by decide⟩ (by omega) (by omega) e4 ?_
  refine fz_aload_n kLc3 rfl rfl ?_
  refine fz_iload_n kLc3 rfl rfl ?_
  refine fz_iconst ⟨by decide, by decide⟩ kLc3 rfl ?_
  refine fz_iaddN kLc3 rfl (by omega) ?_
  obtain ⟨a5, e6⟩ : ∃ z, h 200 ((i + 3)).toNat = z := ⟨_, rfl⟩
  refine fz_taldV (v := a5) kLc3 rfl ⟨by decide, by decide⟩ (by omega) (by omega) e6 ?_
  refine fz_callV (d' := 3) (M' := mX10_deeds) (As := [fz_i a1, fz_i a3, fz_i a5]) (st := []) kLc3 rfl rfl vX10_deeds rfl rfl rfl rfl (Nat.le_of_ble_eq_true rfl) (Nat.le_of_ble_eq_true rfl) (by decide) (sX10_deeds h hI a1 a3 a5 ) (fun H7 r8 q9 o10 => ?_)
  obtain ⟨hI11, hf12, y14, rfl, f13⟩ := q9
  clear o10
  have hf15 := fz_fr_tr hf hf12 (fz_su_all rfl)
  have hXd16 : fz_Xd H7 := fz_Xd_eq (funext fun s => hf12 80 s rfl) hXd
  have hXh17 : fz_Xh H7 := fz_Xh_eq (funext fun s => hf12 83 s rfl) hXh
  have hXw18 : fz_Xw H7 := fz_Xw_eq (hf12 53 19 rfl) (funext fun s => hf12 66 s rfl) (funext fun s => hf12 67 s rfl) (funext fun s => hf12 68 s rfl) (funext fun s => hf12 69 s rfl) hXw
  have hX19 : fz_Xc H7 := fz_Xc_fr hf12 rfl hX
  have t20 : H7 53 10 = h 53 10 := hf12 53 10 rfl
  have t21 : H7 53 41 = h 53 41 := hf12 53 41 rfl
  have t22 : H7 53 42 = h 53 42 := hf12 53 42 rfl
  have t23 : H7 44 2 = h 44 2 := hf12 44 2 rfl
  have t24 : H7 53 44 = h 53 44 := hf12 53 44 rfl
  have t25 : H7 20 2 = h 20 2 := hf12 20 2 rfl
  have t26 : H7 53 16 = h 53 16 := hf12 53 16 rfl
  have t27 : H7 1 7 = h 1 7 := hf12 1 7 rfl
  have t28 : H7 53 0 = h 53 0 := hf12 53 0 rfl
  have t29 : H7 1 8 = h 1 8 := hf12 1 8 rfl
  have t30 : H7 53 2 = h 53 2 := hf12 53 2 rfl
  refine fz_pop rfl kLc3 rfl ?_
  refine fz_aload_n kLc3 rfl rfl ?_
  refine fz_aload_n kLc3 rfl rfl ?_
  refine fz_iload_n kLc3 rfl rfl ?_
  refine fz_iconst ⟨by decide, by decide⟩ kLc3 rfl ?_
  refine fz_iaddN kLc3 rfl (by omega) ?_
  obtain ⟨a31, e32⟩ : ∃ z, h 200 ((i + 1)).toNat = z := ⟨_, rfl⟩
  refine fz_taldV (v := a31) kLc3 rfl ⟨by decide, by decide⟩ (by omega) (by rw [hf15 200 _ rfl]; omega) ((hf15 200 _ rfl).trans e32) ?_
  refine fz_aload_n kLc3 rfl rfl ?_
  refine fz_iload_n kLc3 rfl rfl ?_
  refine fz_iconst ⟨by decide, by decide⟩ kLc3 rfl ?_
  refine fz_iaddN kLc3 rfl (by omega) ?_
  obtain ⟨a33, e34⟩ : ∃ z, h 200 ((i + 2)).toNat = z := ⟨_, rfl⟩
  refine fz_taldV (v := a33) kLc3 rfl ⟨by decide, by decide⟩ (by omega) (by rw [hf15 200 _ rfl]; omega) ((hf15 200 _ rfl).trans e34) ?_
  refine fz_aload_n kLc3 rfl rfl ?_
  refine fz_iload_n kLc3 rfl rfl ?_
  refine fz_iconst ⟨by decide, by decide⟩ kLc3 rfl ?_
  refine fz_iaddN kLc3 rfl (by omega) ?_
  obtain ⟨a35, e36⟩ : ∃ z, h 200 ((i + 3)).toNat = z := ⟨_, rfl⟩
  refine fz_taldV (v := a35) kLc3 rfl ⟨by decide, by decide⟩ (by omega) (by rw [hf15 200 _ rfl]; omega) ((hf15 200 _ rfl).trans e36) ?_
  have b37 : 0 ≤ H7 53 10 ∧ H7 53 10 ≤ 11 := hI11.1 53 _
  refine fz_callV (d' := 2) (M' := mX11_deeds) (As := [fz_i a31, fz_i a33, fz_i a35]) (st := []) kLc3 rfl rfl vX11_deeds rfl rfl rfl rfl (Nat.le_of_ble_eq_true rfl) (Nat.le_of_ble_eq_true rfl) (by decide) (sX11_deeds H7 hI11 a31 a33 a35 (by omega)) (fun H38 r39 q40 o41 => ?_)
  obtain ⟨hI42, hf43, y46, rfl, f44, f45⟩ := q40
  clear o41
  have hf47 := fz_fr_tr hf15 hf43 (fz_su_all rfl)
  have hXd48 : fz_Xd H38 := fz_Xd_eq (funext fun s => hf43 80 s rfl) hXd16
  have hXh49 : fz_Xh H38 := fz_Xh_eq (funext fun s => hf43 83 s rfl) hXh17
  have hXw50 : fz_Xw H38 := fz_Xw_eq (hf43 53 19 rfl) (funext fun s => hf43 66 s rfl) (funext fun s => hf43 67 s rfl) (funext fun s => hf43 68 s rfl) (funext fun s => hf43 69 s rfl) hXw18
  have hX51 : fz_Xc H38 := fz_Xc_fr hf43 rfl hX19
  have t52 : H38 53 41 = H7 53 41 := hf43 53 41 rfl
  have t53 : H38 53 42 = H7 53 42 := hf43 53 42 rfl
  have t54 : H38 44 2 = H7 44 2 := hf43 44 2 rfl
  have t55 : H38 53 44 = H7 53 44 := hf43 53 44 rfl
  have t56 : H38 20 2 = H7 20 2 := hf43 20 2 rfl
  have t57 : H38 53 16 = H7 53 16 := hf43 53 16 rfl
  have t58 : H38 1 7 = H7 1 7 := hf43 1 7 rfl
  have t59 : H38 53 0 = H7 53 0 := hf43 53 0 rfl
  have t60 : H38 1 8 = H7 1 8 := hf43 1 8 rfl
  have t61 : H38 53 2 = H7 53 2 := hf43 53 2 rfl
  refine fz_pop rfl kLc3 rfl ?_
  refine fz_goto (tgt := 1816) kLc3 rfl (by decide) ?_
  exact K H38 ⟨hI42, hX51, hXd48, hXh49, hXw50, by omega, by omega, by omega, by omega, by omega, by omega⟩ (funext fun s => hf47 200 s rfl)
def mLc4 : fz_M := (yL_law, code, 4, (some .boolean), [(366, .aload_n 1, 1, 0, 0, 0), (367, .aload_n 0, 1, 0, 0, 0), (368, .iload_n 3, 1, 0, 0, 0), (369, .iconst 1, 1, 0, 0, 0), (370, .iadd, 1, 0, 0, 0), (371, .iaload, 1, 0, 0, 0), (372, .aload_n 0, 1, 0, 0, 0), (373, .iload_n 3, 1, 0, 0, 0), (374, .iconst 2, 1, 0, 0, 0), (375, .iadd, 1, 0, 0, 0), (376, .iaload, 1, 0, 0, 0), (377, .aload_n 0, 1, 0, 0, 0), (378, .iload_n 3, 1, 0, 0, 0), (379, .iconst 3, 1, 0, 0, 0), (380, .iadd, 1, 0, 0, 0), (381, .iaload, 1, 0, 0, 0), (382, .invokevirtual 32, 3, 3013, 56, 0), (385, .pop, 1, 0, 0, 0), (386, .aload_n 2, 1, 0, 0, 0), (387, .aload_n 0, 1, 0, 0, 0), (388, .iload_n 3, 1, 0, 0, 0), (389, .iconst 1, 1, 0, 0, 0), (390, .iadd, 1, 0, 0, 0), (391, .iaload, 1, 0, 0, 0), (392, .aload_n 0, 1, 0, 0, 0), (393, .iload_n 3, 1, 0, 0, 0), (394, .iconst 2, 1, 0, 0, 0), (395, .iadd, 1, 0, 0, 0), (396, .iaload, 1, 0, 0, 0), (397, .aload_n 0, 1, 0, 0, 0), (398, .iload_n 3, 1, 0, 0, 0), (399, .iconst 3, 1, 0, 0, 0), (400, .iadd, 1, 0, 0, 0), (401, .iaload, 1, 0, 0, 0), (402, .invokevirtual 35, 3, 6077, 152, 0), (405, .pop, 1, 0, 0, 0), (406, .goto 1410, 3, 0, 0, 0)])
set_option maxRecDepth 100000 in
theorem kLc4 : fz_okM mLc4 = true := by decide +kernel
set_option maxHeartbeats 1000000 in
set_option maxRecDepth 100000 in
theorem lc4 (h : fz_H) (hI : fz_Iv h) (hX : fz_Xc h) (hXd : fz_Xd h) (hXh : fz_Xh h) (hXw : fz_Xw h) (hv1 : h 53 10 ≤ 10) (hv2 : h 53 42 ≤ h 53 41) (hr0 : h 44 2 = h 53 44) (hr1 : h 20 2 = h 53 16) (hr2 : h 1 7 = h 53 0) (hr3 : h 1 8 = h 53 2) (i : Int) (hi : 0 ≤ i ∧ i + 6 ≤ h 200 100000 ∧ h 200 100000 ≤ 3072) {Q : fz_H → Option fz_V → Prop} (K : ∀ H : fz_H, fz_Gd H → H 200 = h 200 → fz_R 47 mLe 1816 [(3, fz_i i), (0, fz_r 200), (1, fz_r 0), (2, fz_r 53)] [] H Q) : fz_R 47 mLc4 366 [(3, fz_i i), (0, fz_r 200), (1, fz_r 0), (2, fz_r 53)] [] h Q := by
  have hf : fz_fr fz_all h h := fz_fr_rf
  refine fz_aload_n kLc4 rfl rfl ?_
  refine fz_aload_n kLc4 rfl rfl ?_
  refine fz_iload_n kLc4 rfl rfl ?_
  refine fz_iconst ⟨by decide, by decide⟩ kLc4 rfl ?_
  refine fz_iaddN kLc4 rfl (by omega) ?_
  obtain ⟨a1, e2⟩ : ∃ z, h 200 ((i + 1)).toNat = z := ⟨_, rfl⟩
  refine fz_taldV (v := a1) kLc4 rfl ⟨by decide, by decide⟩ (by omega) (by omega) e2 ?_
  refine fz_aload_n kLc4 rfl rfl ?_
  refine fz_iload_n kLc4 rfl rfl ?_
  refine fz_iconst ⟨by decide, by decide⟩ kLc4 rfl ?_
  refine fz_iaddN kLc4 rfl (by omega) ?_
  obtain ⟨a3, e4⟩ : ∃ z, h 200 ((i + 2)).toNat = z := ⟨_, rfl⟩
  refine fz_taldV (v := a3) kLc4 rfl ⟨by decide, by decide⟩ (by omega) (by omega) e4 ?_
  refine fz_aload_n kLc4 rfl rfl ?_
  refine fz_iload_n kLc4 rfl rfl ?_
  refine fz_iconst ⟨by decide, by decide⟩ kLc4 rfl ?_
  refine fz_iaddN kLc4 rfl (by omega) ?_
  obtain ⟨a5, e6⟩ : ∃ z, h 200 ((i + 3)).toNat = z := ⟨_, rfl⟩
  refine fz_taldV (v := a5) kLc4 rfl ⟨by decide, by decide⟩ (by omega) (by omega) e6 ?_
  refine fz_callV (d' := 4) (M' := mX10_mend) (As := [fz_i a1, fz_i a3, fz_i a5]) (st := []) kLc4 rfl rfl vX10_mend rfl rfl rfl rfl (Nat.le_of_ble_eq_true rfl) (Nat.le_of_ble_eq_true rfl) (by decide) (sX10_mend h hI a1 a3 a5 (hX)) (fun H7 r8 q9 o10 => ?_)
  obtain ⟨hI11, hf12, hX13, y15, rfl, f14⟩ := q9
  clear o10
  have hf16 := fz_fr_tr hf hf12 (fz_su_all rfl)
  have hXd17 : fz_Xd H7 := fz_Xd_eq (funext fun s => hf12 80 s rfl) hXd
  have hXh18 : fz_Xh H7 := fz_Xh_eq (funext fun s => hf12 83 s rfl) hXh
  have hXw19 : fz_Xw H7 := fz_Xw_eq (hf12 53 19 rfl) (funext fun s => hf12 66 s rfl) (funext fun s => hf12 67 s rfl) (funext fun s => hf12 68 s rfl) (funext fun s => hf12 69 s rfl) hXw
  have t20 : H7 53 10 = h 53 10 := hf12 53 10 rfl
  have t21 : H7 53 41 = h 53 41 := hf12 53 41 rfl
  have t22 : H7 53 42 = h 53 42 := hf12 53 42 rfl
  have t23 : H7 44 2 = h 44 2 := hf12 44 2 rfl
  have t24 : H7 53 44 = h 53 44 := hf12 53 44 rfl
  have t25 : H7 20 2 = h 20 2 := hf12 20 2 rfl
  have t26 : H7 53 16 = h 53 16 := hf12 53 16 rfl
  have t27 : H7 1 7 = h 1 7 := hf12 1 7 rfl
  have t28 : H7 53 0 = h 53 0 := hf12 53 0 rfl
  have t29 : H7 1 8 = h 1 8 := hf12 1 8 rfl
  have t30 : H7 53 2 = h 53 2 := hf12 53 2 rfl
  refine fz_pop rfl kLc4 rfl ?_
  refine fz_aload_n kLc4 rfl rfl ?_
  refine fz_aload_n kLc4 rfl rfl ?_
  refine fz_iload_n kLc4 rfl rfl ?_
  refine fz_iconst ⟨by decide, by decide⟩ kLc4 rfl ?_
  refine fz_iaddN kLc4 rfl (by omega) ?_
  obtain ⟨a31, e32⟩ : ∃ z, h 200 ((i + 1)).toNat = z := ⟨_, rfl⟩
  refine fz_taldV (v := a31) kLc4 rfl ⟨by decide, by decide⟩ (by omega) (by rw [hf16 200 _ rfl]; omega) ((hf16 200 _ rfl).trans e32) ?_
  refine fz_aload_n kLc4 rfl rfl ?_
  refine fz_iload_n kLc4 rfl rfl ?_
  refine fz_iconst ⟨by decide, by decide⟩ kLc4 rfl ?_
  refine fz_iaddN kLc4 rfl (by omega) ?_
  obtain ⟨a33, e34⟩ : ∃ z, h 200 ((i + 2)).toNat = z := ⟨_, rfl⟩
  refine fz_taldV (v := a33) kLc4 rfl ⟨by decide, by decide⟩ (by omega) (by rw [hf16 200 _ rfl]; omega) ((hf16 200 _ rfl).trans e34) ?_
  refine fz_aload_n kLc4 rfl rfl ?_
  refine fz_iload_n kLc4 rfl rfl ?_
  refine fz_iconst ⟨by decide, by decide⟩ kLc4 rfl ?_
  refine fz_iaddN kLc4 rfl (by omega) ?_
  obtain ⟨a35, e36⟩ : ∃ z, h 200 ((i + 3)).toNat = z := ⟨_, rfl⟩
  refine fz_taldV (v := a35) kLc4 rfl ⟨by decide, by decide⟩ (by omega) (by rw [hf16 200 _ rfl]; omega) ((hf16 200 _ rfl).trans e36) ?_
  have b37 : 0 ≤ H7 53 42 ∧ H7 53 42 ≤ 40 := hI11.1 53 _
  have b38 : 0 ≤ H7 53 41 ∧ H7 53 41 ≤ 40 := hI11.1 53 _
  refine fz_callV (d' := 3) (M' := mX11_mend) (As := [fz_i a31, fz_i a33, fz_i a35]) (st := []) kLc4 rfl rfl vX11_mend rfl rfl rfl rfl (Nat.le_of_ble_eq_true rfl) (Nat.le_of_ble_eq_true rfl) (by decide) (sX11_mend H7 hI11 a31 a33 a35 hXd17 (by omega)) (fun H39 r40 q41 o42 => ?_)
  obtain ⟨hI43, hf44, hXd45, y48, rfl, f46, f47⟩ := q41
  clear o42
  have hf49 := fz_fr_tr hf16 hf44 (fz_su_all rfl)
  have hXh50 : fz_Xh H39 := fz_Xh_eq (funext fun s => hf44 83 s rfl) hXh18
  have hXw51 : fz_Xw H39 := fz_Xw_eq (hf44 53 19 rfl) (funext fun s => hf44 66 s rfl) (funext fun s => hf44 67 s rfl) (funext fun s => hf44 68 s rfl) (funext fun s => hf44 69 s rfl) hXw19
  have hX52 : fz_Xc H39 := fz_Xc_fr hf44 rfl hX13
  have t53 : H39 53 10 = H7 53 10 := hf44 53 10 rfl
  have t54 : H39 44 2 = H7 44 2 := hf44 44 2 rfl
  have t55 : H39 53 44 = H7 53 44 := hf44 53 44 rfl
  have t56 : H39 20 2 = H7 20 2 := hf44 20 2 rfl
  have t57 : H39 53 16 = H7 53 16 := hf44 53 16 rfl
  have t58 : H39 1 7 = H7 1 7 := hf44 1 7 rfl
  have t59 : H39 53 0 = H7 53 0 := hf44 53 0 rfl
  have t60 : H39 1 8 = H7 1 8 := hf44 1 8 rfl
  have t61 : H39 53 2 = H7 53 2 := hf44 53 2 rfl
  refine fz_pop rfl kLc4 rfl ?_
  refine fz_goto (tgt := 1816) kLc4 rfl (by decide) ?_
  exact K H39 ⟨hI43, hX52, hXd45, hXh50, hXw51, by omega, by omega, by omega, by omega, by omega, by omega⟩ (funext fun s => hf49 200 s rfl)
def mLc5 : fz_M := (yL_law, code, 4, (some .boolean), [(409, .aload_n 1, 1, 0, 0, 0), (410, .aload_n 0, 1, 0, 0, 0), (411, .iload_n 3, 1, 0, 0, 0), (412, .iconst 1, 1, 0, 0, 0), (413, .iadd, 1, 0, 0, 0), (414, .iaload, 1, 0, 0, 0), (415, .aload_n 0, 1, 0, 0, 0), (416, .iload_n 3, 1, 0, 0, 0), (417, .iconst 2, 1, 0, 0, 0), (418, .iadd, 1, 0, 0, 0), (419, .iaload, 1, 0, 0, 0), (420, .invokevirtual 36, 3, 3054, 61, 0), (423, .pop, 1, 0, 0, 0), (424, .aload_n 2, 1, 0, 0, 0), (425, .aload_n 0, 1, 0, 0, 0), (426, .iload_n 3, 1, 0, 0, 0), (427, .iconst 1, 1, 0, 0, 0), (428, .iadd, 1, 0, 0, 0), (429, .iaload, 1, 0, 0, 0), (430, .aload_n 0, 1, 0, 0, 0), (431, .iload_n 3, 1, 0, 0, 0), (432, .iconst 2, 1, 0, 0, 0), (433, .iadd, 1, 0, 0, 0), (434, .iaload, 1, 0, 0, 0), (435, .invokevirtual 39, 3, 6105, 160, 0), (438, .pop, 1, 0, 0, 0), (439, .goto 1377, 3, 0, 0, 0)])
set_option maxRecDepth 100000 in
theorem kLc5 : fz_okM mLc5 = true := by decide +kernel
set_option maxHeartbeats 1000000 in
set_option maxRecDepth 100000 in
theorem lc5 (h : fz_H) (hI : fz_Iv h) (hX : fz_Xc h) (hXd : fz_Xd h) (hXh : fz_Xh h) (hXw : fz_Xw h) (hv1 : h 53 10 ≤ 10) (hv2 : h 53 42 ≤ h 53 41) (hr0 : h 44 2 = h 53 44) (hr1 : h 20 2 = h 53 16) (hr2 : h 1 7 = h 53 0) (hr3 : h 1 8 = h 53 2) (i : Int) (hi : 0 ≤ i ∧ i + 6 ≤ h 200 100000 ∧ h 200 100000 ≤ 3072) {Q : fz_H → Option fz_V → Prop} (K : ∀ H : fz_H, fz_Gd H → H 200 = h 200 → fz_R 47 mLe 1816 [(3, fz_i i), (0, fz_r 200), (1, fz_r 0), (2, fz_r 53)] [] H Q) : fz_R 47 mLc5 409 [(3, fz_i i), (0, fz_r 200), (1, fz_r 0), (2, fz_r 53)] [] h Q := by
  have hf : fz_fr fz_all h h := fz_fr_rf
  refine fz_aload_n kLc5 rfl rfl ?_
  refine fz_aload_n kLc5 rfl rfl ?_
  refine fz_iload_n kLc5 rfl rfl ?_
  refine fz_iconst ⟨by decide, by decide⟩ kLc5 rfl ?_
  refine fz_iaddN kLc5 rfl (by omega) ?_
  obtain ⟨a1, e2⟩ : ∃ z, h 200 ((i + 1)).toNat = z := ⟨_, rfl⟩
  refine fz_taldV (v := a1) kLc5 rfl ⟨by decide, by decide⟩ (by omega) (by omega) e2 ?_
  refine fz_aload_n kLc5 rfl rfl ?_
  refine fz_iload_n kLc5 rfl rfl ?_
  refine fz_iconst ⟨by decide, by decide⟩ kLc5 rfl ?_
  refine fz_iaddN kLc5 rfl (by omega) ?_
  obtain ⟨a3, e4⟩ : ∃ z, h 200 ((i + 2)).toNat = z := ⟨_, rfl⟩
  refine fz_taldV (v := a3) kLc5 rfl ⟨by decide, by decide⟩ (by omega) (by omega) e4 ?_
  refine fz_callV (d' := 3) (M' := mX10_of) (As := [fz_i a1, fz_i a3]) (st := []) kLc5 rfl rfl vX10_of rfl rfl rfl rfl (Nat.le_of_ble_eq_true rfl) (Nat.le_of_ble_eq_true rfl) (by decide) (sX10_of h hI a1 a3 ) (fun H5 r6 q7 o8 => ?_)
  obtain ⟨e9, y11, rfl, f10⟩ := q7
  subst H5
  clear o8
  refine fz_pop rfl kLc5 rfl ?_
  refine fz_aload_n kLc5 rfl rfl ?_
  refine fz_aload_n kLc5 rfl rfl ?_
  refine fz_iload_n kLc5 rfl rfl ?_
  refine fz_iconst ⟨by decide, by decide⟩ kLc5 rfl ?_
  refine fz_iaddN kLc5 rfl (by omega) ?_
  obtain ⟨a12, e13⟩ : ∃ z, h 200 ((i + 1)).toNat = z := ⟨_, rfl⟩
  refine fz_taldV (v := a12) kLc5 rfl ⟨by decide, by decide⟩ (by omega) (by omega) e13 ?_
  refine fz_aload_n kLc5 rfl rfl ?_
  refine fz_iload_n kLc5 rfl rfl ?_
  refine fz_iconst ⟨by decide, by decide⟩ kLc5 rfl ?_
  refine fz_iaddN kLc5 rfl (by omega) ?_
  obtain ⟨a14, e15⟩ : ∃ z, h 200 ((i + 2)).toNat = z := ⟨_, rfl⟩
  refine fz_taldV (v := a14) kLc5 rfl ⟨by decide, by decide⟩ (by omega) (by omega) e15 ?_
  refine fz_callV (d' := 3) (M' := mX11_of) (As := [fz_i a12, fz_i a14]) (st := []) kLc5 rfl rfl vX11_of rfl rfl rfl rfl (Nat.le_of_ble_eq_true rfl) (Nat.le_of_ble_eq_true rfl) (by decide) (sX11_of h hI a12 a14 ) (fun H16 r17 q18 o19 => ?_)
  obtain ⟨e20, y22, rfl, f21⟩ := q18
  subst H16
  clear o19
  refine fz_pop rfl kLc5 rfl ?_
  refine fz_goto (tgt := 1816) kLc5 rfl (by decide) ?_
  exact K h ⟨hI, hX, hXd, hXh, hXw, by omega, by omega, by omega, by omega, by omega, by omega⟩ rfl
def mLc6 : fz_M := (yL_law, code, 4, (some .boolean), [(442, .aload_n 1, 1, 0, 0, 0), (443, .aload_n 0, 1, 0, 0, 0), (444, .iload_n 3, 1, 0, 0, 0), (445, .iconst 1, 1, 0, 0, 0), (446, .iadd, 1, 0, 0, 0), (447, .iaload, 1, 0, 0, 0), (448, .invokevirtual 40, 3, 3058, 31, 0), (451, .pop, 1, 0, 0, 0), (452, .aload_n 2, 1, 0, 0, 0), (453, .aload_n 0, 1, 0, 0, 0), (454, .iload_n 3, 1, 0, 0, 0), (455, .iconst 1, 1, 0, 0, 0), (456, .iadd, 1, 0, 0, 0), (457, .iaload, 1, 0, 0, 0), (458, .invokevirtual 43, 3, 6117, 100, 0), (461, .pop, 1, 0, 0, 0), (462, .goto 1354, 3, 0, 0, 0)])
set_option maxRecDepth 100000 in
theorem kLc6 : fz_okM mLc6 = true := by decide +kernel
set_option maxHeartbeats 1000000 in
set_option maxRecDepth 100000 in
theorem lc6 (h : fz_H) (hI : fz_Iv h) (hX : fz_Xc h) (hXd : fz_Xd h) (hXh : fz_Xh h) (hXw : fz_Xw h) (hv1 : h 53 10 ≤ 10) (hv2 : h 53 42 ≤ h 53 41) (hr0 : h 44 2 = h 53 44) (hr1 : h 20 2 = h 53 16) (hr2 : h 1 7 = h 53 0) (hr3 : h 1 8 = h 53 2) (i : Int) (hi : 0 ≤ i ∧ i + 6 ≤ h 200 100000 ∧ h 200 100000 ≤ 3072) {Q : fz_H → Option fz_V → Prop} (K : ∀ H : fz_H, fz_Gd H → H 200 = h 200 → fz_R 47 mLe 1816 [(3, fz_i i), (0, fz_r 200), (1, fz_r 0), (2, fz_r 53)] [] H Q) : fz_R 47 mLc6 442 [(3, fz_i i), (0, fz_r 200), (1, fz_r 0), (2, fz_r 53)] [] h Q := by
  have hf : fz_fr fz_all h h := fz_fr_rf
  refine fz_aload_n kLc6 rfl rfl ?_
  refine fz_aload_n kLc6 rfl rfl ?_
  refine fz_iload_n kLc6 rfl rfl ?_
  refine fz_iconst ⟨by decide, by decide⟩ kLc6 rfl ?_
  refine fz_iaddN kLc6 rfl (by omega) ?_
  obtain ⟨a1, e2⟩ : ∃ z, h 200 ((i + 1)).toNat = z := ⟨_, rfl⟩
  refine fz_taldV (v := a1) kLc6 rfl ⟨by decide, by decide⟩ (by omega) (by omega) e2 ?_
  have b3 : 0 ≤ h 20 2 ∧ h 20 2 ≤ 120 := hI.1 20 _
  refine fz_callV (d' := 1) (M' := mX10_feed) (As := [fz_i a1]) (st := []) kLc6 rfl rfl vX10_feed rfl rfl rfl rfl (Nat.le_of_ble_eq_true rfl) (Nat.le_of_ble_eq_true rfl) (by decide) (sX10_feed h hI a1 ) (fun H4 r5 q6 o7 => ?_)
  obtain ⟨hI8, hf9, y12, rfl, f10, f11⟩ := q6
  clear o7
  have hf13 := fz_fr_tr hf hf9 (fz_su_all rfl)
  have hXd14 : fz_Xd H4 := fz_Xd_eq (funext fun s => hf9 80 s rfl) hXd
  have hXh15 : fz_Xh H4 := fz_Xh_eq (funext fun s => hf9 83 s rfl) hXh
  have hXw16 : fz_Xw H4 := fz_Xw_eq (hf9 53 19 rfl) (funext fun s => hf9 66 s rfl) (funext fun s => hf9 67 s rfl) (funext fun s => hf9 68 s rfl) (funext fun s => hf9 69 s rfl) hXw
  have hX17 : fz_Xc H4 := fz_Xc_fr hf9 rfl hX
  have t18 : H4 53 10 = h 53 10 := hf9 53 10 rfl
  have t19 : H4 53 41 = h 53 41 := hf9 53 41 rfl
  have t20 : H4 53 42 = h 53 42 := hf9 53 42 rfl
  have t21 : H4 44 2 = h 44 2 := hf9 44 2 rfl
  have t22 : H4 53 44 = h 53 44 := hf9 53 44 rfl
  have t23 : H4 53 16 = h 53 16 := hf9 53 16 rfl
  have t24 : H4 1 7 = h 1 7 := hf9 1 7 rfl
  have t25 : H4 53 0 = h 53 0 := hf9 53 0 rfl
  have t26 : H4 1 8 = h 1 8 := hf9 1 8 rfl
  have t27 : H4 53 2 = h 53 2 := hf9 53 2 rfl
  refine fz_pop rfl kLc6 rfl ?_
  refine fz_aload_n kLc6 rfl rfl ?_
  refine fz_aload_n kLc6 rfl rfl ?_
  refine fz_iload_n kLc6 rfl rfl ?_
  refine fz_iconst ⟨by decide, by decide⟩ kLc6 rfl ?_
  refine fz_iaddN kLc6 rfl (by omega) ?_
  obtain ⟨a28, e29⟩ : ∃ z, h 200 ((i + 1)).toNat = z := ⟨_, rfl⟩
  refine fz_taldV (v := a28) kLc6 rfl ⟨by decide, by decide⟩ (by omega) (by rw [hf13 200 _ rfl]; omega) ((hf13 200 _ rfl).trans e29) ?_
  have b30 : 0 ≤ H4 53 16 ∧ H4 53 16 ≤ 120 := hI8.1 53 _
  refine fz_callV (d' := 1) (M' := mX11_feed) (As := [fz_i a28]) (st := []) kLc6 rfl rfl vX11_feed rfl rfl rfl rfl (Nat.le_of_ble_eq_true rfl) (Nat.le_of_ble_eq_true rfl) (by decide) (sX11_feed H4 hI8 a28 ) (fun H31 r32 q33 o34 => ?_)
  obtain ⟨hI35, hf36, y39, rfl, f37, f38⟩ := q33
  clear o34
  have hf40 := fz_fr_tr hf13 hf36 (fz_su_all rfl)
  have hXd41 : fz_Xd H31 := fz_Xd_eq (funext fun s => hf36 80 s rfl) hXd14
  have hXh42 : fz_Xh H31 := fz_Xh_eq (funext fun s => hf36 83 s rfl) hXh15
  have hXw43 : fz_Xw H31 := fz_Xw_eq (hf36 53 19 rfl) (funext fun s => hf36 66 s rfl) (funext fun s => hf36 67 s rfl) (funext fun s => hf36 68 s rfl) (funext fun s => hf36 69 s rfl) hXw16
  have hX44 : fz_Xc H31 := fz_Xc_fr hf36 rfl hX17
  have t45 : H31 53 10 = H4 53 10 := hf36 53 10 rfl
  have t46 : H31 53 41 = H4 53 41 := hf36 53 41 rfl
  have t47 : H31 53 42 = H4 53 42 := hf36 53 42 rfl
  have t48 : H31 44 2 = H4 44 2 := hf36 44 2 rfl
  have t49 : H31 53 44 = H4 53 44 := hf36 53 44 rfl
  have t50 : H31 20 2 = H4 20 2 := hf36 20 2 rfl
  have t51 : H31 1 7 = H4 1 7 := hf36 1 7 rfl
  have t52 : H31 53 0 = H4 53 0 := hf36 53 0 rfl
  have t53 : H31 1 8 = H4 1 8 := hf36 1 8 rfl
  have t54 : H31 53 2 = H4 53 2 := hf36 53 2 rfl
  refine fz_pop rfl kLc6 rfl ?_
  refine fz_goto (tgt := 1816) kLc6 rfl (by decide) ?_
  exact K H31 ⟨hI35, hX44, hXd41, hXh42, hXw43, by omega, by omega, by omega, by omega, by omega, by omega⟩ (funext fun s => hf40 200 s rfl)
def mLc7 : fz_M := (yL_law, code, 4, (some .boolean), [(465, .aload_n 1, 1, 0, 0, 0), (466, .invokevirtual 44, 3, 3066, 53, 0), (469, .pop, 1, 0, 0, 0), (470, .aload_n 2, 1, 0, 0, 0), (471, .invokevirtual 48, 3, 6121, 145, 0), (474, .pop, 1, 0, 0, 0), (475, .goto 1341, 3, 0, 0, 0)])
set_option maxRecDepth 100000 in
theorem kLc7 : fz_okM mLc7 = true := by decide +kernel
set_option maxHeartbeats 1000000 in
set_option maxRecDepth 100000 in
theorem lc7 (h : fz_H) (hI : fz_Iv h) (hX : fz_Xc h) (hXd : fz_Xd h) (hXh : fz_Xh h) (hXw : fz_Xw h) (hv1 : h 53 10 ≤ 10) (hv2 : h 53 42 ≤ h 53 41) (hr0 : h 44 2 = h 53 44) (hr1 : h 20 2 = h 53 16) (hr2 : h 1 7 = h 53 0) (hr3 : h 1 8 = h 53 2) (i : Int) (hi : 0 ≤ i ∧ i + 6 ≤ h 200 100000 ∧ h 200 100000 ≤ 3072) {Q : fz_H → Option fz_V → Prop} (K : ∀ H : fz_H, fz_Gd H → H 200 = h 200 → fz_R 47 mLe 1816 [(3, fz_i i), (0, fz_r 200), (1, fz_r 0), (2, fz_r 53)] [] H Q) : fz_R 47 mLc7 465 [(3, fz_i i), (0, fz_r 200), (1, fz_r 0), (2, fz_r 53)] [] h Q := by
  have hf : fz_fr fz_all h h := fz_fr_rf
  refine fz_aload_n kLc7 rfl rfl ?_
  refine fz_callV (d' := 46) (M' := mX10_law) (As := []) (st := []) kLc7 rfl rfl vX10_law rfl rfl rfl rfl (Nat.le_of_ble_eq_true rfl) (Nat.le_of_ble_eq_true rfl) (by decide) (sX10_law h hI  ) (fun H1 r2 q3 o4 => ?_)
  obtain ⟨hI5, hf6, y9, rfl, f7, f8⟩ := q3
  clear o4
  have hf10 := fz_fr_tr hf hf6 (fz_su_all rfl)
  have hXd11 : fz_Xd H1 := fz_Xd_eq (funext fun s => hf6 80 s rfl) hXd
  have hXh12 : fz_Xh H1 := fz_Xh_eq (funext fun s => hf6 83 s rfl) hXh
  have hXw13 : fz_Xw H1 := fz_Xw_eq (hf6 53 19 rfl) (funext fun s => hf6 66 s rfl) (funext fun s => hf6 67 s rfl) (funext fun s => hf6 68 s rfl) (funext fun s => hf6 69 s rfl) hXw
  have hX14 : fz_Xc H1 := fz_Xc_fr hf6 rfl hX
  have t15 : H1 53 10 = h 53 10 := hf6 53 10 rfl
  have t16 : H1 53 41 = h 53 41 := hf6 53 41 rfl
  have t17 : H1 53 42 = h 53 42 := hf6 53 42 rfl
  have t18 : H1 44 2 = h 44 2 := hf6 44 2 rfl
  have t19 : H1 53 44 = h 53 44 := hf6 53 44 rfl
  have t20 : H1 53 16 = h 53 16 := hf6 53 16 rfl
  have t21 : H1 1 7 = h 1 7 := hf6 1 7 rfl
  have t22 : H1 53 0 = h 53 0 := hf6 53 0 rfl
  have t23 : H1 1 8 = h 1 8 := hf6 1 8 rfl
  have t24 : H1 53 2 = h 53 2 := hf6 53 2 rfl
  refine fz_pop rfl kLc7 rfl ?_
  refine fz_aload_n kLc7 rfl rfl ?_
  refine fz_callV (d' := 45) (M' := mX11_law) (As := []) (st := []) kLc7 rfl rfl vX11_law rfl rfl rfl rfl (Nat.le_of_ble_eq_true rfl) (Nat.le_of_ble_eq_true rfl) (by decide) (sX11_law H1 hI5  hXw13) (fun H25 r26 q27 o28 => ?_)
  obtain ⟨hI29, hf30, hXw31, y34, rfl, f32, f33⟩ := q27
  clear o28
  have hf35 := fz_fr_tr hf10 hf30 (fz_su_all rfl)
  have k36 : H25 20 2 = 0 := (hf30 20 2 rfl).trans f8
  have hXd37 : fz_Xd H25 := fz_Xd_eq (funext fun s => hf30 80 s rfl) hXd11
  have hXh38 : fz_Xh H25 := fz_Xh_eq (funext fun s => hf30 83 s rfl) hXh12
  have hX39 : fz_Xc H25 := fz_Xc_fr hf30 rfl hX14
  have t40 : H25 53 10 = H1 53 10 := hf30 53 10 rfl
  have t41 : H25 53 41 = H1 53 41 := hf30 53 41 rfl
  have t42 : H25 53 42 = H1 53 42 := hf30 53 42 rfl
  have t43 : H25 44 2 = H1 44 2 := hf30 44 2 rfl
  have t44 : H25 53 44 = H1 53 44 := hf30 53 44 rfl
  have t45 : H25 20 2 = H1 20 2 := hf30 20 2 rfl
  have t46 : H25 1 7 = H1 1 7 := hf30 1 7 rfl
  have t47 : H25 53 0 = H1 53 0 := hf30 53 0 rfl
  have t48 : H25 1 8 = H1 1 8 := hf30 1 8 rfl
  have t49 : H25 53 2 = H1 53 2 := hf30 53 2 rfl
  refine fz_pop rfl kLc7 rfl ?_
  refine fz_goto (tgt := 1816) kLc7 rfl (by decide) ?_
  exact K H25 ⟨hI29, hX39, hXd37, hXh38, hXw31, by omega, by omega, by omega, by omega, by omega, by omega⟩ (funext fun s => hf35 200 s rfl)
def mLc8 : fz_M := (yL_law, code, 4, (some .boolean), [(478, .aload_n 1, 1, 0, 0, 0), (479, .aload_n 0, 1, 0, 0, 0), (480, .iload_n 3, 1, 0, 0, 0), (481, .iconst 1, 1, 0, 0, 0), (482, .iadd, 1, 0, 0, 0), (483, .iaload, 1, 0, 0, 0), (484, .aload_n 0, 1, 0, 0, 0), (485, .iload_n 3, 1, 0, 0, 0), (486, .iconst 2, 1, 0, 0, 0), (487, .iadd, 1, 0, 0, 0), (488, .iaload, 1, 0, 0, 0), (489, .invokevirtual 49, 3, 3146, 78, 0), (492, .pop, 1, 0, 0, 0), (493, .aload_n 2, 1, 0, 0, 0), (494, .aload_n 0, 1, 0, 0, 0), (495, .iload_n 3, 1, 0, 0, 0), (496, .iconst 1, 1, 0, 0, 0), (497, .iadd, 1, 0, 0, 0), (498, .iaload, 1, 0, 0, 0), (499, .aload_n 0, 1, 0, 0, 0), (500, .iload_n 3, 1, 0, 0, 0), (501, .iconst 2, 1, 0, 0, 0), (502, .iadd, 1, 0, 0, 0), (503, .iaload, 1, 0, 0, 0), (504, .invokevirtual 52, 3, 6172, 182, 0), (507, .pop, 1, 0, 0, 0), (508, .goto 1308, 3, 0, 0, 0)])
set_option maxRecDepth 100000 in
theorem kLc8 : fz_okM mLc8 = true := by decide +kernel
set_option maxHeartbeats 1000000 in
set_option maxRecDepth 100000 in
theorem lc8 (h : fz_H) (hI : fz_Iv h) (hX : fz_Xc h) (hXd : fz_Xd h) (hXh : fz_Xh h) (hXw : fz_Xw h) (hv1 : h 53 10 ≤ 10) (hv2 : h 53 42 ≤ h 53 41) (hr0 : h 44 2 = h 53 44) (hr1 : h 20 2 = h 53 16) (hr2 : h 1 7 = h 53 0) (hr3 : h 1 8 = h 53 2) (i : Int) (hi : 0 ≤ i ∧ i + 6 ≤ h 200 100000 ∧ h 200 100000 ≤ 3072) {Q : fz_H → Option fz_V → Prop} (K : ∀ H : fz_H, fz_Gd H → H 200 = h 200 → fz_R 47 mLe 1816 [(3, fz_i i), (0, fz_r 200), (1, fz_r 0), (2, fz_r 53)] [] H Q) : fz_R 47 mLc8 478 [(3, fz_i i), (0, fz_r 200), (1, fz_r 0), (2, fz_r 53)] [] h Q := by
  have hf : fz_fr fz_all h h := fz_fr_rf
  refine fz_aload_n kLc8 rfl rfl ?_
  refine fz_aload_n kLc8 rfl rfl ?_
  refine fz_iload_n kLc8 rfl rfl ?_
  refine fz_iconst ⟨by decide, by decide⟩ kLc8 rfl ?_
  refine fz_iaddN kLc8 rfl (by omega) ?_
  obtain ⟨a1, e2⟩ : ∃ z, h 200 ((i + 1)).toNat = z := ⟨_, rfl⟩
  refine fz_taldV (v := a1) kLc8 rfl ⟨by decide, by decide⟩ (by omega) (by omega) e2 ?_
  refine fz_aload_n kLc8 rfl rfl ?_
  refine fz_iload_n kLc8 rfl rfl ?_
  refine fz_iconst ⟨by decide, by decide⟩ kLc8 rfl ?_
  refine fz_iaddN kLc8 rfl (by omega) ?_
  obtain ⟨a3, e4⟩ : ∃ z, h 200 ((i + 2)).toNat = z := ⟨_, rfl⟩
  refine fz_taldV (v := a3) kLc8 rfl ⟨by decide, by decide⟩ (by omega) (by omega) e4 ?_
  refine fz_callV (d' := 2) (M' := mX10_way) (As := [fz_i a1, fz_i a3]) (st := []) kLc8 rfl rfl vX10_way rfl rfl rfl rfl (Nat.le_of_ble_eq_true rfl) (Nat.le_of_ble_eq_true rfl) (by decide) (sX10_way h hI a1 a3 ) (fun H5 r6 q7 o8 => ?_)
  obtain ⟨e9, y11, rfl, f10⟩ := q7
  subst H5
  clear o8
  refine fz_pop rfl kLc8 rfl ?_
  refine fz_aload_n kLc8 rfl rfl ?_
  refine fz_aload_n kLc8 rfl rfl ?_
  refine fz_iload_n kLc8 rfl rfl ?_
  refine fz_iconst ⟨by decide, by decide⟩ kLc8 rfl ?_
  refine fz_iaddN kLc8 rfl (by omega) ?_
  obtain ⟨a12, e13⟩ : ∃ z, h 200 ((i + 1)).toNat = z := ⟨_, rfl⟩
  refine fz_taldV (v := a12) kLc8 rfl ⟨by decide, by decide⟩ (by omega) (by omega) e13 ?_
  refine fz_aload_n kLc8 rfl rfl ?_
  refine fz_iload_n kLc8 rfl rfl ?_
  refine fz_iconst ⟨by decide, by decide⟩ kLc8 rfl ?_
  refine fz_iaddN kLc8 rfl (by omega) ?_
  obtain ⟨a14, e15⟩ : ∃ z, h 200 ((i + 2)).toNat = z := ⟨_, rfl⟩
  refine fz_taldV (v := a14) kLc8 rfl ⟨by decide, by decide⟩ (by omega) (by omega) e15 ?_
  refine fz_callV (d' := 3) (M' := mX11_way) (As := [fz_i a12, fz_i a14]) (st := []) kLc8 rfl rfl vX11_way rfl rfl rfl rfl (Nat.le_of_ble_eq_true rfl) (Nat.le_of_ble_eq_true rfl) (by decide) (sX11_way h hI a12 a14 ) (fun H16 r17 q18 o19 => ?_)
  obtain ⟨hI20, hf21, y23, rfl, f22⟩ := q18
  clear o19
  have hf24 := fz_fr_tr hf hf21 (fz_su_all rfl)
  have hXd25 : fz_Xd H16 := fz_Xd_eq (funext fun s => hf21 80 s rfl) hXd
  have hXh26 : fz_Xh H16 := fz_Xh_eq (funext fun s => hf21 83 s rfl) hXh
  have hXw27 : fz_Xw H16 := fz_Xw_eq (hf21 53 19 rfl) (funext fun s => hf21 66 s rfl) (funext fun s => hf21 67 s rfl) (funext fun s => hf21 68 s rfl) (funext fun s => hf21 69 s rfl) hXw
  have hX28 : fz_Xc H16 := fz_Xc_fr hf21 rfl hX
  have t29 : H16 53 10 = h 53 10 := hf21 53 10 rfl
  have t30 : H16 53 41 = h 53 41 := hf21 53 41 rfl
  have t31 : H16 53 42 = h 53 42 := hf21 53 42 rfl
  have t32 : H16 44 2 = h 44 2 := hf21 44 2 rfl
  have t33 : H16 53 44 = h 53 44 := hf21 53 44 rfl
  have t34 : H16 20 2 = h 20 2 := hf21 20 2 rfl
  have t35 : H16 53 16 = h 53 16 := hf21 53 16 rfl
  have t36 : H16 1 7 = h 1 7 := hf21 1 7 rfl
  have t37 : H16 53 0 = h 53 0 := hf21 53 0 rfl
  have t38 : H16 1 8 = h 1 8 := hf21 1 8 rfl
  have t39 : H16 53 2 = h 53 2 := hf21 53 2 rfl
  refine fz_pop rfl kLc8 rfl ?_
  refine fz_goto (tgt := 1816) kLc8 rfl (by decide) ?_
  exact K H16 ⟨hI20, hX28, hXd25, hXh26, hXw27, by omega, by omega, by omega, by omega, by omega, by omega⟩ (funext fun s => hf24 200 s rfl)
def mLc9 : fz_M := (yL_law, code, 4, (some .boolean), [(511, .aload_n 1, 1, 0, 0, 0), (512, .aload_n 0, 1, 0, 0, 0), (513, .iload_n 3, 1, 0, 0, 0), (514, .iconst 1, 1, 0, 0, 0), (515, .iadd, 1, 0, 0, 0), (516, .iaload, 1, 0, 0, 0), (517, .aload_n 0, 1, 0, 0, 0), (518, .iload_n 3, 1, 0, 0, 0), (519, .iconst 2, 1, 0, 0, 0), (520, .iadd, 1, 0, 0, 0), (521, .iaload, 1, 0, 0, 0), (522, .invokevirtual 53, 3, 3158, 37, 0), (525, .pop, 1, 0, 0, 0), (526, .aload_n 2, 1, 0, 0, 0), (527, .aload_n 0, 1, 0, 0, 0), (528, .iload_n 3, 1, 0, 0, 0), (529, .iconst 1, 1, 0, 0, 0), (530, .iadd, 1, 0, 0, 0), (531, .iaload, 1, 0, 0, 0), (532, .aload_n 0, 1, 0, 0, 0), (533, .iload_n 3, 1, 0, 0, 0), (534, .iconst 2, 1, 0, 0, 0), (535, .iadd, 1, 0, 0, 0), (536, .iaload, 1, 0, 0, 0), (537, .invokevirtual 56, 3, 6188, 109, 0), (540, .pop, 1, 0, 0, 0), (541, .goto 1275, 3, 0, 0, 0)])
set_option maxRecDepth 100000 in
theorem kLc9 : fz_okM mLc9 = true := by decide +kernel
set_option maxHeartbeats 1000000 in
set_option maxRecDepth 100000 in
theorem lc9 (h : fz_H) (hI : fz_Iv h) (hX : fz_Xc h) (hXd : fz_Xd h) (hXh : fz_Xh h) (hXw : fz_Xw h) (hv1 : h 53 10 ≤ 10) (hv2 : h 53 42 ≤ h 53 41) (hr0 : h 44 2 = h 53 44) (hr1 : h 20 2 = h 53 16) (hr2 : h 1 7 = h 53 0) (hr3 : h 1 8 = h 53 2) (i : Int) (hi : 0 ≤ i ∧ i + 6 ≤ h 200 100000 ∧ h 200 100000 ≤ 3072) {Q : fz_H → Option fz_V → Prop} (K : ∀ H : fz_H, fz_Gd H → H 200 = h 200 → fz_R 47 mLe 1816 [(3, fz_i i), (0, fz_r 200), (1, fz_r 0), (2, fz_r 53)] [] H Q) : fz_R 47 mLc9 511 [(3, fz_i i), (0, fz_r 200), (1, fz_r 0), (2, fz_r 53)] [] h Q := by
  have hf : fz_fr fz_all h h := fz_fr_rf
  refine fz_aload_n kLc9 rfl rfl ?_
  refine fz_aload_n kLc9 rfl rfl ?_
  refine fz_iload_n kLc9 rfl rfl ?_
  refine fz_iconst ⟨by decide, by decide⟩ kLc9 rfl ?_
  refine fz_iaddN kLc9 rfl (by omega) ?_
  obtain ⟨a1, e2⟩ : ∃ z, h 200 ((i + 1)).toNat = z := ⟨_, rfl⟩
  refine fz_taldV (v := a1) kLc9 rfl ⟨by decide, by decide⟩ (by omega) (by omega) e2 ?_
  refine fz_aload_n kLc9 rfl rfl ?_
  refine fz_iload_n kLc9 rfl rfl ?_
  refine fz_iconst ⟨by decide, by decide⟩ kLc9 rfl ?_
  refine fz_iaddN kLc9 rfl (by omega) ?_
  obtain ⟨a3, e4⟩ : ∃ z, h 200 ((i + 2)).toNat = z := ⟨_, rfl⟩
  refine fz_taldV (v := a3) kLc9 rfl ⟨by decide, by decide⟩ (by omega) (by omega) e4 ?_
  refine fz_callV (d' := 2) (M' := mX10_heard) (As := [fz_i a1, fz_i a3]) (st := []) kLc9 rfl rfl vX10_heard rfl rfl rfl rfl (Nat.le_of_ble_eq_true rfl) (Nat.le_of_ble_eq_true rfl) (by decide) (sX10_heard h hI a1 a3 ) (fun H5 r6 q7 o8 => ?_)
  obtain ⟨e9, y11, rfl, f10⟩ := q7
  subst H5
  clear o8
  refine fz_pop rfl kLc9 rfl ?_
  refine fz_aload_n kLc9 rfl rfl ?_
  refine fz_aload_n kLc9 rfl rfl ?_
  refine fz_iload_n kLc9 rfl rfl ?_
  refine fz_iconst ⟨by decide, by decide⟩ kLc9 rfl ?_
  refine fz_iaddN kLc9 rfl (by omega) ?_
  obtain ⟨a12, e13⟩ : ∃ z, h 200 ((i + 1)).toNat = z := ⟨_, rfl⟩
  refine fz_taldV (v := a12) kLc9 rfl ⟨by decide, by decide⟩ (by omega) (by omega) e13 ?_
  refine fz_aload_n kLc9 rfl rfl ?_
  refine fz_iload_n kLc9 rfl rfl ?_
  refine fz_iconst ⟨by decide, by decide⟩ kLc9 rfl ?_
  refine fz_iaddN kLc9 rfl (by omega) ?_
  obtain ⟨a14, e15⟩ : ∃ z, h 200 ((i + 2)).toNat = z := ⟨_, rfl⟩
  refine fz_taldV (v := a14) kLc9 rfl ⟨by decide, by decide⟩ (by omega) (by omega) e15 ?_
  refine fz_callV (d' := 3) (M' := mX11_heard) (As := [fz_i a12, fz_i a14]) (st := []) kLc9 rfl rfl vX11_heard rfl rfl rfl rfl (Nat.le_of_ble_eq_true rfl) (Nat.le_of_ble_eq_true rfl) (by decide) (sX11_heard h hI a12 a14 ) (fun H16 r17 q18 o19 => ?_)
  obtain ⟨hI20, hf21, y23, rfl, f22⟩ := q18
  clear o19
  have hf24 := fz_fr_tr hf hf21 (fz_su_all rfl)
  have hXd25 : fz_Xd H16 := fz_Xd_eq (funext fun s => hf21 80 s rfl) hXd
  have hXh26 : fz_Xh H16 := fz_Xh_eq (funext fun s => hf21 83 s rfl) hXh
  have hXw27 : fz_Xw H16 := fz_Xw_eq (hf21 53 19 rfl) (funext fun s => hf21 66 s rfl) (funext fun s => hf21 67 s rfl) (funext fun s => hf21 68 s rfl) (funext fun s => hf21 69 s rfl) hXw
  have hX28 : fz_Xc H16 := fz_Xc_fr hf21 rfl hX
  have t29 : H16 53 10 = h 53 10 := hf21 53 10 rfl
  have t30 : H16 53 41 = h 53 41 := hf21 53 41 rfl
  have t31 : H16 53 42 = h 53 42 := hf21 53 42 rfl
  have t32 : H16 44 2 = h 44 2 := hf21 44 2 rfl
  have t33 : H16 53 44 = h 53 44 := hf21 53 44 rfl
  have t34 : H16 20 2 = h 20 2 := hf21 20 2 rfl
  have t35 : H16 53 16 = h 53 16 := hf21 53 16 rfl
  have t36 : H16 1 7 = h 1 7 := hf21 1 7 rfl
  have t37 : H16 53 0 = h 53 0 := hf21 53 0 rfl
  have t38 : H16 1 8 = h 1 8 := hf21 1 8 rfl
  have t39 : H16 53 2 = h 53 2 := hf21 53 2 rfl
  refine fz_pop rfl kLc9 rfl ?_
  refine fz_goto (tgt := 1816) kLc9 rfl (by decide) ?_
  exact K H16 ⟨hI20, hX28, hXd25, hXh26, hXw27, by omega, by omega, by omega, by omega, by omega, by omega⟩ (funext fun s => hf24 200 s rfl)
def mLc10 : fz_M := (yL_law, code, 4, (some .boolean), [(544, .aload_n 1, 1, 0, 0, 0), (545, .aload_n 0, 1, 0, 0, 0), (546, .iload_n 3, 1, 0, 0, 0), (547, .iconst 1, 1, 0, 0, 0), (548, .iadd, 1, 0, 0, 0), (549, .iaload, 1, 0, 0, 0), (550, .aload_n 0, 1, 0, 0, 0), (551, .iload_n 3, 1, 0, 0, 0), (552, .iconst 2, 1, 0, 0, 0), (553, .iadd, 1, 0, 0, 0), (554, .iaload, 1, 0, 0, 0), (555, .invokevirtual 57, 3, 3167, 55, 0), (558, .pop, 1, 0, 0, 0), (559, .aload_n 2, 1, 0, 0, 0), (560, .aload_n 0, 1, 0, 0, 0), (561, .iload_n 3, 1, 0, 0, 0), (562, .iconst 1, 1, 0, 0, 0), (563, .iadd, 1, 0, 0, 0), (564, .iaload, 1, 0, 0, 0), (565, .aload_n 0, 1, 0, 0, 0), (566, .iload_n 3, 1, 0, 0, 0), (567, .iconst 2, 1, 0, 0, 0), (568, .iadd, 1, 0, 0, 0), (569, .iaload, 1, 0, 0, 0), (570, .invokevirtual 60, 3, 6196, 147, 0), (573, .pop, 1, 0, 0, 0), (574, .goto 1242, 3, 0, 0, 0)])
set_option maxRecDepth 100000 in
theorem kLc10 : fz_okM mLc10 = true := by decide +kernel
set_option maxHeartbeats 1000000 in
set_option maxRecDepth 100000 in
theorem lc10 (h : fz_H) (hI : fz_Iv h) (hX : fz_Xc h) (hXd : fz_Xd h) (hXh : fz_Xh h) (hXw : fz_Xw h) (hv1 : h 53 10 ≤ 10) (hv2 : h 53 42 ≤ h 53 41) (hr0 : h 44 2 = h 53 44) (hr1 : h 20 2 = h 53 16) (hr2 : h 1 7 = h 53 0) (hr3 : h 1 8 = h 53 2) (i : Int) (hi : 0 ≤ i ∧ i + 6 ≤ h 200 100000 ∧ h 200 100000 ≤ 3072) {Q : fz_H → Option fz_V → Prop} (K : ∀ H : fz_H, fz_Gd H → H 200 = h 200 → fz_R 47 mLe 1816 [(3, fz_i i), (0, fz_r 200), (1, fz_r 0), (2, fz_r 53)] [] H Q) : fz_R 47 mLc10 544 [(3, fz_i i), (0, fz_r 200), (1, fz_r 0), (2, fz_r 53)] [] h Q := by
  have hf : fz_fr fz_all h h := fz_fr_rf
  refine fz_aload_n kLc10 rfl rfl ?_
  refine fz_aload_n kLc10 rfl rfl ?_
  refine fz_iload_n kLc10 rfl rfl ?_
  refine fz_iconst ⟨by decide, by decide⟩ kLc10 rfl ?_
  refine fz_iaddN kLc10 rfl (by omega) ?_
  obtain ⟨a1, e2⟩ : ∃ z, h 200 ((i + 1)).toNat = z := ⟨_, rfl⟩
  refine fz_taldV (v := a1) kLc10 rfl ⟨by decide, by decide⟩ (by omega) (by omega) e2 ?_
  refine fz_aload_n kLc10 rfl rfl ?_
  refine fz_iload_n kLc10 rfl rfl ?_
  refine fz_iconst ⟨by decide, by decide⟩ kLc10 rfl ?_
  refine fz_iaddN kLc10 rfl (by omega) ?_
  obtain ⟨a3, e4⟩ : ∃ z, h 200 ((i + 2)).toNat = z := ⟨_, rfl⟩
  refine fz_taldV (v := a3) kLc10 rfl ⟨by decide, by decide⟩ (by omega) (by omega) e4 ?_
  refine fz_callV (d' := 4) (M' := mX10_loud) (As := [fz_i a1, fz_i a3]) (st := []) kLc10 rfl rfl vX10_loud rfl rfl rfl rfl (Nat.le_of_ble_eq_true rfl) (Nat.le_of_ble_eq_true rfl) (by decide) (sX10_loud h hI a1 a3 ) (fun H5 r6 q7 o8 => ?_)
  obtain ⟨hI9, hf10, y12, rfl, f11⟩ := q7
  clear o8
  have hf13 := fz_fr_tr hf hf10 (fz_su_all rfl)
  have hXd14 : fz_Xd H5 := fz_Xd_eq (funext fun s => hf10 80 s rfl) hXd
  have hXh15 : fz_Xh H5 := fz_Xh_eq (funext fun s => hf10 83 s rfl) hXh
  have hXw16 : fz_Xw H5 := fz_Xw_eq (hf10 53 19 rfl) (funext fun s => hf10 66 s rfl) (funext fun s => hf10 67 s rfl) (funext fun s => hf10 68 s rfl) (funext fun s => hf10 69 s rfl) hXw
  have hX17 : fz_Xc H5 := fz_Xc_fr hf10 rfl hX
  have t18 : H5 53 10 = h 53 10 := hf10 53 10 rfl
  have t19 : H5 53 41 = h 53 41 := hf10 53 41 rfl
  have t20 : H5 53 42 = h 53 42 := hf10 53 42 rfl
  have t21 : H5 44 2 = h 44 2 := hf10 44 2 rfl
  have t22 : H5 53 44 = h 53 44 := hf10 53 44 rfl
  have t23 : H5 20 2 = h 20 2 := hf10 20 2 rfl
  have t24 : H5 53 16 = h 53 16 := hf10 53 16 rfl
  have t25 : H5 1 7 = h 1 7 := hf10 1 7 rfl
  have t26 : H5 53 0 = h 53 0 := hf10 53 0 rfl
  have t27 : H5 1 8 = h 1 8 := hf10 1 8 rfl
  have t28 : H5 53 2 = h 53 2 := hf10 53 2 rfl
  refine fz_pop rfl kLc10 rfl ?_
  refine fz_aload_n kLc10 rfl rfl ?_
  refine fz_aload_n kLc10 rfl rfl ?_
  refine fz_iload_n kLc10 rfl rfl ?_
  refine fz_iconst ⟨by decide, by decide⟩ kLc10 rfl ?_
  refine fz_iaddN kLc10 rfl (by omega) ?_
  obtain ⟨a29, e30⟩ : ∃ z, h 200 ((i + 1)).toNat = z := ⟨_, rfl⟩
  refine fz_taldV (v := a29) kLc10 rfl ⟨by decide, by decide⟩ (by omega) (by rw [hf13 200 _ rfl]; omega) ((hf13 200 _ rfl).trans e30) ?_
  refine fz_aload_n kLc10 rfl rfl ?_
  refine fz_iload_n kLc10 rfl rfl ?_
  refine fz_iconst ⟨by decide, by decide⟩ kLc10 rfl ?_
  refine fz_iaddN kLc10 rfl (by omega) ?_
  obtain ⟨a31, e32⟩ : ∃ z, h 200 ((i + 2)).toNat = z := ⟨_, rfl⟩
  refine fz_taldV (v := a31) kLc10 rfl ⟨by decide, by decide⟩ (by omega) (by rw [hf13 200 _ rfl]; omega) ((hf13 200 _ rfl).trans e32) ?_
  refine fz_callV (d' := 3) (M' := mX11_loud) (As := [fz_i a29, fz_i a31]) (st := []) kLc10 rfl rfl vX11_loud rfl rfl rfl rfl (Nat.le_of_ble_eq_true rfl) (Nat.le_of_ble_eq_true rfl) (by decide) (sX11_loud H5 hI9 a29 a31 hXw16) (fun H33 r34 q35 o36 => ?_)
  obtain ⟨hI37, hf38, hXw39, y41, rfl, f40⟩ := q35
  clear o36
  have hf42 := fz_fr_tr hf13 hf38 (fz_su_all rfl)
  have hXd43 : fz_Xd H33 := fz_Xd_eq (funext fun s => hf38 80 s rfl) hXd14
  have hXh44 : fz_Xh H33 := fz_Xh_eq (funext fun s => hf38 83 s rfl) hXh15
  have hX45 : fz_Xc H33 := fz_Xc_fr hf38 rfl hX17
  have t46 : H33 53 10 = H5 53 10 := hf38 53 10 rfl
  have t47 : H33 53 41 = H5 53 41 := hf38 53 41 rfl
  have t48 : H33 53 42 = H5 53 42 := hf38 53 42 rfl
  have t49 : H33 44 2 = H5 44 2 := hf38 44 2 rfl
  have t50 : H33 53 44 = H5 53 44 := hf38 53 44 rfl
  have t51 : H33 20 2 = H5 20 2 := hf38 20 2 rfl
  have t52 : H33 53 16 = H5 53 16 := hf38 53 16 rfl
  have t53 : H33 1 7 = H5 1 7 := hf38 1 7 rfl
  have t54 : H33 53 0 = H5 53 0 := hf38 53 0 rfl
  have t55 : H33 1 8 = H5 1 8 := hf38 1 8 rfl
  have t56 : H33 53 2 = H5 53 2 := hf38 53 2 rfl
  refine fz_pop rfl kLc10 rfl ?_
  refine fz_goto (tgt := 1816) kLc10 rfl (by decide) ?_
  exact K H33 ⟨hI37, hX45, hXd43, hXh44, hXw39, by omega, by omega, by omega, by omega, by omega, by omega⟩ (funext fun s => hf42 200 s rfl)
def mLc11 : fz_M := (yL_law, code, 4, (some .boolean), [(577, .aload_n 1, 1, 0, 0, 0), (578, .aload_n 0, 1, 0, 0, 0), (579, .iload_n 3, 1, 0, 0, 0), (580, .iconst 1, 1, 0, 0, 0), (581, .iadd, 1, 0, 0, 0), (582, .iaload, 1, 0, 0, 0), (583, .aload_n 0, 1, 0, 0, 0), (584, .iload_n 3, 1, 0, 0, 0), (585, .iconst 2, 1, 0, 0, 0), (586, .iadd, 1, 0, 0, 0), (587, .iaload, 1, 0, 0, 0), (588, .invokevirtual 61, 3, 3191, 70, 0), (591, .pop, 1, 0, 0, 0), (592, .aload_n 2, 1, 0, 0, 0), (593, .aload_n 0, 1, 0, 0, 0), (594, .iload_n 3, 1, 0, 0, 0), (595, .iconst 1, 1, 0, 0, 0), (596, .iadd, 1, 0, 0, 0), (597, .iaload, 1, 0, 0, 0), (598, .aload_n 0, 1, 0, 0, 0), (599, .iload_n 3, 1, 0, 0, 0), (600, .iconst 2, 1, 0, 0, 0), (601, .iadd, 1, 0, 0, 0), (602, .iaload, 1, 0, 0, 0), (603, .invokevirtual 64, 3, 6217, 170, 0), (606, .pop, 1, 0, 0, 0), (607, .goto 1209, 3, 0, 0, 0)])
set_option maxRecDepth 100000 in
theorem kLc11 : fz_okM mLc11 = true := by decide +kernel
set_option maxHeartbeats 1000000 in
set_option maxRecDepth 100000 in
theorem lc11 (h : fz_H) (hI : fz_Iv h) (hX : fz_Xc h) (hXd : fz_Xd h) (hXh : fz_Xh h) (hXw : fz_Xw h) (hv1 : h 53 10 ≤ 10) (hv2 : h 53 42 ≤ h 53 41) (hr0 : h 44 2 = h 53 44) (hr1 : h 20 2 = h 53 16) (hr2 : h 1 7 = h 53 0) (hr3 : h 1 8 = h 53 2) (i : Int) (hi : 0 ≤ i ∧ i + 6 ≤ h 200 100000 ∧ h 200 100000 ≤ 3072) {Q : fz_H → Option fz_V → Prop} (K : ∀ H : fz_H, fz_Gd H → H 200 = h 200 → fz_R 47 mLe 1816 [(3, fz_i i), (0, fz_r 200), (1, fz_r 0), (2, fz_r 53)] [] H Q) : fz_R 47 mLc11 577 [(3, fz_i i), (0, fz_r 200), (1, fz_r 0), (2, fz_r 53)] [] h Q := by
  have hf : fz_fr fz_all h h := fz_fr_rf
  refine fz_aload_n kLc11 rfl rfl ?_
  refine fz_aload_n kLc11 rfl rfl ?_
  refine fz_iload_n kLc11 rfl rfl ?_
  refine fz_iconst ⟨by decide, by decide⟩ kLc11 rfl ?_
  refine fz_iaddN kLc11 rfl (by omega) ?_
  obtain ⟨a1, e2⟩ : ∃ z, h 200 ((i + 1)).toNat = z := ⟨_, rfl⟩
  refine fz_taldV (v := a1) kLc11 rfl ⟨by decide, by decide⟩ (by omega) (by omega) e2 ?_
  refine fz_aload_n kLc11 rfl rfl ?_
  refine fz_iload_n kLc11 rfl rfl ?_
  refine fz_iconst ⟨by decide, by decide⟩ kLc11 rfl ?_
  refine fz_iaddN kLc11 rfl (by omega) ?_
  obtain ⟨a3, e4⟩ : ∃ z, h 200 ((i + 2)).toNat = z := ⟨_, rfl⟩
  refine fz_taldV (v := a3) kLc11 rfl ⟨by decide, by decide⟩ (by omega) (by omega) e4 ?_
  refine fz_callV (d' := 5) (M' := mX10_said) (As := [fz_i a1, fz_i a3]) (st := []) kLc11 rfl rfl vX10_said rfl rfl rfl rfl (Nat.le_of_ble_eq_true rfl) (Nat.le_of_ble_eq_true rfl) (by decide) (sX10_said h hI a1 a3 ) (fun H5 r6 q7 o8 => ?_)
  obtain ⟨hI9, hf10, y12, rfl, f11⟩ := q7
  clear o8
  have hf13 := fz_fr_tr hf hf10 (fz_su_all rfl)
  have hXd14 : fz_Xd H5 := fz_Xd_eq (funext fun s => hf10 80 s rfl) hXd
  have hXh15 : fz_Xh H5 := fz_Xh_eq (funext fun s => hf10 83 s rfl) hXh
  have hXw16 : fz_Xw H5 := fz_Xw_eq (hf10 53 19 rfl) (funext fun s => hf10 66 s rfl) (funext fun s => hf10 67 s rfl) (funext fun s => hf10 68 s rfl) (funext fun s => hf10 69 s rfl) hXw
  have hX17 : fz_Xc H5 := fz_Xc_fr hf10 rfl hX
  have t18 : H5 53 10 = h 53 10 := hf10 53 10 rfl
  have t19 : H5 53 41 = h 53 41 := hf10 53 41 rfl
  have t20 : H5 53 42 = h 53 42 := hf10 53 42 rfl
  have t21 : H5 44 2 = h 44 2 := hf10 44 2 rfl
  have t22 : H5 53 44 = h 53 44 := hf10 53 44 rfl
  have t23 : H5 20 2 = h 20 2 := hf10 20 2 rfl
  have t24 : H5 53 16 = h 53 16 := hf10 53 16 rfl
  have t25 : H5 1 7 = h 1 7 := hf10 1 7 rfl
  have t26 : H5 53 0 = h 53 0 := hf10 53 0 rfl
  have t27 : H5 1 8 = h 1 8 := hf10 1 8 rfl
  have t28 : H5 53 2 = h 53 2 := hf10 53 2 rfl
  refine fz_pop rfl kLc11 rfl ?_
  refine fz_aload_n kLc11 rfl rfl ?_
  refine fz_aload_n kLc11 rfl rfl ?_
  refine fz_iload_n kLc11 rfl rfl ?_
  refine fz_iconst ⟨by decide, by decide⟩ kLc11 rfl ?_
  refine fz_iaddN kLc11 rfl (by omega) ?_
  obtain ⟨a29, e30⟩ : ∃ z, h 200 ((i + 1)).toNat = z := ⟨_, rfl⟩
  refine fz_taldV (v := a29) kLc11 rfl ⟨by decide, by decide⟩ (by omega) (by rw [hf13 200 _ rfl]; omega) ((hf13 200 _ rfl).trans e30) ?_
  refine fz_aload_n kLc11 rfl rfl ?_
  refine fz_iload_n kLc11 rfl rfl ?_
  refine fz_iconst ⟨by decide, by decide⟩ kLc11 rfl ?_
  refine fz_iaddN kLc11 rfl (by omega) ?_
  obtain ⟨a31, e32⟩ : ∃ z, h 200 ((i + 2)).toNat = z := ⟨_, rfl⟩
  refine fz_taldV (v := a31) kLc11 rfl ⟨by decide, by decide⟩ (by omega) (by rw [hf13 200 _ rfl]; omega) ((hf13 200 _ rfl).trans e32) ?_
  refine fz_callV (d' := 4) (M' := mX11_said) (As := [fz_i a29, fz_i a31]) (st := []) kLc11 rfl rfl vX11_said rfl rfl rfl rfl (Nat.le_of_ble_eq_true rfl) (Nat.le_of_ble_eq_true rfl) (by decide) (sX11_said H5 hI9 a29 a31 hXw16) (fun H33 r34 q35 o36 => ?_)
  obtain ⟨hI37, hf38, hXw39, y41, rfl, f40⟩ := q35
  clear o36
  have hf42 := fz_fr_tr hf13 hf38 (fz_su_all rfl)
  have hXd43 : fz_Xd H33 := fz_Xd_eq (funext fun s => hf38 80 s rfl) hXd14
  have hXh44 : fz_Xh H33 := fz_Xh_eq (funext fun s => hf38 83 s rfl) hXh15
  have hX45 : fz_Xc H33 := fz_Xc_fr hf38 rfl hX17
  have t46 : H33 53 10 = H5 53 10 := hf38 53 10 rfl
  have t47 : H33 53 41 = H5 53 41 := hf38 53 41 rfl
  have t48 : H33 53 42 = H5 53 42 := hf38 53 42 rfl
  have t49 : H33 44 2 = H5 44 2 := hf38 44 2 rfl
  have t50 : H33 53 44 = H5 53 44 := hf38 53 44 rfl
  have t51 : H33 20 2 = H5 20 2 := hf38 20 2 rfl
  have t52 : H33 53 16 = H5 53 16 := hf38 53 16 rfl
  have t53 : H33 1 7 = H5 1 7 := hf38 1 7 rfl
  have t54 : H33 53 0 = H5 53 0 := hf38 53 0 rfl
  have t55 : H33 1 8 = H5 1 8 := hf38 1 8 rfl
  have t56 : H33 53 2 = H5 53 2 := hf38 53 2 rfl
  refine fz_pop rfl kLc11 rfl ?_
  refine fz_goto (tgt := 1816) kLc11 rfl (by decide) ?_
  exact K H33 ⟨hI37, hX45, hXd43, hXh44, hXw39, by omega, by omega, by omega, by omega, by omega, by omega⟩ (funext fun s => hf42 200 s rfl)
def mLc12 : fz_M := (yL_law, code, 4, (some .boolean), [(610, .aload_n 1, 1, 0, 0, 0), (611, .aload_n 0, 1, 0, 0, 0), (612, .iload_n 3, 1, 0, 0, 0), (613, .iconst 1, 1, 0, 0, 0), (614, .iadd, 1, 0, 0, 0), (615, .iaload, 1, 0, 0, 0), (616, .aload_n 0, 1, 0, 0, 0), (617, .iload_n 3, 1, 0, 0, 0), (618, .iconst 2, 1, 0, 0, 0), (619, .iadd, 1, 0, 0, 0), (620, .iaload, 1, 0, 0, 0), (621, .aload_n 0, 1, 0, 0, 0), (622, .iload_n 3, 1, 0, 0, 0), (623, .iconst 3, 1, 0, 0, 0), (624, .iadd, 1, 0, 0, 0), (625, .iaload, 1, 0, 0, 0), (626, .invokevirtual 65, 3, 3201, 63, 0), (629, .pop, 1, 0, 0, 0), (630, .aload_n 2, 1, 0, 0, 0), (631, .aload_n 0, 1, 0, 0, 0), (632, .iload_n 3, 1, 0, 0, 0), (633, .iconst 1, 1, 0, 0, 0), (634, .iadd, 1, 0, 0, 0), (635, .iaload, 1, 0, 0, 0), (636, .aload_n 0, 1, 0, 0, 0), (637, .iload_n 3, 1, 0, 0, 0), (638, .iconst 2, 1, 0, 0, 0), (639, .iadd, 1, 0, 0, 0), (640, .iaload, 1, 0, 0, 0), (641, .aload_n 0, 1, 0, 0, 0), (642, .iload_n 3, 1, 0, 0, 0), (643, .iconst 3, 1, 0, 0, 0), (644, .iadd, 1, 0, 0, 0), (645, .iaload, 1, 0, 0, 0), (646, .invokevirtual 68, 3, 6229, 163, 0), (649, .pop, 1, 0, 0, 0), (650, .goto 1166, 3, 0, 0, 0)])
set_option maxRecDepth 100000 in
theorem kLc12 : fz_okM mLc12 = true := by decide +kernel
set_option maxHeartbeats 1000000 in
set_option maxRecDepth 100000 in
theorem lc12 (h : fz_H) (hI : fz_Iv h) (hX : fz_Xc h) (hXd : fz_Xd h) (hXh : fz_Xh h) (hXw : fz_Xw h) (hv1 : h 53 10 ≤ 10) (hv2 : h 53 42 ≤ h 53 41) (hr0 : h 44 2 = h 53 44) (hr1 : h 20 2 = h 53 16) (hr2 : h 1 7 = h 53 0) (hr3 : h 1 8 = h 53 2) (i : Int) (hi : 0 ≤ i ∧ i + 6 ≤ h 200 100000 ∧ h 200 100000 ≤ 3072) {Q : fz_H → Option fz_V → Prop} (K : ∀ H : fz_H, fz_Gd H → H 200 = h 200 → fz_R 47 mLe 1816 [(3, fz_i i), (0, fz_r 200), (1, fz_r 0), (2, fz_r 53)] [] H Q) : fz_R 47 mLc12 610 [(3, fz_i i), (0, fz_r 200), (1, fz_r 0), (2, fz_r 53)] [] h Q := by
  have hf : fz_fr fz_all h h := fz_fr_rf
  refine fz_aload_n kLc12 rfl rfl ?_
  refine fz_aload_n kLc12 rfl rfl ?_
  refine fz_iload_n kLc12 rfl rfl ?_
  refine fz_iconst ⟨by decide, by decide⟩ kLc12 rfl ?_
  refine fz_iaddN kLc12 rfl (by omega) ?_
  obtain ⟨a1, e2⟩ : ∃ z, h 200 ((i + 1)).toNat = z := ⟨_, rfl⟩
  refine fz_taldV (v := a1) kLc12 rfl ⟨by decide, by decide⟩ (by omega) (by omega) e2 ?_
  refine fz_aload_n kLc12 rfl rfl ?_
  refine fz_iload_n kLc12 rfl rfl ?_
  refine fz_iconst ⟨by decide, by decide⟩ kLc12 rfl ?_
  refine fz_iaddN kLc12 rfl (by omega) ?_
  obtain ⟨a3, e4⟩ : ∃ z, h 200 ((i + 2)).toNat = z := ⟨_, rfl⟩
  refine fz_taldV (v := a3) kLc12 rfl ⟨by decide, by decide⟩ (by omega) (by omega) e4 ?_
  refine fz_aload_n kLc12 rfl rfl ?_
  refine fz_iload_n kLc12 rfl rfl ?_
  refine fz_iconst ⟨by decide, by decide⟩ kLc12 rfl ?_
  refine fz_iaddN kLc12 rfl (by omega) ?_
  obtain ⟨a5, e6⟩ : ∃ z, h 200 ((i + 3)).toNat = z := ⟨_, rfl⟩
  refine fz_taldV (v := a5) kLc12 rfl ⟨by decide, by decide⟩ (by omega) (by omega) e6 ?_
  refine fz_callV (d' := 5) (M' := mX10_received) (As := [fz_i a1, fz_i a3, fz_i a5]) (st := []) kLc12 rfl rfl vX10_received rfl rfl rfl rfl (Nat.le_of_ble_eq_true rfl) (Nat.le_of_ble_eq_true rfl) (by decide) (sX10_received h hI a1 a3 a5 ) (fun H7 r8 q9 o10 => ?_)
  obtain ⟨hI11, hf12, y14, rfl, f13⟩ := q9
  clear o10
  have hf15 := fz_fr_tr hf hf12 (fz_su_all rfl)
  have hXd16 : fz_Xd H7 := fz_Xd_eq (funext fun s => hf12 80 s rfl) hXd
  have hXh17 : fz_Xh H7 := fz_Xh_eq (funext fun s => hf12 83 s rfl) hXh
  have hXw18 : fz_Xw H7 := fz_Xw_eq (hf12 53 19 rfl) (funext fun s => hf12 66 s rfl) (funext fun s => hf12 67 s rfl) (funext fun s => hf12 68 s rfl) (funext fun s => hf12 69 s rfl) hXw
  have hX19 : fz_Xc H7 := fz_Xc_fr hf12 rfl hX
  have t20 : H7 53 10 = h 53 10 := hf12 53 10 rfl
  have t21 : H7 53 41 = h 53 41 := hf12 53 41 rfl
  have t22 : H7 53 42 = h 53 42 := hf12 53 42 rfl
  have t23 : H7 44 2 = h 44 2 := hf12 44 2 rfl
  have t24 : H7 53 44 = h 53 44 := hf12 53 44 rfl
  have t25 : H7 20 2 = h 20 2 := hf12 20 2 rfl
  have t26 : H7 53 16 = h 53 16 := hf12 53 16 rfl
  have t27 : H7 1 7 = h 1 7 := hf12 1 7 rfl
  have t28 : H7 53 0 = h 53 0 := hf12 53 0 rfl
  have t29 : H7 1 8 = h 1 8 := hf12 1 8 rfl
  have t30 : H7 53 2 = h 53 2 := hf12 53 2 rfl
  refine fz_pop rfl kLc12 rfl ?_
  refine fz_aload_n kLc12 rfl rfl ?_
  refine fz_aload_n kLc12 rfl rfl ?_
  refine fz_iload_n kLc12 rfl rfl ?_
  refine fz_iconst ⟨by decide, by decide⟩ kLc12 rfl ?_
  refine fz_iaddN kLc12 rfl (by omega) ?_
  obtain ⟨a31, e32⟩ : ∃ z, h 200 ((i + 1)).toNat = z := ⟨_, rfl⟩
  refine fz_taldV (v := a31) kLc12 rfl ⟨by decide, by decide⟩ (by omega) (by rw [hf15 200 _ rfl]; omega) ((hf15 200 _ rfl).trans e32) ?_
  refine fz_aload_n kLc12 rfl rfl ?_
  refine fz_iload_n kLc12 rfl rfl ?_
  refine fz_iconst ⟨by decide, by decide⟩ kLc12 rfl ?_
  refine fz_iaddN kLc12 rfl (by omega) ?_
  obtain ⟨a33, e34⟩ : ∃ z, h 200 ((i + 2)).toNat = z := ⟨_, rfl⟩
  refine fz_taldV (v := a33) kLc12 rfl ⟨by decide, by decide⟩ (by omega) (by rw [hf15 200 _ rfl]; omega) ((hf15 200 _ rfl).trans e34) ?_
  refine fz_aload_n kLc12 rfl rfl ?_
  refine fz_iload_n kLc12 rfl rfl ?_
  refine fz_iconst ⟨by decide, by decide⟩ kLc12 rfl ?_
  refine fz_iaddN kLc12 rfl (by omega) ?_
  obtain ⟨a35, e36⟩ : ∃ z, h 200 ((i + 3)).toNat = z := ⟨_, rfl⟩
  refine fz_taldV (v := a35) kLc12 rfl ⟨by decide, by decide⟩ (by omega) (by rw [hf15 200 _ rfl]; omega) ((hf15 200 _ rfl).trans e36) ?_
  refine fz_callV (d' := 5) (M' := mX11_received) (As := [fz_i a31, fz_i a33, fz_i a35]) (st := []) kLc12 rfl rfl vX11_received rfl rfl rfl rfl (Nat.le_of_ble_eq_true rfl) (Nat.le_of_ble_eq_true rfl) (by decide) (sX11_received H7 hI11 a31 a33 a35 hXw18) (fun H37 r38 q39 o40 => ?_)
  obtain ⟨hI41, hf42, hXw43, y45, rfl, f44⟩ := q39
  clear o40
  have hf46 := fz_fr_tr hf15 hf42 (fz_su_all rfl)
  have hXd47 : fz_Xd H37 := fz_Xd_eq (funext fun s => hf42 80 s rfl) hXd16
  have hXh48 : fz_Xh H37 := fz_Xh_eq (funext fun s => hf42 83 s rfl) hXh17
  have hX49 : fz_Xc H37 := fz_Xc_fr hf42 rfl hX19
  have t50 : H37 53 10 = H7 53 10 := hf42 53 10 rfl
  have t51 : H37 53 41 = H7 53 41 := hf42 53 41 rfl
  have t52 : H37 53 42 = H7 53 42 := hf42 53 42 rfl
  have t53 : H37 44 2 = H7 44 2 := hf42 44 2 rfl
  have t54 : H37 53 44 = H7 53 44 := hf42 53 44 rfl
  have t55 : H37 20 2 = H7 20 2 := hf42 20 2 rfl
  have t56 : H37 53 16 = H7 53 16 := hf42 53 16 rfl
  have t57 : H37 1 7 = H7 1 7 := hf42 1 7 rfl
  have t58 : H37 53 0 = H7 53 0 := hf42 53 0 rfl
  have t59 : H37 1 8 = H7 1 8 := hf42 1 8 rfl
  have t60 : H37 53 2 = H7 53 2 := hf42 53 2 rfl
  refine fz_pop rfl kLc12 rfl ?_
  refine fz_goto (tgt := 1816) kLc12 rfl (by decide) ?_
  exact K H37 ⟨hI41, hX49, hXd47, hXh48, hXw43, by omega, by omega, by omega, by omega, by omega, by omega⟩ (funext fun s => hf46 200 s rfl)
def mLc13 : fz_M := (yL_law, code, 4, (some .boolean), [(653, .aload_n 1, 1, 0, 0, 0), (654, .aload_n 0, 1, 0, 0, 0), (655, .iload_n 3, 1, 0, 0, 0), (656, .iconst 1, 1, 0, 0, 0), (657, .iadd, 1, 0, 0, 0), (658, .iaload, 1, 0, 0, 0), (659, .aload_n 0, 1, 0, 0, 0), (660, .iload_n 3, 1, 0, 0, 0), (661, .iconst 2, 1, 0, 0, 0), (662, .iadd, 1, 0, 0, 0), (663, .iaload, 1, 0, 0, 0), (664, .aload_n 0, 1, 0, 0, 0), (665, .iload_n 3, 1, 0, 0, 0), (666, .iconst 3, 1, 0, 0, 0), (667, .iadd, 1, 0, 0, 0), (668, .iaload, 1, 0, 0, 0), (669, .invokevirtual 69, 3, 3234, 18, 0), (672, .pop, 1, 0, 0, 0), (673, .aload_n 2, 1, 0, 0, 0), (674, .aload_n 0, 1, 0, 0, 0), (675, .iload_n 3, 1, 0, 0, 0), (676, .iconst 1, 1, 0, 0, 0), (677, .iadd, 1, 0, 0, 0), (678, .iaload, 1, 0, 0, 0), (679, .aload_n 0, 1, 0, 0, 0), (680, .iload_n 3, 1, 0, 0, 0), (681, .iconst 2, 1, 0, 0, 0), (682, .iadd, 1, 0, 0, 0), (683, .iaload, 1, 0, 0, 0), (684, .aload_n 0, 1, 0, 0, 0), (685, .iload_n 3, 1, 0, 0, 0), (686, .iconst 3, 1, 0, 0, 0), (687, .iadd, 1, 0, 0, 0), (688, .iaload, 1, 0, 0, 0), (689, .invokevirtual 72, 3, 7009, 85, 0), (692, .pop, 1, 0, 0, 0), (693, .goto 1123, 3, 0, 0, 0)])
set_option maxRecDepth 100000 in
theorem kLc13 : fz_okM mLc13 = true := by decide +kernel
set_option maxHeartbeats 1000000 in
set_option maxRecDepth 100000 in
theorem lc13 (h : fz_H) (hI : fz_Iv h) (hX : fz_Xc h) (hXd : fz_Xd h) (hXh : fz_Xh h) (hXw : fz_Xw h) (hv1 : h 53 10 ≤ 10) (hv2 : h 53 42 ≤ h 53 41) (hr0 : h 44 2 = h 53 44) (hr1 : h 20 2 = h 53 16) (hr2 : h 1 7 = h 53 0) (hr3 : h 1 8 = h 53 2) (i : Int) (hi : 0 ≤ i ∧ i + 6 ≤ h 200 100000 ∧ h 200 100000 ≤ 3072) {Q : fz_H → Option fz_V → Prop} (K : ∀ H : fz_H, fz_Gd H → H 200 = h 200 → fz_R 47 mLe 1816 [(3, fz_i i), (0, fz_r 200), (1, fz_r 0), (2, fz_r 53)] [] H Q) : fz_R 47 mLc13 653 [(3, fz_i i), (0, fz_r 200), (1, fz_r 0), (2, fz_r 53)] [] h Q := by
  have hf : fz_fr fz_all h h := fz_fr_rf
  refine fz_aload_n kLc13 rfl rfl ?_
  refine fz_aload_n kLc13 rfl rfl ?_
  refine fz_iload_n kLc13 rfl rfl ?_
  refine fz_iconst ⟨by decide, by decide⟩ kLc13 rfl ?_
  refine fz_iaddN kLc13 rfl (by omega) ?_
  obtain ⟨a1, e2⟩ : ∃ z, h 200 ((i + 1)).toNat = z := ⟨_, rfl⟩
  refine fz_taldV (v := a1) kLc13 rfl ⟨by decide, by decide⟩ (by omega) (by omega) e2 ?_
  refine fz_aload_n kLc13 rfl rfl ?_
  refine fz_iload_n kLc13 rfl rfl ?_
  refine fz_iconst ⟨by decide, by decide⟩ kLc13 rfl ?_
  refine fz_iaddN kLc13 rfl (by omega) ?_
  obtain ⟨a3, e4⟩ : ∃ z, h 200 ((i + 2)).toNat = z := ⟨_, rfl⟩
  refine fz_taldV (v := a3) kLc13 rfl ⟨by decide, by decide⟩ (by omega) (by omega) e4 ?_
  refine fz_aload_n kLc13 rfl rfl ?_
  refine fz_iload_n kLc13 rfl rfl ?_
  refine fz_iconst ⟨by decide, by decide⟩ kLc13 rfl ?_
  refine fz_iaddN kLc13 rfl (by omega) ?_
  obtain ⟨a5, e6⟩ : ∃ z, h 200 ((i + 3)).toNat = z := ⟨_, rfl⟩
  refine fz_taldV (v := a5) kLc13 rfl ⟨by decide, by decide⟩ (by omega) (by omega) e6 ?_
  refine fz_callV (d' := 6) (M' := mX10_atHour) (As := [fz_i a1, fz_i a3, fz_i a5]) (st := []) kLc13 rfl rfl vX10_atHour rfl rfl rfl rfl (Nat.le_of_ble_eq_true rfl) (Nat.le_of_ble_eq_true rfl) (by decide) (sX10_atHour h hI a1 a3 a5 ) (fun H7 r8 q9 o10 => ?_)
  obtain ⟨hI11, hf12, y14, rfl, f13⟩ := q9
  clear o10
  have hf15 := fz_fr_tr hf hf12 (fz_su_all rfl)
  have hXd16 : fz_Xd H7 := fz_Xd_eq (funext fun s => hf12 80 s rfl) hXd
  have hXh17 : fz_Xh H7 := fz_Xh_eq (funext fun s => hf12 83 s rfl) hXh
  have hXw18 : fz_Xw H7 := fz_Xw_eq (hf12 53 19 rfl) (funext fun s => hf12 66 s rfl) (funext fun s => hf12 67 s rfl) (funext fun s => hf12 68 s rfl) (funext fun s => hf12 69 s rfl) hXw
  have hX19 : fz_Xc H7 := fz_Xc_fr hf12 rfl hX
  have t20 : H7 53 10 = h 53 10 := hf12 53 10 rfl
  have t21 : H7 53 41 = h 53 41 := hf12 53 41 rfl
  have t22 : H7 53 42 = h 53 42 := hf12 53 42 rfl
  have t23 : H7 44 2 = h 44 2 := hf12 44 2 rfl
  have t24 : H7 53 44 = h 53 44 := hf12 53 44 rfl
  have t25 : H7 20 2 = h 20 2 := hf12 20 2 rfl
  have t26 : H7 53 16 = h 53 16 := hf12 53 16 rfl
  have t27 : H7 1 7 = h 1 7 := hf12 1 7 rfl
  have t28 : H7 53 0 = h 53 0 := hf12 53 0 rfl
  have t29 : H7 1 8 = h 1 8 := hf12 1 8 rfl
  have t30 : H7 53 2 = h 53 2 := hf12 53 2 rfl
  refine fz_pop rfl kLc13 rfl ?_
  refine fz_aload_n kLc13 rfl rfl ?_
  refine fz_aload_n kLc13 rfl rfl ?_
  refine fz_iload_n kLc13 rfl rfl ?_
  refine fz_iconst ⟨by decide, by decide⟩ kLc13 rfl ?_
  refine fz_iaddN kLc13 rfl (by omega) ?_
  obtain ⟨a31, e32⟩ : ∃ z, h 200 ((i + 1)).toNat = z := ⟨_, rfl⟩
  refine fz_taldV (v := a31) kLc13 rfl ⟨by decide, by decide⟩ (by omega) (by rw [hf15 200 _ rfl]; omega) ((hf15 200 _ rfl).trans e32) ?_
  refine fz_aload_n kLc13 rfl rfl ?_
  refine fz_iload_n kLc13 rfl rfl ?_
  refine fz_iconst ⟨by decide, by decide⟩ kLc13 rfl ?_
  refine fz_iaddN kLc13 rfl (by omega) ?_
  obtain ⟨a33, e34⟩ : ∃ z, h 200 ((i + 2)).toNat = z := ⟨_, rfl⟩
  refine fz_taldV (v := a33) kLc13 rfl ⟨by decide, by decide⟩ (by omega) (by rw [hf15 200 _ rfl]; omega) ((hf15 200 _ rfl).trans e34) ?_
  refine fz_aload_n kLc13 rfl rfl ?_
  refine fz_iload_n kLc13 rfl rfl ?_
  refine fz_iconst ⟨by decide, by decide⟩ kLc13 rfl ?_
  refine fz_iaddN kLc13 rfl (by omega) ?_
  obtain ⟨a35, e36⟩ : ∃ z, h 200 ((i + 3)).toNat = z := ⟨_, rfl⟩
  refine fz_taldV (v := a35) kLc13 rfl ⟨by decide, by decide⟩ (by omega) (by rw [hf15 200 _ rfl]; omega) ((hf15 200 _ rfl).trans e36) ?_
  refine fz_callV (d' := 5) (M' := mX11_atHour) (As := [fz_i a31, fz_i a33, fz_i a35]) (st := []) kLc13 rfl rfl vX11_atHour rfl rfl rfl rfl (Nat.le_of_ble_eq_true rfl) (Nat.le_of_ble_eq_true rfl) (by decide) (sX11_atHour H7 hI11 a31 a33 a35 hXw18) (fun H37 r38 q39 o40 => ?_)
  obtain ⟨hI41, hf42, hXw43, y45, rfl, f44⟩ := q39
  clear o40
  have hf46 := fz_fr_tr hf15 hf42 (fz_su_all rfl)
  have hXd47 : fz_Xd H37 := fz_Xd_eq (funext fun s => hf42 80 s rfl) hXd16
  have hXh48 : fz_Xh H37 := fz_Xh_eq (funext fun s => hf42 83 s rfl) hXh17
  have hX49 : fz_Xc H37 := fz_Xc_fr hf42 rfl hX19
  have t50 : H37 53 10 = H7 53 10 := hf42 53 10 rfl
  have t51 : H37 53 41 = H7 53 41 := hf42 53 41 rfl
  have t52 : H37 53 42 = H7 53 42 := hf42 53 42 rfl
  have t53 : H37 44 2 = H7 44 2 := hf42 44 2 rfl
  have t54 : H37 53 44 = H7 53 44 := hf42 53 44 rfl
  have t55 : H37 20 2 = H7 20 2 := hf42 20 2 rfl
  have t56 : H37 53 16 = H7 53 16 := hf42 53 16 rfl
  have t57 : H37 1 7 = H7 1 7 := hf42 1 7 rfl
  have t58 : H37 53 0 = H7 53 0 := hf42 53 0 rfl
  have t59 : H37 1 8 = H7 1 8 := hf42 1 8 rfl
  have t60 : H37 53 2 = H7 53 2 := hf42 53 2 rfl
  refine fz_pop rfl kLc13 rfl ?_
  refine fz_goto (tgt := 1816) kLc13 rfl (by decide) ?_
  exact K H37 ⟨hI41, hX49, hXd47, hXh48, hXw43, by omega, by omega, by omega, by omega, by omega, by omega⟩ (funext fun s => hf46 200 s rfl)
def mLc14 : fz_M := (yL_law, code, 4, (some .boolean), [(696, .aload_n 1, 1, 0, 0, 0), (697, .aload_n 0, 1, 0, 0, 0), (698, .iload_n 3, 1, 0, 0, 0), (699, .iconst 1, 1, 0, 0, 0), (700, .iadd, 1, 0, 0, 0), (701, .iaload, 1, 0, 0, 0), (702, .aload_n 0, 1, 0, 0, 0), (703, .iload_n 3, 1, 0, 0, 0), (704, .iconst 2, 1, 0, 0, 0), (705, .iadd, 1, 0, 0, 0), (706, .iaload, 1, 0, 0, 0), (707, .aload_n 0, 1, 0, 0, 0), (708, .iload_n 3, 1, 0, 0, 0), (709, .iconst 3, 1, 0, 0, 0), (710, .iadd, 1, 0, 0, 0), (711, .iaload, 1, 0, 0, 0), (712, .invokevirtual 73, 3, 4006, 38, 0), (715, .pop, 1, 0, 0, 0), (716, .aload_n 2, 1, 0, 0, 0), (717, .aload_n 0, 1, 0, 0, 0), (718, .iload_n 3, 1, 0, 0, 0), (719, .iconst 1, 1, 0, 0, 0), (720, .iadd, 1, 0, 0, 0), (721, .iaload, 1, 0, 0, 0), (722, .aload_n 0, 1, 0, 0, 0), (723, .iload_n 3, 1, 0, 0, 0), (724, .iconst 2, 1, 0, 0, 0), (725, .iadd, 1, 0, 0, 0), (726, .iaload, 1, 0, 0, 0), (727, .aload_n 0, 1, 0, 0, 0), (728, .iload_n 3, 1, 0, 0, 0), (729, .iconst 3, 1, 0, 0, 0), (730, .iadd, 1, 0, 0, 0), (731, .iaload, 1, 0, 0, 0), (732, .invokevirtual 76, 3, 7013, 112, 0), (735, .pop, 1, 0, 0, 0), (736, .goto 1080, 3, 0, 0, 0)])
set_option maxRecDepth 100000 in
theorem kLc14 : fz_okM mLc14 = true := by decide +kernel
set_option maxHeartbeats 1000000 in
set_option maxRecDepth 100000 in
theorem lc14 (h : fz_H) (hI : fz_Iv h) (hX : fz_Xc h) (hXd : fz_Xd h) (hXh : fz_Xh h) (hXw : fz_Xw h) (hv1 : h 53 10 ≤ 10) (hv2 : h 53 42 ≤ h 53 41) (hr0 : h 44 2 = h 53 44) (hr1 : h 20 2 = h 53 16) (hr2 : h 1 7 = h 53 0) (hr3 : h 1 8 = h 53 2) (i : Int) (hi : 0 ≤ i ∧ i + 6 ≤ h 200 100000 ∧ h 200 100000 ≤ 3072) {Q : fz_H → Option fz_V → Prop} (K : ∀ H : fz_H, fz_Gd H → H 200 = h 200 → fz_R 47 mLe 1816 [(3, fz_i i), (0, fz_r 200), (1, fz_r 0), (2, fz_r 53)] [] H Q) : fz_R 47 mLc14 696 [(3, fz_i i), (0, fz_r 200), (1, fz_r 0), (2, fz_r 53)] [] h Q := by
  have hf : fz_fr fz_all h h := fz_fr_rf
  refine fz_aload_n kLc14 rfl rfl ?_
  refine fz_aload_n kLc14 rfl rfl ?_
  refine fz_iload_n kLc14 rfl rfl ?_
  refine fz_iconst ⟨by decide, by decide⟩ kLc14 rfl ?_
  refine fz_iaddN kLc14 rfl (by omega) ?_
  obtain ⟨a1, e2⟩ : ∃ z, h 200 ((i + 1)).toNat = z := ⟨_, rfl⟩
  refine fz_taldV (v := a1) kLc14 rfl ⟨by decide, by decide⟩ (by omega) (by omega) e2 ?_
  refine fz_aload_n kLc14 rfl rfl ?_
  refine fz_iload_n kLc14 rfl rfl ?_
  refine fz_iconst ⟨by decide, by decide⟩ kLc14 rfl ?_
  refine fz_iaddN kLc14 rfl (by omega) ?_
  obtain ⟨a3, e4⟩ : ∃ z, h 200 ((i + 2)).toNat = z := ⟨_, rfl⟩
  refine fz_taldV (v := a3) kLc14 rfl ⟨by decide, by decide⟩ (by omega) (by omega) e4 ?_
  refine fz_aload_n kLc14 rfl rfl ?_
  refine fz_iload_n kLc14 rfl rfl ?_
  refine fz_iconst ⟨by decide, by decide⟩ kLc14 rfl ?_
  refine fz_iaddN kLc14 rfl (by omega) ?_
  obtain ⟨a5, e6⟩ : ∃ z, h 200 ((i + 3)).toNat = z := ⟨_, rfl⟩
  refine fz_taldV (v := a5) kLc14 rfl ⟨by decide, by decide⟩ (by omega) (by omega) e6 ?_
  refine fz_callV (d' := 6) (M' := mX10_home) (As := [fz_i a1, fz_i a3, fz_i a5]) (st := []) kLc14 rfl rfl vX10_home rfl rfl rfl rfl (Nat.le_of_ble_eq_true rfl) (Nat.le_of_ble_eq_true rfl) (by decide) (sX10_home h hI a1 a3 a5 ) (fun H7 r8 q9 o10 => ?_)
  obtain ⟨hI11, hf12, y14, rfl, f13⟩ := q9
  clear o10
  have hf15 := fz_fr_tr hf hf12 (fz_su_all rfl)
  have hXd16 : fz_Xd H7 := fz_Xd_eq (funext fun s => hf12 80 s rfl) hXd
  have hXh17 : fz_Xh H7 := fz_Xh_eq (funext fun s => hf12 83 s rfl) hXh
  have hXw18 : fz_Xw H7 := fz_Xw_eq (hf12 53 19 rfl) (funext fun s => hf12 66 s rfl) (funext fun s => hf12 67 s rfl) (funext fun s => hf12 68 s rfl) (funext fun s => hf12 69 s rfl) hXw
  have hX19 : fz_Xc H7 := fz_Xc_fr hf12 rfl hX
  have t20 : H7 53 10 = h 53 10 := hf12 53 10 rfl
  have t21 : H7 53 41 = h 53 41 := hf12 53 41 rfl
  have t22 : H7 53 42 = h 53 42 := hf12 53 42 rfl
  have t23 : H7 44 2 = h 44 2 := hf12 44 2 rfl
  have t24 : H7 53 44 = h 53 44 := hf12 53 44 rfl
  have t25 : H7 20 2 = h 20 2 := hf12 20 2 rfl
  have t26 : H7 53 16 = h 53 16 := hf12 53 16 rfl
  have t27 : H7 1 7 = h 1 7 := hf12 1 7 rfl
  have t28 : H7 53 0 = h 53 0 := hf12 53 0 rfl
  have t29 : H7 1 8 = h 1 8 := hf12 1 8 rfl
  have t30 : H7 53 2 = h 53 2 := hf12 53 2 rfl
  refine fz_pop rfl kLc14 rfl ?_
  refine fz_aload_n kLc14 rfl rfl ?_
  refine fz_aload_n kLc14 rfl rfl ?_
  refine fz_iload_n kLc14 rfl rfl ?_
  refine fz_iconst ⟨by decide, by decide⟩ kLc14 rfl ?_
  refine fz_iaddN kLc14 rfl (by omega) ?_
  obtain ⟨a31, e32⟩ : ∃ z, h 200 ((i + 1)).toNat = z := ⟨_, rfl⟩
  refine fz_taldV (v := a31) kLc14 rfl ⟨by decide, by decide⟩ (by omega) (by rw [hf15 200 _ rfl]; omega) ((hf15 200 _ rfl).trans e32) ?_
  refine fz_aload_n kLc14 rfl rfl ?_
  refine fz_iload_n kLc14 rfl rfl ?_
  refine fz_iconst ⟨by decide, by decide⟩ kLc14 rfl ?_
  refine fz_iaddN kLc14 rfl (by omega) ?_
  obtain ⟨a33, e34⟩ : ∃ z, h 200 ((i + 2)).toNat = z := ⟨_, rfl⟩
  refine fz_taldV (v := a33) kLc14 rfl ⟨by decide, by decide⟩ (by omega) (by rw [hf15 200 _ rfl]; omega) ((hf15 200 _ rfl).trans e34) ?_
  refine fz_aload_n kLc14 rfl rfl ?_
  refine fz_iload_n kLc14 rfl rfl ?_
  refine fz_iconst ⟨by decide, by decide⟩ kLc14 rfl ?_
  refine fz_iaddN kLc14 rfl (by omega) ?_
  obtain ⟨a35, e36⟩ : ∃ z, h 200 ((i + 3)).toNat = z := ⟨_, rfl⟩
  refine fz_taldV (v := a35) kLc14 rfl ⟨by decide, by decide⟩ (by omega) (by rw [hf15 200 _ rfl]; omega) ((hf15 200 _ rfl).trans e36) ?_
  refine fz_callV (d' := 5) (M' := mX11_home) (As := [fz_i a31, fz_i a33, fz_i a35]) (st := []) kLc14 rfl rfl vX11_home rfl rfl rfl rfl (Nat.le_of_ble_eq_true rfl) (Nat.le_of_ble_eq_true rfl) (by decide) (sX11_home H7 hI11 a31 a33 a35 hXw18) (fun H37 r38 q39 o40 => ?_)
  obtain ⟨hI41, hf42, hXw43, y45, rfl, f44⟩ := q39
  clear o40
  have hf46 := fz_fr_tr hf15 hf42 (fz_su_all rfl)
  have hXd47 : fz_Xd H37 := fz_Xd_eq (funext fun s => hf42 80 s rfl) hXd16
  have hXh48 : fz_Xh H37 := fz_Xh_eq (funext fun s => hf42 83 s rfl) hXh17
  have hX49 : fz_Xc H37 := fz_Xc_fr hf42 rfl hX19
  have t50 : H37 53 10 = H7 53 10 := hf42 53 10 rfl
  have t51 : H37 53 41 = H7 53 41 := hf42 53 41 rfl
  have t52 : H37 53 42 = H7 53 42 := hf42 53 42 rfl
  have t53 : H37 44 2 = H7 44 2 := hf42 44 2 rfl
  have t54 : H37 53 44 = H7 53 44 := hf42 53 44 rfl
  have t55 : H37 20 2 = H7 20 2 := hf42 20 2 rfl
  have t56 : H37 53 16 = H7 53 16 := hf42 53 16 rfl
  have t57 : H37 1 7 = H7 1 7 := hf42 1 7 rfl
  have t58 : H37 53 0 = H7 53 0 := hf42 53 0 rfl
  have t59 : H37 1 8 = H7 1 8 := hf42 1 8 rfl
  have t60 : H37 53 2 = H7 53 2 := hf42 53 2 rfl
  refine fz_pop rfl kLc14 rfl ?_
  refine fz_goto (tgt := 1816) kLc14 rfl (by decide) ?_
  exact K H37 ⟨hI41, hX49, hXd47, hXh48, hXw43, by omega, by omega, by omega, by omega, by omega, by omega⟩ (funext fun s => hf46 200 s rfl)
def mLc15 : fz_M := (yL_law, code, 4, (some .boolean), [(739, .aload_n 1, 1, 0, 0, 0), (740, .aload_n 0, 1, 0, 0, 0), (741, .iload_n 3, 1, 0, 0, 0), (742, .iconst 1, 1, 0, 0, 0), (743, .iadd, 1, 0, 0, 0), (744, .iaload, 1, 0, 0, 0), (745, .aload_n 0, 1, 0, 0, 0), (746, .iload_n 3, 1, 0, 0, 0), (747, .iconst 2, 1, 0, 0, 0), (748, .iadd, 1, 0, 0, 0), (749, .iaload, 1, 0, 0, 0), (750, .aload_n 0, 1, 0, 0, 0), (751, .iload_n 3, 1, 0, 0, 0), (752, .iconst 3, 1, 0, 0, 0), (753, .iadd, 1, 0, 0, 0), (754, .iaload, 1, 0, 0, 0), (755, .invokevirtual 77, 3, 4014, 68, 0), (758, .pop, 1, 0, 0, 0), (759, .aload_n 2, 1, 0, 0, 0), (760, .aload_n 0, 1, 0, 0, 0), (761, .iload_n 3, 1, 0, 0, 0), (762, .iconst 1, 1, 0, 0, 0), (763, .iadd, 1, 0, 0, 0), (764, .iaload, 1, 0, 0, 0), (765, .aload_n 0, 1, 0, 0, 0), (766, .iload_n 3, 1, 0, 0, 0), (767, .iconst 2, 1, 0, 0, 0), (768, .iadd, 1, 0, 0, 0), (769, .iaload, 1, 0, 0, 0), (770, .aload_n 0, 1, 0, 0, 0), (771, .iload_n 3, 1, 0, 0, 0), (772, .iconst 3, 1, 0, 0, 0), (773, .iadd, 1, 0, 0, 0), (774, .iaload, 1, 0, 0, 0), (775, .invokevirtual 80, 3, 7021, 168, 0), (778, .pop, 1, 0, 0, 0), (779, .goto 1037, 3, 0, 0, 0)])
set_option maxRecDepth 100000 in
theorem kLc15 : fz_okM mLc15 = true := by decide +kernel
set_option maxHeartbeats 1000000 in
set_option maxRecDepth 100000 in
theorem lc15 (h : fz_H) (hI : fz_Iv h) (hX : fz_Xc h) (hXd : fz_Xd h) (hXh : fz_Xh h) (hXw : fz_Xw h) (hv1 : h 53 10 ≤ 10) (hv2 : h 53 42 ≤ h 53 41) (hr0 : h 44 2 = h 53 44) (hr1 : h 20 2 = h 53 16) (hr2 : h 1 7 = h 53 0) (hr3 : h 1 8 = h 53 2) (i : Int) (hi : 0 ≤ i ∧ i + 6 ≤ h 200 100000 ∧ h 200 100000 ≤ 3072) {Q : fz_H → Option fz_V → Prop} (K : ∀ H : fz_H, fz_Gd H → H 200 = h 200 → fz_R 47 mLe 1816 [(3, fz_i i), (0, fz_r 200), (1, fz_r 0), (2, fz_r 53)] [] H Q) : fz_R 47 mLc15 739 [(3, fz_i i), (0, fz_r 200), (1, fz_r 0), (2, fz_r 53)] [] h Q := by
  have hf : fz_fr fz_all h h := fz_fr_rf
  refine fz_aload_n kLc15 rfl rfl ?_
  refine fz_aload_n kLc15 rfl rfl ?_
  refine fz_iload_n kLc15 rfl rfl ?_
  refine fz_iconst ⟨by decide, by decide⟩ kLc15 rfl ?_
  refine fz_iaddN kLc15 rfl (by omega) ?_
  obtain ⟨a1, e2⟩ : ∃ z, h 200 ((i + 1)).toNat = z := ⟨_, rfl⟩
  refine fz_taldV (v := a1) kLc15 rfl ⟨by decide, by decide⟩ (by omega) (by omega) e2 ?_
  refine fz_aload_n kLc15 rfl rfl ?_
  refine fz_iload_n kLc15 rfl rfl ?_
  refine fz_iconst ⟨by decide, by decide⟩ kLc15 rfl ?_
  refine fz_iaddN kLc15 rfl (by omega) ?_
  obtain ⟨a3, e4⟩ : ∃ z, h 200 ((i + 2)).toNat = z := ⟨_, rfl⟩
  refine fz_taldV (v := a3) kLc15 rfl ⟨by decide, by decide⟩ (by omega) (by omega) e4 ?_
  refine fz_aload_n kLc15 rfl rfl ?_
  refine fz_iload_n kLc15 rfl rfl ?_
  refine fz_iconst ⟨by decide, by decide⟩ kLc15 rfl ?_
  refine fz_iaddN kLc15 rfl (by omega) ?_
  obtain ⟨a5, e6⟩ : ∃ z, h 200 ((i + 3)).toNat = z := ⟨_, rfl⟩
  refine fz_taldV (v := a5) kLc15 rfl ⟨by decide, by decide⟩ (by omega) (by omega) e6 ?_
  refine fz_callV (d' := 10) (M' := mX10_route) (As := [fz_i a1, fz_i a3, fz_i a5]) (st := []) kLc15 rfl rfl vX10_route rfl rfl rfl rfl (Nat.le_of_ble_eq_true rfl) (Nat.le_of_ble_eq_true rfl) (by decide) (sX10_route h hI a1 a3 a5 ) (fun H7 r8 q9 o10 => ?_)
  obtain ⟨hI11, hf12, y14, rfl, f13⟩ := q9
  clear o10
  have hf15 := fz_fr_tr hf hf12 (fz_su_all rfl)
  have hXd16 : fz_Xd H7 := fz_Xd_eq (funext fun s => hf12 80 s rfl) hXd
  have hXh17 : fz_Xh H7 := fz_Xh_eq (funext fun s => hf12 83 s rfl) hXh
  have hXw18 : fz_Xw H7 := fz_Xw_eq (hf12 53 19 rfl) (funext fun s => hf12 66 s rfl) (funext fun s => hf12 67 s rfl) (funext fun s => hf12 68 s rfl) (funext fun s => hf12 69 s rfl) hXw
  have hX19 : fz_Xc H7 := fz_Xc_fr hf12 rfl hX
  have t20 : H7 53 10 = h 53 10 := hf12 53 10 rfl
  have t21 : H7 53 41 = h 53 41 := hf12 53 41 rfl
  have t22 : H7 53 42 = h 53 42 := hf12 53 42 rfl
  have t23 : H7 44 2 = h 44 2 := hf12 44 2 rfl
  have t24 : H7 53 44 = h 53 44 := hf12 53 44 rfl
  have t25 : H7 20 2 = h 20 2 := hf12 20 2 rfl
  have t26 : H7 53 16 = h 53 16 := hf12 53 16 rfl
  have t27 : H7 1 7 = h 1 7 := hf12 1 7 rfl
  have t28 : H7 53 0 = h 53 0 := hf12 53 0 rfl
  have t29 : H7 1 8 = h 1 8 := hf12 1 8 rfl
  have t30 : H7 53 2 = h 53 2 := hf12 53 2 rfl
  refine fz_pop rfl kLc15 rfl ?_
  refine fz_aload_n kLc15 rfl rfl ?_
  refine fz_aload_n kLc15 rfl rfl ?_
  refine fz_iload_n kLc15 rfl rfl ?_
  refine fz_iconst ⟨by decide, by decide⟩ kLc15 rfl ?_
  refine fz_iaddN kLc15 rfl (by omega) ?_
  obtain ⟨a31, e32⟩ : ∃ z, h 200 ((i + 1)).toNat = z := ⟨_, rfl⟩
  refine fz_taldV (v := a31) kLc15 rfl ⟨by decide, by decide⟩ (by omega) (by rw [hf15 200 _ rfl]; omega) ((hf15 200 _ rfl).trans e32) ?_
  refine fz_aload_n kLc15 rfl rfl ?_
  refine fz_iload_n kLc15 rfl rfl ?_
  refine fz_iconst ⟨by decide, by decide⟩ kLc15 rfl ?_
  refine fz_iaddN kLc15 rfl (by omega) ?_
  obtain ⟨a33, e34⟩ : ∃ z, h 200 ((i + 2)).toNat = z := ⟨_, rfl⟩
  refine fz_taldV (v := a33) kLc15 rfl ⟨by decide, by decide⟩ (by omega) (by rw [hf15 200 _ rfl]; omega) ((hf15 200 _ rfl).trans e34) ?_
  refine fz_aload_n kLc15 rfl rfl ?_
  refine fz_iload_n kLc15 rfl rfl ?_
  refine fz_iconst ⟨by decide, by decide⟩ kLc15 rfl ?_
  refine fz_iaddN kLc15 rfl (by omega) ?_
  obtain ⟨a35, e36⟩ : ∃ z, h 200 ((i + 3)).toNat = z := ⟨_, rfl⟩
  refine fz_taldV (v := a35) kLc15 rfl ⟨by decide, by decide⟩ (by omega) (by rw [hf15 200 _ rfl]; omega) ((hf15 200 _ rfl).trans e36) ?_
  refine fz_callV (d' := 9) (M' := mX11_route) (As := [fz_i a31, fz_i a33, fz_i a35]) (st := []) kLc15 rfl rfl vX11_route rfl rfl rfl rfl (Nat.le_of_ble_eq_true rfl) (Nat.le_of_ble_eq_true rfl) (by decide) (sX11_route H7 hI11 a31 a33 a35 hXw18) (fun H37 r38 q39 o40 => ?_)
  obtain ⟨hI41, hf42, hXw43, y45, rfl, f44⟩ := q39
  clear o40
  have hf46 := fz_fr_tr hf15 hf42 (fz_su_all rfl)
  have hXd47 : fz_Xd H37 := fz_Xd_eq (funext fun s => hf42 80 s rfl) hXd16
  have hXh48 : fz_Xh H37 := fz_Xh_eq (funext fun s => hf42 83 s rfl) hXh17
  have hX49 : fz_Xc H37 := fz_Xc_fr hf42 rfl hX19
  have t50 : H37 53 10 = H7 53 10 := hf42 53 10 rfl
  have t51 : H37 53 41 = H7 53 41 := hf42 53 41 rfl
  have t52 : H37 53 42 = H7 53 42 := hf42 53 42 rfl
  have t53 : H37 44 2 = H7 44 2 := hf42 44 2 rfl
  have t54 : H37 53 44 = H7 53 44 := hf42 53 44 rfl
  have t55 : H37 20 2 = H7 20 2 := hf42 20 2 rfl
  have t56 : H37 53 16 = H7 53 16 := hf42 53 16 rfl
  have t57 : H37 1 7 = H7 1 7 := hf42 1 7 rfl
  have t58 : H37 53 0 = H7 53 0 := hf42 53 0 rfl
  have t59 : H37 1 8 = H7 1 8 := hf42 1 8 rfl
  have t60 : H37 53 2 = H7 53 2 := hf42 53 2 rfl
  refine fz_pop rfl kLc15 rfl ?_
  refine fz_goto (tgt := 1816) kLc15 rfl (by decide) ?_
  exact K H37 ⟨hI41, hX49, hXd47, hXh48, hXw43, by omega, by omega, by omega, by omega, by omega, by omega⟩ (funext fun s => hf46 200 s rfl)
def mLc16 : fz_M := (yL_law, code, 4, (some .boolean), [(782, .aload_n 1, 1, 0, 0, 0), (783, .aload_n 0, 1, 0, 0, 0), (784, .iload_n 3, 1, 0, 0, 0), (785, .iconst 1, 1, 0, 0, 0), (786, .iadd, 1, 0, 0, 0), (787, .iaload, 1, 0, 0, 0), (788, .aload_n 0, 1, 0, 0, 0), (789, .iload_n 3, 1, 0, 0, 0), (790, .iconst 2, 1, 0, 0, 0), (791, .iadd, 1, 0, 0, 0), (792, .iaload, 1, 0, 0, 0), (793, .aload_n 0, 1, 0, 0, 0), (794, .iload_n 3, 1, 0, 0, 0), (795, .iconst 3, 1, 0, 0, 0), (796, .iadd, 1, 0, 0, 0), (797, .iaload, 1, 0, 0, 0), (798, .aload_n 0, 1, 0, 0, 0), (799, .iload_n 3, 1, 0, 0, 0), (800, .iconst 4, 1, 0, 0, 0), (801, .iadd, 1, 0, 0, 0), (802, .iaload, 1, 0, 0, 0), (803, .invokevirtual 81, 3, 4044, 58, 0), (806, .pop, 1, 0, 0, 0), (807, .aload_n 2, 1, 0, 0, 0), (808, .aload_n 0, 1, 0, 0, 0), (809, .iload_n 3, 1, 0, 0, 0), (810, .iconst 1, 1, 0, 0, 0), (811, .iadd, 1, 0, 0, 0), (812, .iaload, 1, 0, 0, 0), (813, .aload_n 0, 1, 0, 0, 0), (814, .iload_n 3, 1, 0, 0, 0), (815, .iconst 2, 1, 0, 0, 0), (816, .iadd, 1, 0, 0, 0), (817, .iaload, 1, 0, 0, 0), (818, .aload_n 0, 1, 0, 0, 0), (819, .iload_n 3, 1, 0, 0, 0), (820, .iconst 3, 1, 0, 0, 0), (821, .iadd, 1, 0, 0, 0), (822, .iaload, 1, 0, 0, 0), (823, .aload_n 0, 1, 0, 0, 0), (824, .iload_n 3, 1, 0, 0, 0), (825, .iconst 4, 1, 0, 0, 0), (826, .iadd, 1, 0, 0, 0), (827, .iaload, 1, 0, 0, 0), (828, .invokevirtual 85, 3, 7033, 155, 0), (831, .pop, 1, 0, 0, 0), (832, .goto 984, 3, 0, 0, 0)])
set_option maxRecDepth 100000 in
theorem kLc16 : fz_okM mLc16 = true := by decide +kernel
set_option maxHeartbeats 1000000 in
set_option maxRecDepth 100000 in
theorem lc16 (h : fz_H) (hI : fz_Iv h) (hX : fz_Xc h) (hXd : fz_Xd h) (hXh : fz_Xh h) (hXw : fz_Xw h) (hv1 : h 53 10 ≤ 10) (hv2 : h 53 42 ≤ h 53 41) (hr0 : h 44 2 = h 53 44) (hr1 : h 20 2 = h 53 16) (hr2 : h 1 7 = h 53 0) (hr3 : h 1 8 = h 53 2) (i : Int) (hi : 0 ≤ i ∧ i + 6 ≤ h 200 100000 ∧ h 200 100000 ≤ 3072) {Q : fz_H → Option fz_V → Prop} (K : ∀ H : fz_H, fz_Gd H → H 200 = h 200 → fz_R 47 mLe 1816 [(3, fz_i i), (0, fz_r 200), (1, fz_r 0), (2, fz_r 53)] [] H Q) : fz_R 47 mLc16 782 [(3, fz_i i), (0, fz_r 200), (1, fz_r 0), (2, fz_r 53)] [] h Q := by
  have hf : fz_fr fz_all h h := fz_fr_rf
  refine fz_aload_n kLc16 rfl rfl ?_
  refine fz_aload_n kLc16 rfl rfl ?_
  refine fz_iload_n kLc16 rfl rfl ?_
  refine fz_iconst ⟨by decide, by decide⟩ kLc16 rfl ?_
  refine fz_iaddN kLc16 rfl (by omega) ?_
  obtain ⟨a1, e2⟩ : ∃ z, h 200 ((i + 1)).toNat = z := ⟨_, rfl⟩
  refine fz_taldV (v := a1) kLc16 rfl ⟨by decide, by decide⟩ (by omega) (by omega) e2 ?_
  refine fz_aload_n kLc16 rfl rfl ?_
  refine fz_iload_n kLc16 rfl rfl ?_
  refine fz_iconst ⟨by decide, by decide⟩ kLc16 rfl ?_
  refine fz_iaddN kLc16 rfl (by omega) ?_
  obtain ⟨a3, e4⟩ : ∃ z, h 200 ((i + 2)).toNat = z := ⟨_, rfl⟩
  refine fz_taldV (v := a3) kLc16 rfl ⟨by decide, by decide⟩ (by omega) (by omega) e4 ?_
  refine fz_aload_n kLc16 rfl rfl ?_
  refine fz_iload_n kLc16 rfl rfl ?_
  refine fz_iconst ⟨by decide, by decide⟩ kLc16 rfl ?_
  refine fz_iaddN kLc16 rfl (by omega) ?_
  obtain ⟨a5, e6⟩ : ∃ z, h 200 ((i + 3)).toNat = z := ⟨_, rfl⟩
  refine fz_taldV (v := a5) kLc16 rfl ⟨by decide, by decide⟩ (by omega) (by omega) e6 ?_
  refine fz_aload_n kLc16 rfl rfl ?_
  refine fz_iload_n kLc16 rfl rfl ?_
  refine fz_iconst ⟨by decide, by decide⟩ kLc16 rfl ?_
  refine fz_iaddN kLc16 rfl (by omega) ?_
  obtain ⟨a7, e8⟩ : ∃ z, h 200 ((i + 4)).toNat = z := ⟨_, rfl⟩
  refine fz_taldV (v := a7) kLc16 rfl ⟨by decide, by decide⟩ (by omega) (by omega) e8 ?_
  refine fz_callV (d' := 5) (M' := mX10_needs) (As := [fz_i a1, fz_i a3, fz_i a5, fz_i a7]) (st := []) kLc16 rfl rfl vX10_needs rfl rfl rfl rfl (Nat.le_of_ble_eq_true rfl) (Nat.le_of_ble_eq_true rfl) (by decide) (sX10_needs h hI a1 a3 a5 a7 ) (fun H9 r10 q11 o12 => ?_)
  obtain ⟨hI13, hf14, y16, rfl, f15⟩ := q11
  clear o12
  have hf17 := fz_fr_tr hf hf14 (fz_su_all rfl)
  have hXd18 : fz_Xd H9 := fz_Xd_eq (funext fun s => hf14 80 s rfl) hXd
  have hXh19 : fz_Xh H9 := fz_Xh_eq (funext fun s => hf14 83 s rfl) hXh
  have hXw20 : fz_Xw H9 := fz_Xw_eq (hf14 53 19 rfl) (funext fun s => hf14 66 s rfl) (funext fun s => hf14 67 s rfl) (funext fun s => hf14 68 s rfl) (funext fun s => hf14 69 s rfl) hXw
  have hX21 : fz_Xc H9 := fz_Xc_fr hf14 rfl hX
  have t22 : H9 53 10 = h 53 10 := hf14 53 10 rfl
  have t23 : H9 53 41 = h 53 41 := hf14 53 41 rfl
  have t24 : H9 53 42 = h 53 42 := hf14 53 42 rfl
  have t25 : H9 44 2 = h 44 2 := hf14 44 2 rfl
  have t26 : H9 53 44 = h 53 44 := hf14 53 44 rfl
  have t27 : H9 20 2 = h 20 2 := hf14 20 2 rfl
  have t28 : H9 53 16 = h 53 16 := hf14 53 16 rfl
  have t29 : H9 1 7 = h 1 7 := hf14 1 7 rfl
  have t30 : H9 53 0 = h 53 0 := hf14 53 0 rfl
  have t31 : H9 1 8 = h 1 8 := hf14 1 8 rfl
  have t32 : H9 53 2 = h 53 2 := hf14 53 2 rfl
  refine fz_pop rfl kLc16 rfl ?_
  refine fz_aload_n kLc16 rfl rfl ?_
  refine fz_aload_n kLc16 rfl rfl ?_
  refine fz_iload_n kLc16 rfl rfl ?_
  refine fz_iconst ⟨by decide, by decide⟩ kLc16 rfl ?_
  refine fz_iaddN kLc16 rfl (by omega) ?_
  obtain ⟨a33, e34⟩ : ∃ z, h 200 ((i + 1)).toNat = z := ⟨_, rfl⟩
  refine fz_taldV (v := a33) kLc16 rfl ⟨by decide, by decide⟩ (by omega) (by rw [hf17 200 _ rfl]; omega) ((hf17 200 _ rfl).trans e34) ?_
  refine fz_aload_n kLc16 rfl rfl ?_
  refine fz_iload_n kLc16 rfl rfl ?_
  refine fz_iconst ⟨by decide, by decide⟩ kLc16 rfl ?_
  refine fz_iaddN kLc16 rfl (by omega) ?_
  obtain ⟨a35, e36⟩ : ∃ z, h 200 ((i + 2)).toNat = z := ⟨_, rfl⟩
  refine fz_taldV (v := a35) kLc16 rfl ⟨by decide, by decide⟩ (by omega) (by rw [hf17 200 _ rfl]; omega) ((hf17 200 _ rfl).trans e36) ?_
  refine fz_aload_n kLc16 rfl rfl ?_
  refine fz_iload_n kLc16 rfl rfl ?_
  refine fz_iconst ⟨by decide, by decide⟩ kLc16 rfl ?_
  refine fz_iaddN kLc16 rfl (by omega) ?_
  obtain ⟨a37, e38⟩ : ∃ z, h 200 ((i + 3)).toNat = z := ⟨_, rfl⟩
  refine fz_taldV (v := a37) kLc16 rfl ⟨by decide, by decide⟩ (by omega) (by rw [hf17 200 _ rfl]; omega) ((hf17 200 _ rfl).trans e38) ?_
  refine fz_aload_n kLc16 rfl rfl ?_
  refine fz_iload_n kLc16 rfl rfl ?_
  refine fz_iconst ⟨by decide, by decide⟩ kLc16 rfl ?_
  refine fz_iaddN kLc16 rfl (by omega) ?_
  obtain ⟨a39, e40⟩ : ∃ z, h 200 ((i + 4)).toNat = z := ⟨_, rfl⟩
  refine fz_taldV (v := a39) kLc16 rfl ⟨by decide, by decide⟩ (by omega) (by rw [hf17 200 _ rfl]; omega) ((hf17 200 _ rfl).trans e40) ?_
  have b41 : 0 ≤ H9 53 10 ∧ H9 53 10 ≤ 11 := hI13.1 53 _
  refine fz_callV (d' := 5) (M' := mX11_needs) (As := [fz_i a33, fz_i a35, fz_i a37, fz_i a39]) (st := []) kLc16 rfl rfl vX11_needs rfl rfl rfl rfl (Nat.le_of_ble_eq_true rfl) (Nat.le_of_ble_eq_true rfl) (by decide) (sX11_needs H9 hI13 a33 a35 a37 a39 hXw20 (by omega)) (fun H42 r43 q44 o45 => ?_)
  obtain ⟨hI46, hf47, hXw48, y51, rfl, f49, f50⟩ := q44
  clear o45
  have hf52 := fz_fr_tr hf17 hf47 (fz_su_all rfl)
  have hXd53 : fz_Xd H42 := fz_Xd_eq (funext fun s => hf47 80 s rfl) hXd18
  have hXh54 : fz_Xh H42 := fz_Xh_eq (funext fun s => hf47 83 s rfl) hXh19
  have hX55 : fz_Xc H42 := fz_Xc_fr hf47 rfl hX21
  have t56 : H42 53 41 = H9 53 41 := hf47 53 41 rfl
  have t57 : H42 53 42 = H9 53 42 := hf47 53 42 rfl
  have t58 : H42 44 2 = H9 44 2 := hf47 44 2 rfl
  have t59 : H42 53 44 = H9 53 44 := hf47 53 44 rfl
  have t60 : H42 20 2 = H9 20 2 := hf47 20 2 rfl
  have t61 : H42 53 16 = H9 53 16 := hf47 53 16 rfl
  have t62 : H42 1 7 = H9 1 7 := hf47 1 7 rfl
  have t63 : H42 53 0 = H9 53 0 := hf47 53 0 rfl
  have t64 : H42 1 8 = H9 1 8 := hf47 1 8 rfl
  have t65 : H42 53 2 = H9 53 2 := hf47 53 2 rfl
  refine fz_pop rfl kLc16 rfl ?_
  refine fz_goto (tgt := 1816) kLc16 rfl (by decide) ?_
  exact K H42 ⟨hI46, hX55, hXd53, hXh54, hXw48, by omega, by omega, by omega, by omega, by omega, by omega⟩ (funext fun s => hf52 200 s rfl)
def mLc17 : fz_M := (yL_law, code, 4, (some .boolean), [(835, .aload_n 1, 1, 0, 0, 0), (836, .aload_n 0, 1, 0, 0, 0), (837, .iload_n 3, 1, 0, 0, 0), (838, .iconst 1, 1, 0, 0, 0), (839, .iadd, 1, 0, 0, 0), (840, .iaload, 1, 0, 0, 0), (841, .aload_n 0, 1, 0, 0, 0), (842, .iload_n 3, 1, 0, 0, 0), (843, .iconst 2, 1, 0, 0, 0), (844, .iadd, 1, 0, 0, 0), (845, .iaload, 1, 0, 0, 0), (846, .aload_n 0, 1, 0, 0, 0), (847, .iload_n 3, 1, 0, 0, 0), (848, .iconst 3, 1, 0, 0, 0), (849, .iadd, 1, 0, 0, 0), (850, .iaload, 1, 0, 0, 0), (851, .aload_n 0, 1, 0, 0, 0), (852, .iload_n 3, 1, 0, 0, 0), (853, .iconst 4, 1, 0, 0, 0), (854, .iadd, 1, 0, 0, 0), (855, .iaload, 1, 0, 0, 0), (856, .invokevirtual 86, 3, 4056, 52, 0), (859, .pop, 1, 0, 0, 0), (860, .aload_n 2, 1, 0, 0, 0), (861, .aload_n 0, 1, 0, 0, 0), (862, .iload_n 3, 1, 0, 0, 0), (863, .iconst 1, 1, 0, 0, 0), (864, .iadd, 1, 0, 0, 0), (865, .iaload, 1, 0, 0, 0), (866, .aload_n 0, 1, 0, 0, 0), (867, .iload_n 3, 1, 0, 0, 0), (868, .iconst 2, 1, 0, 0, 0), (869, .iadd, 1, 0, 0, 0), (870, .iaload, 1, 0, 0, 0), (871, .aload_n 0, 1, 0, 0, 0), (872, .iload_n 3, 1, 0, 0, 0), (873, .iconst 3, 1, 0, 0, 0), (874, .iadd, 1, 0, 0, 0), (875, .iaload, 1, 0, 0, 0), (876, .aload_n 0, 1, 0, 0, 0), (877, .iload_n 3, 1, 0, 0, 0), (878, .iconst 4, 1, 0, 0, 0), (879, .iadd, 1, 0, 0, 0), (880, .iaload, 1, 0, 0, 0), (881, .invokevirtual 89, 3, 7041, 144, 0), (884, .pop, 1, 0, 0, 0), (885, .goto 931, 3, 0, 0, 0)])
set_option maxRecDepth 100000 in
theorem kLc17 : fz_okM mLc17 = true := by decide +kernel
set_option maxHeartbeats 1000000 in
set_option maxRecDepth 100000 in
theorem lc17 (h : fz_H) (hI : fz_Iv h) (hX : fz_Xc h) (hXd : fz_Xd h) (hXh : fz_Xh h) (hXw : fz_Xw h) (hv1 : h 53 10 ≤ 10) (hv2 : h 53 42 ≤ h 53 41) (hr0 : h 44 2 = h 53 44) (hr1 : h 20 2 = h 53 16) (hr2 : h 1 7 = h 53 0) (hr3 : h 1 8 = h 53 2) (i : Int) (hi : 0 ≤ i ∧ i + 6 ≤ h 200 100000 ∧ h 200 100000 ≤ 3072) {Q : fz_H → Option fz_V → Prop} (K : ∀ H : fz_H, fz_Gd H → H 200 = h 200 → fz_R 47 mLe 1816 [(3, fz_i i), (0, fz_r 200), (1, fz_r 0), (2, fz_r 53)] [] H Q) : fz_R 47 mLc17 835 [(3, fz_i i), (0, fz_r 200), (1, fz_r 0), (2, fz_r 53)] [] h Q := by
  have hf : fz_fr fz_all h h := fz_fr_rf
  refine fz_aload_n kLc17 rfl rfl ?_
  refine fz_aload_n kLc17 rfl rfl ?_
  refine fz_iload_n kLc17 rfl rfl ?_
  refine fz_iconst ⟨by decide, by decide⟩ kLc17 rfl ?_
  refine fz_iaddN kLc17 rfl (by omega) ?_
  obtain ⟨a1, e2⟩ : ∃ z, h 200 ((i + 1)).toNat = z := ⟨_, rfl⟩
  refine fz_taldV (v := a1) kLc17 rfl ⟨by decide, by decide⟩ (by omega) (by omega) e2 ?_
  refine fz_aload_n kLc17 rfl rfl ?_
  refine fz_iload_n kLc17 rfl rfl ?_
  refine fz_iconst ⟨by decide, by decide⟩ kLc17 rfl ?_
  refine fz_iaddN kLc17 rfl (by omega) ?_
  obtain ⟨a3, e4⟩ : ∃ z, h 200 ((i + 2)).toNat = z := ⟨_, rfl⟩
  refine fz_taldV (v := a3) kLc17 rfl ⟨by decide, by decide⟩ (by omega) (by omega) e4 ?_
  refine fz_aload_n kLc17 rfl rfl ?_
  refine fz_iload_n kLc17 rfl rfl ?_
  refine fz_iconst ⟨by decide, by decide⟩ kLc17 rfl ?_
  refine fz_iaddN kLc17 rfl (by omega) ?_
  obtain ⟨a5, e6⟩ : ∃ z, h 200 ((i + 3)).toNat = z := ⟨_, rfl⟩
  refine fz_taldV (v := a5) kLc17 rfl ⟨by decide, by decide⟩ (by omega) (by omega) e6 ?_
  refine fz_aload_n kLc17 rfl rfl ?_
  refine fz_iload_n kLc17 rfl rfl ?_
  refine fz_iconst ⟨by decide, by decide⟩ kLc17 rfl ?_
  refine fz_iaddN kLc17 rfl (by omega) ?_
  obtain ⟨a7, e8⟩ : ∃ z, h 200 ((i + 4)).toNat = z := ⟨_, rfl⟩
  refine fz_taldV (v := a7) kLc17 rfl ⟨by decide, by decide⟩ (by omega) (by omega) e8 ?_
  refine fz_callV (d' := 5) (M' := mX10_latest) (As := [fz_i a1, fz_i a3, fz_i a5, fz_i a7]) (st := []) kLc17 rfl rfl vX10_latest rfl rfl rfl rfl (Nat.le_of_ble_eq_true rfl) (Nat.le_of_ble_eq_true rfl) (by decide) (sX10_latest h hI a1 a3 a5 a7 ) (fun H9 r10 q11 o12 => ?_)
  obtain ⟨hI13, hf14, y16, rfl, f15⟩ := q11
  clear o12
  have hf17 := fz_fr_tr hf hf14 (fz_su_all rfl)
  have hXd18 : fz_Xd H9 := fz_Xd_eq (funext fun s => hf14 80 s rfl) hXd
  have hXh19 : fz_Xh H9 := fz_Xh_eq (funext fun s => hf14 83 s rfl) hXh
  have hXw20 : fz_Xw H9 := fz_Xw_eq (hf14 53 19 rfl) (funext fun s => hf14 66 s rfl) (funext fun s => hf14 67 s rfl) (funext fun s => hf14 68 s rfl) (funext fun s => hf14 69 s rfl) hXw
  have hX21 : fz_Xc H9 := fz_Xc_fr hf14 rfl hX
  have t22 : H9 53 10 = h 53 10 := hf14 53 10 rfl
  have t23 : H9 53 41 = h 53 41 := hf14 53 41 rfl
  have t24 : H9 53 42 = h 53 42 := hf14 53 42 rfl
  have t25 : H9 44 2 = h 44 2 := hf14 44 2 rfl
  have t26 : H9 53 44 = h 53 44 := hf14 53 44 rfl
  have t27 : H9 20 2 = h 20 2 := hf14 20 2 rfl
  have t28 : H9 53 16 = h 53 16 := hf14 53 16 rfl
  have t29 : H9 1 7 = h 1 7 := hf14 1 7 rfl
  have t30 : H9 53 0 = h 53 0 := hf14 53 0 rfl
  have t31 : H9 1 8 = h 1 8 := hf14 1 8 rfl
  have t32 : H9 53 2 = h 53 2 := hf14 53 2 rfl
  refine fz_pop rfl kLc17 rfl ?_
  refine fz_aload_n kLc17 rfl rfl ?_
  refine fz_aload_n kLc17 rfl rfl ?_
  refine fz_iload_n kLc17 rfl rfl ?_
  refine fz_iconst ⟨by decide, by decide⟩ kLc17 rfl ?_
  refine fz_iaddN kLc17 rfl (by omega) ?_
  obtain ⟨a33, e34⟩ : ∃ z, h 200 ((i + 1)).toNat = z := ⟨_, rfl⟩
  refine fz_taldV (v := a33) kLc17 rfl ⟨by decide, by decide⟩ (by omega) (by rw [hf17 200 _ rfl]; omega) ((hf17 200 _ rfl).trans e34) ?_
  refine fz_aload_n kLc17 rfl rfl ?_
  refine fz_iload_n kLc17 rfl rfl ?_
  refine fz_iconst ⟨by decide, by decide⟩ kLc17 rfl ?_
  refine fz_iaddN kLc17 rfl (by omega) ?_
  obtain ⟨a35, e36⟩ : ∃ z, h 200 ((i + 2)).toNat = z := ⟨_, rfl⟩
  refine fz_taldV (v := a35) kLc17 rfl ⟨by decide, by decide⟩ (by omega) (by rw [hf17 200 _ rfl]; omega) ((hf17 200 _ rfl).trans e36) ?_
  refine fz_aload_n kLc17 rfl rfl ?_
  refine fz_iload_n kLc17 rfl rfl ?_
  refine fz_iconst ⟨by decide, by decide⟩ kLc17 rfl ?_
  refine fz_iaddN kLc17 rfl (by omega) ?_
  obtain ⟨a37, e38⟩ : ∃ z, h 200 ((i + 3)).toNat = z := ⟨_, rfl⟩
  refine fz_taldV (v := a37) kLc17 rfl ⟨by decide, by decide⟩ (by omega) (by rw [hf17 200 _ rfl]; omega) ((hf17 200 _ rfl).trans e38) ?_
  refine fz_aload_n kLc17 rfl rfl ?_
  refine fz_iload_n kLc17 rfl rfl ?_
  refine fz_iconst ⟨by decide, by decide⟩ kLc17 rfl ?_
  refine fz_iaddN kLc17 rfl (by omega) ?_
  obtain ⟨a39, e40⟩ : ∃ z, h 200 ((i + 4)).toNat = z := ⟨_, rfl⟩
  refine fz_taldV (v := a39) kLc17 rfl ⟨by decide, by decide⟩ (by omega) (by rw [hf17 200 _ rfl]; omega) ((hf17 200 _ rfl).trans e40) ?_
  have b41 : 0 ≤ H9 53 10 ∧ H9 53 10 ≤ 11 := hI13.1 53 _
  refine fz_callV (d' := 5) (M' := mX11_latest) (As := [fz_i a33, fz_i a35, fz_i a37, fz_i a39]) (st := []) kLc17 rfl rfl vX11_latest rfl rfl rfl rfl (Nat.le_of_ble_eq_true rfl) (Nat.le_of_ble_eq_true rfl) (by decide) (sX11_latest H9 hI13 a33 a35 a37 a39 hXw20 (by omega)) (fun H42 r43 q44 o45 => ?_)
  obtain ⟨hI46, hf47, hXw48, y51, rfl, f49, f50⟩ := q44
  clear o45
  have hf52 := fz_fr_tr hf17 hf47 (fz_su_all rfl)
  have hXd53 : fz_Xd H42 := fz_Xd_eq (funext fun s => hf47 80 s rfl) hXd18
  have hXh54 : fz_Xh H42 := fz_Xh_eq (funext fun s => hf47 83 s rfl) hXh19
  have hX55 : fz_Xc H42 := fz_Xc_fr hf47 rfl hX21
  have t56 : H42 53 41 = H9 53 41 := hf47 53 41 rfl
  have t57 : H42 53 42 = H9 53 42 := hf47 53 42 rfl
  have t58 : H42 44 2 = H9 44 2 := hf47 44 2 rfl
  have t59 : H42 53 44 = H9 53 44 := hf47 53 44 rfl
  have t60 : H42 20 2 = H9 20 2 := hf47 20 2 rfl
  have t61 : H42 53 16 = H9 53 16 := hf47 53 16 rfl
  have t62 : H42 1 7 = H9 1 7 := hf47 1 7 rfl
  have t63 : H42 53 0 = H9 53 0 := hf47 53 0 rfl
  have t64 : H42 1 8 = H9 1 8 := hf47 1 8 rfl
  have t65 : H42 53 2 = H9 53 2 := hf47 53 2 rfl
  refine fz_pop rfl kLc17 rfl ?_
  refine fz_goto (tgt := 1816) kLc17 rfl (by decide) ?_
  exact K H42 ⟨hI46, hX55, hXd53, hXh54, hXw48, by omega, by omega, by omega, by omega, by omega, by omega⟩ (funext fun s => hf52 200 s rfl)
def mLc18 : fz_M := (yL_law, code, 4, (some .boolean), [(888, .aload_n 1, 1, 0, 0, 0), (889, .aload_n 0, 1, 0, 0, 0), (890, .iload_n 3, 1, 0, 0, 0), (891, .iconst 1, 1, 0, 0, 0), (892, .iadd, 1, 0, 0, 0), (893, .iaload, 1, 0, 0, 0), (894, .aload_n 0, 1, 0, 0, 0), (895, .iload_n 3, 1, 0, 0, 0), (896, .iconst 2, 1, 0, 0, 0), (897, .iadd, 1, 0, 0, 0), (898, .iaload, 1, 0, 0, 0), (899, .aload_n 0, 1, 0, 0, 0), (900, .iload_n 3, 1, 0, 0, 0), (901, .iconst 3, 1, 0, 0, 0), (902, .iadd, 1, 0, 0, 0), (903, .iaload, 1, 0, 0, 0), (904, .invokevirtual 90, 3, 4060, 24, 0), (907, .pop, 1, 0, 0, 0), (908, .aload_n 2, 1, 0, 0, 0), (909, .aload_n 0, 1, 0, 0, 0), (910, .iload_n 3, 1, 0, 0, 0), (911, .iconst 1, 1, 0, 0, 0), (912, .iadd, 1, 0, 0, 0), (913, .iaload, 1, 0, 0, 0), (914, .aload_n 0, 1, 0, 0, 0), (915, .iload_n 3, 1, 0, 0, 0), (916, .iconst 2, 1, 0, 0, 0), (917, .iadd, 1, 0, 0, 0), (918, .iaload, 1, 0, 0, 0), (919, .aload_n 0, 1, 0, 0, 0), (920, .iload_n 3, 1, 0, 0, 0), (921, .iconst 3, 1, 0, 0, 0), (922, .iadd, 1, 0, 0, 0), (923, .iaload, 1, 0, 0, 0), (924, .invokevirtual 93, 3, 7045, 92, 0), (927, .pop, 1, 0, 0, 0), (928, .goto 888, 3, 0, 0, 0)])
set_option maxRecDepth 100000 in
theorem kLc18 : fz_okM mLc18 = true := by decide +kernel
set_option maxHeartbeats 1000000 in
set_option maxRecDepth 100000 in
theorem lc18 (h : fz_H) (hI : fz_Iv h) (hX : fz_Xc h) (hXd : fz_Xd h) (hXh : fz_Xh h) (hXw : fz_Xw h) (hv1 : h 53 10 ≤ 10) (hv2 : h 53 42 ≤ h 53 41) (hr0 : h 44 2 = h 53 44) (hr1 : h 20 2 = h 53 16) (hr2 : h 1 7 = h 53 0) (hr3 : h 1 8 = h 53 2) (i : Int) (hi : 0 ≤ i ∧ i + 6 ≤ h 200 100000 ∧ h 200 100000 ≤ 3072) {Q : fz_H → Option fz_V → Prop} (K : ∀ H : fz_H, fz_Gd H → H 200 = h 200 → fz_R 47 mLe 1816 [(3, fz_i i), (0, fz_r 200), (1, fz_r 0), (2, fz_r 53)] [] H Q) : fz_R 47 mLc18 888 [(3, fz_i i), (0, fz_r 200), (1, fz_r 0), (2, fz_r 53)] [] h Q := by
  have hf : fz_fr fz_all h h := fz_fr_rf
  refine fz_aload_n kLc18 rfl rfl ?_
  refine fz_aload_n kLc18 rfl rfl ?_
  refine fz_iload_n kLc18 rfl rfl ?_
  refine fz_iconst ⟨by decide, by decide⟩ kLc18 rfl ?_
  refine fz_iaddN kLc18 rfl (by omega) ?_
  obtain ⟨a1, e2⟩ : ∃ z, h 200 ((i + 1)).toNat = z := ⟨_, rfl⟩
  refine fz_taldV (v := a1) kLc18 rfl ⟨by decide, by decide⟩ (by omega) (by omega) e2 ?_
  refine fz_aload_n kLc18 rfl rfl ?_
  refine fz_iload_n kLc18 rfl rfl ?_
  refine fz_iconst ⟨by decide, by decide⟩ kLc18 rfl ?_
  refine fz_iaddN kLc18 rfl (by omega) ?_
  obtain ⟨a3, e4⟩ : ∃ z, h 200 ((i + 2)).toNat = z := ⟨_, rfl⟩
  refine fz_taldV (v := a3) kLc18 rfl ⟨by decide, by decide⟩ (by omega) (by omega) e4 ?_
  refine fz_aload_n kLc18 rfl rfl ?_
  refine fz_iload_n kLc18 rfl rfl ?_
  refine fz_iconst ⟨by decide, by decide⟩ kLc18 rfl ?_
  refine fz_iaddN kLc18 rfl (by omega) ?_
  obtain ⟨a5, e6⟩ : ∃ z, h 200 ((i + 3)).toNat = z := ⟨_, rfl⟩
  refine fz_taldV (v := a5) kLc18 rfl ⟨by decide, by decide⟩ (by omega) (by omega) e6 ?_
  refine fz_callV (d' := 1) (M' := mX10_cut) (As := [fz_i a1, fz_i a3, fz_i a5]) (st := []) kLc18 rfl rfl vX10_cut rfl rfl rfl rfl (Nat.le_of_ble_eq_true rfl) (Nat.le_of_ble_eq_true rfl) (by decide) (sX10_cut h hI a1 a3 a5 ) (fun H7 r8 q9 o10 => ?_)
  obtain ⟨e11, y13, rfl, f12⟩ := q9
  subst H7
  clear o10
  refine fz_pop rfl kLc18 rfl ?_
  refine fz_aload_n kLc18 rfl rfl ?_
  refine fz_aload_n kLc18 rfl rfl ?_
  refine fz_iload_n kLc18 rfl rfl ?_
  refine fz_iconst ⟨by decide, by decide⟩ kLc18 rfl ?_
  refine fz_iaddN kLc18 rfl (by omega) ?_
  obtain ⟨a14, e15⟩ : ∃ z, h 200 ((i + 1)).toNat = z := ⟨_, rfl⟩
  refine fz_taldV (v := a14) kLc18 rfl ⟨by decide, by decide⟩ (by omega) (by omega) e15 ?_
  refine fz_aload_n kLc18 rfl rfl ?_
  refine fz_iload_n kLc18 rfl rfl ?_
  refine fz_iconst ⟨by decide, by decide⟩ kLc18 rfl ?_
  refine fz_iaddN kLc18 rfl (by omega) ?_
  obtain ⟨a16, e17⟩ : ∃ z, h 200 ((i + 2)).toNat = z := ⟨_, rfl⟩
  refine fz_taldV (v := a16) kLc18 rfl ⟨by decide, by decide⟩ (by omega) (by omega) e17 ?_
  refine fz_aload_n kLc18 rfl rfl ?_
  refine fz_iload_n kLc18 rfl rfl ?_
  refine fz_iconst ⟨by decide, by decide⟩ kLc18 rfl ?_
  refine fz_iaddN kLc18 rfl (by omega) ?_
  obtain ⟨a18, e19⟩ : ∃ z, h 200 ((i + 3)).toNat = z := ⟨_, rfl⟩
  refine fz_taldV (v := a18) kLc18 rfl ⟨by decide, by decide⟩ (by omega) (by omega) e19 ?_
  refine fz_callV (d' := 3) (M' := mX11_cut) (As := [fz_i a14, fz_i a16, fz_i a18]) (st := []) kLc18 rfl rfl vX11_cut rfl rfl rfl rfl (Nat.le_of_ble_eq_true rfl) (Nat.le_of_ble_eq_true rfl) (by decide) (sX11_cut h hI a14 a16 a18 ) (fun H20 r21 q22 o23 => ?_)
  obtain ⟨hI24, hf25, y27, rfl, f26⟩ := q22
  clear o23
  have hf28 := fz_fr_tr hf hf25 (fz_su_all rfl)
  have hXd29 : fz_Xd H20 := fz_Xd_eq (funext fun s => hf25 80 s rfl) hXd
  have hXh30 : fz_Xh H20 := fz_Xh_eq (funext fun s => hf25 83 s rfl) hXh
  have hXw31 : fz_Xw H20 := fz_Xw_eq (hf25 53 19 rfl) (funext fun s => hf25 66 s rfl) (funext fun s => hf25 67 s rfl) (funext fun s => hf25 68 s rfl) (funext fun s => hf25 69 s rfl) hXw
  have hX32 : fz_Xc H20 := fz_Xc_fr hf25 rfl hX
  have t33 : H20 53 10 = h 53 10 := hf25 53 10 rfl
  have t34 : H20 53 41 = h 53 41 := hf25 53 41 rfl
  have t35 : H20 53 42 = h 53 42 := hf25 53 42 rfl
  have t36 : H20 44 2 = h 44 2 := hf25 44 2 rfl
  have t37 : H20 53 44 = h 53 44 := hf25 53 44 rfl
  have t38 : H20 20 2 = h 20 2 := hf25 20 2 rfl
  have t39 : H20 53 16 = h 53 16 := hf25 53 16 rfl
  have t40 : H20 1 7 = h 1 7 := hf25 1 7 rfl
  have t41 : H20 53 0 = h 53 0 := hf25 53 0 rfl
  have t42 : H20 1 8 = h 1 8 := hf25 1 8 rfl
  have t43 : H20 53 2 = h 53 2 := hf25 53 2 rfl
  refine fz_pop rfl kLc18 rfl ?_
  refine fz_goto (tgt := 1816) kLc18 rfl (by decide) ?_
  exact K H20 ⟨hI24, hX32, hXd29, hXh30, hXw31, by omega, by omega, by omega, by omega, by omega, by omega⟩ (funext fun s => hf28 200 s rfl)
def mLc19 : fz_M := (yL_law, code, 4, (some .boolean), [(931, .aload_n 1, 1, 0, 0, 0), (932, .aload_n 0, 1, 0, 0, 0), (933, .iload_n 3, 1, 0, 0, 0), (934, .iconst 1, 1, 0, 0, 0), (935, .iadd, 1, 0, 0, 0), (936, .iaload, 1, 0, 0, 0), (937, .aload_n 0, 1, 0, 0, 0), (938, .iload_n 3, 1, 0, 0, 0), (939, .iconst 2, 1, 0, 0, 0), (940, .iadd, 1, 0, 0, 0), (941, .iaload, 1, 0, 0, 0), (942, .aload_n 0, 1, 0, 0, 0), (943, .iload_n 3, 1, 0, 0, 0), (944, .iconst 3, 1, 0, 0, 0), (945, .iadd, 1, 0, 0, 0), (946, .iaload, 1, 0, 0, 0), (947, .invokevirtual 94, 3, 4074, 35, 0), (950, .pop, 1, 0, 0, 0), (951, .aload_n 2, 1, 0, 0, 0), (952, .aload_n 0, 1, 0, 0, 0), (953, .iload_n 3, 1, 0, 0, 0), (954, .iconst 1, 1, 0, 0, 0), (955, .iadd, 1, 0, 0, 0), (956, .iaload, 1, 0, 0, 0), (957, .aload_n 0, 1, 0, 0, 0), (958, .iload_n 3, 1, 0, 0, 0), (959, .iconst 2, 1, 0, 0, 0), (960, .iadd, 1, 0, 0, 0), (961, .iaload, 1, 0, 0, 0), (962, .aload_n 0, 1, 0, 0, 0), (963, .iload_n 3, 1, 0, 0, 0), (964, .iconst 3, 1, 0, 0, 0), (965, .iadd, 1, 0, 0, 0), (966, .iaload, 1, 0, 0, 0), (967, .invokevirtual 97, 3, 7050, 104, 0), (970, .pop, 1, 0, 0, 0), (971, .goto 845, 3, 0, 0, 0)])
set_option maxRecDepth 100000 in
theorem kLc19 : fz_okM mLc19 = true := by decide +kernel
set_option maxHeartbeats 1000000 in
set_option maxRecDepth 100000 in
theorem lc19 (h : fz_H) (hI : fz_Iv h) (hX : fz_Xc h) (hXd : fz_Xd h) (hXh : fz_Xh h) (hXw : fz_Xw h) (hv1 : h 53 10 ≤ 10) (hv2 : h 53 42 ≤ h 53 41) (hr0 : h 44 2 = h 53 44) (hr1 : h 20 2 = h 53 16) (hr2 : h 1 7 = h 53 0) (hr3 : h 1 8 = h 53 2) (i : Int) (hi : 0 ≤ i ∧ i + 6 ≤ h 200 100000 ∧ h 200 100000 ≤ 3072) {Q : fz_H → Option fz_V → Prop} (K : ∀ H : fz_H, fz_Gd H → H 200 = h 200 → fz_R 47 mLe 1816 [(3, fz_i i), (0, fz_r 200), (1, fz_r 0), (2, fz_r 53)] [] H Q) : fz_R 47 mLc19 931 [(3, fz_i i), (0, fz_r 200), (1, fz_r 0), (2, fz_r 53)] [] h Q := by
  have hf : fz_fr fz_all h h := fz_fr_rf
  refine fz_aload_n kLc19 rfl rfl ?_
  refine fz_aload_n kLc19 rfl rfl ?_
  refine fz_iload_n kLc19 rfl rfl ?_
  refine fz_iconst ⟨by decide, by decide⟩ kLc19 rfl ?_
  refine fz_iaddN kLc19 rfl (by omega) ?_
  obtain ⟨a1, e2⟩ : ∃ z, h 200 ((i + 1)).toNat = z := ⟨_, rfl⟩
  refine fz_taldV (v := a1) kLc19 rfl ⟨by decide, by decide⟩ (by omega) (by omega) e2 ?_
  refine fz_aload_n kLc19 rfl rfl ?_
  refine fz_iload_n kLc19 rfl rfl ?_
  refine fz_iconst ⟨by decide, by decide⟩ kLc19 rfl ?_
  refine fz_iaddN kLc19 rfl (by omega) ?_
  obtain ⟨a3, e4⟩ : ∃ z, h 200 ((i + 2)).toNat = z := ⟨_, rfl⟩
  refine fz_taldV (v := a3) kLc19 rfl ⟨by decide, by decide⟩ (by omega) (by omega) e4 ?_
  refine fz_aload_n kLc19 rfl rfl ?_
  refine fz_iload_n kLc19 rfl rfl ?_
  refine fz_iconst ⟨by decide, by decide⟩ kLc19 rfl ?_
  refine fz_iaddN kLc19 rfl (by omega) ?_
  obtain ⟨a5, e6⟩ : ∃ z, h 200 ((i + 3)).toNat = z := ⟨_, rfl⟩
  refine fz_taldV (v := a5) kLc19 rfl ⟨by decide, by decide⟩ (by omega) (by omega) e6 ?_
  refine fz_callV (d' := 5) (M' := mX10_free) (As := [fz_i a1, fz_i a3, fz_i a5]) (st := []) kLc19 rfl rfl vX10_free rfl rfl rfl rfl (Nat.le_of_ble_eq_true rfl) (Nat.le_of_ble_eq_true rfl) (by decide) (sX10_free h hI a1 a3 a5 ) (fun H7 r8 q9 o10 => ?_)
  obtain ⟨hI11, hf12, y14, rfl, f13⟩ := q9
  clear o10
  have hf15 := fz_fr_tr hf hf12 (fz_su_all rfl)
  have hXd16 : fz_Xd H7 := fz_Xd_eq (funext fun s => hf12 80 s rfl) hXd
  have hXh17 : fz_Xh H7 := fz_Xh_eq (funext fun s => hf12 83 s rfl) hXh
  have hXw18 : fz_Xw H7 := fz_Xw_eq (hf12 53 19 rfl) (funext fun s => hf12 66 s rfl) (funext fun s => hf12 67 s rfl) (funext fun s => hf12 68 s rfl) (funext fun s => hf12 69 s rfl) hXw
  have hX19 : fz_Xc H7 := fz_Xc_fr hf12 rfl hX
  have t20 : H7 53 10 = h 53 10 := hf12 53 10 rfl
  have t21 : H7 53 41 = h 53 41 := hf12 53 41 rfl
  have t22 : H7 53 42 = h 53 42 := hf12 53 42 rfl
  have t23 : H7 44 2 = h 44 2 := hf12 44 2 rfl
  have t24 : H7 53 44 = h 53 44 := hf12 53 44 rfl
  have t25 : H7 20 2 = h 20 2 := hf12 20 2 rfl
  have t26 : H7 53 16 = h 53 16 := hf12 53 16 rfl
  have t27 : H7 1 7 = h 1 7 := hf12 1 7 rfl
  have t28 : H7 53 0 = h 53 0 := hf12 53 0 rfl
  have t29 : H7 1 8 = h 1 8 := hf12 1 8 rfl
  have t30 : H7 53 2 = h 53 2 := hf12 53 2 rfl
  refine fz_pop rfl kLc19 rfl ?_
  refine fz_aload_n kLc19 rfl rfl ?_
  refine fz_aload_n kLc19 rfl rfl ?_
  refine fz_iload_n kLc19 rfl rfl ?_
  refine fz_iconst ⟨by decide, by decide⟩ kLc19 rfl ?_
  refine fz_iaddN kLc19 rfl (by omega) ?_
  obtain ⟨a31, e32⟩ : ∃ z, h 200 ((i + 1)).toNat = z := ⟨_, rfl⟩
  refine fz_taldV (v := a31) kLc19 rfl ⟨by decide, by decide⟩ (by omega) (by rw [hf15 200 _ rfl]; omega) ((hf15 200 _ rfl).trans e32) ?_
  refine fz_aload_n kLc19 rfl rfl ?_
  refine fz_iload_n kLc19 rfl rfl ?_
  refine fz_iconst ⟨by decide, by decide⟩ kLc19 rfl ?_
  refine fz_iaddN kLc19 rfl (by omega) ?_
  obtain ⟨a33, e34⟩ : ∃ z, h 200 ((i + 2)).toNat = z := ⟨_, rfl⟩
  refine fz_taldV (v := a33) kLc19 rfl ⟨by decide, by decide⟩ (by omega) (by rw [hf15 200 _ rfl]; omega) ((hf15 200 _ rfl).trans e34) ?_
  refine fz_aload_n kLc19 rfl rfl ?_
  refine fz_iload_n kLc19 rfl rfl ?_
  refine fz_iconst ⟨by decide, by decide⟩ kLc19 rfl ?_
  refine fz_iaddN kLc19 rfl (by omega) ?_
  obtain ⟨a35, e36⟩ : ∃ z, h 200 ((i + 3)).toNat = z := ⟨_, rfl⟩
  refine fz_taldV (v := a35) kLc19 rfl ⟨by decide, by decide⟩ (by omega) (by rw [hf15 200 _ rfl]; omega) ((hf15 200 _ rfl).trans e36) ?_
  refine fz_callV (d' := 6) (M' := mX11_free) (As := [fz_i a31, fz_i a33, fz_i a35]) (st := []) kLc19 rfl rfl vX11_free rfl rfl rfl rfl (Nat.le_of_ble_eq_true rfl) (Nat.le_of_ble_eq_true rfl) (by decide) (sX11_free H7 hI11 a31 a33 a35 hXw18) (fun H37 r38 q39 o40 => ?_)
  obtain ⟨hI41, hf42, hXw43, y45, rfl, f44⟩ := q39
  clear o40
  have hf46 := fz_fr_tr hf15 hf42 (fz_su_all rfl)
  have hXd47 : fz_Xd H37 := fz_Xd_eq (funext fun s => hf42 80 s rfl) hXd16
  have hXh48 : fz_Xh H37 := fz_Xh_eq (funext fun s => hf42 83 s rfl) hXh17
  have hX49 : fz_Xc H37 := fz_Xc_fr hf42 rfl hX19
  have t50 : H37 53 10 = H7 53 10 := hf42 53 10 rfl
  have t51 : H37 53 41 = H7 53 41 := hf42 53 41 rfl
  have t52 : H37 53 42 = H7 53 42 := hf42 53 42 rfl
  have t53 : H37 44 2 = H7 44 2 := hf42 44 2 rfl
  have t54 : H37 53 44 = H7 53 44 := hf42 53 44 rfl
  have t55 : H37 20 2 = H7 20 2 := hf42 20 2 rfl
  have t56 : H37 53 16 = H7 53 16 := hf42 53 16 rfl
  have t57 : H37 1 7 = H7 1 7 := hf42 1 7 rfl
  have t58 : H37 53 0 = H7 53 0 := hf42 53 0 rfl
  have t59 : H37 1 8 = H7 1 8 := hf42 1 8 rfl
  have t60 : H37 53 2 = H7 53 2 := hf42 53 2 rfl
  refine fz_pop rfl kLc19 rfl ?_
  refine fz_goto (tgt := 1816) kLc19 rfl (by decide) ?_
  exact K H37 ⟨hI41, hX49, hXd47, hXh48, hXw43, by omega, by omega, by omega, by omega, by omega, by omega⟩ (funext fun s => hf46 200 s rfl)
def mLc20 : fz_M := (yL_law, code, 4, (some .boolean), [(974, .aload_n 1, 1, 0, 0, 0), (975, .aload_n 0, 1, 0, 0, 0), (976, .iload_n 3, 1, 0, 0, 0), (977, .iconst 1, 1, 0, 0, 0), (978, .iadd, 1, 0, 0, 0), (979, .iaload, 1, 0, 0, 0), (980, .aload_n 0, 1, 0, 0, 0), (981, .iload_n 3, 1, 0, 0, 0), (982, .iconst 2, 1, 0, 0, 0), (983, .iadd, 1, 0, 0, 0), (984, .iaload, 1, 0, 0, 0), (985, .aload_n 0, 1, 0, 0, 0), (986, .iload_n 3, 1, 0, 0, 0), (987, .iconst 3, 1, 0, 0, 0), (988, .iadd, 1, 0, 0, 0), (989, .iaload, 1, 0, 0, 0), (990, .invokevirtual 98, 3, 4083, 14, 0), (993, .pop, 1, 0, 0, 0), (994, .aload_n 2, 1, 0, 0, 0), (995, .aload_n 0, 1, 0, 0, 0), (996, .iload_n 3, 1, 0, 0, 0), (997, .iconst 1, 1, 0, 0, 0), (998, .iadd, 1, 0, 0, 0), (999, .iaload, 1, 0, 0, 0), (1000, .aload_n 0, 1, 0, 0, 0), (1001, .iload_n 3, 1, 0, 0, 0), (1002, .iconst 2, 1, 0, 0, 0), (1003, .iadd, 1, 0, 0, 0), (1004, .iaload, 1, 0, 0, 0), (1005, .aload_n 0, 1, 0, 0, 0), (1006, .iload_n 3, 1, 0, 0, 0), (1007, .iconst 3, 1, 0, 0, 0), (1008, .iadd, 1, 0, 0, 0), (1009, .iaload, 1, 0, 0, 0), (1010, .invokevirtual 101, 3, 7066, 82, 0), (1013, .pop, 1, 0, 0, 0), (1014, .goto 802, 3, 0, 0, 0)])
set_option maxRecDepth 100000 in
theorem kLc20 : fz_okM mLc20 = true := by decide +kernel
set_option maxHeartbeats 1000000 in
set_option maxRecDepth 100000 in
theorem lc20 (h : fz_H) (hI : fz_Iv h) (hX : fz_Xc h) (hXd : fz_Xd h) (hXh : fz_Xh h) (hXw : fz_Xw h) (hv1 : h 53 10 ≤ 10) (hv2 : h 53 42 ≤ h 53 41) (hr0 : h 44 2 = h 53 44) (hr1 : h 20 2 = h 53 16) (hr2 : h 1 7 = h 53 0) (hr3 : h 1 8 = h 53 2) (i : Int) (hi : 0 ≤ i ∧ i + 6 ≤ h 200 100000 ∧ h 200 100000 ≤ 3072) {Q : fz_H → Option fz_V → Prop} (K : ∀ H : fz_H, fz_Gd H → H 200 = h 200 → fz_R 47 mLe 1816 [(3, fz_i i), (0, fz_r 200), (1, fz_r 0), (2, fz_r 53)] [] H Q) : fz_R 47 mLc20 974 [(3, fz_i i), (0, fz_r 200), (1, fz_r 0), (2, fz_r 53)] [] h Q := by
  have hf : fz_fr fz_all h h := fz_fr_rf
  refine fz_aload_n kLc20 rfl rfl ?_
  refine fz_aload_n kLc20 rfl rfl ?_
  refine fz_iload_n kLc20 rfl rfl ?_
  refine fz_iconst ⟨by decide, by decide⟩ kLc20 rfl ?_
  refine fz_iaddN kLc20 rfl (by omega) ?_
  obtain ⟨a1, e2⟩ : ∃ z, h 200 ((i + 1)).toNat = z := ⟨_, rfl⟩
  refine fz_taldV (v := a1) kLc20 rfl ⟨by decide, by decide⟩ (by omega) (by omega) e2 ?_
  refine fz_aload_n kLc20 rfl rfl ?_
  refine fz_iload_n kLc20 rfl rfl ?_
  refine fz_iconst ⟨by decide, by decide⟩ kLc20 rfl ?_
  refine fz_iaddN kLc20 rfl (by omega) ?_
  obtain ⟨a3, e4⟩ : ∃ z, h 200 ((i + 2)).toNat = z := ⟨_, rfl⟩
  refine fz_taldV (v := a3) kLc20 rfl ⟨by decide, by decide⟩ (by omega) (by omega) e4 ?_
  refine fz_aload_n kLc20 rfl rfl ?_
  refine fz_iload_n kLc20 rfl rfl ?_
  refine fz_iconst ⟨by decide, by decide⟩ kLc20 rfl ?_
  refine fz_iaddN kLc20 rfl (by omega) ?_
  obtain ⟨a5, e6⟩ : ∃ z, h 200 ((i + 3)).toNat = z := ⟨_, rfl⟩
  refine fz_taldV (v := a5) kLc20 rfl ⟨by decide, by decide⟩ (by omega) (by omega) e6 ?_
  refine fz_callV (d' := 6) (M' := mX10_alike) (As := [fz_i a1, fz_i a3, fz_i a5]) (st := []) kLc20 rfl rfl vX10_alike rfl rfl rfl rfl (Nat.le_of_ble_eq_true rfl) (Nat.le_of_ble_eq_true rfl) (by decide) (sX10_alike h hI a1 a3 a5 ) (fun H7 r8 q9 o10 => ?_)
  obtain ⟨hI11, hf12, y14, rfl, f13⟩ := q9
  clear o10
  have hf15 := fz_fr_tr hf hf12 (fz_su_all rfl)
  have hXd16 : fz_Xd H7 := fz_Xd_eq (funext fun s => hf12 80 s rfl) hXd
  have hXh17 : fz_Xh H7 := fz_Xh_eq (funext fun s => hf12 83 s rfl) hXh
  have hXw18 : fz_Xw H7 := fz_Xw_eq (hf12 53 19 rfl) (funext fun s => hf12 66 s rfl) (funext fun s => hf12 67 s rfl) (funext fun s => hf12 68 s rfl) (funext fun s => hf12 69 s rfl) hXw
  have hX19 : fz_Xc H7 := fz_Xc_fr hf12 rfl hX
  have t20 : H7 53 10 = h 53 10 := hf12 53 10 rfl
  have t21 : H7 53 41 = h 53 41 := hf12 53 41 rfl
  have t22 : H7 53 42 = h 53 42 := hf12 53 42 rfl
  have t23 : H7 44 2 = h 44 2 := hf12 44 2 rfl
  have t24 : H7 53 44 = h 53 44 := hf12 53 44 rfl
  have t25 : H7 20 2 = h 20 2 := hf12 20 2 rfl
  have t26 : H7 53 16 = h 53 16 := hf12 53 16 rfl
  have t27 : H7 1 7 = h 1 7 := hf12 1 7 rfl
  have t28 : H7 53 0 = h 53 0 := hf12 53 0 rfl
  have t29 : H7 1 8 = h 1 8 := hf12 1 8 rfl
  have t30 : H7 53 2 = h 53 2 := hf12 53 2 rfl
  refine fz_pop rfl kLc20 rfl ?_
  refine fz_aload_n kLc20 rfl rfl ?_
  refine fz_aload_n kLc20 rfl rfl ?_
  refine fz_iload_n kLc20 rfl rfl ?_
  refine fz_iconst ⟨by decide, by decide⟩ kLc20 rfl ?_
  refine fz_iaddN kLc20 rfl (by omega) ?_
  obtain ⟨a31, e32⟩ : ∃ z, h 200 ((i + 1)).toNat = z := ⟨_, rfl⟩
  refine fz_taldV (v := a31) kLc20 rfl ⟨by decide, by decide⟩ (by omega) (by rw [hf15 200 _ rfl]; omega) ((hf15 200 _ rfl).trans e32) ?_
  refine fz_aload_n kLc20 rfl rfl ?_
  refine fz_iload_n kLc20 rfl rfl ?_
  refine fz_iconst ⟨by decide, by decide⟩ kLc20 rfl ?_
  refine fz_iaddN kLc20 rfl (by omega) ?_
  obtain ⟨a33, e34⟩ : ∃ z, h 200 ((i + 2)).toNat = z := ⟨_, rfl⟩
  refine fz_taldV (v := a33) kLc20 rfl ⟨by decide, by decide⟩ (by omega) (by rw [hf15 200 _ rfl]; omega) ((hf15 200 _ rfl).trans e34) ?_
  refine fz_aload_n kLc20 rfl rfl ?_
  refine fz_iload_n kLc20 rfl rfl ?_
  refine fz_iconst ⟨by decide, by decide⟩ kLc20 rfl ?_
  refine fz_iaddN kLc20 rfl (by omega) ?_
  obtain ⟨a35, e36⟩ : ∃ z, h 200 ((i + 3)).toNat = z := ⟨_, rfl⟩
  refine fz_taldV (v := a35) kLc20 rfl ⟨by decide, by decide⟩ (by omega) (by rw [hf15 200 _ rfl]; omega) ((hf15 200 _ rfl).trans e36) ?_
  refine fz_callV (d' := 5) (M' := mX11_alike) (As := [fz_i a31, fz_i a33, fz_i a35]) (st := []) kLc20 rfl rfl vX11_alike rfl rfl rfl rfl (Nat.le_of_ble_eq_true rfl) (Nat.le_of_ble_eq_true rfl) (by decide) (sX11_alike H7 hI11 a31 a33 a35 hXw18) (fun H37 r38 q39 o40 => ?_)
  obtain ⟨hI41, hf42, hXw43, y45, rfl, f44⟩ := q39
  clear o40
  have hf46 := fz_fr_tr hf15 hf42 (fz_su_all rfl)
  have hXd47 : fz_Xd H37 := fz_Xd_eq (funext fun s => hf42 80 s rfl) hXd16
  have hXh48 : fz_Xh H37 := fz_Xh_eq (funext fun s => hf42 83 s rfl) hXh17
  have hX49 : fz_Xc H37 := fz_Xc_fr hf42 rfl hX19
  have t50 : H37 53 10 = H7 53 10 := hf42 53 10 rfl
  have t51 : H37 53 41 = H7 53 41 := hf42 53 41 rfl
  have t52 : H37 53 42 = H7 53 42 := hf42 53 42 rfl
  have t53 : H37 44 2 = H7 44 2 := hf42 44 2 rfl
  have t54 : H37 53 44 = H7 53 44 := hf42 53 44 rfl
  have t55 : H37 20 2 = H7 20 2 := hf42 20 2 rfl
  have t56 : H37 53 16 = H7 53 16 := hf42 53 16 rfl
  have t57 : H37 1 7 = H7 1 7 := hf42 1 7 rfl
  have t58 : H37 53 0 = H7 53 0 := hf42 53 0 rfl
  have t59 : H37 1 8 = H7 1 8 := hf42 1 8 rfl
  have t60 : H37 53 2 = H7 53 2 := hf42 53 2 rfl
  refine fz_pop rfl kLc20 rfl ?_
  refine fz_goto (tgt := 1816) kLc20 rfl (by decide) ?_
  exact K H37 ⟨hI41, hX49, hXd47, hXh48, hXw43, by omega, by omega, by omega, by omega, by omega, by omega⟩ (funext fun s => hf46 200 s rfl)
def mLc21 : fz_M := (yL_law, code, 4, (some .boolean), [(1017, .aload_n 1, 1, 0, 0, 0), (1018, .aload_n 0, 1, 0, 0, 0), (1019, .iload_n 3, 1, 0, 0, 0), (1020, .iconst 1, 1, 0, 0, 0), (1021, .iadd, 1, 0, 0, 0), (1022, .iaload, 1, 0, 0, 0), (1023, .aload_n 0, 1, 0, 0, 0), (1024, .iload_n 3, 1, 0, 0, 0), (1025, .iconst 2, 1, 0, 0, 0), (1026, .iadd, 1, 0, 0, 0), (1027, .iaload, 1, 0, 0, 0), (1028, .aload_n 0, 1, 0, 0, 0), (1029, .iload_n 3, 1, 0, 0, 0), (1030, .iconst 3, 1, 0, 0, 0), (1031, .iadd, 1, 0, 0, 0), (1032, .iaload, 1, 0, 0, 0), (1033, .invokevirtual 102, 3, 4097, 50, 0), (1036, .pop, 1, 0, 0, 0), (1037, .aload_n 2, 1, 0, 0, 0), (1038, .aload_n 0, 1, 0, 0, 0), (1039, .iload_n 3, 1, 0, 0, 0), (1040, .iconst 1, 1, 0, 0, 0), (1041, .iadd, 1, 0, 0, 0), (1042, .iaload, 1, 0, 0, 0), (1043, .aload_n 0, 1, 0, 0, 0), (1044, .iload_n 3, 1, 0, 0, 0), (1045, .iconst 2, 1, 0, 0, 0), (1046, .iadd, 1, 0, 0, 0), (1047, .iaload, 1, 0, 0, 0), (1048, .aload_n 0, 1, 0, 0, 0), (1049, .iload_n 3, 1, 0, 0, 0), (1050, .iconst 3, 1, 0, 0, 0), (1051, .iadd, 1, 0, 0, 0), (1052, .iaload, 1, 0, 0, 0), (1053, .invokevirtual 105, 3, 7074, 141, 0), (1056, .pop, 1, 0, 0, 0), (1057, .goto 759, 3, 0, 0, 0)])
set_option maxRecDepth 100000 in
theorem kLc21 : fz_okM mLc21 = true := by decide +kernel
set_option maxHeartbeats 1000000 in
set_option maxRecDepth 100000 in
theorem lc21 (h : fz_H) (hI : fz_Iv h) (hX : fz_Xc h) (hXd : fz_Xd h) (hXh : fz_Xh h) (hXw : fz_Xw h) (hv1 : h 53 10 ≤ 10) (hv2 : h 53 42 ≤ h 53 41) (hr0 : h 44 2 = h 53 44) (hr1 : h 20 2 = h 53 16) (hr2 : h 1 7 = h 53 0) (hr3 : h 1 8 = h 53 2) (i : Int) (hi : 0 ≤ i ∧ i + 6 ≤ h 200 100000 ∧ h 200 100000 ≤ 3072) {Q : fz_H → Option fz_V → Prop} (K : ∀ H : fz_H, fz_Gd H → H 200 = h 200 → fz_R 47 mLe 1816 [(3, fz_i i), (0, fz_r 200), (1, fz_r 0), (2, fz_r 53)] [] H Q) : fz_R 47 mLc21 1017 [(3, fz_i i), (0, fz_r 200), (1, fz_r 0), (2, fz_r 53)] [] h Q := by
  have hf : fz_fr fz_all h h := fz_fr_rf
  refine fz_aload_n kLc21 rfl rfl ?_
  refine fz_aload_n kLc21 rfl rfl ?_
  refine fz_iload_n kLc21 rfl rfl ?_
  refine fz_iconst ⟨by decide, by decide⟩ kLc21 rfl ?_
  refine fz_iaddN kLc21 rfl (by omega) ?_
  obtain ⟨a1, e2⟩ : ∃ z, h 200 ((i + 1)).toNat = z := ⟨_, rfl⟩
  refine fz_taldV (v := a1) kLc21 rfl ⟨by decide, by decide⟩ (by omega) (by omega) e2 ?_
  refine fz_aload_n kLc21 rfl rfl ?_
  refine fz_iload_n kLc21 rfl rfl ?_
  refine fz_iconst ⟨by decide, by decide⟩ kLc21 rfl ?_
  refine fz_iaddN kLc21 rfl (by omega) ?_
  obtain ⟨a3, e4⟩ : ∃ z, h 200 ((i + 2)).toNat = z := ⟨_, rfl⟩
  refine fz_taldV (v := a3) kLc21 rfl ⟨by decide, by decide⟩ (by omega) (by omega) e4 ?_
  refine fz_aload_n kLc21 rfl rfl ?_
  refine fz_iload_n kLc21 rfl rfl ?_
  refine fz_iconst ⟨by decide, by decide⟩ kLc21 rfl ?_
  refine fz_iaddN kLc21 rfl (by omega) ?_
  obtain ⟨a5, e6⟩ : ∃ z, h 200 ((i + 3)).toNat = z := ⟨_, rfl⟩
  refine fz_taldV (v := a5) kLc21 rfl ⟨by decide, by decide⟩ (by omega) (by omega) e6 ?_
  refine fz_callV (d' := 5) (M' := mX10_judge) (As := [fz_i a1, fz_i a3, fz_i a5]) (st := []) kLc21 rfl rfl vX10_judge rfl rfl rfl rfl (Nat.le_of_ble_eq_true rfl) (Nat.le_of_ble_eq_true rfl) (by decide) (sX10_judge h hI a1 a3 a5 ) (fun H7 r8 q9 o10 => ?_)
  obtain ⟨hI11, hf12, y14, rfl, f13⟩ := q9
  clear o10
  have hf15 := fz_fr_tr hf hf12 (fz_su_all rfl)
  have hXd16 : fz_Xd H7 := fz_Xd_eq (funext fun s => hf12 80 s rfl) hXd
  have hXh17 : fz_Xh H7 := fz_Xh_eq (funext fun s => hf12 83 s rfl) hXh
  have hXw18 : fz_Xw H7 := fz_Xw_eq (hf12 53 19 rfl) (funext fun s => hf12 66 s rfl) (funext fun s => hf12 67 s rfl) (funext fun s => hf12 68 s rfl) (funext fun s => hf12 69 s rfl) hXw
  have hX19 : fz_Xc H7 := fz_Xc_fr hf12 rfl hX
  have t20 : H7 53 10 = h 53 10 := hf12 53 10 rfl
  have t21 : H7 53 41 = h 53 41 := hf12 53 41 rfl
  have t22 : H7 53 42 = h 53 42 := hf12 53 42 rfl
  have t23 : H7 44 2 = h 44 2 := hf12 44 2 rfl
  have t24 : H7 53 44 = h 53 44 := hf12 53 44 rfl
  have t25 : H7 20 2 = h 20 2 := hf12 20 2 rfl
  have t26 : H7 53 16 = h 53 16 := hf12 53 16 rfl
  have t27 : H7 1 7 = h 1 7 := hf12 1 7 rfl
  have t28 : H7 53 0 = h 53 0 := hf12 53 0 rfl
  have t29 : H7 1 8 = h 1 8 := hf12 1 8 rfl
  have t30 : H7 53 2 = h 53 2 := hf12 53 2 rfl
  refine fz_pop rfl kLc21 rfl ?_
  refine fz_aload_n kLc21 rfl rfl ?_
  refine fz_aload_n kLc21 rfl rfl ?_
  refine fz_iload_n kLc21 rfl rfl ?_
  refine fz_iconst ⟨by decide, by decide⟩ kLc21 rfl ?_
  refine fz_iaddN kLc21 rfl (by omega) ?_
  obtain ⟨a31, e32⟩ : ∃ z, h 200 ((i + 1)).toNat = z := ⟨_, rfl⟩
  refine fz_taldV (v := a31) kLc21 rfl ⟨by decide, by decide⟩ (by omega) (by rw [hf15 200 _ rfl]; omega) ((hf15 200 _ rfl).trans e32) ?_
  refine fz_aload_n kLc21 rfl rfl ?_
  refine fz_iload_n kLc21 rfl rfl ?_
  refine fz_iconst ⟨by decide, by decide⟩ kLc21 rfl ?_
  refine fz_iaddN kLc21 rfl (by omega) ?_
  obtain ⟨a33, e34⟩ : ∃ z, h 200 ((i + 2)).toNat = z := ⟨_, rfl⟩
  refine fz_taldV (v := a33) kLc21 rfl ⟨by decide, by decide⟩ (by omega) (by rw [hf15 200 _ rfl]; omega) ((hf15 200 _ rfl).trans e34) ?_
  refine fz_aload_n kLc21 rfl rfl ?_
  refine fz_iload_n kLc21 rfl rfl ?_
  refine fz_iconst ⟨by decide, by decide⟩ kLc21 rfl ?_
  refine fz_iaddN kLc21 rfl (by omega) ?_
  obtain ⟨a35, e36⟩ : ∃ z, h 200 ((i + 3)).toNat = z := ⟨_, rfl⟩
  refine fz_taldV (v := a35) kLc21 rfl ⟨by decide, by decide⟩ (by omega) (by rw [hf15 200 _ rfl]; omega) ((hf15 200 _ rfl).trans e36) ?_
  refine fz_callV (d' := 5) (M' := mX11_judge) (As := [fz_i a31, fz_i a33, fz_i a35]) (st := []) kLc21 rfl rfl vX11_judge rfl rfl rfl rfl (Nat.le_of_ble_eq_true rfl) (Nat.le_of_ble_eq_true rfl) (by decide) (sX11_judge H7 hI11 a31 a33 a35 hXw18) (fun H37 r38 q39 o40 => ?_)
  obtain ⟨hI41, hf42, hXw43, y45, rfl, f44⟩ := q39
  clear o40
  have hf46 := fz_fr_tr hf15 hf42 (fz_su_all rfl)
  have hXd47 : fz_Xd H37 := fz_Xd_eq (funext fun s => hf42 80 s rfl) hXd16
  have hXh48 : fz_Xh H37 := fz_Xh_eq (funext fun s => hf42 83 s rfl) hXh17
  have hX49 : fz_Xc H37 := fz_Xc_fr hf42 rfl hX19
  have t50 : H37 53 10 = H7 53 10 := hf42 53 10 rfl
  have t51 : H37 53 41 = H7 53 41 := hf42 53 41 rfl
  have t52 : H37 53 42 = H7 53 42 := hf42 53 42 rfl
  have t53 : H37 44 2 = H7 44 2 := hf42 44 2 rfl
  have t54 : H37 53 44 = H7 53 44 := hf42 53 44 rfl
  have t55 : H37 20 2 = H7 20 2 := hf42 20 2 rfl
  have t56 : H37 53 16 = H7 53 16 := hf42 53 16 rfl
  have t57 : H37 1 7 = H7 1 7 := hf42 1 7 rfl
  have t58 : H37 53 0 = H7 53 0 := hf42 53 0 rfl
  have t59 : H37 1 8 = H7 1 8 := hf42 1 8 rfl
  have t60 : H37 53 2 = H7 53 2 := hf42 53 2 rfl
  refine fz_pop rfl kLc21 rfl ?_
  refine fz_goto (tgt := 1816) kLc21 rfl (by decide) ?_
  exact K H37 ⟨hI41, hX49, hXd47, hXh48, hXw43, by omega, by omega, by omega, by omega, by omega, by omega⟩ (funext fun s => hf46 200 s rfl)
def mLc22 : fz_M := (yL_law, code, 4, (some .boolean), [(1060, .aload_n 1, 1, 0, 0, 0), (1061, .aload_n 0, 1, 0, 0, 0), (1062, .iload_n 3, 1, 0, 0, 0), (1063, .iconst 1, 1, 0, 0, 0), (1064, .iadd, 1, 0, 0, 0), (1065, .iaload, 1, 0, 0, 0), (1066, .aload_n 0, 1, 0, 0, 0), (1067, .iload_n 3, 1, 0, 0, 0), (1068, .iconst 2, 1, 0, 0, 0), (1069, .iadd, 1, 0, 0, 0), (1070, .iaload, 1, 0, 0, 0), (1071, .aload_n 0, 1, 0, 0, 0), (1072, .iload_n 3, 1, 0, 0, 0), (1073, .iconst 3, 1, 0, 0, 0), (1074, .iadd, 1, 0, 0, 0), (1075, .iaload, 1, 0, 0, 0), (1076, .aload_n 0, 1, 0, 0, 0), (1077, .iload_n 3, 1, 0, 0, 0), (1078, .iconst 4, 1, 0, 0, 0), (1079, .iadd, 1, 0, 0, 0), (1080, .iaload, 1, 0, 0, 0), (1081, .invokevirtual 106, 3, 4109, 79, 0), (1084, .pop, 1, 0, 0, 0), (1085, .aload_n 2, 1, 0, 0, 0), (1086, .aload_n 0, 1, 0, 0, 0), (1087, .iload_n 3, 1, 0, 0, 0), (1088, .iconst 1, 1, 0, 0, 0), (1089, .iadd, 1, 0, 0, 0), (1090, .iaload, 1, 0, 0, 0), (1091, .aload_n 0, 1, 0, 0, 0), (1092, .iload_n 3, 1, 0, 0, 0), (1093, .iconst 2, 1, 0, 0, 0), (1094, .iadd, 1, 0, 0, 0), (1095, .iaload, 1, 0, 0, 0), (1096, .aload_n 0, 1, 0, 0, 0), (1097, .iload_n 3, 1, 0, 0, 0), (1098, .iconst 3, 1, 0, 0, 0), (1099, .iadd, 1, 0, 0, 0), (1100, .iaload, 1, 0, 0, 0), (1101, .aload_n 0, 1, 0, 0, 0), (1102, .iload_n 3, 1, 0, 0, 0), (1103, .iconst 4, 1, 0, 0, 0), (1104, .iadd, 1, 0, 0, 0), (1105, .iaload, 1, 0, 0, 0), (1106, .invokevirtual 109, 3, 7086, 183, 0), (1109, .pop, 1, 0, 0, 0), (1110, .goto 706, 3, 0, 0, 0)])
set_option maxRecDepth 100000 in
theorem kLc22 : fz_okM mLc22 = true := by decide +kernel
set_option maxHeartbeats 1000000 in
set_option maxRecDepth 100000 in
theorem lc22 (h : fz_H) (hI : fz_Iv h) (hX : fz_Xc h) (hXd : fz_Xd h) (hXh : fz_Xh h) (hXw : fz_Xw h) (hv1 : h 53 10 ≤ 10) (hv2 : h 53 42 ≤ h 53 41) (hr0 : h 44 2 = h 53 44) (hr1 : h 20 2 = h 53 16) (hr2 : h 1 7 = h 53 0) (hr3 : h 1 8 = h 53 2) (i : Int) (hi : 0 ≤ i ∧ i + 6 ≤ h 200 100000 ∧ h 200 100000 ≤ 3072) {Q : fz_H → Option fz_V → Prop} (K : ∀ H : fz_H, fz_Gd H → H 200 = h 200 → fz_R 47 mLe 1816 [(3, fz_i i), (0, fz_r 200), (1, fz_r 0), (2, fz_r 53)] [] H Q) : fz_R 47 mLc22 1060 [(3, fz_i i), (0, fz_r 200), (1, fz_r 0), (2, fz_r 53)] [] h Q := by
  have hf : fz_fr fz_all h h := fz_fr_rf
  refine fz_aload_n kLc22 rfl rfl ?_
  refine fz_aload_n kLc22 rfl rfl ?_
  refine fz_iload_n kLc22 rfl rfl ?_
  refine fz_iconst ⟨by decide, by decide⟩ kLc22 rfl ?_
  refine fz_iaddN kLc22 rfl (by omega) ?_
  obtain ⟨a1, e2⟩ : ∃ z, h 200 ((i + 1)).toNat = z := ⟨_, rfl⟩
  refine fz_taldV (v := a1) kLc22 rfl ⟨by decide, by decide⟩ (by omega) (by omega) e2 ?_
  refine fz_aload_n kLc22 rfl rfl ?_
  refine fz_iload_n kLc22 rfl rfl ?_
  refine fz_iconst ⟨by decide, by decide⟩ kLc22 rfl ?_
  refine fz_iaddN kLc22 rfl (by omega) ?_
  obtain ⟨a3, e4⟩ : ∃ z, h 200 ((i + 2)).toNat = z := ⟨_, rfl⟩
  refine fz_taldV (v := a3) kLc22 rfl ⟨by decide, by decide⟩ (by omega) (by omega) e4 ?_
  refine fz_aload_n kLc22 rfl rfl ?_
  refine fz_iload_n kLc22 rfl rfl ?_
  refine fz_iconst ⟨by decide, by decide⟩ kLc22 rfl ?_
  refine fz_iaddN kLc22 rfl (by omega) ?_
  obtain ⟨a5, e6⟩ : ∃ z, h 200 ((i + 3)).toNat = z := ⟨_, rfl⟩
  refine fz_taldV (v := a5) kLc22 rfl ⟨by decide, by decide⟩ (by omega) (by omega) e6 ?_
  refine fz_aload_n kLc22 rfl rfl ?_
  refine fz_iload_n kLc22 rfl rfl ?_
  refine fz_iconst ⟨by decide, by decide⟩ kLc22 rfl ?_
  refine fz_iaddN kLc22 rfl (by omega) ?_
  obtain ⟨a7, e8⟩ : ∃ z, h 200 ((i + 4)).toNat = z := ⟨_, rfl⟩
  refine fz_taldV (v := a7) kLc22 rfl ⟨by decide, by decide⟩ (by omega) (by omega) e8 ?_
  refine fz_callV (d' := 5) (M' := mX10_which) (As := [fz_i a1, fz_i a3, fz_i a5, fz_i a7]) (st := []) kLc22 rfl rfl vX10_which rfl rfl rfl rfl (Nat.le_of_ble_eq_true rfl) (Nat.le_of_ble_eq_true rfl) (by decide) (sX10_which h hI a1 a3 a5 a7 ) (fun H9 r10 q11 o12 => ?_)
  obtain ⟨hI13, hf14, y16, rfl, f15⟩ := q11
  clear o12
  have hf17 := fz_fr_tr hf hf14 (fz_su_all rfl)
  have hXd18 : fz_Xd H9 := fz_Xd_eq (funext fun s => hf14 80 s rfl) hXd
  have hXh19 : fz_Xh H9 := fz_Xh_eq (funext fun s => hf14 83 s rfl) hXh
  have hXw20 : fz_Xw H9 := fz_Xw_eq (hf14 53 19 rfl) (funext fun s => hf14 66 s rfl) (funext fun s => hf14 67 s rfl) (funext fun s => hf14 68 s rfl) (funext fun s => hf14 69 s rfl) hXw
  have hX21 : fz_Xc H9 := fz_Xc_fr hf14 rfl hX
  have t22 : H9 53 10 = h 53 10 := hf14 53 10 rfl
  have t23 : H9 53 41 = h 53 41 := hf14 53 41 rfl
  have t24 : H9 53 42 = h 53 42 := hf14 53 42 rfl
  have t25 : H9 44 2 = h 44 2 := hf14 44 2 rfl
  have t26 : H9 53 44 = h 53 44 := hf14 53 44 rfl
  have t27 : H9 20 2 = h 20 2 := hf14 20 2 rfl
  have t28 : H9 53 16 = h 53 16 := hf14 53 16 rfl
  have t29 : H9 1 7 = h 1 7 := hf14 1 7 rfl
  have t30 : H9 53 0 = h 53 0 := hf14 53 0 rfl
  have t31 : H9 1 8 = h 1 8 := hf14 1 8 rfl
  have t32 : H9 53 2 = h 53 2 := hf14 53 2 rfl
  refine fz_pop rfl kLc22 rfl ?_
  refine fz_aload_n kLc22 rfl rfl ?_
  refine fz_aload_n kLc22 rfl rfl ?_
  refine fz_iload_n kLc22 rfl rfl ?_
  refine fz_iconst ⟨by decide, by decide⟩ kLc22 rfl ?_
  refine fz_iaddN kLc22 rfl (by omega) ?_
  obtain ⟨a33, e34⟩ : ∃ z, h 200 ((i + 1)).toNat = z := ⟨_, rfl⟩
  refine fz_taldV (v := a33) kLc22 rfl ⟨by decide, by decide⟩ (by omega) (by rw [hf17 200 _ rfl]; omega) ((hf17 200 _ rfl).trans e34) ?_
  refine fz_aload_n kLc22 rfl rfl ?_
  refine fz_iload_n kLc22 rfl rfl ?_
  refine fz_iconst ⟨by decide, by decide⟩ kLc22 rfl ?_
  refine fz_iaddN kLc22 rfl (by omega) ?_
  obtain ⟨a35, e36⟩ : ∃ z, h 200 ((i + 2)).toNat = z := ⟨_, rfl⟩
  refine fz_taldV (v := a35) kLc22 rfl ⟨by decide, by decide⟩ (by omega) (by rw [hf17 200 _ rfl]; omega) ((hf17 200 _ rfl).trans e36) ?_
  refine fz_aload_n kLc22 rfl rfl ?_
  refine fz_iload_n kLc22 rfl rfl ?_
  refine fz_iconst ⟨by decide, by decide⟩ kLc22 rfl ?_
  refine fz_iaddN kLc22 rfl (by omega) ?_
  obtain ⟨a37, e38⟩ : ∃ z, h 200 ((i + 3)).toNat = z := ⟨_, rfl⟩
  refine fz_taldV (v := a37) kLc22 rfl ⟨by decide, by decide⟩ (by omega) (by rw [hf17 200 _ rfl]; omega) ((hf17 200 _ rfl).trans e38) ?_
  refine fz_aload_n kLc22 rfl rfl ?_
  refine fz_iload_n kLc22 rfl rfl ?_
  refine fz_iconst ⟨by decide, by decide⟩ kLc22 rfl ?_
  refine fz_iaddN kLc22 rfl (by omega) ?_
  obtain ⟨a39, e40⟩ : ∃ z, h 200 ((i + 4)).toNat = z := ⟨_, rfl⟩
  refine fz_taldV (v := a39) kLc22 rfl ⟨by decide, by decide⟩ (by omega) (by rw [hf17 200 _ rfl]; omega) ((hf17 200 _ rfl).trans e40) ?_
  refine fz_callV (d' := 5) (M' := mX11_which) (As := [fz_i a33, fz_i a35, fz_i a37, fz_i a39]) (st := []) kLc22 rfl rfl vX11_which rfl rfl rfl rfl (Nat.le_of_ble_eq_true rfl) (Nat.le_of_ble_eq_true rfl) (by decide) (sX11_which H9 hI13 a33 a35 a37 a39 hXw20) (fun H41 r42 q43 o44 => ?_)
  obtain ⟨hI45, hf46, hXw47, y49, rfl, f48⟩ := q43
  clear o44
  have hf50 := fz_fr_tr hf17 hf46 (fz_su_all rfl)
  have hXd51 : fz_Xd H41 := fz_Xd_eq (funext fun s => hf46 80 s rfl) hXd18
  have hXh52 : fz_Xh H41 := fz_Xh_eq (funext fun s => hf46 83 s rfl) hXh19
  have hX53 : fz_Xc H41 := fz_Xc_fr hf46 rfl hX21
  have t54 : H41 53 10 = H9 53 10 := hf46 53 10 rfl
  have t55 : H41 53 41 = H9 53 41 := hf46 53 41 rfl
  have t56 : H41 53 42 = H9 53 42 := hf46 53 42 rfl
  have t57 : H41 44 2 = H9 44 2 := hf46 44 2 rfl
  have t58 : H41 53 44 = H9 53 44 := hf46 53 44 rfl
  have t59 : H41 20 2 = H9 20 2 := hf46 20 2 rfl
  have t60 : H41 53 16 = H9 53 16 := hf46 53 16 rfl
  have t61 : H41 1 7 = H9 1 7 := hf46 1 7 rfl
  have t62 : H41 53 0 = H9 53 0 := hf46 53 0 rfl
  have t63 : H41 1 8 = H9 1 8 := hf46 1 8 rfl
  have t64 : H41 53 2 = H9 53 2 := hf46 53 2 rfl
  refine fz_pop rfl kLc22 rfl ?_
  refine fz_goto (tgt := 1816) kLc22 rfl (by decide) ?_
  exact K H41 ⟨hI45, hX53, hXd51, hXh52, hXw47, by omega, by omega, by omega, by omega, by omega, by omega⟩ (funext fun s => hf50 200 s rfl)
def mLc23 : fz_M := (yL_law, code, 4, (some .boolean), [(1113, .aload_n 1, 1, 0, 0, 0), (1114, .aload_n 0, 1, 0, 0, 0), (1115, .iload_n 3, 1, 0, 0, 0), (1116, .iconst 1, 1, 0, 0, 0), (1117, .iadd, 1, 0, 0, 0), (1118, .iaload, 1, 0, 0, 0), (1119, .aload_n 0, 1, 0, 0, 0), (1120, .iload_n 3, 1, 0, 0, 0), (1121, .iconst 2, 1, 0, 0, 0), (1122, .iadd, 1, 0, 0, 0), (1123, .iaload, 1, 0, 0, 0), (1124, .aload_n 0, 1, 0, 0, 0), (1125, .iload_n 3, 1, 0, 0, 0), (1126, .iconst 3, 1, 0, 0, 0), (1127, .iadd, 1, 0, 0, 0), (1128, .iaload, 1, 0, 0, 0), (1129, .invokevirtual 110, 3, 4125, 32, 0), (1132, .pop, 1, 0, 0, 0), (1133, .aload_n 2, 1, 0, 0, 0), (1134, .aload_n 0, 1, 0, 0, 0), (1135, .iload_n 3, 1, 0, 0, 0), (1136, .iconst 1, 1, 0, 0, 0), (1137, .iadd, 1, 0, 0, 0), (1138, .iaload, 1, 0, 0, 0), (1139, .aload_n 0, 1, 0, 0, 0), (1140, .iload_n 3, 1, 0, 0, 0), (1141, .iconst 2, 1, 0, 0, 0), (1142, .iadd, 1, 0, 0, 0), (1143, .iaload, 1, 0, 0, 0), (1144, .aload_n 0, 1, 0, 0, 0), (1145, .iload_n 3, 1, 0, 0, 0), (1146, .iconst 3, 1, 0, 0, 0), (1147, .iadd, 1, 0, 0, 0), (1148, .iaload, 1, 0, 0, 0), (1149, .invokevirtual 113, 3, 7090, 102, 0), (1152, .pop, 1, 0, 0, 0), (1153, .goto 663, 3, 0, 0, 0)])
set_option maxRecDepth 100000 in
theorem kLc23 : fz_okM mLc23 = true := by decide +kernel
set_option maxHeartbeats 1000000 in
set_option maxRecDepth 100000 in
theorem lc23 (h : fz_H) (hI : fz_Iv h) (hX : fz_Xc h) (hXd : fz_Xd h) (hXh : fz_Xh h) (hXw : fz_Xw h) (hv1 : h 53 10 ≤ 10) (hv2 : h 53 42 ≤ h 53 41) (hr0 : h 44 2 = h 53 44) (hr1 : h 20 2 = h 53 16) (hr2 : h 1 7 = h 53 0) (hr3 : h 1 8 = h 53 2) (i : Int) (hi : 0 ≤ i ∧ i + 6 ≤ h 200 100000 ∧ h 200 100000 ≤ 3072) {Q : fz_H → Option fz_V → Prop} (K : ∀ H : fz_H, fz_Gd H → H 200 = h 200 → fz_R 47 mLe 1816 [(3, fz_i i), (0, fz_r 200), (1, fz_r 0), (2, fz_r 53)] [] H Q) : fz_R 47 mLc23 1113 [(3, fz_i i), (0, fz_r 200), (1, fz_r 0), (2, fz_r 53)] [] h Q := by
  have hf : fz_fr fz_all h h := fz_fr_rf
  refine fz_aload_n kLc23 rfl rfl ?_
  refine fz_aload_n kLc23 rfl rfl ?_
  refine fz_iload_n kLc23 rfl rfl ?_
  refine fz_iconst ⟨by decide, by decide⟩ kLc23 rfl ?_
  refine fz_iaddN kLc23 rfl (by omega) ?_
  obtain ⟨a1, e2⟩ : ∃ z, h 200 ((i + 1)).toNat = z := ⟨_, rfl⟩
  refine fz_taldV (v := a1) kLc23 rfl ⟨by decide, by decide⟩ (by omega) (by omega) e2 ?_
  refine fz_aload_n kLc23 rfl rfl ?_
  refine fz_iload_n kLc23 rfl rfl ?_
  refine fz_iconst ⟨by decide, by decide⟩ kLc23 rfl ?_
  refine fz_iaddN kLc23 rfl (by omega) ?_
  obtain ⟨a3, e4⟩ : ∃ z, h 200 ((i + 2)).toNat = z := ⟨_, rfl⟩
  refine fz_taldV (v := a3) kLc23 rfl ⟨by decide, by decide⟩ (by omega) (by omega) e4 ?_
  refine fz_aload_n kLc23 rfl rfl ?_
  refine fz_iload_n kLc23 rfl rfl ?_
  refine fz_iconst ⟨by decide, by decide⟩ kLc23 rfl ?_
  refine fz_iaddN kLc23 rfl (by omega) ?_
  obtain ⟨a5, e6⟩ : ∃ z, h 200 ((i + 3)).toNat = z := ⟨_, rfl⟩
  refine fz_taldV (v := a5) kLc23 rfl ⟨by decide, by decide⟩ (by omega) (by omega) e6 ?_
  refine fz_callV (d' := 5) (M' := mX10_first) (As := [fz_i a1, fz_i a3, fz_i a5]) (st := []) kLc23 rfl rfl vX10_first rfl rfl rfl rfl (Nat.le_of_ble_eq_true rfl) (Nat.le_of_ble_eq_true rfl) (by decide) (sX10_first h hI a1 a3 a5 ) (fun H7 r8 q9 o10 => ?_)
  obtain ⟨hI11, hf12, y14, rfl, f13⟩ := q9
  clear o10
  have hf15 := fz_fr_tr hf hf12 (fz_su_all rfl)
  have hXd16 : fz_Xd H7 := fz_Xd_eq (funext fun s => hf12 80 s rfl) hXd
  have hXh17 : fz_Xh H7 := fz_Xh_eq (funext fun s => hf12 83 s rfl) hXh
  have hXw18 : fz_Xw H7 := fz_Xw_eq (hf12 53 19 rfl) (funext fun s => hf12 66 s rfl) (funext fun s => hf12 67 s rfl) (funext fun s => hf12 68 s rfl) (funext fun s => hf12 69 s rfl) hXw
  have hX19 : fz_Xc H7 := fz_Xc_fr hf12 rfl hX
  have t20 : H7 53 10 = h 53 10 := hf12 53 10 rfl
  have t21 : H7 53 41 = h 53 41 := hf12 53 41 rfl
  have t22 : H7 53 42 = h 53 42 := hf12 53 42 rfl
  have t23 : H7 44 2 = h 44 2 := hf12 44 2 rfl
  have t24 : H7 53 44 = h 53 44 := hf12 53 44 rfl
  have t25 : H7 20 2 = h 20 2 := hf12 20 2 rfl
  have t26 : H7 53 16 = h 53 16 := hf12 53 16 rfl
  have t27 : H7 1 7 = h 1 7 := hf12 1 7 rfl
  have t28 : H7 53 0 = h 53 0 := hf12 53 0 rfl
  have t29 : H7 1 8 = h 1 8 := hf12 1 8 rfl
  have t30 : H7 53 2 = h 53 2 := hf12 53 2 rfl
  refine fz_pop rfl kLc23 rfl ?_
  refine fz_aload_n kLc23 rfl rfl ?_
  refine fz_aload_n kLc23 rfl rfl ?_
  refine fz_iload_n kLc23 rfl rfl ?_
  refine fz_iconst ⟨by decide, by decide⟩ kLc23 rfl ?_
  refine fz_iaddN kLc23 rfl (by omega) ?_
  obtain ⟨a31, e32⟩ : ∃ z, h 200 ((i + 1)).toNat = z := ⟨_, rfl⟩
  refine fz_taldV (v := a31) kLc23 rfl ⟨by decide, by decide⟩ (by omega) (by rw [hf15 200 _ rfl]; omega) ((hf15 200 _ rfl).trans e32) ?_
  refine fz_aload_n kLc23 rfl rfl ?_
  refine fz_iload_n kLc23 rfl rfl ?_
  refine fz_iconst ⟨by decide, by decide⟩ kLc23 rfl ?_
  refine fz_iaddN kLc23 rfl (by omega) ?_
  obtain ⟨a33, e34⟩ : ∃ z, h 200 ((i + 2)).toNat = z := ⟨_, rfl⟩
  refine fz_taldV (v := a33) kLc23 rfl ⟨by decide, by decide⟩ (by omega) (by rw [hf15 200 _ rfl]; omega) ((hf15 200 _ rfl).trans e34) ?_
  refine fz_aload_n kLc23 rfl rfl ?_
  refine fz_iload_n kLc23 rfl rfl ?_
  refine fz_iconst ⟨by decide, by decide⟩ kLc23 rfl ?_
  refine fz_iaddN kLc23 rfl (by omega) ?_
  obtain ⟨a35, e36⟩ : ∃ z, h 200 ((i + 3)).toNat = z := ⟨_, rfl⟩
  refine fz_taldV (v := a35) kLc23 rfl ⟨by decide, by decide⟩ (by omega) (by rw [hf15 200 _ rfl]; omega) ((hf15 200 _ rfl).trans e36) ?_
  refine fz_callV (d' := 4) (M' := mX11_first) (As := [fz_i a31, fz_i a33, fz_i a35]) (st := []) kLc23 rfl rfl vX11_first rfl rfl rfl rfl (Nat.le_of_ble_eq_true rfl) (Nat.le_of_ble_eq_true rfl) (by decide) (sX11_first H7 hI11 a31 a33 a35 hXw18) (fun H37 r38 q39 o40 => ?_)
  obtain ⟨hI41, hf42, hXw43, y45, rfl, f44⟩ := q39
  clear o40
  have hf46 := fz_fr_tr hf15 hf42 (fz_su_all rfl)
  have hXd47 : fz_Xd H37 := fz_Xd_eq (funext fun s => hf42 80 s rfl) hXd16
  have hXh48 : fz_Xh H37 := fz_Xh_eq (funext fun s => hf42 83 s rfl) hXh17
  have hX49 : fz_Xc H37 := fz_Xc_fr hf42 rfl hX19
  have t50 : H37 53 10 = H7 53 10 := hf42 53 10 rfl
  have t51 : H37 53 41 = H7 53 41 := hf42 53 41 rfl
  have t52 : H37 53 42 = H7 53 42 := hf42 53 42 rfl
  have t53 : H37 44 2 = H7 44 2 := hf42 44 2 rfl
  have t54 : H37 53 44 = H7 53 44 := hf42 53 44 rfl
  have t55 : H37 20 2 = H7 20 2 := hf42 20 2 rfl
  have t56 : H37 53 16 = H7 53 16 := hf42 53 16 rfl
  have t57 : H37 1 7 = H7 1 7 := hf42 1 7 rfl
  have t58 : H37 53 0 = H7 53 0 := hf42 53 0 rfl
  have t59 : H37 1 8 = H7 1 8 := hf42 1 8 rfl
  have t60 : H37 53 2 = H7 53 2 := hf42 53 2 rfl
  refine fz_pop rfl kLc23 rfl ?_
  refine fz_goto (tgt := 1816) kLc23 rfl (by decide) ?_
  exact K H37 ⟨hI41, hX49, hXd47, hXh48, hXw43, by omega, by omega, by omega, by omega, by omega, by omega⟩ (funext fun s => hf46 200 s rfl)
def mLc24 : fz_M := (yL_law, code, 4, (some .boolean), [(1156, .aload_n 1, 1, 0, 0, 0), (1157, .aload_n 0, 1, 0, 0, 0), (1158, .iload_n 3, 1, 0, 0, 0), (1159, .iconst 1, 1, 0, 0, 0), (1160, .iadd, 1, 0, 0, 0), (1161, .iaload, 1, 0, 0, 0), (1162, .aload_n 0, 1, 0, 0, 0), (1163, .iload_n 3, 1, 0, 0, 0), (1164, .iconst 2, 1, 0, 0, 0), (1165, .iadd, 1, 0, 0, 0), (1166, .iaload, 1, 0, 0, 0), (1167, .invokevirtual 114, 3, 4129, 59, 0), (1170, .pop, 1, 0, 0, 0), (1171, .aload_n 2, 1, 0, 0, 0), (1172, .aload_n 0, 1, 0, 0, 0), (1173, .iload_n 3, 1, 0, 0, 0), (1174, .iconst 1, 1, 0, 0, 0), (1175, .iadd, 1, 0, 0, 0), (1176, .iaload, 1, 0, 0, 0), (1177, .aload_n 0, 1, 0, 0, 0), (1178, .iload_n 3, 1, 0, 0, 0), (1179, .iconst 2, 1, 0, 0, 0), (1180, .iadd, 1, 0, 0, 0), (1181, .iaload, 1, 0, 0, 0), (1182, .invokevirtual 117, 3, 7094, 158, 0), (1185, .pop, 1, 0, 0, 0), (1186, .goto 630, 3, 0, 0, 0)])
set_option maxRecDepth 100000 in
theorem kLc24 : fz_okM mLc24 = true := by decide +kernel
set_option maxHeartbeats 1000000 in
set_option maxRecDepth 100000 in
theorem lc24 (h : fz_H) (hI : fz_Iv h) (hX : fz_Xc h) (hXd : fz_Xd h) (hXh : fz_Xh h) (hXw : fz_Xw h) (hv1 : h 53 10 ≤ 10) (hv2 : h 53 42 ≤ h 53 41) (hr0 : h 44 2 = h 53 44) (hr1 : h 20 2 = h 53 16) (hr2 : h 1 7 = h 53 0) (hr3 : h 1 8 = h 53 2) (i : Int) (hi : 0 ≤ i ∧ i + 6 ≤ h 200 100000 ∧ h 200 100000 ≤ 3072) {Q : fz_H → Option fz_V → Prop} (K : ∀ H : fz_H, fz_Gd H → H 200 = h 200 → fz_R 47 mLe 1816 [(3, fz_i i), (0, fz_r 200), (1, fz_r 0), (2, fz_r 53)] [] H Q) : fz_R 47 mLc24 1156 [(3, fz_i i), (0, fz_r 200), (1, fz_r 0), (2, fz_r 53)] [] h Q := by
  have hf : fz_fr fz_all h h := fz_fr_rf
  refine fz_aload_n kLc24 rfl rfl ?_
  refine fz_aload_n kLc24 rfl rfl ?_
  refine fz_iload_n kLc24 rfl rfl ?_
  refine fz_iconst ⟨by decide, by decide⟩ kLc24 rfl ?_
  refine fz_iaddN kLc24 rfl (by omega) ?_
  obtain ⟨a1, e2⟩ : ∃ z, h 200 ((i + 1)).toNat = z := ⟨_, rfl⟩
  refine fz_taldV (v := a1) kLc24 rfl ⟨by decide, by decide⟩ (by omega) (by omega) e2 ?_
  refine fz_aload_n kLc24 rfl rfl ?_
  refine fz_iload_n kLc24 rfl rfl ?_
  refine fz_iconst ⟨by decide, by decide⟩ kLc24 rfl ?_
  refine fz_iaddN kLc24 rfl (by omega) ?_
  obtain ⟨a3, e4⟩ : ∃ z, h 200 ((i + 2)).toNat = z := ⟨_, rfl⟩
  refine fz_taldV (v := a3) kLc24 rfl ⟨by decide, by decide⟩ (by omega) (by omega) e4 ?_
  refine fz_callV (d' := 2) (M' := mX10_news) (As := [fz_i a1, fz_i a3]) (st := []) kLc24 rfl rfl vX10_news rfl rfl rfl rfl (Nat.le_of_ble_eq_true rfl) (Nat.le_of_ble_eq_true rfl) (by decide) (sX10_news h hI a1 a3 ) (fun H5 r6 q7 o8 => ?_)
  obtain ⟨e9, y11, rfl, f10⟩ := q7
  subst H5
  clear o8
  refine fz_pop rfl kLc24 rfl ?_
  refine fz_aload_n kLc24 rfl rfl ?_
  refine fz_aload_n kLc24 rfl rfl ?_
  refine fz_iload_n kLc24 rfl rfl ?_
  refine fz_iconst ⟨by decide, by decide⟩ kLc24 rfl ?_
  refine fz_iaddN kLc24 rfl (by omega) ?_
  obtain ⟨a12, e13⟩ : ∃ z, h 200 ((i + 1)).toNat = z := ⟨_, rfl⟩
  refine fz_taldV (v := a12) kLc24 rfl ⟨by decide, by decide⟩ (by omega) (by omega) e13 ?_
  refine fz_aload_n kLc24 rfl rfl ?_
  refine fz_iload_n kLc24 rfl rfl ?_
  refine fz_iconst ⟨by decide, by decide⟩ kLc24 rfl ?_
  refine fz_iaddN kLc24 rfl (by omega) ?_
  obtain ⟨a14, e15⟩ : ∃ z, h 200 ((i + 2)).toNat = z := ⟨_, rfl⟩
  refine fz_taldV (v := a14) kLc24 rfl ⟨by decide, by decide⟩ (by omega) (by omega) e15 ?_
  refine fz_callV (d' := 3) (M' := mX11_news) (As := [fz_i a12, fz_i a14]) (st := []) kLc24 rfl rfl vX11_news rfl rfl rfl rfl (Nat.le_of_ble_eq_true rfl) (Nat.le_of_ble_eq_true rfl) (by decide) (sX11_news h hI a12 a14 ) (fun H16 r17 q18 o19 => ?_)
  obtain ⟨hI20, hf21, y23, rfl, f22⟩ := q18
  clear o19
  have hf24 := fz_fr_tr hf hf21 (fz_su_all rfl)
  have hXd25 : fz_Xd H16 := fz_Xd_eq (funext fun s => hf21 80 s rfl) hXd
  have hXh26 : fz_Xh H16 := fz_Xh_eq (funext fun s => hf21 83 s rfl) hXh
  have hXw27 : fz_Xw H16 := fz_Xw_eq (hf21 53 19 rfl) (funext fun s => hf21 66 s rfl) (funext fun s => hf21 67 s rfl) (funext fun s => hf21 68 s rfl) (funext fun s => hf21 69 s rfl) hXw
  have hX28 : fz_Xc H16 := fz_Xc_fr hf21 rfl hX
  have t29 : H16 53 10 = h 53 10 := hf21 53 10 rfl
  have t30 : H16 53 41 = h 53 41 := hf21 53 41 rfl
  have t31 : H16 53 42 = h 53 42 := hf21 53 42 rfl
  have t32 : H16 44 2 = h 44 2 := hf21 44 2 rfl
  have t33 : H16 53 44 = h 53 44 := hf21 53 44 rfl
  have t34 : H16 20 2 = h 20 2 := hf21 20 2 rfl
  have t35 : H16 53 16 = h 53 16 := hf21 53 16 rfl
  have t36 : H16 1 7 = h 1 7 := hf21 1 7 rfl
  have t37 : H16 53 0 = h 53 0 := hf21 53 0 rfl
  have t38 : H16 1 8 = h 1 8 := hf21 1 8 rfl
  have t39 : H16 53 2 = h 53 2 := hf21 53 2 rfl
  refine fz_pop rfl kLc24 rfl ?_
  refine fz_goto (tgt := 1816) kLc24 rfl (by decide) ?_
  exact K H16 ⟨hI20, hX28, hXd25, hXh26, hXw27, by omega, by omega, by omega, by omega, by omega, by omega⟩ (funext fun s => hf24 200 s rfl)
def mLc25 : fz_M := (yL_law, code, 4, (some .boolean), [(1189, .aload_n 1, 1, 0, 0, 0), (1190, .aload_n 0, 1, 0, 0, 0), (1191, .iload_n 3, 1, 0, 0, 0), (1192, .iconst 1, 1, 0, 0, 0), (1193, .iadd, 1, 0, 0, 0), (1194, .iaload, 1, 0, 0, 0), (1195, .aload_n 0, 1, 0, 0, 0), (1196, .iload_n 3, 1, 0, 0, 0), (1197, .iconst 2, 1, 0, 0, 0), (1198, .iadd, 1, 0, 0, 0), (1199, .iaload, 1, 0, 0, 0), (1200, .aload_n 0, 1, 0, 0, 0), (1201, .iload_n 3, 1, 0, 0, 0), (1202, .iconst 3, 1, 0, 0, 0), (1203, .iadd, 1, 0, 0, 0), (1204, .iaload, 1, 0, 0, 0), (1205, .invokevirtual 118, 3, 4133, 36, 0), (1208, .pop2, 1, 0, 0, 0), (1209, .aload_n 2, 1, 0, 0, 0), (1210, .aload_n 0, 1, 0, 0, 0), (1211, .iload_n 3, 1, 0, 0, 0), (1212, .iconst 1, 1, 0, 0, 0), (1213, .iadd, 1, 0, 0, 0), (1214, .iaload, 1, 0, 0, 0), (1215, .aload_n 0, 1, 0, 0, 0), (1216, .iload_n 3, 1, 0, 0, 0), (1217, .iconst 2, 1, 0, 0, 0), (1218, .iadd, 1, 0, 0, 0), (1219, .iaload, 1, 0, 0, 0), (1220, .aload_n 0, 1, 0, 0, 0), (1221, .iload_n 3, 1, 0, 0, 0), (1222, .iconst 3, 1, 0, 0, 0), (1223, .iadd, 1, 0, 0, 0), (1224, .iaload, 1, 0, 0, 0), (1225, .invokevirtual 122, 3, 7098, 105, 0), (1228, .pop2, 1, 0, 0, 0), (1229, .goto 587, 3, 0, 0, 0)])
set_option maxRecDepth 100000 in
theorem kLc25 : fz_okM mLc25 = true := by decide +kernel
set_option maxHeartbeats 1000000 in
set_option maxRecDepth 100000 in
theorem lc25 (h : fz_H) (hI : fz_Iv h) (hX : fz_Xc h) (hXd : fz_Xd h) (hXh : fz_Xh h) (hXw : fz_Xw h) (hv1 : h 53 10 ≤ 10) (hv2 : h 53 42 ≤ h 53 41) (hr0 : h 44 2 = h 53 44) (hr1 : h 20 2 = h 53 16) (hr2 : h 1 7 = h 53 0) (hr3 : h 1 8 = h 53 2) (i : Int) (hi : 0 ≤ i ∧ i + 6 ≤ h 200 100000 ∧ h 200 100000 ≤ 3072) {Q : fz_H → Option fz_V → Prop} (K : ∀ H : fz_H, fz_Gd H → H 200 = h 200 → fz_R 47 mLe 1816 [(3, fz_i i), (0, fz_r 200), (1, fz_r 0), (2, fz_r 53)] [] H Q) : fz_R 47 mLc25 1189 [(3, fz_i i), (0, fz_r 200), (1, fz_r 0), (2, fz_r 53)] [] h Q := by
  have hf : fz_fr fz_all h h := fz_fr_rf
  refine fz_aload_n kLc25 rfl rfl ?_
  refine fz_aload_n kLc25 rfl rfl ?_
  refine fz_iload_n kLc25 rfl rfl ?_
  refine fz_iconst ⟨by decide, by decide⟩ kLc25 rfl ?_
  refine fz_iaddN kLc25 rfl (by omega) ?_
  obtain ⟨a1, e2⟩ : ∃ z, h 200 ((i + 1)).toNat = z := ⟨_, rfl⟩
  refine fz_taldV (v := a1) kLc25 rfl ⟨by decide, by decide⟩ (by omega) (by omega) e2 ?_
  refine fz_aload_n kLc25 rfl rfl ?_
  refine fz_iload_n kLc25 rfl rfl ?_
  refine fz_iconst ⟨by decide, by decide⟩ kLc25 rfl ?_
  refine fz_iaddN kLc25 rfl (by omega) ?_
  obtain ⟨a3, e4⟩ : ∃ z, h 200 ((i + 2)).toNat = z := ⟨_, rfl⟩
  refine fz_taldV (v := a3) kLc25 rfl ⟨by decide, by decide⟩ (by omega) (by omega) e4 ?_
  refine fz_aload_n kLc25 rfl rfl ?_
  refine fz_iload_n kLc25 rfl rfl ?_
  refine fz_iconst ⟨by decide, by decide⟩ kLc25 rfl ?_
  refine fz_iaddN kLc25 rfl (by omega) ?_
  obtain ⟨a5, e6⟩ : ∃ z, h 200 ((i + 3)).toNat = z := ⟨_, rfl⟩
  refine fz_taldV (v := a5) kLc25 rfl ⟨by decide, by decide⟩ (by omega) (by omega) e6 ?_
  refine fz_callV (d' := 2) (M' := mX10_garbled) (As := [fz_i a1, fz_i a3, fz_i a5]) (st := []) kLc25 rfl rfl vX10_garbled rfl rfl rfl rfl (Nat.le_of_ble_eq_true rfl) (Nat.le_of_ble_eq_true rfl) (by decide) (sX10_garbled h hI a1 a3 a5 ) (fun H7 r8 q9 o10 => ?_)
  obtain ⟨hI11, hf12, y14, rfl, f13⟩ := q9
  clear o10
  have hf15 := fz_fr_tr hf hf12 (fz_su_all rfl)
  have hXd16 : fz_Xd H7 := fz_Xd_eq (funext fun s => hf12 80 s rfl) hXd
  have hXh17 : fz_Xh H7 := fz_Xh_eq (funext fun s => hf12 83 s rfl) hXh
  have hXw18 : fz_Xw H7 := fz_Xw_eq (hf12 53 19 rfl) (funext fun s => hf12 66 s rfl) (funext fun s => hf12 67 s rfl) (funext fun s => hf12 68 s rfl) (funext fun s => hf12 69 s rfl) hXw
  have hX19 : fz_Xc H7 := fz_Xc_fr hf12 rfl hX
  have t20 : H7 53 10 = h 53 10 := hf12 53 10 rfl
  have t21 : H7 53 41 = h 53 41 := hf12 53 41 rfl
  have t22 : H7 53 42 = h 53 42 := hf12 53 42 rfl
  have t23 : H7 44 2 = h 44 2 := hf12 44 2 rfl
  have t24 : H7 53 44 = h 53 44 := hf12 53 44 rfl
  have t25 : H7 20 2 = h 20 2 := hf12 20 2 rfl
  have t26 : H7 53 16 = h 53 16 := hf12 53 16 rfl
  have t27 : H7 1 7 = h 1 7 := hf12 1 7 rfl
  have t28 : H7 53 0 = h 53 0 := hf12 53 0 rfl
  have t29 : H7 1 8 = h 1 8 := hf12 1 8 rfl
  have t30 : H7 53 2 = h 53 2 := hf12 53 2 rfl
  refine fz_pop2 kLc25 rfl ?_
  refine fz_aload_n kLc25 rfl rfl ?_
  refine fz_aload_n kLc25 rfl rfl ?_
  refine fz_iload_n kLc25 rfl rfl ?_
  refine fz_iconst ⟨by decide, by decide⟩ kLc25 rfl ?_
  refine fz_iaddN kLc25 rfl (by omega) ?_
  obtain ⟨a31, e32⟩ : ∃ z, h 200 ((i + 1)).toNat = z := ⟨_, rfl⟩
  refine fz_taldV (v := a31) kLc25 rfl ⟨by decide, by decide⟩ (by omega) (by rw [hf15 200 _ rfl]; omega) ((hf15 200 _ rfl).trans e32) ?_
  refine fz_aload_n kLc25 rfl rfl ?_
  refine fz_iload_n kLc25 rfl rfl ?_
  refine fz_iconst ⟨by decide, by decide⟩ kLc25 rfl ?_
  refine fz_iaddN kLc25 rfl (by omega) ?_
  obtain ⟨a33, e34⟩ : ∃ z, h 200 ((i + 2)).toNat = z := ⟨_, rfl⟩
  refine fz_taldV (v := a33) kLc25 rfl ⟨by decide, by decide⟩ (by omega) (by rw [hf15 200 _ rfl]; omega) ((hf15 200 _ rfl).trans e34) ?_
  refine fz_aload_n kLc25 rfl rfl ?_
  refine fz_iload_n kLc25 rfl rfl ?_
  refine fz_iconst ⟨by decide, by decide⟩ kLc25 rfl ?_
  refine fz_iaddN kLc25 rfl (by omega) ?_
  obtain ⟨a35, e36⟩ : ∃ z, h 200 ((i + 3)).toNat = z := ⟨_, rfl⟩
  refine fz_taldV (v := a35) kLc25 rfl ⟨by decide, by decide⟩ (by omega) (by rw [hf15 200 _ rfl]; omega) ((hf15 200 _ rfl).trans e36) ?_
  refine fz_callV (d' := 3) (M' := mX11_garbled) (As := [fz_i a31, fz_i a33, fz_i a35]) (st := []) kLc25 rfl rfl vX11_garbled rfl rfl rfl rfl (Nat.le_of_ble_eq_true rfl) (Nat.le_of_ble_eq_true rfl) (by decide) (sX11_garbled H7 hI11 a31 a33 a35 ) (fun H37 r38 q39 o40 => ?_)
  obtain ⟨hI41, hf42, y44, rfl, f43⟩ := q39
  clear o40
  have hf45 := fz_fr_tr hf15 hf42 (fz_su_all rfl)
  have hXd46 : fz_Xd H37 := fz_Xd_eq (funext fun s => hf42 80 s rfl) hXd16
  have hXh47 : fz_Xh H37 := fz_Xh_eq (funext fun s => hf42 83 s rfl) hXh17
  have hXw48 : fz_Xw H37 := fz_Xw_eq (hf42 53 19 rfl) (funext fun s => hf42 66 s rfl) (funext fun s => hf42 67 s rfl) (funext fun s => hf42 68 s rfl) (funext fun s => hf42 69 s rfl) hXw18
  have hX49 : fz_Xc H37 := fz_Xc_fr hf42 rfl hX19
  have t50 : H37 53 10 = H7 53 10 := hf42 53 10 rfl
  have t51 : H37 53 41 = H7 53 41 := hf42 53 41 rfl
  have t52 : H37 53 42 = H7 53 42 := hf42 53 42 rfl
  have t53 : H37 44 2 = H7 44 2 := hf42 44 2 rfl
  have t54 : H37 53 44 = H7 53 44 := hf42 53 44 rfl
  have t55 : H37 20 2 = H7 20 2 := hf42 20 2 rfl
  have t56 : H37 53 16 = H7 53 16 := hf42 53 16 rfl
  have t57 : H37 1 7 = H7 1 7 := hf42 1 7 rfl
  have t58 : H37 53 0 = H7 53 0 := hf42 53 0 rfl
  have t59 : H37 1 8 = H7 1 8 := hf42 1 8 rfl
  have t60 : H37 53 2 = H7 53 2 := hf42 53 2 rfl
  refine fz_pop2 kLc25 rfl ?_
  refine fz_goto (tgt := 1816) kLc25 rfl (by decide) ?_
  exact K H37 ⟨hI41, hX49, hXd46, hXh47, hXw48, by omega, by omega, by omega, by omega, by omega, by omega⟩ (funext fun s => hf45 200 s rfl)
def mLc26 : fz_M := (yL_law, code, 4, (some .boolean), [(1232, .aload_n 1, 1, 0, 0, 0), (1233, .aload_n 0, 1, 0, 0, 0), (1234, .iload_n 3, 1, 0, 0, 0), (1235, .iconst 1, 1, 0, 0, 0), (1236, .iadd, 1, 0, 0, 0), (1237, .iaload, 1, 0, 0, 0), (1238, .aload_n 0, 1, 0, 0, 0), (1239, .iload_n 3, 1, 0, 0, 0), (1240, .iconst 2, 1, 0, 0, 0), (1241, .iadd, 1, 0, 0, 0), (1242, .iaload, 1, 0, 0, 0), (1243, .aload_n 0, 1, 0, 0, 0), (1244, .iload_n 3, 1, 0, 0, 0), (1245, .iconst 3, 1, 0, 0, 0), (1246, .iadd, 1, 0, 0, 0), (1247, .iaload, 1, 0, 0, 0), (1248, .aload_n 0, 1, 0, 0, 0), (1249, .iload_n 3, 1, 0, 0, 0), (1250, .iconst 4, 1, 0, 0, 0), (1251, .iadd, 1, 0, 0, 0), (1252, .iaload, 1, 0, 0, 0), (1253, .invokevirtual 123, 3, 4153, 28, 0), (1256, .pop, 1, 0, 0, 0), (1257, .aload_n 2, 1, 0, 0, 0), (1258, .aload_n 0, 1, 0, 0, 0), (1259, .iload_n 3, 1, 0, 0, 0), (1260, .iconst 1, 1, 0, 0, 0), (1261, .iadd, 1, 0, 0, 0), (1262, .iaload, 1, 0, 0, 0), (1263, .aload_n 0, 1, 0, 0, 0), (1264, .iload_n 3, 1, 0, 0, 0), (1265, .iconst 2, 1, 0, 0, 0), (1266, .iadd, 1, 0, 0, 0), (1267, .iaload, 1, 0, 0, 0), (1268, .aload_n 0, 1, 0, 0, 0), (1269, .iload_n 3, 1, 0, 0, 0), (1270, .iconst 3, 1, 0, 0, 0), (1271, .iadd, 1, 0, 0, 0), (1272, .iaload, 1, 0, 0, 0), (1273, .aload_n 0, 1, 0, 0, 0), (1274, .iload_n 3, 1, 0, 0, 0), (1275, .iconst 4, 1, 0, 0, 0), (1276, .iadd, 1, 0, 0, 0), (1277, .iaload, 1, 0, 0, 0), (1278, .invokevirtual 126, 3, 7108, 97, 0), (1281, .pop, 1, 0, 0, 0), (1282, .goto 534, 3, 0, 0, 0)])
set_option maxRecDepth 100000 in
theorem kLc26 : fz_okM mLc26 = true := by decide +kernel
set_option maxHeartbeats 1000000 in
set_option maxRecDepth 100000 in
theorem lc26 (h : fz_H) (hI : fz_Iv h) (hX : fz_Xc h) (hXd : fz_Xd h) (hXh : fz_Xh h) (hXw : fz_Xw h) (hv1 : h 53 10 ≤ 10) (hv2 : h 53 42 ≤ h 53 41) (hr0 : h 44 2 = h 53 44) (hr1 : h 20 2 = h 53 16) (hr2 : h 1 7 = h 53 0) (hr3 : h 1 8 = h 53 2) (i : Int) (hi : 0 ≤ i ∧ i + 6 ≤ h 200 100000 ∧ h 200 100000 ≤ 3072) {Q : fz_H → Option fz_V → Prop} (K : ∀ H : fz_H, fz_Gd H → H 200 = h 200 → fz_R 47 mLe 1816 [(3, fz_i i), (0, fz_r 200), (1, fz_r 0), (2, fz_r 53)] [] H Q) : fz_R 47 mLc26 1232 [(3, fz_i i), (0, fz_r 200), (1, fz_r 0), (2, fz_r 53)] [] h Q := by
  have hf : fz_fr fz_all h h := fz_fr_rf
  refine fz_aload_n kLc26 rfl rfl ?_
  refine fz_aload_n kLc26 rfl rfl ?_
  refine fz_iload_n kLc26 rfl rfl ?_
  refine fz_iconst ⟨by decide, by decide⟩ kLc26 rfl ?_
  refine fz_iaddN kLc26 rfl (by omega) ?_
  obtain ⟨a1, e2⟩ : ∃ z, h 200 ((i + 1)).toNat = z := ⟨_, rfl⟩
  refine fz_taldV (v := a1) kLc26 rfl ⟨by decide, by decide⟩ (by omega) (by omega) e2 ?_
  refine fz_aload_n kLc26 rfl rfl ?_
  refine fz_iload_n kLc26 rfl rfl ?_
  refine fz_iconst ⟨by decide, by decide⟩ kLc26 rfl ?_
  refine fz_iaddN kLc26 rfl (by omega) ?_
  obtain ⟨a3, e4⟩ : ∃ z, h 200 ((i + 2)).toNat = z := ⟨_, rfl⟩
  refine fz_taldV (v := a3) kLc26 rfl ⟨by decide, by decide⟩ (by omega) (by omega) e4 ?_
  refine fz_aload_n kLc26 rfl rfl ?_
  refine fz_iload_n kLc26 rfl rfl ?_
  refine fz_iconst ⟨by decide, by decide⟩ kLc26 rfl ?_
  refine fz_iaddN kLc26 rfl (by omega) ?_
  obtain ⟨a5, e6⟩ : ∃ z, h 200 ((i + 3)).toNat = z := ⟨_, rfl⟩
  refine fz_taldV (v := a5) kLc26 rfl ⟨by decide, by decide⟩ (by omega) (by omega) e6 ?_
  refine fz_aload_n kLc26 rfl rfl ?_
  refine fz_iload_n kLc26 rfl rfl ?_
  refine fz_iconst ⟨by decide, by decide⟩ kLc26 rfl ?_
  refine fz_iaddN kLc26 rfl (by omega) ?_
  obtain ⟨a7, e8⟩ : ∃ z, h 200 ((i + 4)).toNat = z := ⟨_, rfl⟩
  refine fz_taldV (v := a7) kLc26 rfl ⟨by decide, by decide⟩ (by omega) (by omega) e8 ?_
  refine fz_callV (d' := 1) (M' := mX10_drawn) (As := [fz_i a1, fz_i a3, fz_i a5, fz_i a7]) (st := []) kLc26 rfl rfl vX10_drawn rfl rfl rfl rfl (Nat.le_of_ble_eq_true rfl) (Nat.le_of_ble_eq_true rfl) (by decide) (sX10_drawn h hI a1 a3 a5 a7 ) (fun H9 r10 q11 o12 => ?_)
  obtain ⟨e13, y15, rfl, f14⟩ := q11
  subst H9
  clear o12
  refine fz_pop rfl kLc26 rfl ?_
  refine fz_aload_n kLc26 rfl rfl ?_
  refine fz_aload_n kLc26 rfl rfl ?_
  refine fz_iload_n kLc26 rfl rfl ?_
  refine fz_iconst ⟨by decide, by decide⟩ kLc26 rfl ?_
  refine fz_iaddN kLc26 rfl (by omega) ?_
  obtain ⟨a16, e17⟩ : ∃ z, h 200 ((i + 1)).toNat = z := ⟨_, rfl⟩
  refine fz_taldV (v := a16) kLc26 rfl ⟨by decide, by decide⟩ (by omega) (by omega) e17 ?_
  refine fz_aload_n kLc26 rfl rfl ?_
  refine fz_iload_n kLc26 rfl rfl ?_
  refine fz_iconst ⟨by decide, by decide⟩ kLc26 rfl ?_
  refine fz_iaddN kLc26 rfl (by omega) ?_
  obtain ⟨a18, e19⟩ : ∃ z, h 200 ((i + 2)).toNat = z := ⟨_, rfl⟩
  refine fz_taldV (v := a18) kLc26 rfl ⟨by decide, by decide⟩ (by omega) (by omega) e19 ?_
  refine fz_aload_n kLc26 rfl rfl ?_
  refine fz_iload_n kLc26 rfl rfl ?_
  refine fz_iconst ⟨by decide, by decide⟩ kLc26 rfl ?_
  refine fz_iaddN kLc26 rfl (by omega) ?_
  obtain ⟨a20, e21⟩ : ∃ z, h 200 ((i + 3)).toNat = z := ⟨_, rfl⟩
  refine fz_taldV (v := a20) kLc26 rfl ⟨by decide, by decide⟩ (by omega) (by omega) e21 ?_
  refine fz_aload_n kLc26 rfl rfl ?_
  refine fz_iload_n kLc26 rfl rfl ?_
  refine fz_iconst ⟨by decide, by decide⟩ kLc26 rfl ?_
  refine fz_iaddN kLc26 rfl (by omega) ?_
  obtain ⟨a22, e23⟩ : ∃ z, h 200 ((i + 4)).toNat = z := ⟨_, rfl⟩
  refine fz_taldV (v := a22) kLc26 rfl ⟨by decide, by decide⟩ (by omega) (by omega) e23 ?_
  refine fz_callV (d' := 3) (M' := mX11_drawn) (As := [fz_i a16, fz_i a18, fz_i a20, fz_i a22]) (st := []) kLc26 rfl rfl vX11_drawn rfl rfl rfl rfl (Nat.le_of_ble_eq_true rfl) (Nat.le_of_ble_eq_true rfl) (by decide) (sX11_drawn h hI a16 a18 a20 a22 ) (fun H24 r25 q26 o27 => ?_)
  obtain ⟨hI28, hf29, y31, rfl, f30⟩ := q26
  clear o27
  have hf32 := fz_fr_tr hf hf29 (fz_su_all rfl)
  have hXd33 : fz_Xd H24 := fz_Xd_eq (funext fun s => hf29 80 s rfl) hXd
  have hXh34 : fz_Xh H24 := fz_Xh_eq (funext fun s => hf29 83 s rfl) hXh
  have hXw35 : fz_Xw H24 := fz_Xw_eq (hf29 53 19 rfl) (funext fun s => hf29 66 s rfl) (funext fun s => hf29 67 s rfl) (funext fun s => hf29 68 s rfl) (funext fun s => hf29 69 s rfl) hXw
  have hX36 : fz_Xc H24 := fz_Xc_fr hf29 rfl hX
  have t37 : H24 53 10 = h 53 10 := hf29 53 10 rfl
  have t38 : H24 53 41 = h 53 41 := hf29 53 41 rfl
  have t39 : H24 53 42 = h 53 42 := hf29 53 42 rfl
  have t40 : H24 44 2 = h 44 2 := hf29 44 2 rfl
  have t41 : H24 53 44 = h 53 44 := hf29 53 44 rfl
  have t42 : H24 20 2 = h 20 2 := hf29 20 2 rfl
  have t43 : H24 53 16 = h 53 16 := hf29 53 16 rfl
  have t44 : H24 1 7 = h 1 7 := hf29 1 7 rfl
  have t45 : H24 53 0 = h 53 0 := hf29 53 0 rfl
  have t46 : H24 1 8 = h 1 8 := hf29 1 8 rfl
  have t47 : H24 53 2 = h 53 2 := hf29 53 2 rfl
  refine fz_pop rfl kLc26 rfl ?_
  refine fz_goto (tgt := 1816) kLc26 rfl (by decide) ?_
  exact K H24 ⟨hI28, hX36, hXd33, hXh34, hXw35, by omega, by omega, by omega, by omega, by omega, by omega⟩ (funext fun s => hf32 200 s rfl)
def mLc27 : fz_M := (yL_law, code, 4, (some .boolean), [(1285, .aload_n 1, 1, 0, 0, 0), (1286, .aload_n 0, 1, 0, 0, 0), (1287, .iload_n 3, 1, 0, 0, 0), (1288, .iconst 1, 1, 0, 0, 0), (1289, .iadd, 1, 0, 0, 0), (1290, .iaload, 1, 0, 0, 0), (1291, .aload_n 0, 1, 0, 0, 0), (1292, .iload_n 3, 1, 0, 0, 0), (1293, .iconst 2, 1, 0, 0, 0), (1294, .iadd, 1, 0, 0, 0), (1295, .iaload, 1, 0, 0, 0), (1296, .invokevirtual 127, 3, 4158, 77, 0), (1299, .pop, 1, 0, 0, 0), (1300, .aload_n 2, 1, 0, 0, 0), (1301, .aload_n 0, 1, 0, 0, 0), (1302, .iload_n 3, 1, 0, 0, 0), (1303, .iconst 1, 1, 0, 0, 0), (1304, .iadd, 1, 0, 0, 0), (1305, .iaload, 1, 0, 0, 0), (1306, .aload_n 0, 1, 0, 0, 0), (1307, .iload_n 3, 1, 0, 0, 0), (1308, .iconst 2, 1, 0, 0, 0), (1309, .iadd, 1, 0, 0, 0), (1310, .iaload, 1, 0, 0, 0), (1311, .invokevirtual 130, 3, 7113, 181, 0), (1314, .pop, 1, 0, 0, 0), (1315, .goto 501, 3, 0, 0, 0)])
set_option maxRecDepth 100000 in
theorem kLc27 : fz_okM mLc27 = true := by decide +kernel
set_option maxHeartbeats 1000000 in
set_option maxRecDepth 100000 in
theorem lc27 (h : fz_H) (hI : fz_Iv h) (hX : fz_Xc h) (hXd : fz_Xd h) (hXh : fz_Xh h) (hXw : fz_Xw h) (hv1 : h 53 10 ≤ 10) (hv2 : h 53 42 ≤ h 53 41) (hr0 : h 44 2 = h 53 44) (hr1 : h 20 2 = h 53 16) (hr2 : h 1 7 = h 53 0) (hr3 : h 1 8 = h 53 2) (i : Int) (hi : 0 ≤ i ∧ i + 6 ≤ h 200 100000 ∧ h 200 100000 ≤ 3072) {Q : fz_H → Option fz_V → Prop} (K : ∀ H : fz_H, fz_Gd H → H 200 = h 200 → fz_R 47 mLe 1816 [(3, fz_i i), (0, fz_r 200), (1, fz_r 0), (2, fz_r 53)] [] H Q) : fz_R 47 mLc27 1285 [(3, fz_i i), (0, fz_r 200), (1, fz_r 0), (2, fz_r 53)] [] h Q := by
  have hf : fz_fr fz_all h h := fz_fr_rf
  refine fz_aload_n kLc27 rfl rfl ?_
  refine fz_aload_n kLc27 rfl rfl ?_
  refine fz_iload_n kLc27 rfl rfl ?_
  refine fz_iconst ⟨by decide, by decide⟩ kLc27 rfl ?_
  refine fz_iaddN kLc27 rfl (by omega) ?_
  obtain ⟨a1, e2⟩ : ∃ z, h 200 ((i + 1)).toNat = z := ⟨_, rfl⟩
  refine fz_taldV (v := a1) kLc27 rfl ⟨by decide, by decide⟩ (by omega) (by omega) e2 ?_
  refine fz_aload_n kLc27 rfl rfl ?_
  refine fz_iload_n kLc27 rfl rfl ?_
  refine fz_iconst ⟨by decide, by decide⟩ kLc27 rfl ?_
  refine fz_iaddN kLc27 rfl (by omega) ?_
  obtain ⟨a3, e4⟩ : ∃ z, h 200 ((i + 2)).toNat = z := ⟨_, rfl⟩
  refine fz_taldV (v := a3) kLc27 rfl ⟨by decide, by decide⟩ (by omega) (by omega) e4 ?_
  refine fz_callV (d' := 5) (M' := mX10_walk) (As := [fz_i a1, fz_i a3]) (st := []) kLc27 rfl rfl vX10_walk rfl rfl rfl rfl (Nat.le_of_ble_eq_true rfl) (Nat.le_of_ble_eq_true rfl) (by decide) (sX10_walk h hI a1 a3 ) (fun H5 r6 q7 o8 => ?_)
  obtain ⟨hI9, hf10, y12, rfl, f11⟩ := q7
  clear o8
  have hf13 := fz_fr_tr hf hf10 (fz_su_all rfl)
  have hXd14 : fz_Xd H5 := fz_Xd_eq (funext fun s => hf10 80 s rfl) hXd
  have hXh15 : fz_Xh H5 := fz_Xh_eq (funext fun s => hf10 83 s rfl) hXh
  have hXw16 : fz_Xw H5 := fz_Xw_eq (hf10 53 19 rfl) (funext fun s => hf10 66 s rfl) (funext fun s => hf10 67 s rfl) (funext fun s => hf10 68 s rfl) (funext fun s => hf10 69 s rfl) hXw
  have hX17 : fz_Xc H5 := fz_Xc_fr hf10 rfl hX
  have t18 : H5 53 10 = h 53 10 := hf10 53 10 rfl
  have t19 : H5 53 41 = h 53 41 := hf10 53 41 rfl
  have t20 : H5 53 42 = h 53 42 := hf10 53 42 rfl
  have t21 : H5 44 2 = h 44 2 := hf10 44 2 rfl
  have t22 : H5 53 44 = h 53 44 := hf10 53 44 rfl
  have t23 : H5 20 2 = h 20 2 := hf10 20 2 rfl
  have t24 : H5 53 16 = h 53 16 := hf10 53 16 rfl
  have t25 : H5 1 7 = h 1 7 := hf10 1 7 rfl
  have t26 : H5 53 0 = h 53 0 := hf10 53 0 rfl
  have t27 : H5 1 8 = h 1 8 := hf10 1 8 rfl
  have t28 : H5 53 2 = h 53 2 := hf10 53 2 rfl
  refine fz_pop rfl kLc27 rfl ?_
  refine fz_aload_n kLc27 rfl rfl ?_
  refine fz_aload_n kLc27 rfl rfl ?_
  refine fz_iload_n kLc27 rfl rfl ?_
  refine fz_iconst ⟨by decide, by decide⟩ kLc27 rfl ?_
  refine fz_iaddN kLc27 rfl (by omega) ?_
  obtain ⟨a29, e30⟩ : ∃ z, h 200 ((i + 1)).toNat = z := ⟨_, rfl⟩
  refine fz_taldV (v := a29) kLc27 rfl ⟨by decide, by decide⟩ (by omega) (by rw [hf13 200 _ rfl]; omega) ((hf13 200 _ rfl).trans e30) ?_
  refine fz_aload_n kLc27 rfl rfl ?_
  refine fz_iload_n kLc27 rfl rfl ?_
  refine fz_iconst ⟨by decide, by decide⟩ kLc27 rfl ?_
  refine fz_iaddN kLc27 rfl (by omega) ?_
  obtain ⟨a31, e32⟩ : ∃ z, h 200 ((i + 2)).toNat = z := ⟨_, rfl⟩
  refine fz_taldV (v := a31) kLc27 rfl ⟨by decide, by decide⟩ (by omega) (by rw [hf13 200 _ rfl]; omega) ((hf13 200 _ rfl).trans e32) ?_
  refine fz_callV (d' := 5) (M' := mX11_walk) (As := [fz_i a29, fz_i a31]) (st := []) kLc27 rfl rfl vX11_walk rfl rfl rfl rfl (Nat.le_of_ble_eq_true rfl) (Nat.le_of_ble_eq_true rfl) (by decide) (sX11_walk H5 hI9 a29 a31 hXw16) (fun H33 r34 q35 o36 => ?_)
  obtain ⟨hI37, hf38, hXw39, y41, rfl, f40⟩ := q35
  clear o36
  have hf42 := fz_fr_tr hf13 hf38 (fz_su_all rfl)
  have hXd43 : fz_Xd H33 := fz_Xd_eq (funext fun s => hf38 80 s rfl) hXd14
  have hXh44 : fz_Xh H33 := fz_Xh_eq (funext fun s => hf38 83 s rfl) hXh15
  have hX45 : fz_Xc H33 := fz_Xc_fr hf38 rfl hX17
  have t46 : H33 53 10 = H5 53 10 := hf38 53 10 rfl
  have t47 : H33 53 41 = H5 53 41 := hf38 53 41 rfl
  have t48 : H33 53 42 = H5 53 42 := hf38 53 42 rfl
  have t49 : H33 44 2 = H5 44 2 := hf38 44 2 rfl
  have t50 : H33 53 44 = H5 53 44 := hf38 53 44 rfl
  have t51 : H33 20 2 = H5 20 2 := hf38 20 2 rfl
  have t52 : H33 53 16 = H5 53 16 := hf38 53 16 rfl
  have t53 : H33 1 7 = H5 1 7 := hf38 1 7 rfl
  have t54 : H33 53 0 = H5 53 0 := hf38 53 0 rfl
  have t55 : H33 1 8 = H5 1 8 := hf38 1 8 rfl
  have t56 : H33 53 2 = H5 53 2 := hf38 53 2 rfl
  refine fz_pop rfl kLc27 rfl ?_
  refine fz_goto (tgt := 1816) kLc27 rfl (by decide) ?_
  exact K H33 ⟨hI37, hX45, hXd43, hXh44, hXw39, by omega, by omega, by omega, by omega, by omega, by omega⟩ (funext fun s => hf42 200 s rfl)
def mLc28 : fz_M := (yL_law, code, 4, (some .boolean), [(1318, .aload_n 1, 1, 0, 0, 0), (1319, .aload_n 0, 1, 0, 0, 0), (1320, .iload_n 3, 1, 0, 0, 0), (1321, .iconst 1, 1, 0, 0, 0), (1322, .iadd, 1, 0, 0, 0), (1323, .iaload, 1, 0, 0, 0), (1324, .aload_n 0, 1, 0, 0, 0), (1325, .iload_n 3, 1, 0, 0, 0), (1326, .iconst 2, 1, 0, 0, 0), (1327, .iadd, 1, 0, 0, 0), (1328, .iaload, 1, 0, 0, 0), (1329, .invokevirtual 131, 3, 4167, 27, 0), (1332, .pop, 1, 0, 0, 0), (1333, .aload_n 2, 1, 0, 0, 0), (1334, .aload_n 0, 1, 0, 0, 0), (1335, .iload_n 3, 1, 0, 0, 0), (1336, .iconst 1, 1, 0, 0, 0), (1337, .iadd, 1, 0, 0, 0), (1338, .iaload, 1, 0, 0, 0), (1339, .aload_n 0, 1, 0, 0, 0), (1340, .iload_n 3, 1, 0, 0, 0), (1341, .iconst 2, 1, 0, 0, 0), (1342, .iadd, 1, 0, 0, 0), (1343, .iaload, 1, 0, 0, 0), (1344, .invokevirtual 134, 3, 7117, 96, 0), (1347, .pop, 1, 0, 0, 0), (1348, .goto 468, 3, 0, 0, 0)])
set_option maxRecDepth 100000 in
theorem kLc28 : fz_okM mLc28 = true := by decide +kernel
set_option maxHeartbeats 1000000 in
set_option maxRecDepth 100000 in
theorem lc28 (h : fz_H) (hI : fz_Iv h) (hX : fz_Xc h) (hXd : fz_Xd h) (hXh : fz_Xh h) (hXw : fz_Xw h) (hv1 : h 53 10 ≤ 10) (hv2 : h 53 42 ≤ h 53 41) (hr0 : h 44 2 = h 53 44) (hr1 : h 20 2 = h 53 16) (hr2 : h 1 7 = h 53 0) (hr3 : h 1 8 = h 53 2) (i : Int) (hi : 0 ≤ i ∧ i + 6 ≤ h 200 100000 ∧ h 200 100000 ≤ 3072) {Q : fz_H → Option fz_V → Prop} (K : ∀ H : fz_H, fz_Gd H → H 200 = h 200 → fz_R 47 mLe 1816 [(3, fz_i i), (0, fz_r 200), (1, fz_r 0), (2, fz_r 53)] [] H Q) : fz_R 47 mLc28 1318 [(3, fz_i i), (0, fz_r 200), (1, fz_r 0), (2, fz_r 53)] [] h Q := by
  have hf : fz_fr fz_all h h := fz_fr_rf
  refine fz_aload_n kLc28 rfl rfl ?_
  refine fz_aload_n kLc28 rfl rfl ?_
  refine fz_iload_n kLc28 rfl rfl ?_
  refine fz_iconst ⟨by decide, by decide⟩ kLc28 rfl ?_
  refine fz_iaddN kLc28 rfl (by omega) ?_
  obtain ⟨a1, e2⟩ : ∃ z, h 200 ((i + 1)).toNat = z := ⟨_, rfl⟩
  refine fz_taldV (v := a1) kLc28 rfl ⟨by decide, by decide⟩ (by omega) (by omega) e2 ?_
  refine fz_aload_n kLc28 rfl rfl ?_
  refine fz_iload_n kLc28 rfl rfl ?_
  refine fz_iconst ⟨by decide, by decide⟩ kLc28 rfl ?_
  refine fz_iaddN kLc28 rfl (by omega) ?_
  obtain ⟨a3, e4⟩ : ∃ z, h 200 ((i + 2)).toNat = z := ⟨_, rfl⟩
  refine fz_taldV (v := a3) kLc28 rfl ⟨by decide, by decide⟩ (by omega) (by omega) e4 ?_
  refine fz_callV (d' := 2) (M' := mX10_does) (As := [fz_i a1, fz_i a3]) (st := []) kLc28 rfl rfl vX10_does rfl rfl rfl rfl (Nat.le_of_ble_eq_true rfl) (Nat.le_of_ble_eq_true rfl) (by decide) (sX10_does h hI a1 a3 ) (fun H5 r6 q7 o8 => ?_)
  obtain ⟨hI9, hf10, y12, rfl, f11⟩ := q7
  clear o8
  have hf13 := fz_fr_tr hf hf10 (fz_su_all rfl)
  have hXd14 : fz_Xd H5 := fz_Xd_eq (funext fun s => hf10 80 s rfl) hXd
  have hXh15 : fz_Xh H5 := fz_Xh_eq (funext fun s => hf10 83 s rfl) hXh
  have hXw16 : fz_Xw H5 := fz_Xw_eq (hf10 53 19 rfl) (funext fun s => hf10 66 s rfl) (funext fun s => hf10 67 s rfl) (funext fun s => hf10 68 s rfl) (funext fun s => hf10 69 s rfl) hXw
  have hX17 : fz_Xc H5 := fz_Xc_fr hf10 rfl hX
  have t18 : H5 53 10 = h 53 10 := hf10 53 10 rfl
  have t19 : H5 53 41 = h 53 41 := hf10 53 41 rfl
  have t20 : H5 53 42 = h 53 42 := hf10 53 42 rfl
  have t21 : H5 44 2 = h 44 2 := hf10 44 2 rfl
  have t22 : H5 53 44 = h 53 44 := hf10 53 44 rfl
  have t23 : H5 20 2 = h 20 2 := hf10 20 2 rfl
  have t24 : H5 53 16 = h 53 16 := hf10 53 16 rfl
  have t25 : H5 1 7 = h 1 7 := hf10 1 7 rfl
  have t26 : H5 53 0 = h 53 0 := hf10 53 0 rfl
  have t27 : H5 1 8 = h 1 8 := hf10 1 8 rfl
  have t28 : H5 53 2 = h 53 2 := hf10 53 2 rfl
  refine fz_pop rfl kLc28 rfl ?_
  refine fz_aload_n kLc28 rfl rfl ?_
  refine fz_aload_n kLc28 rfl rfl ?_
  refine fz_iload_n kLc28 rfl rfl ?_
  refine fz_iconst ⟨by decide, by decide⟩ kLc28 rfl ?_
  refine fz_iaddN kLc28 rfl (by omega) ?_
  obtain ⟨a29, e30⟩ : ∃ z, h 200 ((i + 1)).toNat = z := ⟨_, rfl⟩
  refine fz_taldV (v := a29) kLc28 rfl ⟨by decide, by decide⟩ (by omega) (by rw [hf13 200 _ rfl]; omega) ((hf13 200 _ rfl).trans e30) ?_
  refine fz_aload_n kLc28 rfl rfl ?_
  refine fz_iload_n kLc28 rfl rfl ?_
  refine fz_iconst ⟨by decide, by decide⟩ kLc28 rfl ?_
  refine fz_iaddN kLc28 rfl (by omega) ?_
  obtain ⟨a31, e32⟩ : ∃ z, h 200 ((i + 2)).toNat = z := ⟨_, rfl⟩
  refine fz_taldV (v := a31) kLc28 rfl ⟨by decide, by decide⟩ (by omega) (by rw [hf13 200 _ rfl]; omega) ((hf13 200 _ rfl).trans e32) ?_
  have b33 : 0 ≤ H5 53 10 ∧ H5 53 10 ≤ 11 := hI9.1 53 _
  refine fz_callV (d' := 3) (M' := mX11_does) (As := [fz_i a29, fz_i a31]) (st := []) kLc28 rfl rfl vX11_does rfl rfl rfl rfl (Nat.le_of_ble_eq_true rfl) (Nat.le_of_ble_eq_true rfl) (by decide) (sX11_does H5 hI9 a29 a31 (by omega)) (fun H34 r35 q36 o37 => ?_)
  obtain ⟨hI38, hf39, y42, rfl, f40, f41⟩ := q36
  clear o37
  have hf43 := fz_fr_tr hf13 hf39 (fz_su_all rfl)
  have hXd44 : fz_Xd H34 := fz_Xd_eq (funext fun s => hf39 80 s rfl) hXd14
  have hXh45 : fz_Xh H34 := fz_Xh_eq (funext fun s => hf39 83 s rfl) hXh15
  have hXw46 : fz_Xw H34 := fz_Xw_eq (hf39 53 19 rfl) (funext fun s => hf39 66 s rfl) (funext fun s => hf39 67 s rfl) (funext fun s => hf39 68 s rfl) (funext fun s => hf39 69 s rfl) hXw16
  have hX47 : fz_Xc H34 := fz_Xc_fr hf39 rfl hX17
  have t48 : H34 53 41 = H5 53 41 := hf39 53 41 rfl
  have t49 : H34 53 42 = H5 53 42 := hf39 53 42 rfl
  have t50 : H34 44 2 = H5 44 2 := hf39 44 2 rfl
  have t51 : H34 53 44 = H5 53 44 := hf39 53 44 rfl
  have t52 : H34 20 2 = H5 20 2 := hf39 20 2 rfl
  have t53 : H34 53 16 = H5 53 16 := hf39 53 16 rfl
  have t54 : H34 1 7 = H5 1 7 := hf39 1 7 rfl
  have t55 : H34 53 0 = H5 53 0 := hf39 53 0 rfl
  have t56 : H34 1 8 = H5 1 8 := hf39 1 8 rfl
  have t57 : H34 53 2 = H5 53 2 := hf39 53 2 rfl
  refine fz_pop rfl kLc28 rfl ?_
  refine fz_goto (tgt := 1816) kLc28 rfl (by decide) ?_
  exact K H34 ⟨hI38, hX47, hXd44, hXh45, hXw46, by omega, by omega, by omega, by omega, by omega, by omega⟩ (funext fun s => hf43 200 s rfl)
def mLc29 : fz_M := (yL_law, code, 4, (some .boolean), [(1351, .aload_n 1, 1, 0, 0, 0), (1352, .aload_n 0, 1, 0, 0, 0), (1353, .iload_n 3, 1, 0, 0, 0), (1354, .iconst 1, 1, 0, 0, 0), (1355, .iadd, 1, 0, 0, 0), (1356, .iaload, 1, 0, 0, 0), (1357, .invokevirtual 135, 3, 4171, 54, 0), (1360, .pop, 1, 0, 0, 0), (1361, .aload_n 2, 1, 0, 0, 0), (1362, .aload_n 0, 1, 0, 0, 0), (1363, .iload_n 3, 1, 0, 0, 0), (1364, .iconst 1, 1, 0, 0, 0), (1365, .iadd, 1, 0, 0, 0), (1366, .iaload, 1, 0, 0, 0), (1367, .invokevirtual 138, 3, 7121, 146, 0), (1370, .pop, 1, 0, 0, 0), (1371, .goto 445, 3, 0, 0, 0)])
set_option maxRecDepth 100000 in
theorem kLc29 : fz_okM mLc29 = true := by decide +kernel
set_option maxHeartbeats 1000000 in
set_option maxRecDepth 100000 in
theorem lc29 (h : fz_H) (hI : fz_Iv h) (hX : fz_Xc h) (hXd : fz_Xd h) (hXh : fz_Xh h) (hXw : fz_Xw h) (hv1 : h 53 10 ≤ 10) (hv2 : h 53 42 ≤ h 53 41) (hr0 : h 44 2 = h 53 44) (hr1 : h 20 2 = h 53 16) (hr2 : h 1 7 = h 53 0) (hr3 : h 1 8 = h 53 2) (i : Int) (hi : 0 ≤ i ∧ i + 6 ≤ h 200 100000 ∧ h 200 100000 ≤ 3072) {Q : fz_H → Option fz_V → Prop} (K : ∀ H : fz_H, fz_Gd H → H 200 = h 200 → fz_R 47 mLe 1816 [(3, fz_i i), (0, fz_r 200), (1, fz_r 0), (2, fz_r 53)] [] H Q) : fz_R 47 mLc29 1351 [(3, fz_i i), (0, fz_r 200), (1, fz_r 0), (2, fz_r 53)] [] h Q := by
  have hf : fz_fr fz_all h h := fz_fr_rf
  refine fz_aload_n kLc29 rfl rfl ?_
  refine fz_aload_n kLc29 rfl rfl ?_
  refine fz_iload_n kLc29 rfl rfl ?_
  refine fz_iconst ⟨by decide, by decide⟩ kLc29 rfl ?_
  refine fz_iaddN kLc29 rfl (by omega) ?_
  obtain ⟨a1, e2⟩ : ∃ z, h 200 ((i + 1)).toNat = z := ⟨_, rfl⟩
  refine fz_taldV (v := a1) kLc29 rfl ⟨by decide, by decide⟩ (by omega) (by omega) e2 ?_
  refine fz_callV (d' := 0) (M' := mX10_led) (As := [fz_i a1]) (st := []) kLc29 rfl rfl vX10_led rfl rfl rfl rfl (Nat.le_of_ble_eq_true rfl) (Nat.le_of_ble_eq_true rfl) (by decide) (sX10_led h hI a1 ) (fun H3 r4 q5 o6 => ?_)
  obtain ⟨e7, y9, rfl, f8⟩ := q5
  subst H3
  clear o6
  refine fz_pop rfl kLc29 rfl ?_
  refine fz_aload_n kLc29 rfl rfl ?_
  refine fz_aload_n kLc29 rfl rfl ?_
  refine fz_iload_n kLc29 rfl rfl ?_
  refine fz_iconst ⟨by decide, by decide⟩ kLc29 rfl ?_
  refine fz_iaddN kLc29 rfl (by omega) ?_
  obtain ⟨a10, e11⟩ : ∃ z, h 200 ((i + 1)).toNat = z := ⟨_, rfl⟩
  refine fz_taldV (v := a10) kLc29 rfl ⟨by decide, by decide⟩ (by omega) (by omega) e11 ?_
  refine fz_callV (d' := 1) (M' := mX11_led) (As := [fz_i a10]) (st := []) kLc29 rfl rfl vX11_led rfl rfl rfl rfl (Nat.le_of_ble_eq_true rfl) (Nat.le_of_ble_eq_true rfl) (by decide) (sX11_led h hI a10 ) (fun H12 r13 q14 o15 => ?_)
  obtain ⟨e16, y18, rfl, f17⟩ := q14
  subst H12
  clear o15
  refine fz_pop rfl kLc29 rfl ?_
  refine fz_goto (tgt := 1816) kLc29 rfl (by decide) ?_
  exact K h ⟨hI, hX, hXd, hXh, hXw, by omega, by omega, by omega, by omega, by omega, by omega⟩ rfl
def mLc30 : fz_M := (yL_law, code, 4, (some .boolean), [(1374, .aload_n 1, 1, 0, 0, 0), (1375, .invokevirtual 139, 3, 4175, 39, 0), (1378, .pop, 1, 0, 0, 0), (1379, .aload_n 2, 1, 0, 0, 0), (1380, .invokevirtual 142, 3, 7125, 114, 0), (1383, .pop, 1, 0, 0, 0), (1384, .goto 432, 3, 0, 0, 0)])
set_option maxRecDepth 100000 in
theorem kLc30 : fz_okM mLc30 = true := by decide +kernel
set_option maxHeartbeats 1000000 in
set_option maxRecDepth 100000 in
theorem lc30 (h : fz_H) (hI : fz_Iv h) (hX : fz_Xc h) (hXd : fz_Xd h) (hXh : fz_Xh h) (hXw : fz_Xw h) (hv1 : h 53 10 ≤ 10) (hv2 : h 53 42 ≤ h 53 41) (hr0 : h 44 2 = h 53 44) (hr1 : h 20 2 = h 53 16) (hr2 : h 1 7 = h 53 0) (hr3 : h 1 8 = h 53 2) (i : Int) (hi : 0 ≤ i ∧ i + 6 ≤ h 200 100000 ∧ h 200 100000 ≤ 3072) {Q : fz_H → Option fz_V → Prop} (K : ∀ H : fz_H, fz_Gd H → H 200 = h 200 → fz_R 47 mLe 1816 [(3, fz_i i), (0, fz_r 200), (1, fz_r 0), (2, fz_r 53)] [] H Q) : fz_R 47 mLc30 1374 [(3, fz_i i), (0, fz_r 200), (1, fz_r 0), (2, fz_r 53)] [] h Q := by
  have hf : fz_fr fz_all h h := fz_fr_rf
  refine fz_aload_n kLc30 rfl rfl ?_
  refine fz_callV (d' := 2) (M' := mX10_image) (As := []) (st := []) kLc30 rfl rfl vX10_image rfl rfl rfl rfl (Nat.le_of_ble_eq_true rfl) (Nat.le_of_ble_eq_true rfl) (by decide) (sX10_image h hI  ) (fun H1 r2 q3 o4 => ?_)
  obtain ⟨hI5, hf6, y8, rfl, f7⟩ := q3
  clear o4
  have hf9 := fz_fr_tr hf hf6 (fz_su_all rfl)
  have hXd10 : fz_Xd H1 := fz_Xd_eq (funext fun s => hf6 80 s rfl) hXd
  have hXh11 : fz_Xh H1 := fz_Xh_eq (funext fun s => hf6 83 s rfl) hXh
  have hXw12 : fz_Xw H1 := fz_Xw_eq (hf6 53 19 rfl) (funext fun s => hf6 66 s rfl) (funext fun s => hf6 67 s rfl) (funext fun s => hf6 68 s rfl) (funext fun s => hf6 69 s rfl) hXw
  have hX13 : fz_Xc H1 := fz_Xc_fr hf6 rfl hX
  have t14 : H1 53 10 = h 53 10 := hf6 53 10 rfl
  have t15 : H1 53 41 = h 53 41 := hf6 53 41 rfl
  have t16 : H1 53 42 = h 53 42 := hf6 53 42 rfl
  have t17 : H1 44 2 = h 44 2 := hf6 44 2 rfl
  have t18 : H1 53 44 = h 53 44 := hf6 53 44 rfl
  have t19 : H1 20 2 = h 20 2 := hf6 20 2 rfl
  have t20 : H1 53 16 = h 53 16 := hf6 53 16 rfl
  have t21 : H1 1 7 = h 1 7 := hf6 1 7 rfl
  have t22 : H1 53 0 = h 53 0 := hf6 53 0 rfl
  have t23 : H1 1 8 = h 1 8 := hf6 1 8 rfl
  have t24 : H1 53 2 = h 53 2 := hf6 53 2 rfl
  refine fz_pop rfl kLc30 rfl ?_
  refine fz_aload_n kLc30 rfl rfl ?_
  refine fz_callV (d' := 0) (M' := mX11_image) (As := []) (st := []) kLc30 rfl rfl vX11_image rfl rfl rfl rfl (Nat.le_of_ble_eq_true rfl) (Nat.le_of_ble_eq_true rfl) (by decide) (sX11_image H1 hI5  ) (fun H25 r26 q27 o28 => ?_)
  obtain ⟨hI29, hf30, y32, rfl, f31⟩ := q27
  clear o28
  have hf33 := fz_fr_tr hf9 hf30 (fz_su_all rfl)
  have hXd34 : fz_Xd H25 := fz_Xd_eq (funext fun s => hf30 80 s rfl) hXd10
  have hXh35 : fz_Xh H25 := fz_Xh_eq (funext fun s => hf30 83 s rfl) hXh11
  have hXw36 : fz_Xw H25 := fz_Xw_eq (hf30 53 19 rfl) (funext fun s => hf30 66 s rfl) (funext fun s => hf30 67 s rfl) (funext fun s => hf30 68 s rfl) (funext fun s => hf30 69 s rfl) hXw12
  have hX37 : fz_Xc H25 := fz_Xc_fr hf30 rfl hX13
  have t38 : H25 53 10 = H1 53 10 := hf30 53 10 rfl
  have t39 : H25 53 41 = H1 53 41 := hf30 53 41 rfl
  have t40 : H25 53 42 = H1 53 42 := hf30 53 42 rfl
  have t41 : H25 44 2 = H1 44 2 := hf30 44 2 rfl
  have t42 : H25 53 44 = H1 53 44 := hf30 53 44 rfl
  have t43 : H25 20 2 = H1 20 2 := hf30 20 2 rfl
  have t44 : H25 53 16 = H1 53 16 := hf30 53 16 rfl
  have t45 : H25 1 7 = H1 1 7 := hf30 1 7 rfl
  have t46 : H25 53 0 = H1 53 0 := hf30 53 0 rfl
  have t47 : H25 1 8 = H1 1 8 := hf30 1 8 rfl
  have t48 : H25 53 2 = H1 53 2 := hf30 53 2 rfl
  refine fz_pop rfl kLc30 rfl ?_
  refine fz_goto (tgt := 1816) kLc30 rfl (by decide) ?_
  exact K H25 ⟨hI29, hX37, hXd34, hXh35, hXw36, by omega, by omega, by omega, by omega, by omega, by omega⟩ (funext fun s => hf33 200 s rfl)
def mLc31 : fz_M := (yL_law, code, 4, (some .boolean), [(1387, .aload_n 1, 1, 0, 0, 0), (1388, .invokevirtual 143, 3, 4184, 19, 0), (1391, .pop, 1, 0, 0, 0), (1392, .aload_n 2, 1, 0, 0, 0), (1393, .invokevirtual 146, 3, 7129, 86, 0), (1396, .pop, 1, 0, 0, 0), (1397, .goto 419, 3, 0, 0, 0)])
set_option maxRecDepth 100000 in
theorem kLc31 : fz_okM mLc31 = true := by decide +kernel
set_option maxHeartbeats 1000000 in
set_option maxRecDepth 100000 in
theorem lc31 (h : fz_H) (hI : fz_Iv h) (hX : fz_Xc h) (hXd : fz_Xd h) (hXh : fz_Xh h) (hXw : fz_Xw h) (hv1 : h 53 10 ≤ 10) (hv2 : h 53 42 ≤ h 53 41) (hr0 : h 44 2 = h 53 44) (hr1 : h 20 2 = h 53 16) (hr2 : h 1 7 = h 53 0) (hr3 : h 1 8 = h 53 2) (i : Int) (hi : 0 ≤ i ∧ i + 6 ≤ h 200 100000 ∧ h 200 100000 ≤ 3072) {Q : fz_H → Option fz_V → Prop} (K : ∀ H : fz_H, fz_Gd H → H 200 = h 200 → fz_R 47 mLe 1816 [(3, fz_i i), (0, fz_r 200), (1, fz_r 0), (2, fz_r 53)] [] H Q) : fz_R 47 mLc31 1387 [(3, fz_i i), (0, fz_r 200), (1, fz_r 0), (2, fz_r 53)] [] h Q := by
  have hf : fz_fr fz_all h h := fz_fr_rf
  refine fz_aload_n kLc31 rfl rfl ?_
  refine fz_callV (d' := 2) (M' := mX10_back) (As := []) (st := []) kLc31 rfl rfl vX10_back rfl rfl rfl rfl (Nat.le_of_ble_eq_true rfl) (Nat.le_of_ble_eq_true rfl) (by decide) (sX10_back h hI  ) (fun H1 r2 q3 o4 => ?_)
  obtain ⟨hI5, hf6, y8, rfl, f7⟩ := q3
  clear o4
  have hf9 := fz_fr_tr hf hf6 (fz_su_all rfl)
  have hXd10 : fz_Xd H1 := fz_Xd_eq (funext fun s => hf6 80 s rfl) hXd
  have hXh11 : fz_Xh H1 := fz_Xh_eq (funext fun s => hf6 83 s rfl) hXh
  have hXw12 : fz_Xw H1 := fz_Xw_eq (hf6 53 19 rfl) (funext fun s => hf6 66 s rfl) (funext fun s => hf6 67 s rfl) (funext fun s => hf6 68 s rfl) (funext fun s => hf6 69 s rfl) hXw
  have hX13 : fz_Xc H1 := fz_Xc_fr hf6 rfl hX
  have t14 : H1 53 10 = h 53 10 := hf6 53 10 rfl
  have t15 : H1 53 41 = h 53 41 := hf6 53 41 rfl
  have t16 : H1 53 42 = h 53 42 := hf6 53 42 rfl
  have t17 : H1 44 2 = h 44 2 := hf6 44 2 rfl
  have t18 : H1 53 44 = h 53 44 := hf6 53 44 rfl
  have t19 : H1 20 2 = h 20 2 := hf6 20 2 rfl
  have t20 : H1 53 16 = h 53 16 := hf6 53 16 rfl
  have t21 : H1 1 7 = h 1 7 := hf6 1 7 rfl
  have t22 : H1 53 0 = h 53 0 := hf6 53 0 rfl
  have t23 : H1 1 8 = h 1 8 := hf6 1 8 rfl
  have t24 : H1 53 2 = h 53 2 := hf6 53 2 rfl
  refine fz_pop rfl kLc31 rfl ?_
  refine fz_aload_n kLc31 rfl rfl ?_
  refine fz_callV (d' := 0) (M' := mX11_back) (As := []) (st := []) kLc31 rfl rfl vX11_back rfl rfl rfl rfl (Nat.le_of_ble_eq_true rfl) (Nat.le_of_ble_eq_true rfl) (by decide) (sX11_back H1 hI5  ) (fun H25 r26 q27 o28 => ?_)
  obtain ⟨hI29, hf30, y32, rfl, f31⟩ := q27
  clear o28
  have hf33 := fz_fr_tr hf9 hf30 (fz_su_all rfl)
  have hXd34 : fz_Xd H25 := fz_Xd_eq (funext fun s => hf30 80 s rfl) hXd10
  have hXh35 : fz_Xh H25 := fz_Xh_eq (funext fun s => hf30 83 s rfl) hXh11
  have hXw36 : fz_Xw H25 := fz_Xw_eq (hf30 53 19 rfl) (funext fun s => hf30 66 s rfl) (funext fun s => hf30 67 s rfl) (funext fun s => hf30 68 s rfl) (funext fun s => hf30 69 s rfl) hXw12
  have hX37 : fz_Xc H25 := fz_Xc_fr hf30 rfl hX13
  have t38 : H25 53 10 = H1 53 10 := hf30 53 10 rfl
  have t39 : H25 53 41 = H1 53 41 := hf30 53 41 rfl
  have t40 : H25 53 42 = H1 53 42 := hf30 53 42 rfl
  have t41 : H25 44 2 = H1 44 2 := hf30 44 2 rfl
  have t42 : H25 53 44 = H1 53 44 := hf30 53 44 rfl
  have t43 : H25 20 2 = H1 20 2 := hf30 20 2 rfl
  have t44 : H25 53 16 = H1 53 16 := hf30 53 16 rfl
  have t45 : H25 1 7 = H1 1 7 := hf30 1 7 rfl
  have t46 : H25 53 0 = H1 53 0 := hf30 53 0 rfl
  have t47 : H25 1 8 = H1 1 8 := hf30 1 8 rfl
  have t48 : H25 53 2 = H1 53 2 := hf30 53 2 rfl
  refine fz_pop rfl kLc31 rfl ?_
  refine fz_goto (tgt := 1816) kLc31 rfl (by decide) ?_
  exact K H25 ⟨hI29, hX37, hXd34, hXh35, hXw36, by omega, by omega, by omega, by omega, by omega, by omega⟩ (funext fun s => hf33 200 s rfl)
def mLc32 : fz_M := (yL_law, code, 4, (some .boolean), [(1400, .aload_n 1, 1, 0, 0, 0), (1401, .invokevirtual 147, 3, 4192, 76, 0), (1404, .pop, 1, 0, 0, 0), (1405, .aload_n 2, 1, 0, 0, 0), (1406, .invokevirtual 150, 3, 6109, 180, 0), (1409, .pop, 1, 0, 0, 0), (1410, .goto 406, 3, 0, 0, 0)])
set_option maxRecDepth 100000 in
theorem kLc32 : fz_okM mLc32 = true := by decide +kernel
set_option maxHeartbeats 1000000 in
set_option maxRecDepth 100000 in
theorem lc32 (h : fz_H) (hI : fz_Iv h) (hX : fz_Xc h) (hXd : fz_Xd h) (hXh : fz_Xh h) (hXw : fz_Xw h) (hv1 : h 53 10 ≤ 10) (hv2 : h 53 42 ≤ h 53 41) (hr0 : h 44 2 = h 53 44) (hr1 : h 20 2 = h 53 16) (hr2 : h 1 7 = h 53 0) (hr3 : h 1 8 = h 53 2) (i : Int) (hi : 0 ≤ i ∧ i + 6 ≤ h 200 100000 ∧ h 200 100000 ≤ 3072) {Q : fz_H → Option fz_V → Prop} (K : ∀ H : fz_H, fz_Gd H → H 200 = h 200 → fz_R 47 mLe 1816 [(3, fz_i i), (0, fz_r 200), (1, fz_r 0), (2, fz_r 53)] [] H Q) : fz_R 47 mLc32 1400 [(3, fz_i i), (0, fz_r 200), (1, fz_r 0), (2, fz_r 53)] [] h Q := by
  have hf : fz_fr fz_all h h := fz_fr_rf
  refine fz_aload_n kLc32 rfl rfl ?_
  refine fz_callV (d' := 4) (M' := mX10_undo) (As := []) (st := []) kLc32 rfl rfl vX10_undo rfl rfl rfl rfl (Nat.le_of_ble_eq_true rfl) (Nat.le_of_ble_eq_true rfl) (by decide) (sX10_undo h hI  (hX)) (fun H1 r2 q3 o4 => ?_)
  obtain ⟨hI5, hf6, hX7, y9, rfl, f8⟩ := q3
  clear o4
  have hf10 := fz_fr_tr hf hf6 (fz_su_all rfl)
  have hXd11 : fz_Xd H1 := fz_Xd_eq (funext fun s => hf6 80 s rfl) hXd
  have hXh12 : fz_Xh H1 := fz_Xh_eq (funext fun s => hf6 83 s rfl) hXh
  have hXw13 : fz_Xw H1 := fz_Xw_eq (hf6 53 19 rfl) (funext fun s => hf6 66 s rfl) (funext fun s => hf6 67 s rfl) (funext fun s => hf6 68 s rfl) (funext fun s => hf6 69 s rfl) hXw
  have t14 : H1 53 10 = h 53 10 := hf6 53 10 rfl
  have t15 : H1 53 41 = h 53 41 := hf6 53 41 rfl
  have t16 : H1 53 42 = h 53 42 := hf6 53 42 rfl
  have t17 : H1 44 2 = h 44 2 := hf6 44 2 rfl
  have t18 : H1 53 44 = h 53 44 := hf6 53 44 rfl
  have t19 : H1 20 2 = h 20 2 := hf6 20 2 rfl
  have t20 : H1 53 16 = h 53 16 := hf6 53 16 rfl
  have t21 : H1 1 7 = h 1 7 := hf6 1 7 rfl
  have t22 : H1 53 0 = h 53 0 := hf6 53 0 rfl
  have t23 : H1 1 8 = h 1 8 := hf6 1 8 rfl
  have t24 : H1 53 2 = h 53 2 := hf6 53 2 rfl
  refine fz_pop rfl kLc32 rfl ?_
  refine fz_aload_n kLc32 rfl rfl ?_
  have b25 : 0 ≤ H1 53 42 ∧ H1 53 42 ≤ 40 := hI5.1 53 _
  have b26 : 0 ≤ H1 53 41 ∧ H1 53 41 ≤ 40 := hI5.1 53 _
  refine fz_callV (d' := 1) (M' := mX11_undo) (As := []) (st := []) kLc32 rfl rfl vX11_undo rfl rfl rfl rfl (Nat.le_of_ble_eq_true rfl) (Nat.le_of_ble_eq_true rfl) (by decide) (sX11_undo H1 hI5  hXd11 (by omega)) (fun H27 r28 q29 o30 => ?_)
  obtain ⟨hI31, hf32, hXd33, y36, rfl, f34, f35⟩ := q29
  clear o30
  have hf37 := fz_fr_tr hf10 hf32 (fz_su_all rfl)
  have hXh38 : fz_Xh H27 := fz_Xh_eq (funext fun s => hf32 83 s rfl) hXh12
  have hXw39 : fz_Xw H27 := fz_Xw_eq (hf32 53 19 rfl) (funext fun s => hf32 66 s rfl) (funext fun s => hf32 67 s rfl) (funext fun s => hf32 68 s rfl) (funext fun s => hf32 69 s rfl) hXw13
  have hX40 : fz_Xc H27 := fz_Xc_fr hf32 rfl hX7
  have t41 : H27 53 10 = H1 53 10 := hf32 53 10 rfl
  have t42 : H27 53 41 = H1 53 41 := hf32 53 41 rfl
  have t43 : H27 44 2 = H1 44 2 := hf32 44 2 rfl
  have t44 : H27 53 44 = H1 53 44 := hf32 53 44 rfl
  have t45 : H27 20 2 = H1 20 2 := hf32 20 2 rfl
  have t46 : H27 53 16 = H1 53 16 := hf32 53 16 rfl
  have t47 : H27 1 7 = H1 1 7 := hf32 1 7 rfl
  have t48 : H27 53 0 = H1 53 0 := hf32 53 0 rfl
  have t49 : H27 1 8 = H1 1 8 := hf32 1 8 rfl
  have t50 : H27 53 2 = H1 53 2 := hf32 53 2 rfl
  refine fz_pop rfl kLc32 rfl ?_
  refine fz_goto (tgt := 1816) kLc32 rfl (by decide) ?_
  exact K H27 ⟨hI31, hX40, hXd33, hXh38, hXw39, by omega, by omega, by omega, by omega, by omega, by omega⟩ (funext fun s => hf37 200 s rfl)
def mLc33 : fz_M := (yL_law, code, 4, (some .boolean), [(1413, .aload_n 1, 1, 0, 0, 0), (1414, .invokevirtual 151, 3, 4200, 64, 0), (1417, .pop, 1, 0, 0, 0), (1418, .aload_n 2, 1, 0, 0, 0), (1419, .invokevirtual 154, 3, 6113, 165, 0), (1422, .pop, 1, 0, 0, 0), (1423, .goto 393, 3, 0, 0, 0)])
set_option maxRecDepth 100000 in
theorem kLc33 : fz_okM mLc33 = true := by decide +kernel
set_option maxHeartbeats 1000000 in
set_option maxRecDepth 100000 in
theorem lc33 (h : fz_H) (hI : fz_Iv h) (hX : fz_Xc h) (hXd : fz_Xd h) (hXh : fz_Xh h) (hXw : fz_Xw h) (hv1 : h 53 10 ≤ 10) (hv2 : h 53 42 ≤ h 53 41) (hr0 : h 44 2 = h 53 44) (hr1 : h 20 2 = h 53 16) (hr2 : h 1 7 = h 53 0) (hr3 : h 1 8 = h 53 2) (i : Int) (hi : 0 ≤ i ∧ i + 6 ≤ h 200 100000 ∧ h 200 100000 ≤ 3072) {Q : fz_H → Option fz_V → Prop} (K : ∀ H : fz_H, fz_Gd H → H 200 = h 200 → fz_R 47 mLe 1816 [(3, fz_i i), (0, fz_r 200), (1, fz_r 0), (2, fz_r 53)] [] H Q) : fz_R 47 mLc33 1413 [(3, fz_i i), (0, fz_r 200), (1, fz_r 0), (2, fz_r 53)] [] h Q := by
  have hf : fz_fr fz_all h h := fz_fr_rf
  refine fz_aload_n kLc33 rfl rfl ?_
  refine fz_callV (d' := 4) (M' := mX10_redo) (As := []) (st := []) kLc33 rfl rfl vX10_redo rfl rfl rfl rfl (Nat.le_of_ble_eq_true rfl) (Nat.le_of_ble_eq_true rfl) (by decide) (sX10_redo h hI  (hX)) (fun H1 r2 q3 o4 => ?_)
  obtain ⟨hI5, hf6, hX7, y9, rfl, f8⟩ := q3
  clear o4
  have hf10 := fz_fr_tr hf hf6 (fz_su_all rfl)
  have hXd11 : fz_Xd H1 := fz_Xd_eq (funext fun s => hf6 80 s rfl) hXd
  have hXh12 : fz_Xh H1 := fz_Xh_eq (funext fun s => hf6 83 s rfl) hXh
  have hXw13 : fz_Xw H1 := fz_Xw_eq (hf6 53 19 rfl) (funext fun s => hf6 66 s rfl) (funext fun s => hf6 67 s rfl) (funext fun s => hf6 68 s rfl) (funext fun s => hf6 69 s rfl) hXw
  have t14 : H1 53 10 = h 53 10 := hf6 53 10 rfl
  have t15 : H1 53 41 = h 53 41 := hf6 53 41 rfl
  have t16 : H1 53 42 = h 53 42 := hf6 53 42 rfl
  have t17 : H1 44 2 = h 44 2 := hf6 44 2 rfl
  have t18 : H1 53 44 = h 53 44 := hf6 53 44 rfl
  have t19 : H1 20 2 = h 20 2 := hf6 20 2 rfl
  have t20 : H1 53 16 = h 53 16 := hf6 53 16 rfl
  have t21 : H1 1 7 = h 1 7 := hf6 1 7 rfl
  have t22 : H1 53 0 = h 53 0 := hf6 53 0 rfl
  have t23 : H1 1 8 = h 1 8 := hf6 1 8 rfl
  have t24 : H1 53 2 = h 53 2 := hf6 53 2 rfl
  refine fz_pop rfl kLc33 rfl ?_
  refine fz_aload_n kLc33 rfl rfl ?_
  have b25 : 0 ≤ H1 53 42 ∧ H1 53 42 ≤ 40 := hI5.1 53 _
  have b26 : 0 ≤ H1 53 41 ∧ H1 53 41 ≤ 40 := hI5.1 53 _
  refine fz_callV (d' := 1) (M' := mX11_redo) (As := []) (st := []) kLc33 rfl rfl vX11_redo rfl rfl rfl rfl (Nat.le_of_ble_eq_true rfl) (Nat.le_of_ble_eq_true rfl) (by decide) (sX11_redo H1 hI5  hXd11 (by omega)) (fun H27 r28 q29 o30 => ?_)
  obtain ⟨hI31, hf32, hXd33, y36, rfl, f34, f35⟩ := q29
  clear o30
  have hf37 := fz_fr_tr hf10 hf32 (fz_su_all rfl)
  have hXh38 : fz_Xh H27 := fz_Xh_eq (funext fun s => hf32 83 s rfl) hXh12
  have hXw39 : fz_Xw H27 := fz_Xw_eq (hf32 53 19 rfl) (funext fun s => hf32 66 s rfl) (funext fun s => hf32 67 s rfl) (funext fun s => hf32 68 s rfl) (funext fun s => hf32 69 s rfl) hXw13
  have hX40 : fz_Xc H27 := fz_Xc_fr hf32 rfl hX7
  have t41 : H27 53 10 = H1 53 10 := hf32 53 10 rfl
  have t42 : H27 53 41 = H1 53 41 := hf32 53 41 rfl
  have t43 : H27 44 2 = H1 44 2 := hf32 44 2 rfl
  have t44 : H27 53 44 = H1 53 44 := hf32 53 44 rfl
  have t45 : H27 20 2 = H1 20 2 := hf32 20 2 rfl
  have t46 : H27 53 16 = H1 53 16 := hf32 53 16 rfl
  have t47 : H27 1 7 = H1 1 7 := hf32 1 7 rfl
  have t48 : H27 53 0 = H1 53 0 := hf32 53 0 rfl
  have t49 : H27 1 8 = H1 1 8 := hf32 1 8 rfl
  have t50 : H27 53 2 = H1 53 2 := hf32 53 2 rfl
  refine fz_pop rfl kLc33 rfl ?_
  refine fz_goto (tgt := 1816) kLc33 rfl (by decide) ?_
  exact K H27 ⟨hI31, hX40, hXd33, hXh38, hXw39, by omega, by omega, by omega, by omega, by omega, by omega⟩ (funext fun s => hf37 200 s rfl)
def mLc34 : fz_M := (yL_law, code, 4, (some .boolean), [(1426, .aload_n 1, 1, 0, 0, 0), (1427, .aload_n 0, 1, 0, 0, 0), (1428, .iload_n 3, 1, 0, 0, 0), (1429, .iconst 1, 1, 0, 0, 0), (1430, .iadd, 1, 0, 0, 0), (1431, .iaload, 1, 0, 0, 0), (1432, .invokevirtual 155, 3, 4208, 21, 0), (1435, .pop, 1, 0, 0, 0), (1436, .aload_n 2, 1, 0, 0, 0), (1437, .aload_n 0, 1, 0, 0, 0), (1438, .iload_n 3, 1, 0, 0, 0), (1439, .iconst 1, 1, 0, 0, 0), (1440, .iadd, 1, 0, 0, 0), (1441, .iaload, 1, 0, 0, 0), (1442, .invokevirtual 158, 3, 7133, 88, 0), (1445, .pop, 1, 0, 0, 0), (1446, .goto 370, 3, 0, 0, 0)])
set_option maxRecDepth 100000 in
theorem kLc34 : fz_okM mLc34 = true := by decide +kernel
set_option maxHeartbeats 1000000 in
set_option maxRecDepth 100000 in
theorem lc34 (h : fz_H) (hI : fz_Iv h) (hX : fz_Xc h) (hXd : fz_Xd h) (hXh : fz_Xh h) (hXw : fz_Xw h) (hv1 : h 53 10 ≤ 10) (hv2 : h 53 42 ≤ h 53 41) (hr0 : h 44 2 = h 53 44) (hr1 : h 20 2 = h 53 16) (hr2 : h 1 7 = h 53 0) (hr3 : h 1 8 = h 53 2) (i : Int) (hi : 0 ≤ i ∧ i + 6 ≤ h 200 100000 ∧ h 200 100000 ≤ 3072) {Q : fz_H → Option fz_V → Prop} (K : ∀ H : fz_H, fz_Gd H → H 200 = h 200 → fz_R 47 mLe 1816 [(3, fz_i i), (0, fz_r 200), (1, fz_r 0), (2, fz_r 53)] [] H Q) : fz_R 47 mLc34 1426 [(3, fz_i i), (0, fz_r 200), (1, fz_r 0), (2, fz_r 53)] [] h Q := by
  have hf : fz_fr fz_all h h := fz_fr_rf
  refine fz_aload_n kLc34 rfl rfl ?_
  refine fz_aload_n kLc34 rfl rfl ?_
  refine fz_iload_n kLc34 rfl rfl ?_
  refine fz_iconst ⟨by decide, by decide⟩ kLc34 rfl ?_
  refine fz_iaddN kLc34 rfl (by omega) ?_
  obtain ⟨a1, e2⟩ : ∃ z, h 200 ((i + 1)).toNat = z := ⟨_, rfl⟩
  refine fz_taldV (v := a1) kLc34 rfl ⟨by decide, by decide⟩ (by omega) (by omega) e2 ?_
  have b3 : 0 ≤ h 44 2 ∧ h 44 2 ≤ 50 := hI.1 44 _
  refine fz_callV (d' := 1) (M' := mX10_body) (As := [fz_i a1]) (st := []) kLc34 rfl rfl vX10_body rfl rfl rfl rfl (Nat.le_of_ble_eq_true rfl) (Nat.le_of_ble_eq_true rfl) (by decide) (sX10_body h hI a1 ) (fun H4 r5 q6 o7 => ?_)
  obtain ⟨hI8, hf9, y12, rfl, f10, f11⟩ := q6
  clear o7
  have hf13 := fz_fr_tr hf hf9 (fz_su_all rfl)
  have hXd14 : fz_Xd H4 := fz_Xd_eq (funext fun s => hf9 80 s rfl) hXd
  have hXh15 : fz_Xh H4 := fz_Xh_eq (funext fun s => hf9 83 s rfl) hXh
  have hXw16 : fz_Xw H4 := fz_Xw_eq (hf9 53 19 rfl) (funext fun s => hf9 66 s rfl) (funext fun s => hf9 67 s rfl) (funext fun s => hf9 68 s rfl) (funext fun s => hf9 69 s rfl) hXw
  have hX17 : fz_Xc H4 := fz_Xc_fr hf9 rfl hX
  have t18 : H4 53 10 = h 53 10 := hf9 53 10 rfl
  have t19 : H4 53 41 = h 53 41 := hf9 53 41 rfl
  have t20 : H4 53 42 = h 53 42 := hf9 53 42 rfl
  have t21 : H4 53 44 = h 53 44 := hf9 53 44 rfl
  have t22 : H4 20 2 = h 20 2 := hf9 20 2 rfl
  have t23 : H4 53 16 = h 53 16 := hf9 53 16 rfl
  have t24 : H4 1 7 = h 1 7 := hf9 1 7 rfl
  have t25 : H4 53 0 = h 53 0 := hf9 53 0 rfl
  have t26 : H4 1 8 = h 1 8 := hf9 1 8 rfl
  have t27 : H4 53 2 = h 53 2 := hf9 53 2 rfl
  refine fz_pop rfl kLc34 rfl ?_
  refine fz_aload_n kLc34 rfl rfl ?_
  refine fz_aload_n kLc34 rfl rfl ?_
  refine fz_iload_n kLc34 rfl rfl ?_
  refine fz_iconst ⟨by decide, by decide⟩ kLc34 rfl ?_
  refine fz_iaddN kLc34 rfl (by omega) ?_
  obtain ⟨a28, e29⟩ : ∃ z, h 200 ((i + 1)).toNat = z := ⟨_, rfl⟩
  refine fz_taldV (v := a28) kLc34 rfl ⟨by decide, by decide⟩ (by omega) (by rw [hf13 200 _ rfl]; omega) ((hf13 200 _ rfl).trans e29) ?_
  have b30 : 0 ≤ H4 53 44 ∧ H4 53 44 ≤ 50 := hI8.1 53 _
  refine fz_callV (d' := 1) (M' := mX11_body) (As := [fz_i a28]) (st := []) kLc34 rfl rfl vX11_body rfl rfl rfl rfl (Nat.le_of_ble_eq_true rfl) (Nat.le_of_ble_eq_true rfl) (by decide) (sX11_body H4 hI8 a28 ) (fun H31 r32 q33 o34 => ?_)
  obtain ⟨hI35, hf36, y39, rfl, f37, f38⟩ := q33
  clear o34
  have hf40 := fz_fr_tr hf13 hf36 (fz_su_all rfl)
  have hXd41 : fz_Xd H31 := fz_Xd_eq (funext fun s => hf36 80 s rfl) hXd14
  have hXh42 : fz_Xh H31 := fz_Xh_eq (funext fun s => hf36 83 s rfl) hXh15
  have hXw43 : fz_Xw H31 := fz_Xw_eq (hf36 53 19 rfl) (funext fun s => hf36 66 s rfl) (funext fun s => hf36 67 s rfl) (funext fun s => hf36 68 s rfl) (funext fun s => hf36 69 s rfl) hXw16
  have hX44 : fz_Xc H31 := fz_Xc_fr hf36 rfl hX17
  have t45 : H31 53 10 = H4 53 10 := hf36 53 10 rfl
  have t46 : H31 53 41 = H4 53 41 := hf36 53 41 rfl
  have t47 : H31 53 42 = H4 53 42 := hf36 53 42 rfl
  have t48 : H31 44 2 = H4 44 2 := hf36 44 2 rfl
  have t49 : H31 20 2 = H4 20 2 := hf36 20 2 rfl
  have t50 : H31 53 16 = H4 53 16 := hf36 53 16 rfl
  have t51 : H31 1 7 = H4 1 7 := hf36 1 7 rfl
  have t52 : H31 53 0 = H4 53 0 := hf36 53 0 rfl
  have t53 : H31 1 8 = H4 1 8 := hf36 1 8 rfl
  have t54 : H31 53 2 = H4 53 2 := hf36 53 2 rfl
  refine fz_pop rfl kLc34 rfl ?_
  refine fz_goto (tgt := 1816) kLc34 rfl (by decide) ?_
  exact K H31 ⟨hI35, hX44, hXd41, hXh42, hXw43, by omega, by omega, by omega, by omega, by omega, by omega⟩ (funext fun s => hf40 200 s rfl)
def mLc35 : fz_M := (yL_law, code, 4, (some .boolean), [(1449, .aload_n 1, 1, 0, 0, 0), (1450, .aload_n 0, 1, 0, 0, 0), (1451, .iload_n 3, 1, 0, 0, 0), (1452, .iconst 1, 1, 0, 0, 0), (1453, .iadd, 1, 0, 0, 0), (1454, .iaload, 1, 0, 0, 0), (1455, .aload_n 0, 1, 0, 0, 0), (1456, .iload_n 3, 1, 0, 0, 0), (1457, .iconst 2, 1, 0, 0, 0), (1458, .iadd, 1, 0, 0, 0), (1459, .iaload, 1, 0, 0, 0), (1460, .aload_n 0, 1, 0, 0, 0), (1461, .iload_n 3, 1, 0, 0, 0), (1462, .iconst 3, 1, 0, 0, 0), (1463, .iadd, 1, 0, 0, 0), (1464, .iaload, 1, 0, 0, 0), (1465, .invokevirtual 159, 3, 4220, 13, 0), (1468, .pop, 1, 0, 0, 0), (1469, .aload_n 2, 1, 0, 0, 0), (1470, .aload_n 0, 1, 0, 0, 0), (1471, .iload_n 3, 1, 0, 0, 0), (1472, .iconst 1, 1, 0, 0, 0), (1473, .iadd, 1, 0, 0, 0), (1474, .iaload, 1, 0, 0, 0), (1475, .aload_n 0, 1, 0, 0, 0), (1476, .iload_n 3, 1, 0, 0, 0), (1477, .iconst 2, 1, 0, 0, 0), (1478, .iadd, 1, 0, 0, 0), (1479, .iaload, 1, 0, 0, 0), (1480, .aload_n 0, 1, 0, 0, 0), (1481, .iload_n 3, 1, 0, 0, 0), (1482, .iconst 3, 1, 0, 0, 0), (1483, .iadd, 1, 0, 0, 0), (1484, .iaload, 1, 0, 0, 0), (1485, .invokevirtual 162, 3, 7137, 81, 0), (1488, .pop, 1, 0, 0, 0), (1489, .goto 327, 3, 0, 0, 0)])
set_option maxRecDepth 100000 in
theorem kLc35 : fz_okM mLc35 = true := by decide +kernel
set_option maxHeartbeats 1000000 in
set_option maxRecDepth 100000 in
theorem lc35 (h : fz_H) (hI : fz_Iv h) (hX : fz_Xc h) (hXd : fz_Xd h) (hXh : fz_Xh h) (hXw : fz_Xw h) (hv1 : h 53 10 ≤ 10) (hv2 : h 53 42 ≤ h 53 41) (hr0 : h 44 2 = h 53 44) (hr1 : h 20 2 = h 53 16) (hr2 : h 1 7 = h 53 0) (hr3 : h 1 8 = h 53 2) (i : Int) (hi : 0 ≤ i ∧ i + 6 ≤ h 200 100000 ∧ h 200 100000 ≤ 3072) {Q : fz_H → Option fz_V → Prop} (K : ∀ H : fz_H, fz_Gd H → H 200 = h 200 → fz_R 47 mLe 1816 [(3, fz_i i), (0, fz_r 200), (1, fz_r 0), (2, fz_r 53)] [] H Q) : fz_R 47 mLc35 1449 [(3, fz_i i), (0, fz_r 200), (1, fz_r 0), (2, fz_r 53)] [] h Q := by
  have hf : fz_fr fz_all h h := fz_fr_rf
  refine fz_aload_n kLc35 rfl rfl ?_
  refine fz_aload_n kLc35 rfl rfl ?_
  refine fz_iload_n kLc35 rfl rfl ?_
  refine fz_iconst ⟨by decide, by decide⟩ kLc35 rfl ?_
  refine fz_iaddN kLc35 rfl (by omega) ?_
  obtain ⟨a1, e2⟩ : ∃ z, h 200 ((i + 1)).toNat = z := ⟨_, rfl⟩
  refine fz_taldV (v := a1) kLc35 rfl ⟨by decide, by decide⟩ (by omega) (by omega) e2 ?_
  refine fz_aload_n kLc35 rfl rfl ?_
  refine fz_iload_n kLc35 rfl rfl ?_
  refine fz_iconst ⟨by decide, by decide⟩ kLc35 rfl ?_
  refine fz_iaddN kLc35 rfl (by omega) ?_
  obtain ⟨a3, e4⟩ : ∃ z, h 200 ((i + 2)).toNat = z := ⟨_, rfl⟩
  refine fz_taldV (v := a3) kLc35 rfl ⟨by decide, by decide⟩ (by omega) (by omega) e4 ?_
  refine fz_aload_n kLc35 rfl rfl ?_
  refine fz_iload_n kLc35 rfl rfl ?_
  refine fz_iconst ⟨by decide, by decide⟩ kLc35 rfl ?_
  refine fz_iaddN kLc35 rfl (by omega) ?_
  obtain ⟨a5, e6⟩ : ∃ z, h 200 ((i + 3)).toNat = z := ⟨_, rfl⟩
  refine fz_taldV (v := a5) kLc35 rfl ⟨by decide, by decide⟩ (by omega) (by omega) e6 ?_
  refine fz_callV (d' := 8) (M' := mX10_act) (As := [fz_i a1, fz_i a3, fz_i a5]) (st := []) kLc35 rfl rfl vX10_act rfl rfl rfl rfl (Nat.le_of_ble_eq_true rfl) (Nat.le_of_ble_eq_true rfl) (by decide) (sX10_act h hI a1 a3 a5 ) (fun H7 r8 q9 o10 => ?_)
  obtain ⟨hI11, hf12, y13, rfl⟩ := q9
  clear o10
  have hf14 := fz_fr_tr hf hf12 (fz_su_all rfl)
  have hXd15 : fz_Xd H7 := fz_Xd_eq (funext fun s => hf12 80 s rfl) hXd
  have hXh16 : fz_Xh H7 := fz_Xh_eq (funext fun s => hf12 83 s rfl) hXh
  have hXw17 : fz_Xw H7 := fz_Xw_eq (hf12 53 19 rfl) (funext fun s => hf12 66 s rfl) (funext fun s => hf12 67 s rfl) (funext fun s => hf12 68 s rfl) (funext fun s => hf12 69 s rfl) hXw
  have hX18 : fz_Xc H7 := fz_Xc_fr hf12 rfl hX
  have t19 : H7 53 10 = h 53 10 := hf12 53 10 rfl
  have t20 : H7 53 41 = h 53 41 := hf12 53 41 rfl
  have t21 : H7 53 42 = h 53 42 := hf12 53 42 rfl
  have t22 : H7 44 2 = h 44 2 := hf12 44 2 rfl
  have t23 : H7 53 44 = h 53 44 := hf12 53 44 rfl
  have t24 : H7 20 2 = h 20 2 := hf12 20 2 rfl
  have t25 : H7 53 16 = h 53 16 := hf12 53 16 rfl
  have t26 : H7 1 7 = h 1 7 := hf12 1 7 rfl
  have t27 : H7 53 0 = h 53 0 := hf12 53 0 rfl
  have t28 : H7 1 8 = h 1 8 := hf12 1 8 rfl
  have t29 : H7 53 2 = h 53 2 := hf12 53 2 rfl
  refine fz_pop rfl kLc35 rfl ?_
  refine fz_aload_n kLc35 rfl rfl ?_
  refine fz_aload_n kLc35 rfl rfl ?_
  refine fz_iload_n kLc35 rfl rfl ?_
  refine fz_iconst ⟨by decide, by decide⟩ kLc35 rfl ?_
  refine fz_iaddN kLc35 rfl (by omega) ?_
  obtain ⟨a30, e31⟩ : ∃ z, h 200 ((i + 1)).toNat = z := ⟨_, rfl⟩
  refine fz_taldV (v := a30) kLc35 rfl ⟨by decide, by decide⟩ (by omega) (by rw [hf14 200 _ rfl]; omega) ((hf14 200 _ rfl).trans e31) ?_
  refine fz_aload_n kLc35 rfl rfl ?_
  refine fz_iload_n kLc35 rfl rfl ?_
  refine fz_iconst ⟨by decide, by decide⟩ kLc35 rfl ?_
  refine fz_iaddN kLc35 rfl (by omega) ?_
  obtain ⟨a32, e33⟩ : ∃ z, h 200 ((i + 2)).toNat = z := ⟨_, rfl⟩
  refine fz_taldV (v := a32) kLc35 rfl ⟨by decide, by decide⟩ (by omega) (by rw [hf14 200 _ rfl]; omega) ((hf14 200 _ rfl).trans e33) ?_
  refine fz_aload_n kLc35 rfl rfl ?_
  refine fz_iload_n kLc35 rfl rfl ?_
  refine fz_iconst ⟨by decide, by decide⟩ kLc35 rfl ?_
  refine fz_iaddN kLc35 rfl (by omega) ?_
  obtain ⟨a34, e35⟩ : ∃ z, h 200 ((i + 3)).toNat = z := ⟨_, rfl⟩
  refine fz_taldV (v := a34) kLc35 rfl ⟨by decide, by decide⟩ (by omega) (by rw [hf14 200 _ rfl]; omega) ((hf14 200 _ rfl).trans e35) ?_
  refine fz_callV (d' := 13) (M' := mX11_act) (As := [fz_i a30, fz_i a32, fz_i a34]) (st := []) kLc35 rfl rfl vX11_act rfl rfl rfl rfl (Nat.le_of_ble_eq_true rfl) (Nat.le_of_ble_eq_true rfl) (by decide) (sX11_act H7 hI11 a30 a32 a34 ) (fun H36 r37 q38 o39 => ?_)
  obtain ⟨hI40, hf41, y42, rfl⟩ := q38
  clear o39
  have hf43 := fz_fr_tr hf14 hf41 (fz_su_all rfl)
  have hXd44 : fz_Xd H36 := fz_Xd_eq (funext fun s => hf41 80 s rfl) hXd15
  have hXh45 : fz_Xh H36 := fz_Xh_eq (funext fun s => hf41 83 s rfl) hXh16
  have hXw46 : fz_Xw H36 := fz_Xw_eq (hf41 53 19 rfl) (funext fun s => hf41 66 s rfl) (funext fun s => hf41 67 s rfl) (funext fun s => hf41 68 s rfl) (funext fun s => hf41 69 s rfl) hXw17
  have hX47 : fz_Xc H36 := fz_Xc_fr hf41 rfl hX18
  have t48 : H36 53 10 = H7 53 10 := hf41 53 10 rfl
  have t49 : H36 53 41 = H7 53 41 := hf41 53 41 rfl
  have t50 : H36 53 42 = H7 53 42 := hf41 53 42 rfl
  have t51 : H36 44 2 = H7 44 2 := hf41 44 2 rfl
  have t52 : H36 53 44 = H7 53 44 := hf41 53 44 rfl
  have t53 : H36 20 2 = H7 20 2 := hf41 20 2 rfl
  have t54 : H36 53 16 = H7 53 16 := hf41 53 16 rfl
  have t55 : H36 1 7 = H7 1 7 := hf41 1 7 rfl
  have t56 : H36 53 0 = H7 53 0 := hf41 53 0 rfl
  have t57 : H36 1 8 = H7 1 8 := hf41 1 8 rfl
  have t58 : H36 53 2 = H7 53 2 := hf41 53 2 rfl
  refine fz_pop rfl kLc35 rfl ?_
  refine fz_goto (tgt := 1816) kLc35 rfl (by decide) ?_
  exact K H36 ⟨hI40, hX47, hXd44, hXh45, hXw46, by omega, by omega, by omega, by omega, by omega, by omega⟩ (funext fun s => hf43 200 s rfl)
def mLc36 : fz_M := (yL_law, code, 4, (some .boolean), [(1492, .aload_n 1, 1, 0, 0, 0), (1493, .aload_n 0, 1, 0, 0, 0), (1494, .iload_n 3, 1, 0, 0, 0), (1495, .iconst 1, 1, 0, 0, 0), (1496, .iadd, 1, 0, 0, 0), (1497, .iaload, 1, 0, 0, 0), (1498, .invokevirtual 163, 3, 5008, 75, 0), (1501, .pop, 1, 0, 0, 0), (1502, .aload_n 2, 1, 0, 0, 0), (1503, .aload_n 0, 1, 0, 0, 0), (1504, .iload_n 3, 1, 0, 0, 0), (1505, .iconst 1, 1, 0, 0, 0), (1506, .iadd, 1, 0, 0, 0), (1507, .iaload, 1, 0, 0, 0), (1508, .invokevirtual 166, 3, 7164, 178, 0), (1511, .pop, 1, 0, 0, 0), (1512, .goto 304, 3, 0, 0, 0)])
set_option maxRecDepth 100000 in
theorem kLc36 : fz_okM mLc36 = true := by decide +kernel
set_option maxHeartbeats 1000000 in
set_option maxRecDepth 100000 in
theorem lc36 (h : fz_H) (hI : fz_Iv h) (hX : fz_Xc h) (hXd : fz_Xd h) (hXh : fz_Xh h) (hXw : fz_Xw h) (hv1 : h 53 10 ≤ 10) (hv2 : h 53 42 ≤ h 53 41) (hr0 : h 44 2 = h 53 44) (hr1 : h 20 2 = h 53 16) (hr2 : h 1 7 = h 53 0) (hr3 : h 1 8 = h 53 2) (i : Int) (hi : 0 ≤ i ∧ i + 6 ≤ h 200 100000 ∧ h 200 100000 ≤ 3072) {Q : fz_H → Option fz_V → Prop} (K : ∀ H : fz_H, fz_Gd H → H 200 = h 200 → fz_R 47 mLe 1816 [(3, fz_i i), (0, fz_r 200), (1, fz_r 0), (2, fz_r 53)] [] H Q) : fz_R 47 mLc36 1492 [(3, fz_i i), (0, fz_r 200), (1, fz_r 0), (2, fz_r 53)] [] h Q := by
  have hf : fz_fr fz_all h h := fz_fr_rf
  refine fz_aload_n kLc36 rfl rfl ?_
  refine fz_aload_n kLc36 rfl rfl ?_
  refine fz_iload_n kLc36 rfl rfl ?_
  refine fz_iconst ⟨by decide, by decide⟩ kLc36 rfl ?_
  refine fz_iaddN kLc36 rfl (by omega) ?_
  obtain ⟨a1, e2⟩ : ∃ z, h 200 ((i + 1)).toNat = z := ⟨_, rfl⟩
  refine fz_taldV (v := a1) kLc36 rfl ⟨by decide, by decide⟩ (by omega) (by omega) e2 ?_
  refine fz_callV (d' := 1) (M' := mX10_trace) (As := [fz_i a1]) (st := []) kLc36 rfl rfl vX10_trace rfl rfl rfl rfl (Nat.le_of_ble_eq_true rfl) (Nat.le_of_ble_eq_true rfl) (by decide) (sX10_trace h hI a1 ) (fun H3 r4 q5 o6 => ?_)
  obtain ⟨e7, y9, rfl, f8⟩ := q5
  subst H3
  clear o6
  refine fz_pop rfl kLc36 rfl ?_
  refine fz_aload_n kLc36 rfl rfl ?_
  refine fz_aload_n kLc36 rfl rfl ?_
  refine fz_iload_n kLc36 rfl rfl ?_
  refine fz_iconst ⟨by decide, by decide⟩ kLc36 rfl ?_
  refine fz_iaddN kLc36 rfl (by omega) ?_
  obtain ⟨a10, e11⟩ : ∃ z, h 200 ((i + 1)).toNat = z := ⟨_, rfl⟩
  refine fz_taldV (v := a10) kLc36 rfl ⟨by decide, by decide⟩ (by omega) (by omega) e11 ?_
  refine fz_callV (d' := 1) (M' := mX11_trace) (As := [fz_i a10]) (st := []) kLc36 rfl rfl vX11_trace rfl rfl rfl rfl (Nat.le_of_ble_eq_true rfl) (Nat.le_of_ble_eq_true rfl) (by decide) (sX11_trace h hI a10 ) (fun H12 r13 q14 o15 => ?_)
  obtain ⟨e16, y18, rfl, f17⟩ := q14
  subst H12
  clear o15
  refine fz_pop rfl kLc36 rfl ?_
  refine fz_goto (tgt := 1816) kLc36 rfl (by decide) ?_
  exact K h ⟨hI, hX, hXd, hXh, hXw, by omega, by omega, by omega, by omega, by omega, by omega⟩ rfl
def mLc37 : fz_M := (yL_law, code, 4, (some .boolean), [(1515, .aload_n 1, 1, 0, 0, 0), (1516, .aload_n 0, 1, 0, 0, 0), (1517, .iload_n 3, 1, 0, 0, 0), (1518, .iconst 1, 1, 0, 0, 0), (1519, .iadd, 1, 0, 0, 0), (1520, .iaload, 1, 0, 0, 0), (1521, .aload_n 0, 1, 0, 0, 0), (1522, .iload_n 3, 1, 0, 0, 0), (1523, .iconst 2, 1, 0, 0, 0), (1524, .iadd, 1, 0, 0, 0), (1525, .iaload, 1, 0, 0, 0), (1526, .invokevirtual 167, 3, 5013, 51, 0), (1529, .aload_n 2, 1, 0, 0, 0), (1530, .aload_n 0, 1, 0, 0, 0), (1531, .iload_n 3, 1, 0, 0, 0), (1532, .iconst 1, 1, 0, 0, 0), (1533, .iadd, 1, 0, 0, 0), (1534, .iaload, 1, 0, 0, 0), (1535, .aload_n 0, 1, 0, 0, 0), (1536, .iload_n 3, 1, 0, 0, 0), (1537, .iconst 2, 1, 0, 0, 0), (1538, .iadd, 1, 0, 0, 0), (1539, .iaload, 1, 0, 0, 0), (1540, .invokevirtual 170, 3, 7168, 142, 0), (1543, .if_icmp .eq 273, 3, 0, 0, 0), (1546, .iconst 0, 1, 0, 0, 0), (1547, .ireturn, 1, 0, 0, 0)])
set_option maxRecDepth 100000 in
theorem kLc37 : fz_okM mLc37 = true := by decide +kernel
set_option maxHeartbeats 1000000 in
set_option maxRecDepth 100000 in
theorem lc37 (h : fz_H) (hI : fz_Iv h) (hX : fz_Xc h) (hXd : fz_Xd h) (hXh : fz_Xh h) (hXw : fz_Xw h) (hv1 : h 53 10 ≤ 10) (hv2 : h 53 42 ≤ h 53 41) (hr0 : h 44 2 = h 53 44) (hr1 : h 20 2 = h 53 16) (hr2 : h 1 7 = h 53 0) (hr3 : h 1 8 = h 53 2) (i : Int) (hi : 0 ≤ i ∧ i + 6 ≤ h 200 100000 ∧ h 200 100000 ≤ 3072) {Q : fz_H → Option fz_V → Prop} (K : ∀ H : fz_H, fz_Gd H → H 200 = h 200 → fz_R 47 mLe 1816 [(3, fz_i i), (0, fz_r 200), (1, fz_r 0), (2, fz_r 53)] [] H Q) : fz_R 47 mLc37 1515 [(3, fz_i i), (0, fz_r 200), (1, fz_r 0), (2, fz_r 53)] [] h Q := by
  have hf : fz_fr fz_all h h := fz_fr_rf
  refine fz_aload_n kLc37 rfl rfl ?_
  refine fz_aload_n kLc37 rfl rfl ?_
  refine fz_iload_n kLc37 rfl rfl ?_
  refine fz_iconst ⟨by decide, by decide⟩ kLc37 rfl ?_
  refine fz_iaddN kLc37 rfl (by omega) ?_
  obtain ⟨a1, e2⟩ : ∃ z, h 200 ((i + 1)).toNat = z := ⟨_, rfl⟩
  refine fz_taldV (v := a1) kLc37 rfl ⟨by decide, by decide⟩ (by omega) (by omega) e2 ?_
  refine fz_aload_n kLc37 rfl rfl ?_
  refine fz_iload_n kLc37 rfl rfl ?_
  refine fz_iconst ⟨by decide, by decide⟩ kLc37 rfl ?_
  refine fz_iaddN kLc37 rfl (by omega) ?_
  obtain ⟨a3, e4⟩ : ∃ z, h 200 ((i + 2)).toNat = z := ⟨_, rfl⟩
  refine fz_taldV (v := a3) kLc37 rfl ⟨by decide, by decide⟩ (by omega) (by omega) e4 ?_
  have b5 : 0 ≤ h 44 2 ∧ h 44 2 ≤ 50 := hI.1 44 _
  refine fz_callV (d' := 1) (M' := mX10_keep) (As := [fz_i a1, fz_i a3]) (st := []) kLc37 rfl rfl vX10_keep rfl rfl rfl rfl (Nat.le_of_ble_eq_true rfl) (Nat.le_of_ble_eq_true rfl) (by decide) (sX10_keep h hI a1 a3 ) (fun H6 r7 q8 o9 => ?_)
  obtain ⟨hI10, hf11, y14, rfl, f12, f13⟩ := q8
  clear o9
  have hf15 := fz_fr_tr hf hf11 (fz_su_all rfl)
  have hXd16 : fz_Xd H6 := fz_Xd_eq (funext fun s => hf11 80 s rfl) hXd
  have hXh17 : fz_Xh H6 := fz_Xh_eq (funext fun s => hf11 83 s rfl) hXh
  have hXw18 : fz_Xw H6 := fz_Xw_eq (hf11 53 19 rfl) (funext fun s => hf11 66 s rfl) (funext fun s => hf11 67 s rfl) (funext fun s => hf11 68 s rfl) (funext fun s => hf11 69 s rfl) hXw
  have hX19 : fz_Xc H6 := fz_Xc_fr hf11 rfl hX
  have t20 : H6 53 10 = h 53 10 := hf11 53 10 rfl
  have t21 : H6 53 41 = h 53 41 := hf11 53 41 rfl
  have t22 : H6 53 42 = h 53 42 := hf11 53 42 rfl
  have t23 : H6 44 2 = h 44 2 := hf11 44 2 rfl
  have t24 : H6 53 44 = h 53 44 := hf11 53 44 rfl
  have t25 : H6 20 2 = h 20 2 := hf11 20 2 rfl
  have t26 : H6 53 16 = h 53 16 := hf11 53 16 rfl
  have t27 : H6 1 7 = h 1 7 := hf11 1 7 rfl
  have t28 : H6 53 0 = h 53 0 := hf11 53 0 rfl
  have t29 : H6 1 8 = h 1 8 := hf11 1 8 rfl
  have t30 : H6 53 2 = h 53 2 := hf11 53 2 rfl
  refine fz_aload_n kLc37 rfl rfl ?_
  refine fz_aload_n kLc37 rfl rfl ?_
  refine fz_iload_n kLc37 rfl rfl ?_
  refine fz_iconst ⟨by decide, by decide⟩ kLc37 rfl ?_
  refine fz_iaddN kLc37 rfl (by omega) ?_
  obtain ⟨a31, e32⟩ : ∃ z, h 200 ((i + 1)).toNat = z := ⟨_, rfl⟩
  refine fz_taldV (v := a31) kLc37 rfl ⟨by decide, by decide⟩ (by omega) (by rw [hf15 200 _ rfl]; omega) ((hf15 200 _ rfl).trans e32) ?_
  refine fz_aload_n kLc37 rfl rfl ?_
  refine fz_iload_n kLc37 rfl rfl ?_
  refine fz_iconst ⟨by decide, by decide⟩ kLc37 rfl ?_
  refine fz_iaddN kLc37 rfl (by omega) ?_
  obtain ⟨a33, e34⟩ : ∃ z, h 200 ((i + 2)).toNat = z := ⟨_, rfl⟩
  refine fz_taldV (v := a33) kLc37 rfl ⟨by decide, by decide⟩ (by omega) (by rw [hf15 200 _ rfl]; omega) ((hf15 200 _ rfl).trans e34) ?_
  have b35 : 0 ≤ H6 53 44 ∧ H6 53 44 ≤ 50 := hI10.1 53 _
  refine fz_callV (d' := 2) (M' := mX11_keep) (As := [fz_i a31, fz_i a33]) (st := [fz_i y14]) kLc37 rfl rfl vX11_keep rfl rfl rfl rfl (Nat.le_of_ble_eq_true rfl) (Nat.le_of_ble_eq_true rfl) (by decide) (sX11_keep H6 hI10 a31 a33 hXh17) (fun H36 r37 q38 o39 => ?_)
  obtain ⟨hI40, hf41, hXh42, y45, rfl, f43, f44⟩ := q38
  clear o39
  have hf46 := fz_fr_tr hf15 hf41 (fz_su_all rfl)
  have hXd47 : fz_Xd H36 := fz_Xd_eq (funext fun s => hf41 80 s rfl) hXd16
  have hXw48 : fz_Xw H36 := fz_Xw_eq (hf41 53 19 rfl) (funext fun s => hf41 66 s rfl) (funext fun s => hf41 67 s rfl) (funext fun s => hf41 68 s rfl) (funext fun s => hf41 69 s rfl) hXw18
  have hX49 : fz_Xc H36 := fz_Xc_fr hf41 rfl hX19
  have t50 : H36 53 10 = H6 53 10 := hf41 53 10 rfl
  have t51 : H36 53 41 = H6 53 41 := hf41 53 41 rfl
  have t52 : H36 53 42 = H6 53 42 := hf41 53 42 rfl
  have t53 : H36 44 2 = H6 44 2 := hf41 44 2 rfl
  have t54 : H36 53 44 = H6 53 44 := hf41 53 44 rfl
  have t55 : H36 20 2 = H6 20 2 := hf41 20 2 rfl
  have t56 : H36 53 16 = H6 53 16 := hf41 53 16 rfl
  have t57 : H36 1 7 = H6 1 7 := hf41 1 7 rfl
  have t58 : H36 53 0 = H6 53 0 := hf41 53 0 rfl
  have t59 : H36 1 8 = H6 1 8 := hf41 1 8 rfl
  have t60 : H36 53 2 = H6 53 2 := hf41 53 2 rfl
  refine fz_icmp_eq (tgt := 1816) kLc37 rfl (by decide) (fun c61 => ?_) (fun c61 => ?_)
  · exact K H36 ⟨hI40, hX49, hXd47, hXh42, hXw48, by omega, by omega, by omega, by omega, by omega, by omega⟩ (funext fun s => hf46 200 s rfl)
  · refine fz_iconst ⟨by decide, by decide⟩ kLc37 rfl ?_
    exfalso; omega
def mLc38 : fz_M := (yL_law, code, 4, (some .boolean), [(1548, .aload_n 1, 1, 0, 0, 0), (1549, .aload_n 0, 1, 0, 0, 0), (1550, .iload_n 3, 1, 0, 0, 0), (1551, .iconst 1, 1, 0, 0, 0), (1552, .iadd, 1, 0, 0, 0), (1553, .iaload, 1, 0, 0, 0), (1554, .aload_n 0, 1, 0, 0, 0), (1555, .iload_n 3, 1, 0, 0, 0), (1556, .iconst 2, 1, 0, 0, 0), (1557, .iadd, 1, 0, 0, 0), (1558, .iaload, 1, 0, 0, 0), (1559, .aload_n 0, 1, 0, 0, 0), (1560, .iload_n 3, 1, 0, 0, 0), (1561, .iconst 3, 1, 0, 0, 0), (1562, .iadd, 1, 0, 0, 0), (1563, .iaload, 1, 0, 0, 0), (1564, .invokevirtual 171, 3, 5022, 69, 0), (1567, .pop, 1, 0, 0, 0), (1568, .aload_n 2, 1, 0, 0, 0), (1569, .aload_n 0, 1, 0, 0, 0), (1570, .iload_n 3, 1, 0, 0, 0), (1571, .iconst 1, 1, 0, 0, 0), (1572, .iadd, 1, 0, 0, 0), (1573, .iaload, 1, 0, 0, 0), (1574, .aload_n 0, 1, 0, 0, 0), (1575, .iload_n 3, 1, 0, 0, 0), (1576, .iconst 2, 1, 0, 0, 0), (1577, .iadd, 1, 0, 0, 0), (1578, .iaload, 1, 0, 0, 0), (1579, .aload_n 0, 1, 0, 0, 0), (1580, .iload_n 3, 1, 0, 0, 0), (1581, .iconst 3, 1, 0, 0, 0), (1582, .iadd, 1, 0, 0, 0), (1583, .iaload, 1, 0, 0, 0), (1584, .invokevirtual 174, 3, 7172, 169, 0), (1587, .pop, 1, 0, 0, 0), (1588, .goto 228, 3, 0, 0, 0)])
set_option maxRecDepth 100000 in
theorem kLc38 : fz_okM mLc38 = true := by decide +kernel
set_option maxHeartbeats 1000000 in
set_option maxRecDepth 100000 in
theorem lc38 (h : fz_H) (hI : fz_Iv h) (hX : fz_Xc h) (hXd : fz_Xd h) (hXh : fz_Xh h) (hXw : fz_Xw h) (hv1 : h 53 10 ≤ 10) (hv2 : h 53 42 ≤ h 53 41) (hr0 : h 44 2 = h 53 44) (hr1 : h 20 2 = h 53 16) (hr2 : h 1 7 = h 53 0) (hr3 : h 1 8 = h 53 2) (i : Int) (hi : 0 ≤ i ∧ i + 6 ≤ h 200 100000 ∧ h 200 100000 ≤ 3072) {Q : fz_H → Option fz_V → Prop} (K : ∀ H : fz_H, fz_Gd H → H 200 = h 200 → fz_R 47 mLe 1816 [(3, fz_i i), (0, fz_r 200), (1, fz_r 0), (2, fz_r 53)] [] H Q) : fz_R 47 mLc38 1548 [(3, fz_i i), (0, fz_r 200), (1, fz_r 0), (2, fz_r 53)] [] h Q := by
  have hf : fz_fr fz_all h h := fz_fr_rf
  refine fz_aload_n kLc38 rfl rfl ?_
  refine fz_aload_n kLc38 rfl rfl ?_
  refine fz_iload_n kLc38 rfl rfl ?_
  refine fz_iconst ⟨by decide, by decide⟩ kLc38 rfl ?_
  refine fz_iaddN kLc38 rfl (by omega) ?_
  obtain ⟨a1, e2⟩ : ∃ z, h 200 ((i + 1)).toNat = z := ⟨_, rfl⟩
  refine fz_taldV (v := a1) kLc38 rfl ⟨by decide, by decide⟩ (by omega) (by omega) e2 ?_
  refine fz_aload_n kLc38 rfl rfl ?_
  refine fz_iload_n kLc38 rfl rfl ?_
  refine fz_iconst ⟨by decide, by decide⟩ kLc38 rfl ?_
  refine fz_iaddN kLc38 rfl (by omega) ?_
  obtain ⟨a3, e4⟩ : ∃ z, h 200 ((i + 2)).toNat = z := ⟨_, rfl⟩
  refine fz_taldV (v := a3) kLc38 rfl ⟨by decide, by decide⟩ (by omega) (by omega) e4 ?_
  refine fz_aload_n kLc38 rfl rfl ?_
  refine fz_iload_n kLc38 rfl rfl ?_
  refine fz_iconst ⟨by decide, by decide⟩ kLc38 rfl ?_
  refine fz_iaddN kLc38 rfl (by omega) ?_
  obtain ⟨a5, e6⟩ : ∃ z, h 200 ((i + 3)).toNat = z := ⟨_, rfl⟩
  refine fz_taldV (v := a5) kLc38 rfl ⟨by decide, by decide⟩ (by omega) (by omega) e6 ?_
  refine fz_callV (d' := 3) (M' := mX10_row) (As := [fz_i a1, fz_i a3, fz_i a5]) (st := []) kLc38 rfl rfl vX10_row rfl rfl rfl rfl (Nat.le_of_ble_eq_true rfl) (Nat.le_of_ble_eq_true rfl) (by decide) (sX10_row h hI a1 a3 a5 ) (fun H7 r8 q9 o10 => ?_)
  obtain ⟨hI11, hf12, y15, rfl, f13, f14⟩ := q9
  clear o10
  have hf16 := fz_fr_tr hf hf12 (fz_su_all rfl)
  have hXd17 : fz_Xd H7 := fz_Xd_eq (funext fun s => hf12 80 s rfl) hXd
  have hXh18 : fz_Xh H7 := fz_Xh_eq (funext fun s => hf12 83 s rfl) hXh
  have hXw19 : fz_Xw H7 := fz_Xw_eq (hf12 53 19 rfl) (funext fun s => hf12 66 s rfl) (funext fun s => hf12 67 s rfl) (funext fun s => hf12 68 s rfl) (funext fun s => hf12 69 s rfl) hXw
  have hX20 : fz_Xc H7 := fz_Xc_fr hf12 rfl hX
  have t21 : H7 53 10 = h 53 10 := hf12 53 10 rfl
  have t22 : H7 53 41 = h 53 41 := hf12 53 41 rfl
  have t23 : H7 53 42 = h 53 42 := hf12 53 42 rfl
  have t24 : H7 44 2 = h 44 2 := hf12 44 2 rfl
  have t25 : H7 53 44 = h 53 44 := hf12 53 44 rfl
  have t26 : H7 20 2 = h 20 2 := hf12 20 2 rfl
  have t27 : H7 53 16 = h 53 16 := hf12 53 16 rfl
  have t28 : H7 1 7 = h 1 7 := hf12 1 7 rfl
  have t29 : H7 53 0 = h 53 0 := hf12 53 0 rfl
  have t30 : H7 1 8 = h 1 8 := hf12 1 8 rfl
  have t31 : H7 53 2 = h 53 2 := hf12 53 2 rfl
  refine fz_pop rfl kLc38 rfl ?_
  refine fz_aload_n kLc38 rfl rfl ?_
  refine fz_aload_n kLc38 rfl rfl ?_
  refine fz_iload_n kLc38 rfl rfl ?_
  refine fz_iconst ⟨by decide, by decide⟩ kLc38 rfl ?_
  refine fz_iaddN kLc38 rfl (by omega) ?_
  obtain ⟨a32, e33⟩ : ∃ z, h 200 ((i + 1)).toNat = z := ⟨_, rfl⟩
  refine fz_taldV (v := a32) kLc38 rfl ⟨by decide, by decide⟩ (by omega) (by rw [hf16 200 _ rfl]; omega) ((hf16 200 _ rfl).trans e33) ?_
  refine fz_aload_n kLc38 rfl rfl ?_
  refine fz_iload_n kLc38 rfl rfl ?_
  refine fz_iconst ⟨by decide, by decide⟩ kLc38 rfl ?_
  refine fz_iaddN kLc38 rfl (by omega) ?_
  obtain ⟨a34, e35⟩ : ∃ z, h 200 ((i + 2)).toNat = z := ⟨_, rfl⟩
  refine fz_taldV (v := a34) kLc38 rfl ⟨by decide, by decide⟩ (by omega) (by rw [hf16 200 _ rfl]; omega) ((hf16 200 _ rfl).trans e35) ?_
  refine fz_aload_n kLc38 rfl rfl ?_
  refine fz_iload_n kLc38 rfl rfl ?_
  refine fz_iconst ⟨by decide, by decide⟩ kLc38 rfl ?_
  refine fz_iaddN kLc38 rfl (by omega) ?_
  obtain ⟨a36, e37⟩ : ∃ z, h 200 ((i + 3)).toNat = z := ⟨_, rfl⟩
  refine fz_taldV (v := a36) kLc38 rfl ⟨by decide, by decide⟩ (by omega) (by rw [hf16 200 _ rfl]; omega) ((hf16 200 _ rfl).trans e37) ?_
  refine fz_callV (d' := 2) (M' := mX11_row) (As := [fz_i a32, fz_i a34, fz_i a36]) (st := []) kLc38 rfl rfl vX11_row rfl rfl rfl rfl (Nat.le_of_ble_eq_true rfl) (Nat.le_of_ble_eq_true rfl) (by decide) (sX11_row H7 hI11 a32 a34 a36 hXh18) (fun H38 r39 q40 o41 => ?_)
  obtain ⟨hI42, hf43, hXh44, y47, rfl, f45, f46⟩ := q40
  clear o41
  have hf48 := fz_fr_tr hf16 hf43 (fz_su_all rfl)
  have hXd49 : fz_Xd H38 := fz_Xd_eq (funext fun s => hf43 80 s rfl) hXd17
  have hXw50 : fz_Xw H38 := fz_Xw_eq (hf43 53 19 rfl) (funext fun s => hf43 66 s rfl) (funext fun s => hf43 67 s rfl) (funext fun s => hf43 68 s rfl) (funext fun s => hf43 69 s rfl) hXw19
  have hX51 : fz_Xc H38 := fz_Xc_fr hf43 rfl hX20
  have t52 : H38 53 10 = H7 53 10 := hf43 53 10 rfl
  have t53 : H38 53 41 = H7 53 41 := hf43 53 41 rfl
  have t54 : H38 53 42 = H7 53 42 := hf43 53 42 rfl
  have t55 : H38 44 2 = H7 44 2 := hf43 44 2 rfl
  have t56 : H38 53 44 = H7 53 44 := hf43 53 44 rfl
  have t57 : H38 20 2 = H7 20 2 := hf43 20 2 rfl
  have t58 : H38 53 16 = H7 53 16 := hf43 53 16 rfl
  have t59 : H38 1 7 = H7 1 7 := hf43 1 7 rfl
  have t60 : H38 53 0 = H7 53 0 := hf43 53 0 rfl
  have t61 : H38 1 8 = H7 1 8 := hf43 1 8 rfl
  have t62 : H38 53 2 = H7 53 2 := hf43 53 2 rfl
  refine fz_pop rfl kLc38 rfl ?_
  refine fz_goto (tgt := 1816) kLc38 rfl (by decide) ?_
  exact K H38 ⟨hI42, hX51, hXd49, hXh44, hXw50, by omega, by omega, by omega, by omega, by omega, by omega⟩ (funext fun s => hf48 200 s rfl)
def mLc39 : fz_M := (yL_law, code, 4, (some .boolean), [(1591, .aload_n 1, 1, 0, 0, 0), (1592, .aload_n 0, 1, 0, 0, 0), (1593, .iload_n 3, 1, 0, 0, 0), (1594, .iconst 1, 1, 0, 0, 0), (1595, .iadd, 1, 0, 0, 0), (1596, .iaload, 1, 0, 0, 0), (1597, .aload_n 0, 1, 0, 0, 0), (1598, .iload_n 3, 1, 0, 0, 0), (1599, .iconst 2, 1, 0, 0, 0), (1600, .iadd, 1, 0, 0, 0), (1601, .iaload, 1, 0, 0, 0), (1602, .aload_n 0, 1, 0, 0, 0), (1603, .iload_n 3, 1, 0, 0, 0), (1604, .iconst 3, 1, 0, 0, 0), (1605, .iadd, 1, 0, 0, 0), (1606, .iaload, 1, 0, 0, 0), (1607, .i2l, 1, 0, 0, 0), (1608, .bipush 32, 2, 0, 0, 0), (1610, .lshl, 1, 0, 0, 0), (1611, .aload_n 0, 1, 0, 0, 0), (1612, .iload_n 3, 1, 0, 0, 0), (1613, .iconst 4, 1, 0, 0, 0), (1614, .iadd, 1, 0, 0, 0), (1615, .iaload, 1, 0, 0, 0), (1616, .i2l, 1, 0, 0, 0), (1617, .ldc2_w 175, 3, 7203, 0, 0), (1620, .land, 1, 0, 0, 0), (1621, .lor, 1, 0, 0, 0), (1622, .invokevirtual 177, 3, 5036, 62, 0), (1625, .pop, 1, 0, 0, 0), (1626, .aload_n 2, 1, 0, 0, 0), (1627, .aload_n 0, 1, 0, 0, 0), (1628, .iload_n 3, 1, 0, 0, 0), (1629, .iconst 1, 1, 0, 0, 0), (1630, .iadd, 1, 0, 0, 0), (1631, .iaload, 1, 0, 0, 0), (1632, .aload_n 0, 1, 0, 0, 0), (1633, .iload_n 3, 1, 0, 0, 0), (1634, .iconst 2, 1, 0, 0, 0), (1635, .iadd, 1, 0, 0, 0), (1636, .iaload, 1, 0, 0, 0), (1637, .aload_n 0, 1, 0, 0, 0), (1638, .iload_n 3, 1, 0, 0, 0), (1639, .iconst 3, 1, 0, 0, 0), (1640, .iadd, 1, 0, 0, 0), (1641, .iaload, 1, 0, 0, 0), (1642, .i2l, 1, 0, 0, 0), (1643, .bipush 32, 2, 0, 0, 0), (1645, .lshl, 1, 0, 0, 0), (1646, .aload_n 0, 1, 0, 0, 0), (1647, .iload_n 3, 1, 0, 0, 0), (1648, .iconst 4, 1, 0, 0, 0), (1649, .iadd, 1, 0, 0, 0), (1650, .iaload, 1, 0, 0, 0), (1651, .i2l, 1, 0, 0, 0), (1652, .ldc2_w 175, 3, 7203, 0, 0), (1655, .land, 1, 0, 0, 0), (1656, .lor, 1, 0, 0, 0), (1657, .invokevirtual 181, 3, 7176, 161, 0), (1660, .pop, 1, 0, 0, 0), (1661, .goto 155, 3, 0, 0, 0)])
set_option maxRecDepth 100000 in
theorem kLc39 : fz_okM mLc39 = true := by decide +kernel
set_option maxHeartbeats 1000000 in
set_option maxRecDepth 100000 in
theorem lc39 (h : fz_H) (hI : fz_Iv h) (hX : fz_Xc h) (hXd : fz_Xd h) (hXh : fz_Xh h) (hXw : fz_Xw h) (hv1 : h 53 10 ≤ 10) (hv2 : h 53 42 ≤ h 53 41) (hr0 : h 44 2 = h 53 44) (hr1 : h 20 2 = h 53 16) (hr2 : h 1 7 = h 53 0) (hr3 : h 1 8 = h 53 2) (i : Int) (hi : 0 ≤ i ∧ i + 6 ≤ h 200 100000 ∧ h 200 100000 ≤ 3072) {Q : fz_H → Option fz_V → Prop} (K : ∀ H : fz_H, fz_Gd H → H 200 = h 200 → fz_R 47 mLe 1816 [(3, fz_i i), (0, fz_r 200), (1, fz_r 0), (2, fz_r 53)] [] H Q) : fz_R 47 mLc39 1591 [(3, fz_i i), (0, fz_r 200), (1, fz_r 0), (2, fz_r 53)] [] h Q := by
  have hf : fz_fr fz_all h h := fz_fr_rf
  refine fz_aload_n kLc39 rfl rfl ?_
  refine fz_aload_n kLc39 rfl rfl ?_
  refine fz_iload_n kLc39 rfl rfl ?_
  refine fz_iconst ⟨by decide, by decide⟩ kLc39 rfl ?_
  refine fz_iaddN kLc39 rfl (by omega) ?_
  obtain ⟨a1, e2⟩ : ∃ z, h 200 ((i + 1)).toNat = z := ⟨_, rfl⟩
  refine fz_taldV (v := a1) kLc39 rfl ⟨by decide, by decide⟩ (by omega) (by omega) e2 ?_
  refine fz_aload_n kLc39 rfl rfl ?_
  refine fz_iload_n kLc39 rfl rfl ?_
  refine fz_iconst ⟨by decide, by decide⟩ kLc39 rfl ?_
  refine fz_iaddN kLc39 rfl (by omega) ?_
  obtain ⟨a3, e4⟩ : ∃ z, h 200 ((i + 2)).toNat = z := ⟨_, rfl⟩
  refine fz_taldV (v := a3) kLc39 rfl ⟨by decide, by decide⟩ (by omega) (by omega) e4 ?_
  refine fz_aload_n kLc39 rfl rfl ?_
  refine fz_iload_n kLc39 rfl rfl ?_
  refine fz_iconst ⟨by decide, by decide⟩ kLc39 rfl ?_
  refine fz_iaddN kLc39 rfl (by omega) ?_
  obtain ⟨a5, e6⟩ : ∃ z, h 200 ((i + 3)).toNat = z := ⟨_, rfl⟩
  refine fz_taldV (v := a5) kLc39 rfl ⟨by decide, by decide⟩ (by omega) (by omega) e6 ?_
  refine fz_i2l kLc39 rfl ?_
  refine fz_bipush ⟨by decide, by decide⟩ kLc39 rfl ?_
  refine fz_lshl kLc39 rfl ?_
  refine fz_nmx (fun z7 e8 => ?_)
  refine fz_aload_n kLc39 rfl rfl ?_
  refine fz_iload_n kLc39 rfl rfl ?_
  refine fz_iconst ⟨by decide, by decide⟩ kLc39 rfl ?_
  refine fz_iaddN kLc39 rfl (by omega) ?_
  obtain ⟨a9, e10⟩ : ∃ z, h 200 ((i + 4)).toNat = z := ⟨_, rfl⟩
  refine fz_taldV (v := a9) kLc39 rfl ⟨by decide, by decide⟩ (by omega) (by omega) e10 ?_
  refine fz_i2l kLc39 rfl ?_
  refine fz_ldc2 (x := 4294967295) kLc39 rfl rfl rfl ?_
  refine fz_land kLc39 rfl ?_
  refine fz_nmx (fun z11 e12 => ?_)
  refine fz_lor kLc39 rfl ?_
  refine fz_nmx (fun z13 e14 => ?_)
  refine fz_callV (d' := 3) (M' := mX10_put) (As := [fz_i a1, fz_i a3, fz_l z13]) (st := []) kLc39 rfl rfl vX10_put rfl rfl rfl rfl (Nat.le_of_ble_eq_true rfl) (Nat.le_of_ble_eq_true rfl) (by decide) (sX10_put h hI a1 a3 z13 ) (fun H15 r16 q17 o18 => ?_)
  obtain ⟨hI19, hf20, y22, rfl, f21⟩ := q17
  clear o18
  have hf23 := fz_fr_tr hf hf20 (fz_su_all rfl)
  have hXd24 : fz_Xd H15 := fz_Xd_eq (funext fun s => hf20 80 s rfl) hXd
  have hXh25 : fz_Xh H15 := fz_Xh_eq (funext fun s => hf20 83 s rfl) hXh
  have hXw26 : fz_Xw H15 := fz_Xw_eq (hf20 53 19 rfl) (funext fun s => hf20 66 s rfl) (funext fun s => hf20 67 s rfl) (funext fun s => hf20 68 s rfl) (funext fun s => hf20 69 s rfl) hXw
  have hX27 : fz_Xc H15 := fz_Xc_fr hf20 rfl hX
  have t28 : H15 53 10 = h 53 10 := hf20 53 10 rfl
  have t29 : H15 53 41 = h 53 41 := hf20 53 41 rfl
  have t30 : H15 53 42 = h 53 42 := hf20 53 42 rfl
  have t31 : H15 44 2 = h 44 2 := hf20 44 2 rfl
  have t32 : H15 53 44 = h 53 44 := hf20 53 44 rfl
  have t33 : H15 20 2 = h 20 2 := hf20 20 2 rfl
  have t34 : H15 53 16 = h 53 16 := hf20 53 16 rfl
  have t35 : H15 1 7 = h 1 7 := hf20 1 7 rfl
  have t36 : H15 53 0 = h 53 0 := hf20 53 0 rfl
  have t37 : H15 1 8 = h 1 8 := hf20 1 8 rfl
  have t38 : H15 53 2 = h 53 2 := hf20 53 2 rfl
  refine fz_pop rfl kLc39 rfl ?_
  refine fz_aload_n kLc39 rfl rfl ?_
  refine fz_aload_n kLc39 rfl rfl ?_
  refine fz_iload_n kLc39 rfl rfl ?_
  refine fz_iconst ⟨by decide, by decide⟩ kLc39 rfl ?_
  refine fz_iaddN kLc39 rfl (by omega) ?_
  obtain ⟨a39, e40⟩ : ∃ z, h 200 ((i + 1)).toNat = z := ⟨_, rfl⟩
  refine fz_taldV (v := a39) kLc39 rfl ⟨by decide, by decide⟩ (by omega) (by rw [hf23 200 _ rfl]; omega) ((hf23 200 _ rfl).trans e40) ?_
  refine fz_aload_n kLc39 rfl rfl ?_
  refine fz_iload_n kLc39 rfl rfl ?_
  refine fz_iconst ⟨by decide, by decide⟩ kLc39 rfl ?_
  refine fz_iaddN kLc39 rfl (by omega) ?_
  obtain ⟨a41, e42⟩ : ∃ z, h 200 ((i + 2)).toNat = z := ⟨_, rfl⟩
  refine fz_taldV (v := a41) kLc39 rfl ⟨by decide, by decide⟩ (by omega) (by rw [hf23 200 _ rfl]; omega) ((hf23 200 _ rfl).trans e42) ?_
  refine fz_aload_n kLc39 rfl rfl ?_
  refine fz_iload_n kLc39 rfl rfl ?_
  refine fz_iconst ⟨by decide, by decide⟩ kLc39 rfl ?_
  refine fz_iaddN kLc39 rfl (by omega) ?_
  obtain ⟨a43, e44⟩ : ∃ z, h 200 ((i + 3)).toNat = z := ⟨_, rfl⟩
  refine fz_taldV (v := a43) kLc39 rfl ⟨by decide, by decide⟩ (by omega) (by rw [hf23 200 _ rfl]; omega) ((hf23 200 _ rfl).trans e44) ?_
  refine fz_i2l kLc39 rfl ?_
  refine fz_bipush ⟨by decide, by decide⟩ kLc39 rfl ?_
  refine fz_lshl kLc39 rfl ?_
  refine fz_nmx (fun z45 e46 => ?_)
  refine fz_aload_n kLc39 rfl rfl ?_
  refine fz_iload_n kLc39 rfl rfl ?_
  refine fz_iconst ⟨by decide, by decide⟩ kLc39 rfl ?_
  refine fz_iaddN kLc39 rfl (by omega) ?_
  obtain ⟨a47, e48⟩ : ∃ z, h 200 ((i + 4)).toNat = z := ⟨_, rfl⟩
  refine fz_taldV (v := a47) kLc39 rfl ⟨by decide, by decide⟩ (by omega) (by rw [hf23 200 _ rfl]; omega) ((hf23 200 _ rfl).trans e48) ?_
  refine fz_i2l kLc39 rfl ?_
  refine fz_ldc2 (x := 4294967295) kLc39 rfl rfl rfl ?_
  refine fz_land kLc39 rfl ?_
  refine fz_nmx (fun z49 e50 => ?_)
  refine fz_lor kLc39 rfl ?_
  refine fz_nmx (fun z51 e52 => ?_)
  refine fz_callV (d' := 2) (M' := mX11_put) (As := [fz_i a39, fz_i a41, fz_l z51]) (st := []) kLc39 rfl rfl vX11_put rfl rfl rfl rfl (Nat.le_of_ble_eq_true rfl) (Nat.le_of_ble_eq_true rfl) (by decide) (sX11_put H15 hI19 a39 a41 z51 ) (fun H53 r54 q55 o56 => ?_)
  obtain ⟨hI57, hf58, y60, rfl, f59⟩ := q55
  clear o56
  have hf61 := fz_fr_tr hf23 hf58 (fz_su_all rfl)
  have hXd62 : fz_Xd H53 := fz_Xd_eq (funext fun s => hf58 80 s rfl) hXd24
  have hXh63 : fz_Xh H53 := fz_Xh_eq (funext fun s => hf58 83 s rfl) hXh25
  have hXw64 : fz_Xw H53 := fz_Xw_eq (hf58 53 19 rfl) (funext fun s => hf58 66 s rfl) (funext fun s => hf58 67 s rfl) (funext fun s => hf58 68 s rfl) (funext fun s => hf58 69 s rfl) hXw26
  have hX65 : fz_Xc H53 := fz_Xc_fr hf58 rfl hX27
  have t66 : H53 53 10 = H15 53 10 := hf58 53 10 rfl
  have t67 : H53 53 41 = H15 53 41 := hf58 53 41 rfl
  have t68 : H53 53 42 = H15 53 42 := hf58 53 42 rfl
  have t69 : H53 44 2 = H15 44 2 := hf58 44 2 rfl
  have t70 : H53 53 44 = H15 53 44 := hf58 53 44 rfl
  have t71 : H53 20 2 = H15 20 2 := hf58 20 2 rfl
  have t72 : H53 53 16 = H15 53 16 := hf58 53 16 rfl
  have t73 : H53 1 7 = H15 1 7 := hf58 1 7 rfl
  have t74 : H53 53 0 = H15 53 0 := hf58 53 0 rfl
  have t75 : H53 1 8 = H15 1 8 := hf58 1 8 rfl
  have t76 : H53 53 2 = H15 53 2 := hf58 53 2 rfl
  refine fz_pop rfl kLc39 rfl ?_
  refine fz_goto (tgt := 1816) kLc39 rfl (by decide) ?_
  exact K H53 ⟨hI57, hX65, hXd62, hXh63, hXw64, by omega, by omega, by omega, by omega, by omega, by omega⟩ (funext fun s => hf61 200 s rfl)
def mLc40 : fz_M := (yL_law, code, 4, (some .boolean), [(1664, .aload_n 1, 1, 0, 0, 0), (1665, .aload_n 0, 1, 0, 0, 0), (1666, .iload_n 3, 1, 0, 0, 0), (1667, .iconst 1, 1, 0, 0, 0), (1668, .iadd, 1, 0, 0, 0), (1669, .iaload, 1, 0, 0, 0), (1670, .aload_n 0, 1, 0, 0, 0), (1671, .iload_n 3, 1, 0, 0, 0), (1672, .iconst 2, 1, 0, 0, 0), (1673, .iadd, 1, 0, 0, 0), (1674, .iaload, 1, 0, 0, 0), (1675, .invokevirtual 182, 3, 5052, 29, 0), (1678, .pop2, 1, 0, 0, 0), (1679, .aload_n 2, 1, 0, 0, 0), (1680, .aload_n 0, 1, 0, 0, 0), (1681, .iload_n 3, 1, 0, 0, 0), (1682, .iconst 1, 1, 0, 0, 0), (1683, .iadd, 1, 0, 0, 0), (1684, .iaload, 1, 0, 0, 0), (1685, .aload_n 0, 1, 0, 0, 0), (1686, .iload_n 3, 1, 0, 0, 0), (1687, .iconst 2, 1, 0, 0, 0), (1688, .iadd, 1, 0, 0, 0), (1689, .iaload, 1, 0, 0, 0), (1690, .invokevirtual 186, 3, 7187, 98, 0), (1693, .pop2, 1, 0, 0, 0), (1694, .goto 122, 3, 0, 0, 0)])
set_option maxRecDepth 100000 in
theorem kLc40 : fz_okM mLc40 = true := by decide +kernel
set_option maxHeartbeats 1000000 in
set_option maxRecDepth 100000 in
theorem lc40 (h : fz_H) (hI : fz_Iv h) (hX : fz_Xc h) (hXd : fz_Xd h) (hXh : fz_Xh h) (hXw : fz_Xw h) (hv1 : h 53 10 ≤ 10) (hv2 : h 53 42 ≤ h 53 41) (hr0 : h 44 2 = h 53 44) (hr1 : h 20 2 = h 53 16) (hr2 : h 1 7 = h 53 0) (hr3 : h 1 8 = h 53 2) (i : Int) (hi : 0 ≤ i ∧ i + 6 ≤ h 200 100000 ∧ h 200 100000 ≤ 3072) {Q : fz_H → Option fz_V → Prop} (K : ∀ H : fz_H, fz_Gd H → H 200 = h 200 → fz_R 47 mLe 1816 [(3, fz_i i), (0, fz_r 200), (1, fz_r 0), (2, fz_r 53)] [] H Q) : fz_R 47 mLc40 1664 [(3, fz_i i), (0, fz_r 200), (1, fz_r 0), (2, fz_r 53)] [] h Q := by
  have hf : fz_fr fz_all h h := fz_fr_rf
  refine fz_aload_n kLc40 rfl rfl ?_
  refine fz_aload_n kLc40 rfl rfl ?_
  refine fz_iload_n kLc40 rfl rfl ?_
  refine fz_iconst ⟨by decide, by decide⟩ kLc40 rfl ?_
  refine fz_iaddN kLc40 rfl (by omega) ?_
  obtain ⟨a1, e2⟩ : ∃ z, h 200 ((i + 1)).toNat = z := ⟨_, rfl⟩
  refine fz_taldV (v := a1) kLc40 rfl ⟨by decide, by decide⟩ (by omega) (by omega) e2 ?_
  refine fz_aload_n kLc40 rfl rfl ?_
  refine fz_iload_n kLc40 rfl rfl ?_
  refine fz_iconst ⟨by decide, by decide⟩ kLc40 rfl ?_
  refine fz_iaddN kLc40 rfl (by omega) ?_
  obtain ⟨a3, e4⟩ : ∃ z, h 200 ((i + 2)).toNat = z := ⟨_, rfl⟩
  refine fz_taldV (v := a3) kLc40 rfl ⟨by decide, by decide⟩ (by omega) (by omega) e4 ?_
  refine fz_callV (d' := 3) (M' := mX10_element) (As := [fz_i a1, fz_i a3]) (st := []) kLc40 rfl rfl vX10_element rfl rfl rfl rfl (Nat.le_of_ble_eq_true rfl) (Nat.le_of_ble_eq_true rfl) (by decide) (sX10_element h hI a1 a3 ) (fun H5 r6 q7 o8 => ?_)
  obtain ⟨e9, y11, rfl, f10⟩ := q7
  subst H5
  clear o8
  refine fz_pop2 kLc40 rfl ?_
  refine fz_aload_n kLc40 rfl rfl ?_
  refine fz_aload_n kLc40 rfl rfl ?_
  refine fz_iload_n kLc40 rfl rfl ?_
  refine fz_iconst ⟨by decide, by decide⟩ kLc40 rfl ?_
  refine fz_iaddN kLc40 rfl (by omega) ?_
  obtain ⟨a12, e13⟩ : ∃ z, h 200 ((i + 1)).toNat = z := ⟨_, rfl⟩
  refine fz_taldV (v := a12) kLc40 rfl ⟨by decide, by decide⟩ (by omega) (by omega) e13 ?_
  refine fz_aload_n kLc40 rfl rfl ?_
  refine fz_iload_n kLc40 rfl rfl ?_
  refine fz_iconst ⟨by decide, by decide⟩ kLc40 rfl ?_
  refine fz_iaddN kLc40 rfl (by omega) ?_
  obtain ⟨a14, e15⟩ : ∃ z, h 200 ((i + 2)).toNat = z := ⟨_, rfl⟩
  refine fz_taldV (v := a14) kLc40 rfl ⟨by decide, by decide⟩ (by omega) (by omega) e15 ?_
  refine fz_callV (d' := 2) (M' := mX11_element) (As := [fz_i a12, fz_i a14]) (st := []) kLc40 rfl rfl vX11_element rfl rfl rfl rfl (Nat.le_of_ble_eq_true rfl) (Nat.le_of_ble_eq_true rfl) (by decide) (sX11_element h hI a12 a14 ) (fun H16 r17 q18 o19 => ?_)
  obtain ⟨e20, y22, rfl, f21⟩ := q18
  subst H16
  clear o19
  refine fz_pop2 kLc40 rfl ?_
  refine fz_goto (tgt := 1816) kLc40 rfl (by decide) ?_
  exact K h ⟨hI, hX, hXd, hXh, hXw, by omega, by omega, by omega, by omega, by omega, by omega⟩ rfl
def mLc41 : fz_M := (yL_law, code, 4, (some .boolean), [(1697, .aload_n 1, 1, 0, 0, 0), (1698, .aload_n 0, 1, 0, 0, 0), (1699, .iload_n 3, 1, 0, 0, 0), (1700, .iconst 1, 1, 0, 0, 0), (1701, .iadd, 1, 0, 0, 0), (1702, .iaload, 1, 0, 0, 0), (1703, .aload_n 0, 1, 0, 0, 0), (1704, .iload_n 3, 1, 0, 0, 0), (1705, .iconst 2, 1, 0, 0, 0), (1706, .iadd, 1, 0, 0, 0), (1707, .iaload, 1, 0, 0, 0), (1708, .aload_n 0, 1, 0, 0, 0), (1709, .iload_n 3, 1, 0, 0, 0), (1710, .iconst 3, 1, 0, 0, 0), (1711, .iadd, 1, 0, 0, 0), (1712, .iaload, 1, 0, 0, 0), (1713, .aload_n 0, 1, 0, 0, 0), (1714, .iload_n 3, 1, 0, 0, 0), (1715, .iconst 4, 1, 0, 0, 0), (1716, .iadd, 1, 0, 0, 0), (1717, .iaload, 1, 0, 0, 0), (1718, .aload_n 0, 1, 0, 0, 0), (1719, .iload_n 3, 1, 0, 0, 0), (1720, .iconst 5, 1, 0, 0, 0), (1721, .iadd, 1, 0, 0, 0), (1722, .iaload, 1, 0, 0, 0), (1723, .invokevirtual 187, 3, 5056, 71, 0), (1726, .pop, 1, 0, 0, 0), (1727, .aload_n 2, 1, 0, 0, 0), (1728, .aload_n 0, 1, 0, 0, 0), (1729, .iload_n 3, 1, 0, 0, 0), (1730, .iconst 1, 1, 0, 0, 0), (1731, .iadd, 1, 0, 0, 0), (1732, .iaload, 1, 0, 0, 0), (1733, .aload_n 0, 1, 0, 0, 0), (1734, .iload_n 3, 1, 0, 0, 0), (1735, .iconst 2, 1, 0, 0, 0), (1736, .iadd, 1, 0, 0, 0), (1737, .iaload, 1, 0, 0, 0), (1738, .aload_n 0, 1, 0, 0, 0), (1739, .iload_n 3, 1, 0, 0, 0), (1740, .iconst 3, 1, 0, 0, 0), (1741, .iadd, 1, 0, 0, 0), (1742, .iaload, 1, 0, 0, 0), (1743, .aload_n 0, 1, 0, 0, 0), (1744, .iload_n 3, 1, 0, 0, 0), (1745, .iconst 4, 1, 0, 0, 0), (1746, .iadd, 1, 0, 0, 0), (1747, .iaload, 1, 0, 0, 0), (1748, .aload_n 0, 1, 0, 0, 0), (1749, .iload_n 3, 1, 0, 0, 0), (1750, .iconst 5, 1, 0, 0, 0), (1751, .iadd, 1, 0, 0, 0), (1752, .iaload, 1, 0, 0, 0), (1753, .invokevirtual 191, 3, 7191, 173, 0), (1756, .pop, 1, 0, 0, 0), (1757, .goto 59, 3, 0, 0, 0)])
set_option maxRecDepth 100000 in
theorem kLc41 : fz_okM mLc41 = true := by decide +kernel
set_option maxHeartbeats 1000000 in
set_option maxRecDepth 100000 in
theorem lc41 (h : fz_H) (hI : fz_Iv h) (hX : fz_Xc h) (hXd : fz_Xd h) (hXh : fz_Xh h) (hXw : fz_Xw h) (hv1 : h 53 10 ≤ 10) (hv2 : h 53 42 ≤ h 53 41) (hr0 : h 44 2 = h 53 44) (hr1 : h 20 2 = h 53 16) (hr2 : h 1 7 = h 53 0) (hr3 : h 1 8 = h 53 2) (i : Int) (hi : 0 ≤ i ∧ i + 6 ≤ h 200 100000 ∧ h 200 100000 ≤ 3072) {Q : fz_H → Option fz_V → Prop} (K : ∀ H : fz_H, fz_Gd H → H 200 = h 200 → fz_R 47 mLe 1816 [(3, fz_i i), (0, fz_r 200), (1, fz_r 0), (2, fz_r 53)] [] H Q) : fz_R 47 mLc41 1697 [(3, fz_i i), (0, fz_r 200), (1, fz_r 0), (2, fz_r 53)] [] h Q := by
  have hf : fz_fr fz_all h h := fz_fr_rf
  refine fz_aload_n kLc41 rfl rfl ?_
  refine fz_aload_n kLc41 rfl rfl ?_
  refine fz_iload_n kLc41 rfl rfl ?_
  refine fz_iconst ⟨by decide, by decide⟩ kLc41 rfl ?_
  refine fz_iaddN kLc41 rfl (by omega) ?_
  obtain ⟨a1, e2⟩ : ∃ z, h 200 ((i + 1)).toNat = z := ⟨_, rfl⟩
  refine fz_taldV (v := a1) kLc41 rfl ⟨by decide, by decide⟩ (by omega) (by omega) e2 ?_
  refine fz_aload_n kLc41 rfl rfl ?_
  refine fz_iload_n kLc41 rfl rfl ?_
  refine fz_iconst ⟨by decide, by decide⟩ kLc41 rfl ?_
  refine fz_iaddN kLc41 rfl (by omega) ?_
  obtain ⟨a3, e4⟩ : ∃ z, h 200 ((i + 2)).toNat = z := ⟨_, rfl⟩
  refine fz_taldV (v := a3) kLc41 rfl ⟨by decide, by decide⟩ (by omega) (by omega) e4 ?_
  refine fz_aload_n kLc41 rfl rfl ?_
  refine fz_iload_n kLc41 rfl rfl ?_
  refine fz_iconst ⟨by decide, by decide⟩ kLc41 rfl ?_
  refine fz_iaddN kLc41 rfl (by omega) ?_
  obtain ⟨a5, e6⟩ : ∃ z, h 200 ((i + 3)).toNat = z := ⟨_, rfl⟩
  refine fz_taldV (v := a5) kLc41 rfl ⟨by decide, by decide⟩ (by omega) (by omega) e6 ?_
  refine fz_aload_n kLc41 rfl rfl ?_
  refine fz_iload_n kLc41 rfl rfl ?_
  refine fz_iconst ⟨by decide, by decide⟩ kLc41 rfl ?_
  refine fz_iaddN kLc41 rfl (by omega) ?_
  obtain ⟨a7, e8⟩ : ∃ z, h 200 ((i + 4)).toNat = z := ⟨_, rfl⟩
  refine fz_taldV (v := a7) kLc41 rfl ⟨by decide, by decide⟩ (by omega) (by omega) e8 ?_
  refine fz_aload_n kLc41 rfl rfl ?_
  refine fz_iload_n kLc41 rfl rfl ?_
  refine fz_iconst ⟨by decide, by decide⟩ kLc41 rfl ?_
  refine fz_iaddN kLc41 rfl (by omega) ?_
  obtain ⟨a9, e10⟩ : ∃ z, h 200 ((i + 5)).toNat = z := ⟨_, rfl⟩
  refine fz_taldV (v := a9) kLc41 rfl ⟨by decide, by decide⟩ (by omega) (by omega) e10 ?_
  refine fz_callV (d' := 2) (M' := mX10_shift) (As := [fz_i a1, fz_i a3, fz_i a5, fz_i a7, fz_i a9]) (st := []) kLc41 rfl rfl vX10_shift rfl rfl rfl rfl (Nat.le_of_ble_eq_true rfl) (Nat.le_of_ble_eq_true rfl) (by decide) (sX10_shift h hI a1 a3 a5 a7 a9 ) (fun H11 r12 q13 o14 => ?_)
  obtain ⟨hI15, hf16, y18, rfl, f17⟩ := q13
  clear o14
  have hf19 := fz_fr_tr hf hf16 (fz_su_all rfl)
  have hXd20 : fz_Xd H11 := fz_Xd_eq (funext fun s => hf16 80 s rfl) hXd
  have hXh21 : fz_Xh H11 := fz_Xh_eq (funext fun s => hf16 83 s rfl) hXh
  have hXw22 : fz_Xw H11 := fz_Xw_eq (hf16 53 19 rfl) (funext fun s => hf16 66 s rfl) (funext fun s => hf16 67 s rfl) (funext fun s => hf16 68 s rfl) (funext fun s => hf16 69 s rfl) hXw
  have hX23 : fz_Xc H11 := fz_Xc_fr hf16 rfl hX
  have t24 : H11 53 10 = h 53 10 := hf16 53 10 rfl
  have t25 : H11 53 41 = h 53 41 := hf16 53 41 rfl
  have t26 : H11 53 42 = h 53 42 := hf16 53 42 rfl
  have t27 : H11 44 2 = h 44 2 := hf16 44 2 rfl
  have t28 : H11 53 44 = h 53 44 := hf16 53 44 rfl
  have t29 : H11 20 2 = h 20 2 := hf16 20 2 rfl
  have t30 : H11 53 16 = h 53 16 := hf16 53 16 rfl
  have t31 : H11 1 7 = h 1 7 := hf16 1 7 rfl
  have t32 : H11 53 0 = h 53 0 := hf16 53 0 rfl
  have t33 : H11 1 8 = h 1 8 := hf16 1 8 rfl
  have t34 : H11 53 2 = h 53 2 := hf16 53 2 rfl
  refine fz_pop rfl kLc41 rfl ?_
  refine fz_aload_n kLc41 rfl rfl ?_
  refine fz_aload_n kLc41 rfl rfl ?_
  refine fz_iload_n kLc41 rfl rfl ?_
  refine fz_iconst ⟨by decide, by decide⟩ kLc41 rfl ?_
  refine fz_iaddN kLc41 rfl (by omega) ?_
  obtain ⟨a35, e36⟩ : ∃ z, h 200 ((i + 1)).toNat = z := ⟨_, rfl⟩
  refine fz_taldV (v := a35) kLc41 rfl ⟨by decide, by decide⟩ (by omega) (by rw [hf19 200 _ rfl]; omega) ((hf19 200 _ rfl).trans e36) ?_
  refine fz_aload_n kLc41 rfl rfl ?_
  refine fz_iload_n kLc41 rfl rfl ?_
  refine fz_iconst ⟨by decide, by decide⟩ kLc41 rfl ?_
  refine fz_iaddN kLc41 rfl (by omega) ?_
  obtain ⟨a37, e38⟩ : ∃ z, h 200 ((i + 2)).toNat = z := ⟨_, rfl⟩
  refine fz_taldV (v := a37) kLc41 rfl ⟨by decide, by decide⟩ (by omega) (by rw [hf19 200 _ rfl]; omega) ((hf19 200 _ rfl).trans e38) ?_
  refine fz_aload_n kLc41 rfl rfl ?_
  refine fz_iload_n kLc41 rfl rfl ?_
  refine fz_iconst ⟨by decide, by decide⟩ kLc41 rfl ?_
  refine fz_iaddN kLc41 rfl (by omega) ?_
  obtain ⟨a39, e40⟩ : ∃ z, h 200 ((i + 3)).toNat = z := ⟨_, rfl⟩
  refine fz_taldV (v := a39) kLc41 rfl ⟨by decide, by decide⟩ (by omega) (by rw [hf19 200 _ rfl]; omega) ((hf19 200 _ rfl).trans e40) ?_
  refine fz_aload_n kLc41 rfl rfl ?_
  refine fz_iload_n kLc41 rfl rfl ?_
  refine fz_iconst ⟨by decide, by decide⟩ kLc41 rfl ?_
  refine fz_iaddN kLc41 rfl (by omega) ?_
  obtain ⟨a41, e42⟩ : ∃ z, h 200 ((i + 4)).toNat = z := ⟨_, rfl⟩
  refine fz_taldV (v := a41) kLc41 rfl ⟨by decide, by decide⟩ (by omega) (by rw [hf19 200 _ rfl]; omega) ((hf19 200 _ rfl).trans e42) ?_
  refine fz_aload_n kLc41 rfl rfl ?_
  refine fz_iload_n kLc41 rfl rfl ?_
  refine fz_iconst ⟨by decide, by decide⟩ kLc41 rfl ?_
  refine fz_iaddN kLc41 rfl (by omega) ?_
  obtain ⟨a43, e44⟩ : ∃ z, h 200 ((i + 5)).toNat = z := ⟨_, rfl⟩
  refine fz_taldV (v := a43) kLc41 rfl ⟨by decide, by decide⟩ (by omega) (by rw [hf19 200 _ rfl]; omega) ((hf19 200 _ rfl).trans e44) ?_
  refine fz_callV (d' := 2) (M' := mX11_shift) (As := [fz_i a35, fz_i a37, fz_i a39, fz_i a41, fz_i a43]) (st := []) kLc41 rfl rfl vX11_shift rfl rfl rfl rfl (Nat.le_of_ble_eq_true rfl) (Nat.le_of_ble_eq_true rfl) (by decide) (sX11_shift H11 hI15 a35 a37 a39 a41 a43 ) (fun H45 r46 q47 o48 => ?_)
  obtain ⟨hI49, hf50, y52, rfl, f51⟩ := q47
  clear o48
  have hf53 := fz_fr_tr hf19 hf50 (fz_su_all rfl)
  have hXd54 : fz_Xd H45 := fz_Xd_eq (funext fun s => hf50 80 s rfl) hXd20
  have hXh55 : fz_Xh H45 := fz_Xh_eq (funext fun s => hf50 83 s rfl) hXh21
  have hXw56 : fz_Xw H45 := fz_Xw_eq (hf50 53 19 rfl) (funext fun s => hf50 66 s rfl) (funext fun s => hf50 67 s rfl) (funext fun s => hf50 68 s rfl) (funext fun s => hf50 69 s rfl) hXw22
  have hX57 : fz_Xc H45 := fz_Xc_fr hf50 rfl hX23
  have t58 : H45 53 10 = H11 53 10 := hf50 53 10 rfl
  have t59 : H45 53 41 = H11 53 41 := hf50 53 41 rfl
  have t60 : H45 53 42 = H11 53 42 := hf50 53 42 rfl
  have t61 : H45 44 2 = H11 44 2 := hf50 44 2 rfl
  have t62 : H45 53 44 = H11 53 44 := hf50 53 44 rfl
  have t63 : H45 20 2 = H11 20 2 := hf50 20 2 rfl
  have t64 : H45 53 16 = H11 53 16 := hf50 53 16 rfl
  have t65 : H45 1 7 = H11 1 7 := hf50 1 7 rfl
  have t66 : H45 53 0 = H11 53 0 := hf50 53 0 rfl
  have t67 : H45 1 8 = H11 1 8 := hf50 1 8 rfl
  have t68 : H45 53 2 = H11 53 2 := hf50 53 2 rfl
  refine fz_pop rfl kLc41 rfl ?_
  refine fz_goto (tgt := 1816) kLc41 rfl (by decide) ?_
  exact K H45 ⟨hI49, hX57, hXd54, hXh55, hXw56, by omega, by omega, by omega, by omega, by omega, by omega⟩ (funext fun s => hf53 200 s rfl)
def mLc42 : fz_M := (yL_law, code, 4, (some .boolean), [(1760, .aload_n 1, 1, 0, 0, 0), (1761, .aload_n 0, 1, 0, 0, 0), (1762, .iload_n 3, 1, 0, 0, 0), (1763, .iconst 1, 1, 0, 0, 0), (1764, .iadd, 1, 0, 0, 0), (1765, .iaload, 1, 0, 0, 0), (1766, .aload_n 0, 1, 0, 0, 0), (1767, .iload_n 3, 1, 0, 0, 0), (1768, .iconst 2, 1, 0, 0, 0), (1769, .iadd, 1, 0, 0, 0), (1770, .iaload, 1, 0, 0, 0), (1771, .invokevirtual 192, 3, 5065, 72, 0), (1774, .pop, 1, 0, 0, 0), (1775, .aload_n 2, 1, 0, 0, 0), (1776, .aload_n 0, 1, 0, 0, 0), (1777, .iload_n 3, 1, 0, 0, 0), (1778, .iconst 1, 1, 0, 0, 0), (1779, .iadd, 1, 0, 0, 0), (1780, .iaload, 1, 0, 0, 0), (1781, .aload_n 0, 1, 0, 0, 0), (1782, .iload_n 3, 1, 0, 0, 0), (1783, .iconst 2, 1, 0, 0, 0), (1784, .iadd, 1, 0, 0, 0), (1785, .iaload, 1, 0, 0, 0), (1786, .invokevirtual 195, 3, 7195, 175, 0), (1789, .pop, 1, 0, 0, 0), (1790, .goto 26, 3, 0, 0, 0)])
set_option maxRecDepth 100000 in
theorem kLc42 : fz_okM mLc42 = true := by decide +kernel
set_option maxHeartbeats 1000000 in
set_option maxRecDepth 100000 in
theorem lc42 (h : fz_H) (hI : fz_Iv h) (hX : fz_Xc h) (hXd : fz_Xd h) (hXh : fz_Xh h) (hXw : fz_Xw h) (hv1 : h 53 10 ≤ 10) (hv2 : h 53 42 ≤ h 53 41) (hr0 : h 44 2 = h 53 44) (hr1 : h 20 2 = h 53 16) (hr2 : h 1 7 = h 53 0) (hr3 : h 1 8 = h 53 2) (i : Int) (hi : 0 ≤ i ∧ i + 6 ≤ h 200 100000 ∧ h 200 100000 ≤ 3072) {Q : fz_H → Option fz_V → Prop} (K : ∀ H : fz_H, fz_Gd H → H 200 = h 200 → fz_R 47 mLe 1816 [(3, fz_i i), (0, fz_r 200), (1, fz_r 0), (2, fz_r 53)] [] H Q) : fz_R 47 mLc42 1760 [(3, fz_i i), (0, fz_r 200), (1, fz_r 0), (2, fz_r 53)] [] h Q := by
  have hf : fz_fr fz_all h h := fz_fr_rf
  refine fz_aload_n kLc42 rfl rfl ?_
  refine fz_aload_n kLc42 rfl rfl ?_
  refine fz_iload_n kLc42 rfl rfl ?_
  refine fz_iconst ⟨by decide, by decide⟩ kLc42 rfl ?_
  refine fz_iaddN kLc42 rfl (by omega) ?_
  obtain ⟨a1, e2⟩ : ∃ z, h 200 ((i + 1)).toNat = z := ⟨_, rfl⟩
  refine fz_taldV (v := a1) kLc42 rfl ⟨by decide, by decide⟩ (by omega) (by omega) e2 ?_
  refine fz_aload_n kLc42 rfl rfl ?_
  refine fz_iload_n kLc42 rfl rfl ?_
  refine fz_iconst ⟨by decide, by decide⟩ kLc42 rfl ?_
  refine fz_iaddN kLc42 rfl (by omega) ?_
  obtain ⟨a3, e4⟩ : ∃ z, h 200 ((i + 2)).toNat = z := ⟨_, rfl⟩
  refine fz_taldV (v := a3) kLc42 rfl ⟨by decide, by decide⟩ (by omega) (by omega) e4 ?_
  refine fz_callV (d' := 2) (M' := mX10_taken) (As := [fz_i a1, fz_i a3]) (st := []) kLc42 rfl rfl vX10_taken rfl rfl rfl rfl (Nat.le_of_ble_eq_true rfl) (Nat.le_of_ble_eq_true rfl) (by decide) (sX10_taken h hI a1 a3 ) (fun H5 r6 q7 o8 => ?_)
  obtain ⟨e9, y11, rfl, f10⟩ := q7
  subst H5
  clear o8
  refine fz_pop rfl kLc42 rfl ?_
  refine fz_aload_n kLc42 rfl rfl ?_
  refine fz_aload_n kLc42 rfl rfl ?_
  refine fz_iload_n kLc42 rfl rfl ?_
  refine fz_iconst ⟨by decide, by decide⟩ kLc42 rfl ?_
  refine fz_iaddN kLc42 rfl (by omega) ?_
  obtain ⟨a12, e13⟩ : ∃ z, h 200 ((i + 1)).toNat = z := ⟨_, rfl⟩
  refine fz_taldV (v := a12) kLc42 rfl ⟨by decide, by decide⟩ (by omega) (by omega) e13 ?_
  refine fz_aload_n kLc42 rfl rfl ?_
  refine fz_iload_n kLc42 rfl rfl ?_
  refine fz_iconst ⟨by decide, by decide⟩ kLc42 rfl ?_
  refine fz_iaddN kLc42 rfl (by omega) ?_
  obtain ⟨a14, e15⟩ : ∃ z, h 200 ((i + 2)).toNat = z := ⟨_, rfl⟩
  refine fz_taldV (v := a14) kLc42 rfl ⟨by decide, by decide⟩ (by omega) (by omega) e15 ?_
  refine fz_callV (d' := 2) (M' := mX11_taken) (As := [fz_i a12, fz_i a14]) (st := []) kLc42 rfl rfl vX11_taken rfl rfl rfl rfl (Nat.le_of_ble_eq_true rfl) (Nat.le_of_ble_eq_true rfl) (by decide) (sX11_taken h hI a12 a14 hXh) (fun H16 r17 q18 o19 => ?_)
  obtain ⟨e20, y22, rfl, f21⟩ := q18
  subst H16
  clear o19
  refine fz_pop rfl kLc42 rfl ?_
  refine fz_goto (tgt := 1816) kLc42 rfl (by decide) ?_
  exact K h ⟨hI, hX, hXd, hXh, hXw, by omega, by omega, by omega, by omega, by omega, by omega⟩ rfl
def mLc43 : fz_M := (yL_law, code, 4, (some .boolean), [(1793, .aload_n 1, 1, 0, 0, 0), (1794, .aload_n 0, 1, 0, 0, 0), (1795, .iload_n 3, 1, 0, 0, 0), (1796, .iconst 1, 1, 0, 0, 0), (1797, .iadd, 1, 0, 0, 0), (1798, .iaload, 1, 0, 0, 0), (1799, .invokevirtual 196, 3, 5077, 23, 0), (1802, .pop, 1, 0, 0, 0), (1803, .aload_n 2, 1, 0, 0, 0), (1804, .aload_n 0, 1, 0, 0, 0), (1805, .iload_n 3, 1, 0, 0, 0), (1806, .iconst 1, 1, 0, 0, 0), (1807, .iadd, 1, 0, 0, 0), (1808, .iaload, 1, 0, 0, 0), (1809, .invokevirtual 199, 3, 7199, 91, 0), (1812, .pop, 1, 0, 0, 0), (1813, .goto 3, 3, 0, 0, 0)])
set_option maxRecDepth 100000 in
theorem kLc43 : fz_okM mLc43 = true := by decide +kernel
set_option maxHeartbeats 1000000 in
set_option maxRecDepth 100000 in
theorem lc43 (h : fz_H) (hI : fz_Iv h) (hX : fz_Xc h) (hXd : fz_Xd h) (hXh : fz_Xh h) (hXw : fz_Xw h) (hv1 : h 53 10 ≤ 10) (hv2 : h 53 42 ≤ h 53 41) (hr0 : h 44 2 = h 53 44) (hr1 : h 20 2 = h 53 16) (hr2 : h 1 7 = h 53 0) (hr3 : h 1 8 = h 53 2) (i : Int) (hi : 0 ≤ i ∧ i + 6 ≤ h 200 100000 ∧ h 200 100000 ≤ 3072) {Q : fz_H → Option fz_V → Prop} (K : ∀ H : fz_H, fz_Gd H → H 200 = h 200 → fz_R 47 mLe 1816 [(3, fz_i i), (0, fz_r 200), (1, fz_r 0), (2, fz_r 53)] [] H Q) : fz_R 47 mLc43 1793 [(3, fz_i i), (0, fz_r 200), (1, fz_r 0), (2, fz_r 53)] [] h Q := by
  have hf : fz_fr fz_all h h := fz_fr_rf
  refine fz_aload_n kLc43 rfl rfl ?_
  refine fz_aload_n kLc43 rfl rfl ?_
  refine fz_iload_n kLc43 rfl rfl ?_
  refine fz_iconst ⟨by decide, by decide⟩ kLc43 rfl ?_
  refine fz_iaddN kLc43 rfl (by omega) ?_
  obtain ⟨a1, e2⟩ : ∃ z, h 200 ((i + 1)).toNat = z := ⟨_, rfl⟩
  refine fz_taldV (v := a1) kLc43 rfl ⟨by decide, by decide⟩ (by omega) (by omega) e2 ?_
  refine fz_callV (d' := 0) (M' := mX10_count) (As := [fz_i a1]) (st := []) kLc43 rfl rfl vX10_count rfl rfl rfl rfl (Nat.le_of_ble_eq_true rfl) (Nat.le_of_ble_eq_true rfl) (by decide) (sX10_count h hI a1 ) (fun H3 r4 q5 o6 => ?_)
  obtain ⟨e7, y9, rfl, f8⟩ := q5
  subst H3
  clear o6
  refine fz_pop rfl kLc43 rfl ?_
  refine fz_aload_n kLc43 rfl rfl ?_
  refine fz_aload_n kLc43 rfl rfl ?_
  refine fz_iload_n kLc43 rfl rfl ?_
  refine fz_iconst ⟨by decide, by decide⟩ kLc43 rfl ?_
  refine fz_iaddN kLc43 rfl (by omega) ?_
  obtain ⟨a10, e11⟩ : ∃ z, h 200 ((i + 1)).toNat = z := ⟨_, rfl⟩
  refine fz_taldV (v := a10) kLc43 rfl ⟨by decide, by decide⟩ (by omega) (by omega) e11 ?_
  refine fz_callV (d' := 0) (M' := mX11_count) (As := [fz_i a10]) (st := []) kLc43 rfl rfl vX11_count rfl rfl rfl rfl (Nat.le_of_ble_eq_true rfl) (Nat.le_of_ble_eq_true rfl) (by decide) (sX11_count h hI a10 ) (fun H12 r13 q14 o15 => ?_)
  obtain ⟨e16, y18, rfl, f17⟩ := q14
  subst H12
  clear o15
  refine fz_pop rfl kLc43 rfl ?_
  refine fz_goto (tgt := 1816) kLc43 rfl (by decide) ?_
  exact K h ⟨hI, hX, hXd, hXh, hXw, by omega, by omega, by omega, by omega, by omega, by omega⟩ rfl
