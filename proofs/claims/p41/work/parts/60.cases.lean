/-! ===== the law, case by case ===== -/
def fz_all : List (Nat × Nat) := [(0, 99999), (1, 99999), (2, 99999), (3, 99999), (4, 99999), (5, 99999), (6, 99999), (7, 99999), (8, 99999), (9, 99999), (10, 99999), (11, 99999), (12, 99999), (13, 99999), (14, 99999), (15, 99999), (16, 99999), (17, 99999), (18, 99999), (19, 99999), (20, 99999), (21, 99999), (22, 99999), (23, 99999), (24, 99999), (25, 99999), (26, 99999), (27, 99999), (28, 99999), (29, 99999), (30, 99999), (31, 99999), (32, 99999), (33, 99999), (34, 99999), (35, 99999), (36, 99999), (37, 99999), (38, 99999), (39, 99999), (40, 99999), (41, 99999), (42, 99999), (43, 99999), (44, 99999), (45, 99999), (46, 99999), (47, 99999), (48, 99999), (49, 99999), (50, 99999), (51, 99999), (52, 99999), (53, 99999), (54, 99999), (55, 99999), (56, 99999), (57, 99999), (58, 99999), (59, 99999), (60, 99999), (61, 99999), (62, 99999), (63, 99999), (64, 99999), (65, 99999), (66, 99999), (67, 99999), (68, 99999), (69, 99999), (70, 99999), (71, 99999), (72, 99999), (73, 99999), (74, 99999), (75, 99999), (76, 99999), (77, 99999), (78, 99999), (79, 99999), (80, 99999), (81, 99999), (82, 99999), (83, 99999), (84, 99999), (85, 99999), (86, 99999), (87, 99999), (88, 99999), (89, 99999), (90, 99999)]
/-- what holds between two calls -/
def fz_Gd (h : fz_H) : Prop := fz_Iv h ∧ fz_Xc h ∧ fz_Xd h ∧ fz_Xh h ∧ fz_Xw h ∧ h 53 10 ≤ 10 ∧ h 53 42 ≤ h 53 41 ∧ h 9 5 = h 53 10 ∧ h 44 2 = h 53 44 ∧ h 20 2 = h 53 16 ∧ h 1 7 = h 53 0 ∧ h 1 8 = h 53 2 ∧ fz_RS h ∧ fz_RP h ∧ fz_RK h ∧ fz_RR h ∧ fz_RT h ∧ fz_RE h
theorem fz_su_all {S : List (Nat × Nat)} (h : S.all (fun q => Nat.blt q.1 91) = true) : fz_su S fz_all = true := by
  have key : ∀ n, n < 91 → (n, 99999) ∈ fz_all := by decide +kernel
  refine List.all_eq_true.mpr (fun q hq => List.any_eq_true.mpr ⟨_, key q.1 (by have h1 := List.all_eq_true.mp h q hq; exact Nat.le_of_ble_eq_true h1), ?_⟩)
  simp
theorem fz_sw {y : MethodName} {c : ByteArray} {n : Nat} {r : Option FieldType} {L L' : List fz_I} {d pc : Nat} {ls : List (Nat × fz_V)} {st : List fz_V} {h : fz_H} {Q : fz_H → Option fz_V → Prop} (k : fz_R d (y, c, n, r, L') pc ls st h Q) : fz_R d (y, c, n, r, L) pc ls st h Q := k
def mLe : fz_M := (yL_law, code, 4, (some .boolean), [(1816, .iinc 3 6, 3, 0, 0, 0), (1819, .goto (-1801), 3, 0, 0, 0), (1822, .iconst 1, 1, 0, 0, 0), (1823, .ireturn, 1, 0, 0, 0)])
set_option maxRecDepth 100000 in
theorem kLe : fz_okM mLe = true := by decide +kernel
def mLc0 : fz_M := (yL_law, code, 4, (some .boolean), [(224, .aload_n 1, 1, 0, 0, 0), (225, .aload_n 0, 1, 0, 0, 0), (226, .iload_n 3, 1, 0, 0, 0), (227, .iconst 1, 1, 0, 0, 0), (228, .iadd, 1, 0, 0, 0), (229, .iaload, 1, 0, 0, 0), (230, .invokevirtual 13, 3, 2142, 73, 0), (233, .pop, 1, 0, 0, 0), (234, .aload_n 2, 1, 0, 0, 0), (235, .aload_n 0, 1, 0, 0, 0), (236, .iload_n 3, 1, 0, 0, 0), (237, .iconst 1, 1, 0, 0, 0), (238, .iadd, 1, 0, 0, 0), (239, .iaload, 1, 0, 0, 0), (240, .invokevirtual 17, 3, 6022, 177, 0), (243, .pop, 1, 0, 0, 0), (244, .goto 1572, 3, 0, 0, 0)])
set_option maxRecDepth 100000 in
theorem kLc0 : fz_okM mLc0 = true := by decide +kernel
set_option maxHeartbeats 1000000 in
set_option maxRecDepth 100000 in
theorem lc0 (h : fz_H) (hI : fz_Iv h) (hX : fz_Xc h) (hXd : fz_Xd h) (hXh : fz_Xh h) (hXw : fz_Xw h) (hv1 : h 53 10 ≤ 10) (hv2 : h 53 42 ≤ h 53 41) (hr0 : h 9 5 = h 53 10) (hr1 : h 44 2 = h 53 44) (hr2 : h 20 2 = h 53 16) (hr3 : h 1 7 = h 53 0) (hr4 : h 1 8 = h 53 2) (hRS : fz_RS h) (hRP : fz_RP h) (hRK : fz_RK h) (hRR : fz_RR h) (hRT : fz_RT h) (hRE : fz_RE h) (i : Int) (hi : 0 ≤ i ∧ i + 6 ≤ h 200 100000 ∧ h 200 100000 ≤ 3072) {Q : fz_H → Option fz_V → Prop} (K : ∀ H : fz_H, fz_Gd H → H 200 = h 200 → fz_R 47 mLe 1816 [(3, fz_i i), (0, fz_r 200), (1, fz_r 0), (2, fz_r 53)] [] H Q) : fz_R 47 mLc0 224 [(3, fz_i i), (0, fz_r 200), (1, fz_r 0), (2, fz_r 53)] [] h Q := by
  have hf : fz_fr fz_all h h := fz_fr_rf
  refine fz_aload_n kLc0 rfl rfl ?_
  refine fz_aload_n kLc0 rfl rfl ?_
  refine fz_iload_n kLc0 rfl rfl ?_
  refine fz_iconst ⟨by decide, by decide⟩ kLc0 rfl ?_
  refine fz_iaddN kLc0 rfl (by omega) ?_
  obtain ⟨a1, e2⟩ : ∃ z, h 200 ((i + 1)).toNat = z := ⟨_, rfl⟩
  refine fz_taldV (v := a1) kLc0 rfl ⟨by decide, by decide⟩ (by omega) (by omega) e2 ?_
  have b3 : 0 ≤ h 1 7 ∧ h 1 7 ≤ 8 := hI.1 1 _
  refine fz_callV (d' := 4) (M' := mX10_town) (As := [fz_i a1]) (st := []) kLc0 rfl rfl vX10_town rfl rfl rfl rfl (Nat.le_of_ble_eq_true rfl) (Nat.le_of_ble_eq_true rfl) (by decide) (sX10_town h hI a1 ) (fun H4 r5 q6 o7 => ?_)
  obtain ⟨hI8, hf9, y12, rfl, f10, f11⟩ := q6
  clear o7
  have hf13 := fz_fr_tr hf hf9 (fz_su_all rfl)
  have hXd14 : fz_Xd H4 := fz_Xd_eq (funext fun s => hf9 80 s rfl) hXd
  have hXh15 : fz_Xh H4 := fz_Xh_eq (funext fun s => hf9 83 s rfl) hXh
  have hXw16 : fz_Xw H4 := fz_Xw_eq (hf9 53 19 rfl) (funext fun s => hf9 66 s rfl) (funext fun s => hf9 67 s rfl) (funext fun s => hf9 68 s rfl) (funext fun s => hf9 69 s rfl) hXw
  have hRS17 : fz_RS H4 := fz_RS_eq (funext fun s => hf9 48 s rfl) (funext fun s => hf9 49 s rfl) (funext fun s => hf9 50 s rfl) (funext fun s => hf9 51 s rfl) (funext fun s => hf9 83 s rfl) (funext fun s => hf9 84 s rfl) (hf9 44 2 rfl) hRS
  have hRP18 : fz_RP H4 := fz_RP_eq (funext fun s => hf9 52 s rfl) (funext fun s => hf9 85 s rfl) hRP
  have hRK19 : fz_RK H4 := fz_RK_eq (funext fun s => hf9 45 s rfl) (funext fun s => hf9 81 s rfl) hRK
  have hRR20 : fz_RR H4 := fz_RR_eq (hf9 44 3 rfl) (hf9 53 46 rfl) (funext fun s => hf9 46 s rfl) (funext fun s => hf9 82 s rfl) hRR
  have hX21 : fz_Xc H4 := fz_Xc_fr hf9 rfl hX
  have t22 : H4 53 10 = h 53 10 := hf9 53 10 rfl
  have t23 : H4 53 41 = h 53 41 := hf9 53 41 rfl
  have t24 : H4 53 42 = h 53 42 := hf9 53 42 rfl
  have t25 : H4 9 5 = h 9 5 := hf9 9 5 rfl
  have t26 : H4 53 10 = h 53 10 := hf9 53 10 rfl
  have t27 : H4 44 2 = h 44 2 := hf9 44 2 rfl
  have t28 : H4 53 44 = h 53 44 := hf9 53 44 rfl
  have t29 : H4 20 2 = h 20 2 := hf9 20 2 rfl
  have t30 : H4 53 16 = h 53 16 := hf9 53 16 rfl
  have t31 : H4 53 0 = h 53 0 := hf9 53 0 rfl
  have t32 : H4 1 8 = h 1 8 := hf9 1 8 rfl
  have t33 : H4 53 2 = h 53 2 := hf9 53 2 rfl
  refine fz_pop rfl kLc0 rfl ?_
  refine fz_aload_n kLc0 rfl rfl ?_
  refine fz_aload_n kLc0 rfl rfl ?_
  refine fz_iload_n kLc0 rfl rfl ?_
  refine fz_iconst ⟨by decide, by decide⟩ kLc0 rfl ?_
  refine fz_iaddN kLc0 rfl (by omega) ?_
  refine fz_taldV (v := a1) kLc0 rfl ⟨by decide, by decide⟩ (by omega) (by rw [hf13 200 _ rfl]; omega) ((hf13 200 _ rfl).trans e2) ?_
  have b34 : 0 ≤ H4 53 0 ∧ H4 53 0 ≤ 8 := hI8.1 53 _
  refine fz_callV (d' := 1) (M' := mX11_town) (As := [fz_i a1]) (st := []) kLc0 rfl rfl vX11_town rfl rfl rfl rfl (Nat.le_of_ble_eq_true rfl) (Nat.le_of_ble_eq_true rfl) (by decide) (sX11_town H4 hI8 a1 ) (fun H35 r36 q37 o38 => ?_)
  obtain ⟨hI39, hf40, y43, rfl, f41, f42⟩ := q37
  clear o38
  have hf44 := fz_fr_tr hf13 hf40 (fz_su_all rfl)
  have hXd45 : fz_Xd H35 := fz_Xd_eq (funext fun s => hf40 80 s rfl) hXd14
  have hXh46 : fz_Xh H35 := fz_Xh_eq (funext fun s => hf40 83 s rfl) hXh15
  have hXw47 : fz_Xw H35 := fz_Xw_eq (hf40 53 19 rfl) (funext fun s => hf40 66 s rfl) (funext fun s => hf40 67 s rfl) (funext fun s => hf40 68 s rfl) (funext fun s => hf40 69 s rfl) hXw16
  have hRS48 : fz_RS H35 := fz_RS_eq (funext fun s => hf40 48 s rfl) (funext fun s => hf40 49 s rfl) (funext fun s => hf40 50 s rfl) (funext fun s => hf40 51 s rfl) (funext fun s => hf40 83 s rfl) (funext fun s => hf40 84 s rfl) (hf40 44 2 rfl) hRS17
  have hRP49 : fz_RP H35 := fz_RP_eq (funext fun s => hf40 52 s rfl) (funext fun s => hf40 85 s rfl) hRP18
  have hRK50 : fz_RK H35 := fz_RK_eq (funext fun s => hf40 45 s rfl) (funext fun s => hf40 81 s rfl) hRK19
  have hRR51 : fz_RR H35 := fz_RR_eq (hf40 44 3 rfl) (hf40 53 46 rfl) (funext fun s => hf40 46 s rfl) (funext fun s => hf40 82 s rfl) hRR20
  have hX52 : fz_Xc H35 := fz_Xc_fr hf40 rfl hX21
  have t53 : H35 53 10 = H4 53 10 := hf40 53 10 rfl
  have t54 : H35 53 41 = H4 53 41 := hf40 53 41 rfl
  have t55 : H35 53 42 = H4 53 42 := hf40 53 42 rfl
  have t56 : H35 9 5 = H4 9 5 := hf40 9 5 rfl
  have t57 : H35 53 10 = H4 53 10 := hf40 53 10 rfl
  have t58 : H35 44 2 = H4 44 2 := hf40 44 2 rfl
  have t59 : H35 53 44 = H4 53 44 := hf40 53 44 rfl
  have t60 : H35 20 2 = H4 20 2 := hf40 20 2 rfl
  have t61 : H35 53 16 = H4 53 16 := hf40 53 16 rfl
  have t62 : H35 1 7 = H4 1 7 := hf40 1 7 rfl
  have t63 : H35 1 8 = H4 1 8 := hf40 1 8 rfl
  have t64 : H35 53 2 = H4 53 2 := hf40 53 2 rfl
  refine fz_pop rfl kLc0 rfl ?_
  refine fz_goto (tgt := 1816) kLc0 rfl (by decide) ?_
  have hRT65 : fz_RT H35 := fz_RT_t (funext fun s => (hf40 41 s rfl).trans (hf9 41 s rfl)) (funext fun s => (hf40 42 s rfl).trans (hf9 42 s rfl)) (by omega) hRT
  have hRE67 : fz_RE H35 := fz_RE_t (funext fun s => (hf40 5 s rfl).trans (hf9 5 s rfl)) (funext fun s => (hf40 6 s rfl).trans (hf9 6 s rfl)) ((hf40 1 8 rfl).trans (hf9 1 8 rfl)) (by omega) hRE
  exact K H35 ⟨hI39, hX52, hXd45, hXh46, hXw47, by omega, by omega, by omega, by omega, by omega, by omega, by omega, hRS48, hRP49, hRK50, hRR51, hRT65, hRE67⟩ (funext fun s => hf44 200 s rfl)
def mLc1 : fz_M := (yL_law, code, 4, (some .boolean), [(247, .aload_n 1, 1, 0, 0, 0), (248, .aload_n 0, 1, 0, 0, 0), (249, .iload_n 3, 1, 0, 0, 0), (250, .iconst 1, 1, 0, 0, 0), (251, .iadd, 1, 0, 0, 0), (252, .iaload, 1, 0, 0, 0), (253, .aload_n 0, 1, 0, 0, 0), (254, .iload_n 3, 1, 0, 0, 0), (255, .iconst 2, 1, 0, 0, 0), (256, .iadd, 1, 0, 0, 0), (257, .iaload, 1, 0, 0, 0), (258, .invokevirtual 18, 3, 2173, 67, 0), (261, .pop, 1, 0, 0, 0), (262, .aload_n 2, 1, 0, 0, 0), (263, .aload_n 0, 1, 0, 0, 0), (264, .iload_n 3, 1, 0, 0, 0), (265, .iconst 1, 1, 0, 0, 0), (266, .iadd, 1, 0, 0, 0), (267, .iaload, 1, 0, 0, 0), (268, .aload_n 0, 1, 0, 0, 0), (269, .iload_n 3, 1, 0, 0, 0), (270, .iconst 2, 1, 0, 0, 0), (271, .iadd, 1, 0, 0, 0), (272, .iaload, 1, 0, 0, 0), (273, .invokevirtual 22, 3, 6033, 166, 0), (276, .pop, 1, 0, 0, 0), (277, .goto 1539, 3, 0, 0, 0)])
set_option maxRecDepth 100000 in
theorem kLc1 : fz_okM mLc1 = true := by decide +kernel
set_option maxHeartbeats 1000000 in
set_option maxRecDepth 100000 in
theorem lc1 (h : fz_H) (hI : fz_Iv h) (hX : fz_Xc h) (hXd : fz_Xd h) (hXh : fz_Xh h) (hXw : fz_Xw h) (hv1 : h 53 10 ≤ 10) (hv2 : h 53 42 ≤ h 53 41) (hr0 : h 9 5 = h 53 10) (hr1 : h 44 2 = h 53 44) (hr2 : h 20 2 = h 53 16) (hr3 : h 1 7 = h 53 0) (hr4 : h 1 8 = h 53 2) (hRS : fz_RS h) (hRP : fz_RP h) (hRK : fz_RK h) (hRR : fz_RR h) (hRT : fz_RT h) (hRE : fz_RE h) (i : Int) (hi : 0 ≤ i ∧ i + 6 ≤ h 200 100000 ∧ h 200 100000 ≤ 3072) {Q : fz_H → Option fz_V → Prop} (K : ∀ H : fz_H, fz_Gd H → H 200 = h 200 → fz_R 47 mLe 1816 [(3, fz_i i), (0, fz_r 200), (1, fz_r 0), (2, fz_r 53)] [] H Q) : fz_R 47 mLc1 247 [(3, fz_i i), (0, fz_r 200), (1, fz_r 0), (2, fz_r 53)] [] h Q := by
  have hf : fz_fr fz_all h h := fz_fr_rf
  refine fz_aload_n kLc1 rfl rfl ?_
  refine fz_aload_n kLc1 rfl rfl ?_
  refine fz_iload_n kLc1 rfl rfl ?_
  refine fz_iconst ⟨by decide, by decide⟩ kLc1 rfl ?_
  refine fz_iaddN kLc1 rfl (by omega) ?_
  obtain ⟨a1, e2⟩ : ∃ z, h 200 ((i + 1)).toNat = z := ⟨_, rfl⟩
  refine fz_taldV (v := a1) kLc1 rfl ⟨by decide, by decide⟩ (by omega) (by omega) e2 ?_
  refine fz_aload_n kLc1 rfl rfl ?_
  refine fz_iload_n kLc1 rfl rfl ?_
  refine fz_iconst ⟨by decide, by decide⟩ kLc1 rfl ?_
  refine fz_iaddN kLc1 rfl (by omega) ?_
  obtain ⟨a3, e4⟩ : ∃ z, h 200 ((i + 2)).toNat = z := ⟨_, rfl⟩
  refine fz_taldV (v := a3) kLc1 rfl ⟨by decide, by decide⟩ (by omega) (by omega) e4 ?_
  have b5 : 0 ≤ h 1 7 ∧ h 1 7 ≤ 8 := hI.1 1 _
  have b6 : 0 ≤ h 1 8 ∧ h 1 8 ≤ 12 := hI.1 1 _
  refine fz_callV (d' := 4) (M' := mX10_road) (As := [fz_i a1, fz_i a3]) (st := []) kLc1 rfl rfl vX10_road rfl rfl rfl rfl (Nat.le_of_ble_eq_true rfl) (Nat.le_of_ble_eq_true rfl) (by decide) (sX10_road h hI a1 a3 hRE) (fun H7 r8 q9 o10 => ?_)
  obtain ⟨hI11, hf12, hRE13, y16, rfl, f14, f15⟩ := q9
  clear o10
  have hf17 := fz_fr_tr hf hf12 (fz_su_all rfl)
  have hXd18 : fz_Xd H7 := fz_Xd_eq (funext fun s => hf12 80 s rfl) hXd
  have hXh19 : fz_Xh H7 := fz_Xh_eq (funext fun s => hf12 83 s rfl) hXh
  have hXw20 : fz_Xw H7 := fz_Xw_eq (hf12 53 19 rfl) (funext fun s => hf12 66 s rfl) (funext fun s => hf12 67 s rfl) (funext fun s => hf12 68 s rfl) (funext fun s => hf12 69 s rfl) hXw
  have hRS21 : fz_RS H7 := fz_RS_eq (funext fun s => hf12 48 s rfl) (funext fun s => hf12 49 s rfl) (funext fun s => hf12 50 s rfl) (funext fun s => hf12 51 s rfl) (funext fun s => hf12 83 s rfl) (funext fun s => hf12 84 s rfl) (hf12 44 2 rfl) hRS
  have hRP22 : fz_RP H7 := fz_RP_eq (funext fun s => hf12 52 s rfl) (funext fun s => hf12 85 s rfl) hRP
  have hRK23 : fz_RK H7 := fz_RK_eq (funext fun s => hf12 45 s rfl) (funext fun s => hf12 81 s rfl) hRK
  have hRR24 : fz_RR H7 := fz_RR_eq (hf12 44 3 rfl) (hf12 53 46 rfl) (funext fun s => hf12 46 s rfl) (funext fun s => hf12 82 s rfl) hRR
  have hRT25 : fz_RT H7 := fz_RT_eq (funext fun s => hf12 41 s rfl) (funext fun s => hf12 42 s rfl) (hf12 1 7 rfl) hRT
  have hX26 : fz_Xc H7 := fz_Xc_fr hf12 rfl hX
  have t27 : H7 53 10 = h 53 10 := hf12 53 10 rfl
  have t28 : H7 53 41 = h 53 41 := hf12 53 41 rfl
  have t29 : H7 53 42 = h 53 42 := hf12 53 42 rfl
  have t30 : H7 9 5 = h 9 5 := hf12 9 5 rfl
  have t31 : H7 53 10 = h 53 10 := hf12 53 10 rfl
  have t32 : H7 44 2 = h 44 2 := hf12 44 2 rfl
  have t33 : H7 53 44 = h 53 44 := hf12 53 44 rfl
  have t34 : H7 20 2 = h 20 2 := hf12 20 2 rfl
  have t35 : H7 53 16 = h 53 16 := hf12 53 16 rfl
  have t36 : H7 1 7 = h 1 7 := hf12 1 7 rfl
  have t37 : H7 53 0 = h 53 0 := hf12 53 0 rfl
  have t38 : H7 53 2 = h 53 2 := hf12 53 2 rfl
  refine fz_pop rfl kLc1 rfl ?_
  refine fz_aload_n kLc1 rfl rfl ?_
  refine fz_aload_n kLc1 rfl rfl ?_
  refine fz_iload_n kLc1 rfl rfl ?_
  refine fz_iconst ⟨by decide, by decide⟩ kLc1 rfl ?_
  refine fz_iaddN kLc1 rfl (by omega) ?_
  refine fz_taldV (v := a1) kLc1 rfl ⟨by decide, by decide⟩ (by omega) (by rw [hf17 200 _ rfl]; omega) ((hf17 200 _ rfl).trans e2) ?_
  refine fz_aload_n kLc1 rfl rfl ?_
  refine fz_iload_n kLc1 rfl rfl ?_
  refine fz_iconst ⟨by decide, by decide⟩ kLc1 rfl ?_
  refine fz_iaddN kLc1 rfl (by omega) ?_
  refine fz_taldV (v := a3) kLc1 rfl ⟨by decide, by decide⟩ (by omega) (by rw [hf17 200 _ rfl]; omega) ((hf17 200 _ rfl).trans e4) ?_
  have b39 : 0 ≤ H7 53 0 ∧ H7 53 0 ≤ 8 := hI11.1 53 _
  have b40 : 0 ≤ H7 53 2 ∧ H7 53 2 ≤ 12 := hI11.1 53 _
  refine fz_callV (d' := 3) (M' := mX11_road) (As := [fz_i a1, fz_i a3]) (st := []) kLc1 rfl rfl vX11_road rfl rfl rfl rfl (Nat.le_of_ble_eq_true rfl) (Nat.le_of_ble_eq_true rfl) (by decide) (sX11_road H7 hI11 a1 a3 ) (fun H41 r42 q43 o44 => ?_)
  obtain ⟨hI45, hf46, y49, rfl, f47, f48⟩ := q43
  clear o44
  have hf50 := fz_fr_tr hf17 hf46 (fz_su_all rfl)
  have hXd51 : fz_Xd H41 := fz_Xd_eq (funext fun s => hf46 80 s rfl) hXd18
  have hXh52 : fz_Xh H41 := fz_Xh_eq (funext fun s => hf46 83 s rfl) hXh19
  have hXw53 : fz_Xw H41 := fz_Xw_eq (hf46 53 19 rfl) (funext fun s => hf46 66 s rfl) (funext fun s => hf46 67 s rfl) (funext fun s => hf46 68 s rfl) (funext fun s => hf46 69 s rfl) hXw20
  have hRS54 : fz_RS H41 := fz_RS_eq (funext fun s => hf46 48 s rfl) (funext fun s => hf46 49 s rfl) (funext fun s => hf46 50 s rfl) (funext fun s => hf46 51 s rfl) (funext fun s => hf46 83 s rfl) (funext fun s => hf46 84 s rfl) (hf46 44 2 rfl) hRS21
  have hRP55 : fz_RP H41 := fz_RP_eq (funext fun s => hf46 52 s rfl) (funext fun s => hf46 85 s rfl) hRP22
  have hRK56 : fz_RK H41 := fz_RK_eq (funext fun s => hf46 45 s rfl) (funext fun s => hf46 81 s rfl) hRK23
  have hRR57 : fz_RR H41 := fz_RR_eq (hf46 44 3 rfl) (hf46 53 46 rfl) (funext fun s => hf46 46 s rfl) (funext fun s => hf46 82 s rfl) hRR24
  have hRT58 : fz_RT H41 := fz_RT_eq (funext fun s => hf46 41 s rfl) (funext fun s => hf46 42 s rfl) (hf46 1 7 rfl) hRT25
  have hRE59 : fz_RE H41 := fz_RE_eq (funext fun s => hf46 5 s rfl) (funext fun s => hf46 6 s rfl) (hf46 1 8 rfl) (hf46 1 7 rfl) hRE13
  have hX60 : fz_Xc H41 := fz_Xc_fr hf46 rfl hX26
  have t61 : H41 53 10 = H7 53 10 := hf46 53 10 rfl
  have t62 : H41 53 41 = H7 53 41 := hf46 53 41 rfl
  have t63 : H41 53 42 = H7 53 42 := hf46 53 42 rfl
  have t64 : H41 9 5 = H7 9 5 := hf46 9 5 rfl
  have t65 : H41 53 10 = H7 53 10 := hf46 53 10 rfl
  have t66 : H41 44 2 = H7 44 2 := hf46 44 2 rfl
  have t67 : H41 53 44 = H7 53 44 := hf46 53 44 rfl
  have t68 : H41 20 2 = H7 20 2 := hf46 20 2 rfl
  have t69 : H41 53 16 = H7 53 16 := hf46 53 16 rfl
  have t70 : H41 1 7 = H7 1 7 := hf46 1 7 rfl
  have t71 : H41 53 0 = H7 53 0 := hf46 53 0 rfl
  have t72 : H41 1 8 = H7 1 8 := hf46 1 8 rfl
  refine fz_pop rfl kLc1 rfl ?_
  refine fz_goto (tgt := 1816) kLc1 rfl (by decide) ?_
  exact K H41 ⟨hI45, hX60, hXd51, hXh52, hXw53, by omega, by omega, by omega, by omega, by omega, by omega, by omega, hRS54, hRP55, hRK56, hRR57, hRT58, hRE59⟩ (funext fun s => hf50 200 s rfl)
def mLc2 : fz_M := (yL_law, code, 4, (some .boolean), [(280, .aload_n 1, 1, 0, 0, 0), (281, .aload_n 0, 1, 0, 0, 0), (282, .iload_n 3, 1, 0, 0, 0), (283, .iconst 1, 1, 0, 0, 0), (284, .iadd, 1, 0, 0, 0), (285, .iaload, 1, 0, 0, 0), (286, .aload_n 0, 1, 0, 0, 0), (287, .iload_n 3, 1, 0, 0, 0), (288, .iconst 2, 1, 0, 0, 0), (289, .iadd, 1, 0, 0, 0), (290, .iaload, 1, 0, 0, 0), (291, .aload_n 0, 1, 0, 0, 0), (292, .iload_n 3, 1, 0, 0, 0), (293, .iconst 3, 1, 0, 0, 0), (294, .iadd, 1, 0, 0, 0), (295, .iaload, 1, 0, 0, 0), (296, .invokevirtual 23, 3, 2189, 25, 0), (299, .pop, 1, 0, 0, 0), (300, .aload_n 2, 1, 0, 0, 0), (301, .aload_n 0, 1, 0, 0, 0), (302, .iload_n 3, 1, 0, 0, 0), (303, .iconst 1, 1, 0, 0, 0), (304, .iadd, 1, 0, 0, 0), (305, .iaload, 1, 0, 0, 0), (306, .aload_n 0, 1, 0, 0, 0), (307, .iload_n 3, 1, 0, 0, 0), (308, .iconst 2, 1, 0, 0, 0), (309, .iadd, 1, 0, 0, 0), (310, .iaload, 1, 0, 0, 0), (311, .aload_n 0, 1, 0, 0, 0), (312, .iload_n 3, 1, 0, 0, 0), (313, .iconst 3, 1, 0, 0, 0), (314, .iadd, 1, 0, 0, 0), (315, .iaload, 1, 0, 0, 0), (316, .invokevirtual 27, 3, 6045, 93, 0), (319, .pop, 1, 0, 0, 0), (320, .goto 1496, 3, 0, 0, 0)])
set_option maxRecDepth 100000 in
theorem kLc2 : fz_okM mLc2 = true := by decide +kernel
set_option maxHeartbeats 1000000 in
set_option maxRecDepth 100000 in
theorem lc2 (h : fz_H) (hI : fz_Iv h) (hX : fz_Xc h) (hXd : fz_Xd h) (hXh : fz_Xh h) (hXw : fz_Xw h) (hv1 : h 53 10 ≤ 10) (hv2 : h 53 42 ≤ h 53 41) (hr0 : h 9 5 = h 53 10) (hr1 : h 44 2 = h 53 44) (hr2 : h 20 2 = h 53 16) (hr3 : h 1 7 = h 53 0) (hr4 : h 1 8 = h 53 2) (hRS : fz_RS h) (hRP : fz_RP h) (hRK : fz_RK h) (hRR : fz_RR h) (hRT : fz_RT h) (hRE : fz_RE h) (i : Int) (hi : 0 ≤ i ∧ i + 6 ≤ h 200 100000 ∧ h 200 100000 ≤ 3072) {Q : fz_H → Option fz_V → Prop} (K : ∀ H : fz_H, fz_Gd H → H 200 = h 200 → fz_R 47 mLe 1816 [(3, fz_i i), (0, fz_r 200), (1, fz_r 0), (2, fz_r 53)] [] H Q) : fz_R 47 mLc2 280 [(3, fz_i i), (0, fz_r 200), (1, fz_r 0), (2, fz_r 53)] [] h Q := by
  have hf : fz_fr fz_all h h := fz_fr_rf
  refine fz_aload_n kLc2 rfl rfl ?_
  refine fz_aload_n kLc2 rfl rfl ?_
  refine fz_iload_n kLc2 rfl rfl ?_
  refine fz_iconst ⟨by decide, by decide⟩ kLc2 rfl ?_
  refine fz_iaddN kLc2 rfl (by omega) ?_
  obtain ⟨a1, e2⟩ : ∃ z, h 200 ((i + 1)).toNat = z := ⟨_, rfl⟩
  refine fz_taldV (v := a1) kLc2 rfl ⟨by decide, by decide⟩ (by omega) (by omega) e2 ?_
  refine fz_aload_n kLc2 rfl rfl ?_
  refine fz_iload_n kLc2 rfl rfl ?_
  refine fz_iconst ⟨by decide, by decide⟩ kLc2 rfl ?_
  refine fz_iaddN kLc2 rfl (by omega) ?_
  obtain ⟨a3, e4⟩ : ∃ z, h 200 ((i + 2)).toNat = z := ⟨_, rfl⟩
  refine fz_taldV (v := a3) kLc2 rfl ⟨by decide, by decide⟩ (by omega) (by omega) e4 ?_
  refine fz_aload_n kLc2 rfl rfl ?_
  refine fz_iload_n kLc2 rfl rfl ?_
  refine fz_iconst ⟨by decide, by decide⟩ kLc2 rfl ?_
  refine fz_iaddN kLc2 rfl (by omega) ?_
  obtain ⟨a5, e6⟩ : ∃ z, h 200 ((i + 3)).toNat = z := ⟨_, rfl⟩
  refine fz_taldV (v := a5) kLc2 rfl ⟨by decide, by decide⟩ (by omega) (by omega) e6 ?_
  have b7 : 0 ≤ h 1 7 ∧ h 1 7 ≤ 8 := hI.1 1 _
  have b8 : 0 ≤ h 9 5 ∧ h 9 5 ≤ 10 := hI.1 9 _
  refine fz_callV (d' := 2) (M' := mX10_deed) (As := [fz_i a1, fz_i a3, fz_i a5]) (st := []) kLc2 rfl rfl vX10_deed rfl rfl rfl rfl (Nat.le_of_ble_eq_true rfl) (Nat.le_of_ble_eq_true rfl) (by decide) (sX10_deed h hI a1 a3 a5 ) (fun H9 r10 q11 o12 => ?_)
  obtain ⟨hI13, hf14, y17, rfl, f15, f16⟩ := q11
  clear o12
  have hf18 := fz_fr_tr hf hf14 (fz_su_all rfl)
  have hXd19 : fz_Xd H9 := fz_Xd_eq (funext fun s => hf14 80 s rfl) hXd
  have hXh20 : fz_Xh H9 := fz_Xh_eq (funext fun s => hf14 83 s rfl) hXh
  have hXw21 : fz_Xw H9 := fz_Xw_eq (hf14 53 19 rfl) (funext fun s => hf14 66 s rfl) (funext fun s => hf14 67 s rfl) (funext fun s => hf14 68 s rfl) (funext fun s => hf14 69 s rfl) hXw
  have hRS22 : fz_RS H9 := fz_RS_eq (funext fun s => hf14 48 s rfl) (funext fun s => hf14 49 s rfl) (funext fun s => hf14 50 s rfl) (funext fun s => hf14 51 s rfl) (funext fun s => hf14 83 s rfl) (funext fun s => hf14 84 s rfl) (hf14 44 2 rfl) hRS
  have hRP23 : fz_RP H9 := fz_RP_eq (funext fun s => hf14 52 s rfl) (funext fun s => hf14 85 s rfl) hRP
  have hRK24 : fz_RK H9 := fz_RK_eq (funext fun s => hf14 45 s rfl) (funext fun s => hf14 81 s rfl) hRK
  have hRR25 : fz_RR H9 := fz_RR_eq (hf14 44 3 rfl) (hf14 53 46 rfl) (funext fun s => hf14 46 s rfl) (funext fun s => hf14 82 s rfl) hRR
  have hRT26 : fz_RT H9 := fz_RT_eq (funext fun s => hf14 41 s rfl) (funext fun s => hf14 42 s rfl) (hf14 1 7 rfl) hRT
  have hRE27 : fz_RE H9 := fz_RE_eq (funext fun s => hf14 5 s rfl) (funext fun s => hf14 6 s rfl) (hf14 1 8 rfl) (hf14 1 7 rfl) hRE
  have hX28 : fz_Xc H9 := fz_Xc_fr hf14 rfl hX
  have t29 : H9 53 10 = h 53 10 := hf14 53 10 rfl
  have t30 : H9 53 41 = h 53 41 := hf14 53 41 rfl
  have t31 : H9 53 42 = h 53 42 := hf14 53 42 rfl
  have t32 : H9 53 10 = h 53 10 := hf14 53 10 rfl
  have t33 : H9 44 2 = h 44 2 := hf14 44 2 rfl
  have t34 : H9 53 44 = h 53 44 := hf14 53 44 rfl
  have t35 : H9 20 2 = h 20 2 := hf14 20 2 rfl
  have t36 : H9 53 16 = h 53 16 := hf14 53 16 rfl
  have t37 : H9 1 7 = h 1 7 := hf14 1 7 rfl
  have t38 : H9 53 0 = h 53 0 := hf14 53 0 rfl
  have t39 : H9 1 8 = h 1 8 := hf14 1 8 rfl
  have t40 : H9 53 2 = h 53 2 := hf14 53 2 rfl
  refine fz_pop rfl kLc2 rfl ?_
  refine fz_aload_n kLc2 rfl rfl ?_
  refine fz_aload_n kLc2 rfl rfl ?_
  refine fz_iload_n kLc2 rfl rfl ?_
  refine fz_iconst ⟨by decide, by decide⟩ kLc2 rfl ?_
  refine fz_iaddN kLc2 rfl (by omega) ?_
  refine fz_taldV (v := a1) kLc2 rfl ⟨by decide, by decide⟩ (by omega) (by rw [hf18 200 _ rfl]; omega) ((hf18 200 _ rfl).trans e2) ?_
  refine fz_aload_n kLc2 rfl rfl ?_
  refine fz_iload_n kLc2 rfl rfl ?_
  refine fz_iconst ⟨by decide, by decide⟩ kLc2 rfl ?_
  refine fz_iaddN kLc2 rfl (by omega) ?_
  refine fz_taldV (v := a3) kLc2 rfl ⟨by decide, by decide⟩ (by omega) (by rw [hf18 200 _ rfl]; omega) ((hf18 200 _ rfl).trans e4) ?_
  refine fz_aload_n kLc2 rfl rfl ?_
  refine fz_iload_n kLc2 rfl rfl ?_
  refine fz_iconst ⟨by decide, by decide⟩ kLc2 rfl ?_
  refine fz_iaddN kLc2 rfl (by omega) ?_
  refine fz_taldV (v := a5) kLc2 rfl ⟨by decide, by decide⟩ (by omega) (by rw [hf18 200 _ rfl]; omega) ((hf18 200 _ rfl).trans e6) ?_
  have b41 : 0 ≤ H9 53 10 ∧ H9 53 10 ≤ 11 := hI13.1 53 _
  have b42 : 0 ≤ H9 53 0 ∧ H9 53 0 ≤ 8 := hI13.1 53 _
  refine fz_callV (d' := 3) (M' := mX11_deed) (As := [fz_i a1, fz_i a3, fz_i a5]) (st := []) kLc2 rfl rfl vX11_deed rfl rfl rfl rfl (Nat.le_of_ble_eq_true rfl) (Nat.le_of_ble_eq_true rfl) (by decide) (sX11_deed H9 hI13 a1 a3 a5 (by omega)) (fun H43 r44 q45 o46 => ?_)
  obtain ⟨hI47, hf48, y52, rfl, f49, f50, f51⟩ := q45
  clear o46
  have hf53 := fz_fr_tr hf18 hf48 (fz_su_all rfl)
  have hXd54 : fz_Xd H43 := fz_Xd_eq (funext fun s => hf48 80 s rfl) hXd19
  have hXh55 : fz_Xh H43 := fz_Xh_eq (funext fun s => hf48 83 s rfl) hXh20
  have hXw56 : fz_Xw H43 := fz_Xw_eq (hf48 53 19 rfl) (funext fun s => hf48 66 s rfl) (funext fun s => hf48 67 s rfl) (funext fun s => hf48 68 s rfl) (funext fun s => hf48 69 s rfl) hXw21
  have hRS57 : fz_RS H43 := fz_RS_eq (funext fun s => hf48 48 s rfl) (funext fun s => hf48 49 s rfl) (funext fun s => hf48 50 s rfl) (funext fun s => hf48 51 s rfl) (funext fun s => hf48 83 s rfl) (funext fun s => hf48 84 s rfl) (hf48 44 2 rfl) hRS22
  have hRP58 : fz_RP H43 := fz_RP_eq (funext fun s => hf48 52 s rfl) (funext fun s => hf48 85 s rfl) hRP23
  have hRK59 : fz_RK H43 := fz_RK_eq (funext fun s => hf48 45 s rfl) (funext fun s => hf48 81 s rfl) hRK24
  have hRR60 : fz_RR H43 := fz_RR_eq (hf48 44 3 rfl) (hf48 53 46 rfl) (funext fun s => hf48 46 s rfl) (funext fun s => hf48 82 s rfl) hRR25
  have hRT61 : fz_RT H43 := fz_RT_eq (funext fun s => hf48 41 s rfl) (funext fun s => hf48 42 s rfl) (hf48 1 7 rfl) hRT26
  have hRE62 : fz_RE H43 := fz_RE_eq (funext fun s => hf48 5 s rfl) (funext fun s => hf48 6 s rfl) (hf48 1 8 rfl) (hf48 1 7 rfl) hRE27
  have hX63 : fz_Xc H43 := fz_Xc_fr hf48 rfl hX28
  have t64 : H43 53 41 = H9 53 41 := hf48 53 41 rfl
  have t65 : H43 53 42 = H9 53 42 := hf48 53 42 rfl
  have t66 : H43 9 5 = H9 9 5 := hf48 9 5 rfl
  have t67 : H43 44 2 = H9 44 2 := hf48 44 2 rfl
  have t68 : H43 53 44 = H9 53 44 := hf48 53 44 rfl
  have t69 : H43 20 2 = H9 20 2 := hf48 20 2 rfl
  have t70 : H43 53 16 = H9 53 16 := hf48 53 16 rfl
  have t71 : H43 1 7 = H9 1 7 := hf48 1 7 rfl
  have t72 : H43 53 0 = H9 53 0 := hf48 53 0 rfl
  have t73 : H43 1 8 = H9 1 8 := hf48 1 8 rfl
  have t74 : H43 53 2 = H9 53 2 := hf48 53 2 rfl
  refine fz_pop rfl kLc2 rfl ?_
  refine fz_goto (tgt := 1816) kLc2 rfl (by decide) ?_
  exact K H43 ⟨hI47, hX63, hXd54, hXh55, hXw56, by omega, by omega, by omega, by omega, by omega, by omega, by omega, hRS57, hRP58, hRK59, hRR60, hRT61, hRE62⟩ (funext fun s => hf53 200 s rfl)
def mLc3 : fz_M := (yL_law, code, 4, (some .boolean), [(323, .aload_n 1, 1, 0, 0, 0), (324, .aload_n 0, 1, 0, 0, 0), (325, .iload_n 3, 1, 0, 0, 0), (326, .iconst 1, 1, 0, 0, 0), (327, .iadd, 1, 0, 0, 0), (328, .iaload, 1, 0, 0, 0), (329, .aload_n 0, 1, 0, 0, 0), (330, .iload_n 3, 1, 0, 0, 0), (331, .iconst 2, 1, 0, 0, 0), (332, .iadd, 1, 0, 0, 0), (333, .iaload, 1, 0, 0, 0), (334, .aload_n 0, 1, 0, 0, 0), (335, .iload_n 3, 1, 0, 0, 0), (336, .iconst 3, 1, 0, 0, 0), (337, .iadd, 1, 0, 0, 0), (338, .iaload, 1, 0, 0, 0), (339, .invokevirtual 28, 3, 2217, 26, 0), (342, .pop, 1, 0, 0, 0), (343, .aload_n 2, 1, 0, 0, 0), (344, .aload_n 0, 1, 0, 0, 0), (345, .iload_n 3, 1, 0, 0, 0), (346, .iconst 1, 1, 0, 0, 0), (347, .iadd, 1, 0, 0, 0), (348, .iaload, 1, 0, 0, 0), (349, .aload_n 0, 1, 0, 0, 0), (350, .iload_n 3, 1, 0, 0, 0), (351, .iconst 2, 1, 0, 0, 0), (352, .iadd, 1, 0, 0, 0), (353, .iaload, 1, 0, 0, 0), (354, .aload_n 0, 1, 0, 0, 0), (355, .iload_n 3, 1, 0, 0, 0), (356, .iconst 3, 1, 0, 0, 0), (357, .iadd, 1, 0, 0, 0), (358, .iaload, 1, 0, 0, 0), (359, .invokevirtual 31, 3, 6066, 94, 0), (362, .pop, 1, 0, 0, 0), (363, .goto 1453, 3, 0, 0, 0)])
set_option maxRecDepth 100000 in
theorem kLc3 : fz_okM mLc3 = true := by decide +kernel
set_option maxHeartbeats 1000000 in
set_option maxRecDepth 100000 in
theorem lc3 (h : fz_H) (hI : fz_Iv h) (hX : fz_Xc h) (hXd : fz_Xd h) (hXh : fz_Xh h) (hXw : fz_Xw h) (hv1 : h 53 10 ≤ 10) (hv2 : h 53 42 ≤ h 53 41) (hr0 : h 9 5 = h 53 10) (hr1 : h 44 2 = h 53 44) (hr2 : h 20 2 = h 53 16) (hr3 : h 1 7 = h 53 0) (hr4 : h 1 8 = h 53 2) (hRS : fz_RS h) (hRP : fz_RP h) (hRK : fz_RK h) (hRR : fz_RR h) (hRT : fz_RT h) (hRE : fz_RE h) (i : Int) (hi : 0 ≤ i ∧ i + 6 ≤ h 200 100000 ∧ h 200 100000 ≤ 3072) {Q : fz_H → Option fz_V → Prop} (K : ∀ H : fz_H, fz_Gd H → H 200 = h 200 → fz_R 47 mLe 1816 [(3, fz_i i), (0, fz_r 200), (1, fz_r 0), (2, fz_r 53)] [] H Q) : fz_R 47 mLc3 323 [(3, fz_i i), (0, fz_r 200), (1, fz_r 0), (2, fz_r 53)] [] h Q := by
  have hf : fz_fr fz_all h h := fz_fr_rf
  refine fz_aload_n kLc3 rfl rfl ?_
  refine fz_aload_n kLc3 rfl rfl ?_
  refine fz_iload_n kLc3 rfl rfl ?_
  refine fz_iconst ⟨by decide, by decide⟩ kLc3 rfl ?_
  refine fz_iaddN kLc3 rfl (by omega) ?_
  obtain ⟨a1, e2⟩ : ∃ z, h 200 ((i + 1)).toNat = z := ⟨_, rfl⟩
  refine fz_taldV (v := a1) kLc3 rfl ⟨by decide, by decide⟩ (by omega) (by omega) e2 ?_
  refine fz_aload_n kLc3 rfl rfl ?_
  refine fz_iload_n kLc3 rfl rfl ?_
  refine fz_iconst ⟨by decide, by decide⟩ kLc3 rfl ?_
  refine fz_iaddN kLc3 rfl (by omega) ?_
  obtain ⟨a3, e4⟩ : ∃ z, h 200 ((i + 2)).toNat = z := ⟨_, rfl⟩
  refine fz_taldV (v := a3) kLc3 rfl ⟨by decide, by decide⟩ (by omega) (by omega) e4 ?_
  refine fz_aload_n kLc3 rfl rfl ?_
  refine fz_iload_n kLc3 rfl rfl ?_
  refine fz_iconst ⟨by decide, by decide⟩ kLc3 rfl ?_
  refine fz_iaddN kLc3 rfl (by omega) ?_
  obtain ⟨a5, e6⟩ : ∃ z, h 200 ((i + 3)).toNat = z := ⟨_, rfl⟩
  refine fz_taldV (v := a5) kLc3 rfl ⟨by decide, by decide⟩ (by omega) (by omega) e6 ?_
  refine fz_callV (d' := 3) (M' := mX10_deeds) (As := [fz_i a1, fz_i a3, fz_i a5]) (st := []) kLc3 rfl rfl vX10_deeds rfl rfl rfl rfl (Nat.le_of_ble_eq_true rfl) (Nat.le_of_ble_eq_true rfl) (by decide) (sX10_deeds h hI a1 a3 a5 ) (fun H7 r8 q9 o10 => ?_)
  obtain ⟨hI11, hf12, y15, rfl, f13, f14⟩ := q9
  clear o10
  have hf16 := fz_fr_tr hf hf12 (fz_su_all rfl)
  have hXd17 : fz_Xd H7 := fz_Xd_eq (funext fun s => hf12 80 s rfl) hXd
  have hXh18 : fz_Xh H7 := fz_Xh_eq (funext fun s => hf12 83 s rfl) hXh
  have hXw19 : fz_Xw H7 := fz_Xw_eq (hf12 53 19 rfl) (funext fun s => hf12 66 s rfl) (funext fun s => hf12 67 s rfl) (funext fun s => hf12 68 s rfl) (funext fun s => hf12 69 s rfl) hXw
  have hRS20 : fz_RS H7 := fz_RS_eq (funext fun s => hf12 48 s rfl) (funext fun s => hf12 49 s rfl) (funext fun s => hf12 50 s rfl) (funext fun s => hf12 51 s rfl) (funext fun s => hf12 83 s rfl) (funext fun s => hf12 84 s rfl) (hf12 44 2 rfl) hRS
  have hRP21 : fz_RP H7 := fz_RP_eq (funext fun s => hf12 52 s rfl) (funext fun s => hf12 85 s rfl) hRP
  have hRK22 : fz_RK H7 := fz_RK_eq (funext fun s => hf12 45 s rfl) (funext fun s => hf12 81 s rfl) hRK
  have hRR23 : fz_RR H7 := fz_RR_eq (hf12 44 3 rfl) (hf12 53 46 rfl) (funext fun s => hf12 46 s rfl) (funext fun s => hf12 82 s rfl) hRR
  have hRT24 : fz_RT H7 := fz_RT_eq (funext fun s => hf12 41 s rfl) (funext fun s => hf12 42 s rfl) (hf12 1 7 rfl) hRT
  have hRE25 : fz_RE H7 := fz_RE_eq (funext fun s => hf12 5 s rfl) (funext fun s => hf12 6 s rfl) (hf12 1 8 rfl) (hf12 1 7 rfl) hRE
  have hX26 : fz_Xc H7 := fz_Xc_fr hf12 rfl hX
  have t27 : H7 53 10 = h 53 10 := hf12 53 10 rfl
  have t28 : H7 53 41 = h 53 41 := hf12 53 41 rfl
  have t29 : H7 53 42 = h 53 42 := hf12 53 42 rfl
  have t30 : H7 53 10 = h 53 10 := hf12 53 10 rfl
  have t31 : H7 44 2 = h 44 2 := hf12 44 2 rfl
  have t32 : H7 53 44 = h 53 44 := hf12 53 44 rfl
  have t33 : H7 20 2 = h 20 2 := hf12 20 2 rfl
  have t34 : H7 53 16 = h 53 16 := hf12 53 16 rfl
  have t35 : H7 1 7 = h 1 7 := hf12 1 7 rfl
  have t36 : H7 53 0 = h 53 0 := hf12 53 0 rfl
  have t37 : H7 1 8 = h 1 8 := hf12 1 8 rfl
  have t38 : H7 53 2 = h 53 2 := hf12 53 2 rfl
  refine fz_pop rfl kLc3 rfl ?_
  refine fz_aload_n kLc3 rfl rfl ?_
  refine fz_aload_n kLc3 rfl rfl ?_
  refine fz_iload_n kLc3 rfl rfl ?_
  refine fz_iconst ⟨by decide, by decide⟩ kLc3 rfl ?_
  refine fz_iaddN kLc3 rfl (by omega) ?_
  refine fz_taldV (v := a1) kLc3 rfl ⟨by decide, by decide⟩ (by omega) (by rw [hf16 200 _ rfl]; omega) ((hf16 200 _ rfl).trans e2) ?_
  refine fz_aload_n kLc3 rfl rfl ?_
  refine fz_iload_n kLc3 rfl rfl ?_
  refine fz_iconst ⟨by decide, by decide⟩ kLc3 rfl ?_
  refine fz_iaddN kLc3 rfl (by omega) ?_
  refine fz_taldV (v := a3) kLc3 rfl ⟨by decide, by decide⟩ (by omega) (by rw [hf16 200 _ rfl]; omega) ((hf16 200 _ rfl).trans e4) ?_
  refine fz_aload_n kLc3 rfl rfl ?_
  refine fz_iload_n kLc3 rfl rfl ?_
  refine fz_iconst ⟨by decide, by decide⟩ kLc3 rfl ?_
  refine fz_iaddN kLc3 rfl (by omega) ?_
  refine fz_taldV (v := a5) kLc3 rfl ⟨by decide, by decide⟩ (by omega) (by rw [hf16 200 _ rfl]; omega) ((hf16 200 _ rfl).trans e6) ?_
  have b39 : 0 ≤ H7 53 10 ∧ H7 53 10 ≤ 11 := hI11.1 53 _
  refine fz_callV (d' := 2) (M' := mX11_deeds) (As := [fz_i a1, fz_i a3, fz_i a5]) (st := []) kLc3 rfl rfl vX11_deeds rfl rfl rfl rfl (Nat.le_of_ble_eq_true rfl) (Nat.le_of_ble_eq_true rfl) (by decide) (sX11_deeds H7 hI11 a1 a3 a5 (by omega)) (fun H40 r41 q42 o43 => ?_)
  obtain ⟨hI44, hf45, y49, rfl, f46, f47, f48⟩ := q42
  clear o43
  have hf50 := fz_fr_tr hf16 hf45 (fz_su_all rfl)
  have hXd51 : fz_Xd H40 := fz_Xd_eq (funext fun s => hf45 80 s rfl) hXd17
  have hXh52 : fz_Xh H40 := fz_Xh_eq (funext fun s => hf45 83 s rfl) hXh18
  have hXw53 : fz_Xw H40 := fz_Xw_eq (hf45 53 19 rfl) (funext fun s => hf45 66 s rfl) (funext fun s => hf45 67 s rfl) (funext fun s => hf45 68 s rfl) (funext fun s => hf45 69 s rfl) hXw19
  have hRS54 : fz_RS H40 := fz_RS_eq (funext fun s => hf45 48 s rfl) (funext fun s => hf45 49 s rfl) (funext fun s => hf45 50 s rfl) (funext fun s => hf45 51 s rfl) (funext fun s => hf45 83 s rfl) (funext fun s => hf45 84 s rfl) (hf45 44 2 rfl) hRS20
  have hRP55 : fz_RP H40 := fz_RP_eq (funext fun s => hf45 52 s rfl) (funext fun s => hf45 85 s rfl) hRP21
  have hRK56 : fz_RK H40 := fz_RK_eq (funext fun s => hf45 45 s rfl) (funext fun s => hf45 81 s rfl) hRK22
  have hRR57 : fz_RR H40 := fz_RR_eq (hf45 44 3 rfl) (hf45 53 46 rfl) (funext fun s => hf45 46 s rfl) (funext fun s => hf45 82 s rfl) hRR23
  have hRT58 : fz_RT H40 := fz_RT_eq (funext fun s => hf45 41 s rfl) (funext fun s => hf45 42 s rfl) (hf45 1 7 rfl) hRT24
  have hRE59 : fz_RE H40 := fz_RE_eq (funext fun s => hf45 5 s rfl) (funext fun s => hf45 6 s rfl) (hf45 1 8 rfl) (hf45 1 7 rfl) hRE25
  have hX60 : fz_Xc H40 := fz_Xc_fr hf45 rfl hX26
  have t61 : H40 53 41 = H7 53 41 := hf45 53 41 rfl
  have t62 : H40 53 42 = H7 53 42 := hf45 53 42 rfl
  have t63 : H40 9 5 = H7 9 5 := hf45 9 5 rfl
  have t64 : H40 44 2 = H7 44 2 := hf45 44 2 rfl
  have t65 : H40 53 44 = H7 53 44 := hf45 53 44 rfl
  have t66 : H40 20 2 = H7 20 2 := hf45 20 2 rfl
  have t67 : H40 53 16 = H7 53 16 := hf45 53 16 rfl
  have t68 : H40 1 7 = H7 1 7 := hf45 1 7 rfl
  have t69 : H40 53 0 = H7 53 0 := hf45 53 0 rfl
  have t70 : H40 1 8 = H7 1 8 := hf45 1 8 rfl
  have t71 : H40 53 2 = H7 53 2 := hf45 53 2 rfl
  refine fz_pop rfl kLc3 rfl ?_
  refine fz_goto (tgt := 1816) kLc3 rfl (by decide) ?_
  have k72 := fz_q_eq hRS hRP f14 f48 (by omega) (by omega) (funext fun s => hf12 83 s rfl) (funext fun s => hf12 84 s rfl) (funext fun s => hf12 85 s rfl)
  exact K H40 ⟨hI44, hX60, hXd51, hXh52, hXw53, by omega, by omega, by omega, by omega, by omega, by omega, by omega, hRS54, hRP55, hRK56, hRR57, hRT58, hRE59⟩ (funext fun s => hf50 200 s rfl)
def mLc4 : fz_M := (yL_law, code, 4, (some .boolean), [(366, .aload_n 1, 1, 0, 0, 0), (367, .aload_n 0, 1, 0, 0, 0), (368, .iload_n 3, 1, 0, 0, 0), (369, .iconst 1, 1, 0, 0, 0), (370, .iadd, 1, 0, 0, 0), (371, .iaload, 1, 0, 0, 0), (372, .aload_n 0, 1, 0, 0, 0), (373, .iload_n 3, 1, 0, 0, 0), (374, .iconst 2, 1, 0, 0, 0), (375, .iadd, 1, 0, 0, 0), (376, .iaload, 1, 0, 0, 0), (377, .aload_n 0, 1, 0, 0, 0), (378, .iload_n 3, 1, 0, 0, 0), (379, .iconst 3, 1, 0, 0, 0), (380, .iadd, 1, 0, 0, 0), (381, .iaload, 1, 0, 0, 0), (382, .invokevirtual 32, 3, 3013, 56, 0), (385, .pop, 1, 0, 0, 0), (386, .aload_n 2, 1, 0, 0, 0), (387, .aload_n 0, 1, 0, 0, 0), (388, .iload_n 3, 1, 0, 0, 0), (389, .iconst 1, 1, 0, 0, 0), (390, .iadd, 1, 0, 0, 0), (391, .iaload, 1, 0, 0, 0), (392, .aload_n 0, 1, 0, 0, 0), (393, .iload_n 3, 1, 0, 0, 0), (394, .iconst 2, 1, 0, 0, 0), (395, .iadd, 1, 0, 0, 0), (396, .iaload, 1, 0, 0, 0), (397, .aload_n 0, 1, 0, 0, 0), (398, .iload_n 3, 1, 0, 0, 0), (399, .iconst 3, 1, 0, 0, 0), (400, .iadd, 1, 0, 0, 0), (401, .iaload, 1, 0, 0, 0), (402, .invokevirtual 35, 3, 6077, 152, 0), (405, .pop, 1, 0, 0, 0), (406, .goto 1410, 3, 0, 0, 0)])
set_option maxRecDepth 100000 in
theorem kLc4 : fz_okM mLc4 = true := by decide +kernel
set_option maxHeartbeats 1000000 in
set_option maxRecDepth 100000 in
theorem lc4 (h : fz_H) (hI : fz_Iv h) (hX : fz_Xc h) (hXd : fz_Xd h) (hXh : fz_Xh h) (hXw : fz_Xw h) (hv1 : h 53 10 ≤ 10) (hv2 : h 53 42 ≤ h 53 41) (hr0 : h 9 5 = h 53 10) (hr1 : h 44 2 = h 53 44) (hr2 : h 20 2 = h 53 16) (hr3 : h 1 7 = h 53 0) (hr4 : h 1 8 = h 53 2) (hRS : fz_RS h) (hRP : fz_RP h) (hRK : fz_RK h) (hRR : fz_RR h) (hRT : fz_RT h) (hRE : fz_RE h) (i : Int) (hi : 0 ≤ i ∧ i + 6 ≤ h 200 100000 ∧ h 200 100000 ≤ 3072) {Q : fz_H → Option fz_V → Prop} (K : ∀ H : fz_H, fz_Gd H → H 200 = h 200 → fz_R 47 mLe 1816 [(3, fz_i i), (0, fz_r 200), (1, fz_r 0), (2, fz_r 53)] [] H Q) : fz_R 47 mLc4 366 [(3, fz_i i), (0, fz_r 200), (1, fz_r 0), (2, fz_r 53)] [] h Q := by
  have hf : fz_fr fz_all h h := fz_fr_rf
  refine fz_aload_n kLc4 rfl rfl ?_
  refine fz_aload_n kLc4 rfl rfl ?_
  refine fz_iload_n kLc4 rfl rfl ?_
  refine fz_iconst ⟨by decide, by decide⟩ kLc4 rfl ?_
  refine fz_iaddN kLc4 rfl (by omega) ?_
  obtain ⟨a1, e2⟩ : ∃ z, h 200 ((i + 1)).toNat = z := ⟨_, rfl⟩
  refine fz_taldV (v := a1) kLc4 rfl ⟨by decide, by decide⟩ (by omega) (by omega) e2 ?_
  refine fz_aload_n kLc4 rfl rfl ?_
  refine fz_iload_n kLc4 rfl rfl ?_
  refine fz_iconst ⟨by decide, by decide⟩ kLc4 rfl ?_
  refine fz_iaddN kLc4 rfl (by omega) ?_
  obtain ⟨a3, e4⟩ : ∃ z, h 200 ((i + 2)).toNat = z := ⟨_, rfl⟩
  refine fz_taldV (v := a3) kLc4 rfl ⟨by decide, by decide⟩ (by omega) (by omega) e4 ?_
  refine fz_aload_n kLc4 rfl rfl ?_
  refine fz_iload_n kLc4 rfl rfl ?_
  refine fz_iconst ⟨by decide, by decide⟩ kLc4 rfl ?_
  refine fz_iaddN kLc4 rfl (by omega) ?_
  obtain ⟨a5, e6⟩ : ∃ z, h 200 ((i + 3)).toNat = z := ⟨_, rfl⟩
  refine fz_taldV (v := a5) kLc4 rfl ⟨by decide, by decide⟩ (by omega) (by omega) e6 ?_
  refine fz_callV (d' := 4) (M' := mX10_mend) (As := [fz_i a1, fz_i a3, fz_i a5]) (st := []) kLc4 rfl rfl vX10_mend rfl rfl rfl rfl (Nat.le_of_ble_eq_true rfl) (Nat.le_of_ble_eq_true rfl) (by decide) (sX10_mend h hI a1 a3 a5 (hX)) (fun H7 r8 q9 o10 => ?_)
  obtain ⟨hI11, hf12, hX13, y15, rfl, f14⟩ := q9
  clear o10
  have hf16 := fz_fr_tr hf hf12 (fz_su_all rfl)
  have hXd17 : fz_Xd H7 := fz_Xd_eq (funext fun s => hf12 80 s rfl) hXd
  have hXh18 : fz_Xh H7 := fz_Xh_eq (funext fun s => hf12 83 s rfl) hXh
  have hXw19 : fz_Xw H7 := fz_Xw_eq (hf12 53 19 rfl) (funext fun s => hf12 66 s rfl) (funext fun s => hf12 67 s rfl) (funext fun s => hf12 68 s rfl) (funext fun s => hf12 69 s rfl) hXw
  have hRS20 : fz_RS H7 := fz_RS_eq (funext fun s => hf12 48 s rfl) (funext fun s => hf12 49 s rfl) (funext fun s => hf12 50 s rfl) (funext fun s => hf12 51 s rfl) (funext fun s => hf12 83 s rfl) (funext fun s => hf12 84 s rfl) (hf12 44 2 rfl) hRS
  have hRP21 : fz_RP H7 := fz_RP_eq (funext fun s => hf12 52 s rfl) (funext fun s => hf12 85 s rfl) hRP
  have hRK22 : fz_RK H7 := fz_RK_eq (funext fun s => hf12 45 s rfl) (funext fun s => hf12 81 s rfl) hRK
  have hRR23 : fz_RR H7 := fz_RR_eq (hf12 44 3 rfl) (hf12 53 46 rfl) (funext fun s => hf12 46 s rfl) (funext fun s => hf12 82 s rfl) hRR
  have hRT24 : fz_RT H7 := fz_RT_eq (funext fun s => hf12 41 s rfl) (funext fun s => hf12 42 s rfl) (hf12 1 7 rfl) hRT
  have hRE25 : fz_RE H7 := fz_RE_eq (funext fun s => hf12 5 s rfl) (funext fun s => hf12 6 s rfl) (hf12 1 8 rfl) (hf12 1 7 rfl) hRE
  have t26 : H7 53 10 = h 53 10 := hf12 53 10 rfl
  have t27 : H7 53 41 = h 53 41 := hf12 53 41 rfl
  have t28 : H7 53 42 = h 53 42 := hf12 53 42 rfl
  have t29 : H7 9 5 = h 9 5 := hf12 9 5 rfl
  have t30 : H7 53 10 = h 53 10 := hf12 53 10 rfl
  have t31 : H7 44 2 = h 44 2 := hf12 44 2 rfl
  have t32 : H7 53 44 = h 53 44 := hf12 53 44 rfl
  have t33 : H7 20 2 = h 20 2 := hf12 20 2 rfl
  have t34 : H7 53 16 = h 53 16 := hf12 53 16 rfl
  have t35 : H7 1 7 = h 1 7 := hf12 1 7 rfl
  have t36 : H7 53 0 = h 53 0 := hf12 53 0 rfl
  have t37 : H7 1 8 = h 1 8 := hf12 1 8 rfl
  have t38 : H7 53 2 = h 53 2 := hf12 53 2 rfl
  refine fz_pop rfl kLc4 rfl ?_
  refine fz_aload_n kLc4 rfl rfl ?_
  refine fz_aload_n kLc4 rfl rfl ?_
  refine fz_iload_n kLc4 rfl rfl ?_
  refine fz_iconst ⟨by decide, by decide⟩ kLc4 rfl ?_
  refine fz_iaddN kLc4 rfl (by omega) ?_
  refine fz_taldV (v := a1) kLc4 rfl ⟨by decide, by decide⟩ (by omega) (by rw [hf16 200 _ rfl]; omega) ((hf16 200 _ rfl).trans e2) ?_
  refine fz_aload_n kLc4 rfl rfl ?_
  refine fz_iload_n kLc4 rfl rfl ?_
  refine fz_iconst ⟨by decide, by decide⟩ kLc4 rfl ?_
  refine fz_iaddN kLc4 rfl (by omega) ?_
  refine fz_taldV (v := a3) kLc4 rfl ⟨by decide, by decide⟩ (by omega) (by rw [hf16 200 _ rfl]; omega) ((hf16 200 _ rfl).trans e4) ?_
  refine fz_aload_n kLc4 rfl rfl ?_
  refine fz_iload_n kLc4 rfl rfl ?_
  refine fz_iconst ⟨by decide, by decide⟩ kLc4 rfl ?_
  refine fz_iaddN kLc4 rfl (by omega) ?_
  refine fz_taldV (v := a5) kLc4 rfl ⟨by decide, by decide⟩ (by omega) (by rw [hf16 200 _ rfl]; omega) ((hf16 200 _ rfl).trans e6) ?_
  have b39 : 0 ≤ H7 53 42 ∧ H7 53 42 ≤ 40 := hI11.1 53 _
  have b40 : 0 ≤ H7 53 41 ∧ H7 53 41 ≤ 40 := hI11.1 53 _
  refine fz_callV (d' := 3) (M' := mX11_mend) (As := [fz_i a1, fz_i a3, fz_i a5]) (st := []) kLc4 rfl rfl vX11_mend rfl rfl rfl rfl (Nat.le_of_ble_eq_true rfl) (Nat.le_of_ble_eq_true rfl) (by decide) (sX11_mend H7 hI11 a1 a3 a5 hXd17 (by omega)) (fun H41 r42 q43 o44 => ?_)
  obtain ⟨hI45, hf46, hXd47, y50, rfl, f48, f49⟩ := q43
  clear o44
  have hf51 := fz_fr_tr hf16 hf46 (fz_su_all rfl)
  have hXh52 : fz_Xh H41 := fz_Xh_eq (funext fun s => hf46 83 s rfl) hXh18
  have hXw53 : fz_Xw H41 := fz_Xw_eq (hf46 53 19 rfl) (funext fun s => hf46 66 s rfl) (funext fun s => hf46 67 s rfl) (funext fun s => hf46 68 s rfl) (funext fun s => hf46 69 s rfl) hXw19
  have hRS54 : fz_RS H41 := fz_RS_eq (funext fun s => hf46 48 s rfl) (funext fun s => hf46 49 s rfl) (funext fun s => hf46 50 s rfl) (funext fun s => hf46 51 s rfl) (funext fun s => hf46 83 s rfl) (funext fun s => hf46 84 s rfl) (hf46 44 2 rfl) hRS20
  have hRP55 : fz_RP H41 := fz_RP_eq (funext fun s => hf46 52 s rfl) (funext fun s => hf46 85 s rfl) hRP21
  have hRK56 : fz_RK H41 := fz_RK_eq (funext fun s => hf46 45 s rfl) (funext fun s => hf46 81 s rfl) hRK22
  have hRR57 : fz_RR H41 := fz_RR_eq (hf46 44 3 rfl) (hf46 53 46 rfl) (funext fun s => hf46 46 s rfl) (funext fun s => hf46 82 s rfl) hRR23
  have hRT58 : fz_RT H41 := fz_RT_eq (funext fun s => hf46 41 s rfl) (funext fun s => hf46 42 s rfl) (hf46 1 7 rfl) hRT24
  have hRE59 : fz_RE H41 := fz_RE_eq (funext fun s => hf46 5 s rfl) (funext fun s => hf46 6 s rfl) (hf46 1 8 rfl) (hf46 1 7 rfl) hRE25
  have hX60 : fz_Xc H41 := fz_Xc_fr hf46 rfl hX13
  have t61 : H41 53 10 = H7 53 10 := hf46 53 10 rfl
  have t62 : H41 9 5 = H7 9 5 := hf46 9 5 rfl
  have t63 : H41 53 10 = H7 53 10 := hf46 53 10 rfl
  have t64 : H41 44 2 = H7 44 2 := hf46 44 2 rfl
  have t65 : H41 53 44 = H7 53 44 := hf46 53 44 rfl
  have t66 : H41 20 2 = H7 20 2 := hf46 20 2 rfl
  have t67 : H41 53 16 = H7 53 16 := hf46 53 16 rfl
  have t68 : H41 1 7 = H7 1 7 := hf46 1 7 rfl
  have t69 : H41 53 0 = H7 53 0 := hf46 53 0 rfl
  have t70 : H41 1 8 = H7 1 8 := hf46 1 8 rfl
  have t71 : H41 53 2 = H7 53 2 := hf46 53 2 rfl
  refine fz_pop rfl kLc4 rfl ?_
  refine fz_goto (tgt := 1816) kLc4 rfl (by decide) ?_
  exact K H41 ⟨hI45, hX60, hXd47, hXh52, hXw53, by omega, by omega, by omega, by omega, by omega, by omega, by omega, hRS54, hRP55, hRK56, hRR57, hRT58, hRE59⟩ (funext fun s => hf51 200 s rfl)
def mLc5 : fz_M := (yL_law, code, 4, (some .boolean), [(409, .aload_n 1, 1, 0, 0, 0), (410, .aload_n 0, 1, 0, 0, 0), (411, .iload_n 3, 1, 0, 0, 0), (412, .iconst 1, 1, 0, 0, 0), (413, .iadd, 1, 0, 0, 0), (414, .iaload, 1, 0, 0, 0), (415, .aload_n 0, 1, 0, 0, 0), (416, .iload_n 3, 1, 0, 0, 0), (417, .iconst 2, 1, 0, 0, 0), (418, .iadd, 1, 0, 0, 0), (419, .iaload, 1, 0, 0, 0), (420, .invokevirtual 36, 3, 3054, 61, 0), (423, .pop, 1, 0, 0, 0), (424, .aload_n 2, 1, 0, 0, 0), (425, .aload_n 0, 1, 0, 0, 0), (426, .iload_n 3, 1, 0, 0, 0), (427, .iconst 1, 1, 0, 0, 0), (428, .iadd, 1, 0, 0, 0), (429, .iaload, 1, 0, 0, 0), (430, .aload_n 0, 1, 0, 0, 0), (431, .iload_n 3, 1, 0, 0, 0), (432, .iconst 2, 1, 0, 0, 0), (433, .iadd, 1, 0, 0, 0), (434, .iaload, 1, 0, 0, 0), (435, .invokevirtual 39, 3, 6105, 160, 0), (438, .pop, 1, 0, 0, 0), (439, .goto 1377, 3, 0, 0, 0)])
set_option maxRecDepth 100000 in
theorem kLc5 : fz_okM mLc5 = true := by decide +kernel
set_option maxHeartbeats 1000000 in
set_option maxRecDepth 100000 in
theorem lc5 (h : fz_H) (hI : fz_Iv h) (hX : fz_Xc h) (hXd : fz_Xd h) (hXh : fz_Xh h) (hXw : fz_Xw h) (hv1 : h 53 10 ≤ 10) (hv2 : h 53 42 ≤ h 53 41) (hr0 : h 9 5 = h 53 10) (hr1 : h 44 2 = h 53 44) (hr2 : h 20 2 = h 53 16) (hr3 : h 1 7 = h 53 0) (hr4 : h 1 8 = h 53 2) (hRS : fz_RS h) (hRP : fz_RP h) (hRK : fz_RK h) (hRR : fz_RR h) (hRT : fz_RT h) (hRE : fz_RE h) (i : Int) (hi : 0 ≤ i ∧ i + 6 ≤ h 200 100000 ∧ h 200 100000 ≤ 3072) {Q : fz_H → Option fz_V → Prop} (K : ∀ H : fz_H, fz_Gd H → H 200 = h 200 → fz_R 47 mLe 1816 [(3, fz_i i), (0, fz_r 200), (1, fz_r 0), (2, fz_r 53)] [] H Q) : fz_R 47 mLc5 409 [(3, fz_i i), (0, fz_r 200), (1, fz_r 0), (2, fz_r 53)] [] h Q := by
  have hf : fz_fr fz_all h h := fz_fr_rf
  refine fz_aload_n kLc5 rfl rfl ?_
  refine fz_aload_n kLc5 rfl rfl ?_
  refine fz_iload_n kLc5 rfl rfl ?_
  refine fz_iconst ⟨by decide, by decide⟩ kLc5 rfl ?_
  refine fz_iaddN kLc5 rfl (by omega) ?_
  obtain ⟨a1, e2⟩ : ∃ z, h 200 ((i + 1)).toNat = z := ⟨_, rfl⟩
  refine fz_taldV (v := a1) kLc5 rfl ⟨by decide, by decide⟩ (by omega) (by omega) e2 ?_
  refine fz_aload_n kLc5 rfl rfl ?_
  refine fz_iload_n kLc5 rfl rfl ?_
  refine fz_iconst ⟨by decide, by decide⟩ kLc5 rfl ?_
  refine fz_iaddN kLc5 rfl (by omega) ?_
  obtain ⟨a3, e4⟩ : ∃ z, h 200 ((i + 2)).toNat = z := ⟨_, rfl⟩
  refine fz_taldV (v := a3) kLc5 rfl ⟨by decide, by decide⟩ (by omega) (by omega) e4 ?_
  refine fz_callV (d' := 3) (M' := mX10_of) (As := [fz_i a1, fz_i a3]) (st := []) kLc5 rfl rfl vX10_of rfl rfl rfl rfl (Nat.le_of_ble_eq_true rfl) (Nat.le_of_ble_eq_true rfl) (by decide) (sX10_of h hI a1 a3 ) (fun H5 r6 q7 o8 => ?_)
  obtain ⟨e9, y11, rfl, f10⟩ := q7
  subst H5
  clear o8
  refine fz_pop rfl kLc5 rfl ?_
  refine fz_aload_n kLc5 rfl rfl ?_
  refine fz_aload_n kLc5 rfl rfl ?_
  refine fz_iload_n kLc5 rfl rfl ?_
  refine fz_iconst ⟨by decide, by decide⟩ kLc5 rfl ?_
  refine fz_iaddN kLc5 rfl (by omega) ?_
  refine fz_taldV (v := a1) kLc5 rfl ⟨by decide, by decide⟩ (by omega) (by omega) e2 ?_
  refine fz_aload_n kLc5 rfl rfl ?_
  refine fz_iload_n kLc5 rfl rfl ?_
  refine fz_iconst ⟨by decide, by decide⟩ kLc5 rfl ?_
  refine fz_iaddN kLc5 rfl (by omega) ?_
  refine fz_taldV (v := a3) kLc5 rfl ⟨by decide, by decide⟩ (by omega) (by omega) e4 ?_
  refine fz_callV (d' := 3) (M' := mX11_of) (As := [fz_i a1, fz_i a3]) (st := []) kLc5 rfl rfl vX11_of rfl rfl rfl rfl (Nat.le_of_ble_eq_true rfl) (Nat.le_of_ble_eq_true rfl) (by decide) (sX11_of h hI a1 a3 ) (fun H12 r13 q14 o15 => ?_)
  obtain ⟨e16, y18, rfl, f17⟩ := q14
  subst H12
  clear o15
  refine fz_pop rfl kLc5 rfl ?_
  refine fz_goto (tgt := 1816) kLc5 rfl (by decide) ?_
  exact K h ⟨hI, hX, hXd, hXh, hXw, by omega, by omega, by omega, by omega, by omega, by omega, by omega, hRS, hRP, hRK, hRR, hRT, hRE⟩ rfl
def mLc6 : fz_M := (yL_law, code, 4, (some .boolean), [(442, .aload_n 1, 1, 0, 0, 0), (443, .aload_n 0, 1, 0, 0, 0), (444, .iload_n 3, 1, 0, 0, 0), (445, .iconst 1, 1, 0, 0, 0), (446, .iadd, 1, 0, 0, 0), (447, .iaload, 1, 0, 0, 0), (448, .invokevirtual 40, 3, 3058, 31, 0), (451, .pop, 1, 0, 0, 0), (452, .aload_n 2, 1, 0, 0, 0), (453, .aload_n 0, 1, 0, 0, 0), (454, .iload_n 3, 1, 0, 0, 0), (455, .iconst 1, 1, 0, 0, 0), (456, .iadd, 1, 0, 0, 0), (457, .iaload, 1, 0, 0, 0), (458, .invokevirtual 43, 3, 6117, 100, 0), (461, .pop, 1, 0, 0, 0), (462, .goto 1354, 3, 0, 0, 0)])
set_option maxRecDepth 100000 in
theorem kLc6 : fz_okM mLc6 = true := by decide +kernel
set_option maxHeartbeats 1000000 in
set_option maxRecDepth 100000 in
theorem lc6 (h : fz_H) (hI : fz_Iv h) (hX : fz_Xc h) (hXd : fz_Xd h) (hXh : fz_Xh h) (hXw : fz_Xw h) (hv1 : h 53 10 ≤ 10) (hv2 : h 53 42 ≤ h 53 41) (hr0 : h 9 5 = h 53 10) (hr1 : h 44 2 = h 53 44) (hr2 : h 20 2 = h 53 16) (hr3 : h 1 7 = h 53 0) (hr4 : h 1 8 = h 53 2) (hRS : fz_RS h) (hRP : fz_RP h) (hRK : fz_RK h) (hRR : fz_RR h) (hRT : fz_RT h) (hRE : fz_RE h) (i : Int) (hi : 0 ≤ i ∧ i + 6 ≤ h 200 100000 ∧ h 200 100000 ≤ 3072) {Q : fz_H → Option fz_V → Prop} (K : ∀ H : fz_H, fz_Gd H → H 200 = h 200 → fz_R 47 mLe 1816 [(3, fz_i i), (0, fz_r 200), (1, fz_r 0), (2, fz_r 53)] [] H Q) : fz_R 47 mLc6 442 [(3, fz_i i), (0, fz_r 200), (1, fz_r 0), (2, fz_r 53)] [] h Q := by
  have hf : fz_fr fz_all h h := fz_fr_rf
  refine fz_aload_n kLc6 rfl rfl ?_
  refine fz_aload_n kLc6 rfl rfl ?_
  refine fz_iload_n kLc6 rfl rfl ?_
  refine fz_iconst ⟨by decide, by decide⟩ kLc6 rfl ?_
  refine fz_iaddN kLc6 rfl (by omega) ?_
  obtain ⟨a1, e2⟩ : ∃ z, h 200 ((i + 1)).toNat = z := ⟨_, rfl⟩
  refine fz_taldV (v := a1) kLc6 rfl ⟨by decide, by decide⟩ (by omega) (by omega) e2 ?_
  have b3 : 0 ≤ h 20 2 ∧ h 20 2 ≤ 120 := hI.1 20 _
  refine fz_callV (d' := 1) (M' := mX10_feed) (As := [fz_i a1]) (st := []) kLc6 rfl rfl vX10_feed rfl rfl rfl rfl (Nat.le_of_ble_eq_true rfl) (Nat.le_of_ble_eq_true rfl) (by decide) (sX10_feed h hI a1 ) (fun H4 r5 q6 o7 => ?_)
  obtain ⟨hI8, hf9, y12, rfl, f10, f11⟩ := q6
  clear o7
  have hf13 := fz_fr_tr hf hf9 (fz_su_all rfl)
  have hXd14 : fz_Xd H4 := fz_Xd_eq (funext fun s => hf9 80 s rfl) hXd
  have hXh15 : fz_Xh H4 := fz_Xh_eq (funext fun s => hf9 83 s rfl) hXh
  have hXw16 : fz_Xw H4 := fz_Xw_eq (hf9 53 19 rfl) (funext fun s => hf9 66 s rfl) (funext fun s => hf9 67 s rfl) (funext fun s => hf9 68 s rfl) (funext fun s => hf9 69 s rfl) hXw
  have hRS17 : fz_RS H4 := fz_RS_eq (funext fun s => hf9 48 s rfl) (funext fun s => hf9 49 s rfl) (funext fun s => hf9 50 s rfl) (funext fun s => hf9 51 s rfl) (funext fun s => hf9 83 s rfl) (funext fun s => hf9 84 s rfl) (hf9 44 2 rfl) hRS
  have hRP18 : fz_RP H4 := fz_RP_eq (funext fun s => hf9 52 s rfl) (funext fun s => hf9 85 s rfl) hRP
  have hRK19 : fz_RK H4 := fz_RK_eq (funext fun s => hf9 45 s rfl) (funext fun s => hf9 81 s rfl) hRK
  have hRR20 : fz_RR H4 := fz_RR_eq (hf9 44 3 rfl) (hf9 53 46 rfl) (funext fun s => hf9 46 s rfl) (funext fun s => hf9 82 s rfl) hRR
  have hRT21 : fz_RT H4 := fz_RT_eq (funext fun s => hf9 41 s rfl) (funext fun s => hf9 42 s rfl) (hf9 1 7 rfl) hRT
  have hRE22 : fz_RE H4 := fz_RE_eq (funext fun s => hf9 5 s rfl) (funext fun s => hf9 6 s rfl) (hf9 1 8 rfl) (hf9 1 7 rfl) hRE
  have hX23 : fz_Xc H4 := fz_Xc_fr hf9 rfl hX
  have t24 : H4 53 10 = h 53 10 := hf9 53 10 rfl
  have t25 : H4 53 41 = h 53 41 := hf9 53 41 rfl
  have t26 : H4 53 42 = h 53 42 := hf9 53 42 rfl
  have t27 : H4 9 5 = h 9 5 := hf9 9 5 rfl
  have t28 : H4 53 10 = h 53 10 := hf9 53 10 rfl
  have t29 : H4 44 2 = h 44 2 := hf9 44 2 rfl
  have t30 : H4 53 44 = h 53 44 := hf9 53 44 rfl
  have t31 : H4 53 16 = h 53 16 := hf9 53 16 rfl
  have t32 : H4 1 7 = h 1 7 := hf9 1 7 rfl
  have t33 : H4 53 0 = h 53 0 := hf9 53 0 rfl
  have t34 : H4 1 8 = h 1 8 := hf9 1 8 rfl
  have t35 : H4 53 2 = h 53 2 := hf9 53 2 rfl
  refine fz_pop rfl kLc6 rfl ?_
  refine fz_aload_n kLc6 rfl rfl ?_
  refine fz_aload_n kLc6 rfl rfl ?_
  refine fz_iload_n kLc6 rfl rfl ?_
  refine fz_iconst ⟨by decide, by decide⟩ kLc6 rfl ?_
  refine fz_iaddN kLc6 rfl (by omega) ?_
  refine fz_taldV (v := a1) kLc6 rfl ⟨by decide, by decide⟩ (by omega) (by rw [hf13 200 _ rfl]; omega) ((hf13 200 _ rfl).trans e2) ?_
  have b36 : 0 ≤ H4 53 16 ∧ H4 53 16 ≤ 120 := hI8.1 53 _
  refine fz_callV (d' := 1) (M' := mX11_feed) (As := [fz_i a1]) (st := []) kLc6 rfl rfl vX11_feed rfl rfl rfl rfl (Nat.le_of_ble_eq_true rfl) (Nat.le_of_ble_eq_true rfl) (by decide) (sX11_feed H4 hI8 a1 ) (fun H37 r38 q39 o40 => ?_)
  obtain ⟨hI41, hf42, y45, rfl, f43, f44⟩ := q39
  clear o40
  have hf46 := fz_fr_tr hf13 hf42 (fz_su_all rfl)
  have hXd47 : fz_Xd H37 := fz_Xd_eq (funext fun s => hf42 80 s rfl) hXd14
  have hXh48 : fz_Xh H37 := fz_Xh_eq (funext fun s => hf42 83 s rfl) hXh15
  have hXw49 : fz_Xw H37 := fz_Xw_eq (hf42 53 19 rfl) (funext fun s => hf42 66 s rfl) (funext fun s => hf42 67 s rfl) (funext fun s => hf42 68 s rfl) (funext fun s => hf42 69 s rfl) hXw16
  have hRS50 : fz_RS H37 := fz_RS_eq (funext fun s => hf42 48 s rfl) (funext fun s => hf42 49 s rfl) (funext fun s => hf42 50 s rfl) (funext fun s => hf42 51 s rfl) (funext fun s => hf42 83 s rfl) (funext fun s => hf42 84 s rfl) (hf42 44 2 rfl) hRS17
  have hRP51 : fz_RP H37 := fz_RP_eq (funext fun s => hf42 52 s rfl) (funext fun s => hf42 85 s rfl) hRP18
  have hRK52 : fz_RK H37 := fz_RK_eq (funext fun s => hf42 45 s rfl) (funext fun s => hf42 81 s rfl) hRK19
  have hRR53 : fz_RR H37 := fz_RR_eq (hf42 44 3 rfl) (hf42 53 46 rfl) (funext fun s => hf42 46 s rfl) (funext fun s => hf42 82 s rfl) hRR20
  have hRT54 : fz_RT H37 := fz_RT_eq (funext fun s => hf42 41 s rfl) (funext fun s => hf42 42 s rfl) (hf42 1 7 rfl) hRT21
  have hRE55 : fz_RE H37 := fz_RE_eq (funext fun s => hf42 5 s rfl) (funext fun s => hf42 6 s rfl) (hf42 1 8 rfl) (hf42 1 7 rfl) hRE22
  have hX56 : fz_Xc H37 := fz_Xc_fr hf42 rfl hX23
  have t57 : H37 53 10 = H4 53 10 := hf42 53 10 rfl
  have t58 : H37 53 41 = H4 53 41 := hf42 53 41 rfl
  have t59 : H37 53 42 = H4 53 42 := hf42 53 42 rfl
  have t60 : H37 9 5 = H4 9 5 := hf42 9 5 rfl
  have t61 : H37 53 10 = H4 53 10 := hf42 53 10 rfl
  have t62 : H37 44 2 = H4 44 2 := hf42 44 2 rfl
  have t63 : H37 53 44 = H4 53 44 := hf42 53 44 rfl
  have t64 : H37 20 2 = H4 20 2 := hf42 20 2 rfl
  have t65 : H37 1 7 = H4 1 7 := hf42 1 7 rfl
  have t66 : H37 53 0 = H4 53 0 := hf42 53 0 rfl
  have t67 : H37 1 8 = H4 1 8 := hf42 1 8 rfl
  have t68 : H37 53 2 = H4 53 2 := hf42 53 2 rfl
  refine fz_pop rfl kLc6 rfl ?_
  refine fz_goto (tgt := 1816) kLc6 rfl (by decide) ?_
  exact K H37 ⟨hI41, hX56, hXd47, hXh48, hXw49, by omega, by omega, by omega, by omega, by omega, by omega, by omega, hRS50, hRP51, hRK52, hRR53, hRT54, hRE55⟩ (funext fun s => hf46 200 s rfl)
def mLc7 : fz_M := (yL_law, code, 4, (some .boolean), [(465, .aload_n 1, 1, 0, 0, 0), (466, .invokevirtual 44, 3, 3066, 53, 0), (469, .pop, 1, 0, 0, 0), (470, .aload_n 2, 1, 0, 0, 0), (471, .invokevirtual 48, 3, 6121, 145, 0), (474, .pop, 1, 0, 0, 0), (475, .goto 1341, 3, 0, 0, 0)])
set_option maxRecDepth 100000 in
theorem kLc7 : fz_okM mLc7 = true := by decide +kernel
set_option maxHeartbeats 1000000 in
set_option maxRecDepth 100000 in
theorem lc7 (h : fz_H) (hI : fz_Iv h) (hX : fz_Xc h) (hXd : fz_Xd h) (hXh : fz_Xh h) (hXw : fz_Xw h) (hv1 : h 53 10 ≤ 10) (hv2 : h 53 42 ≤ h 53 41) (hr0 : h 9 5 = h 53 10) (hr1 : h 44 2 = h 53 44) (hr2 : h 20 2 = h 53 16) (hr3 : h 1 7 = h 53 0) (hr4 : h 1 8 = h 53 2) (hRS : fz_RS h) (hRP : fz_RP h) (hRK : fz_RK h) (hRR : fz_RR h) (hRT : fz_RT h) (hRE : fz_RE h) (i : Int) (hi : 0 ≤ i ∧ i + 6 ≤ h 200 100000 ∧ h 200 100000 ≤ 3072) {Q : fz_H → Option fz_V → Prop} (K : ∀ H : fz_H, fz_Gd H → H 200 = h 200 → fz_R 47 mLe 1816 [(3, fz_i i), (0, fz_r 200), (1, fz_r 0), (2, fz_r 53)] [] H Q) : fz_R 47 mLc7 465 [(3, fz_i i), (0, fz_r 200), (1, fz_r 0), (2, fz_r 53)] [] h Q := by
  have hf : fz_fr fz_all h h := fz_fr_rf
  refine fz_aload_n kLc7 rfl rfl ?_
  refine fz_callV (d' := 46) (M' := mX10_law) (As := []) (st := []) kLc7 rfl rfl vX10_law rfl rfl rfl rfl (Nat.le_of_ble_eq_true rfl) (Nat.le_of_ble_eq_true rfl) (by decide) (sX10_law h hI  ) (fun H1 r2 q3 o4 => ?_)
  obtain ⟨hI5, hf6, y9, rfl, f7, f8⟩ := q3
  clear o4
  have hf10 := fz_fr_tr hf hf6 (fz_su_all rfl)
  have hXd11 : fz_Xd H1 := fz_Xd_eq (funext fun s => hf6 80 s rfl) hXd
  have hXh12 : fz_Xh H1 := fz_Xh_eq (funext fun s => hf6 83 s rfl) hXh
  have hXw13 : fz_Xw H1 := fz_Xw_eq (hf6 53 19 rfl) (funext fun s => hf6 66 s rfl) (funext fun s => hf6 67 s rfl) (funext fun s => hf6 68 s rfl) (funext fun s => hf6 69 s rfl) hXw
  have hRS14 : fz_RS H1 := fz_RS_eq (funext fun s => hf6 48 s rfl) (funext fun s => hf6 49 s rfl) (funext fun s => hf6 50 s rfl) (funext fun s => hf6 51 s rfl) (funext fun s => hf6 83 s rfl) (funext fun s => hf6 84 s rfl) (hf6 44 2 rfl) hRS
  have hRP15 : fz_RP H1 := fz_RP_eq (funext fun s => hf6 52 s rfl) (funext fun s => hf6 85 s rfl) hRP
  have hRK16 : fz_RK H1 := fz_RK_eq (funext fun s => hf6 45 s rfl) (funext fun s => hf6 81 s rfl) hRK
  have hRR17 : fz_RR H1 := fz_RR_eq (hf6 44 3 rfl) (hf6 53 46 rfl) (funext fun s => hf6 46 s rfl) (funext fun s => hf6 82 s rfl) hRR
  have hRT18 : fz_RT H1 := fz_RT_eq (funext fun s => hf6 41 s rfl) (funext fun s => hf6 42 s rfl) (hf6 1 7 rfl) hRT
  have hRE19 : fz_RE H1 := fz_RE_eq (funext fun s => hf6 5 s rfl) (funext fun s => hf6 6 s rfl) (hf6 1 8 rfl) (hf6 1 7 rfl) hRE
  have hX20 : fz_Xc H1 := fz_Xc_fr hf6 rfl hX
  have t21 : H1 53 10 = h 53 10 := hf6 53 10 rfl
  have t22 : H1 53 41 = h 53 41 := hf6 53 41 rfl
  have t23 : H1 53 42 = h 53 42 := hf6 53 42 rfl
  have t24 : H1 9 5 = h 9 5 := hf6 9 5 rfl
  have t25 : H1 53 10 = h 53 10 := hf6 53 10 rfl
  have t26 : H1 44 2 = h 44 2 := hf6 44 2 rfl
  have t27 : H1 53 44 = h 53 44 := hf6 53 44 rfl
  have t28 : H1 53 16 = h 53 16 := hf6 53 16 rfl
  have t29 : H1 1 7 = h 1 7 := hf6 1 7 rfl
  have t30 : H1 53 0 = h 53 0 := hf6 53 0 rfl
  have t31 : H1 1 8 = h 1 8 := hf6 1 8 rfl
  have t32 : H1 53 2 = h 53 2 := hf6 53 2 rfl
  refine fz_pop rfl kLc7 rfl ?_
  refine fz_aload_n kLc7 rfl rfl ?_
  refine fz_callV (d' := 45) (M' := mX11_law) (As := []) (st := []) kLc7 rfl rfl vX11_law rfl rfl rfl rfl (Nat.le_of_ble_eq_true rfl) (Nat.le_of_ble_eq_true rfl) (by decide) (sX11_law H1 hI5  hXw13) (fun H33 r34 q35 o36 => ?_)
  obtain ⟨hI37, hf38, hXw39, y42, rfl, f40, f41⟩ := q35
  clear o36
  have hf43 := fz_fr_tr hf10 hf38 (fz_su_all rfl)
  have k44 : H33 20 2 = 0 := (hf38 20 2 rfl).trans f8
  have hXd45 : fz_Xd H33 := fz_Xd_eq (funext fun s => hf38 80 s rfl) hXd11
  have hXh46 : fz_Xh H33 := fz_Xh_eq (funext fun s => hf38 83 s rfl) hXh12
  have hRS47 : fz_RS H33 := fz_RS_eq (funext fun s => hf38 48 s rfl) (funext fun s => hf38 49 s rfl) (funext fun s => hf38 50 s rfl) (funext fun s => hf38 51 s rfl) (funext fun s => hf38 83 s rfl) (funext fun s => hf38 84 s rfl) (hf38 44 2 rfl) hRS14
  have hRP48 : fz_RP H33 := fz_RP_eq (funext fun s => hf38 52 s rfl) (funext fun s => hf38 85 s rfl) hRP15
  have hRK49 : fz_RK H33 := fz_RK_eq (funext fun s => hf38 45 s rfl) (funext fun s => hf38 81 s rfl) hRK16
  have hRR50 : fz_RR H33 := fz_RR_eq (hf38 44 3 rfl) (hf38 53 46 rfl) (funext fun s => hf38 46 s rfl) (funext fun s => hf38 82 s rfl) hRR17
  have hRT51 : fz_RT H33 := fz_RT_eq (funext fun s => hf38 41 s rfl) (funext fun s => hf38 42 s rfl) (hf38 1 7 rfl) hRT18
  have hRE52 : fz_RE H33 := fz_RE_eq (funext fun s => hf38 5 s rfl) (funext fun s => hf38 6 s rfl) (hf38 1 8 rfl) (hf38 1 7 rfl) hRE19
  have hX53 : fz_Xc H33 := fz_Xc_fr hf38 rfl hX20
  have t54 : H33 53 10 = H1 53 10 := hf38 53 10 rfl
  have t55 : H33 53 41 = H1 53 41 := hf38 53 41 rfl
  have t56 : H33 53 42 = H1 53 42 := hf38 53 42 rfl
  have t57 : H33 9 5 = H1 9 5 := hf38 9 5 rfl
  have t58 : H33 53 10 = H1 53 10 := hf38 53 10 rfl
  have t59 : H33 44 2 = H1 44 2 := hf38 44 2 rfl
  have t60 : H33 53 44 = H1 53 44 := hf38 53 44 rfl
  have t61 : H33 20 2 = H1 20 2 := hf38 20 2 rfl
  have t62 : H33 1 7 = H1 1 7 := hf38 1 7 rfl
  have t63 : H33 53 0 = H1 53 0 := hf38 53 0 rfl
  have t64 : H33 1 8 = H1 1 8 := hf38 1 8 rfl
  have t65 : H33 53 2 = H1 53 2 := hf38 53 2 rfl
  refine fz_pop rfl kLc7 rfl ?_
  refine fz_goto (tgt := 1816) kLc7 rfl (by decide) ?_
  exact K H33 ⟨hI37, hX53, hXd45, hXh46, hXw39, by omega, by omega, by omega, by omega, by omega, by omega, by omega, hRS47, hRP48, hRK49, hRR50, hRT51, hRE52⟩ (funext fun s => hf43 200 s rfl)
def mLc8 : fz_M := (yL_law, code, 4, (some .boolean), [(478, .aload_n 1, 1, 0, 0, 0), (479, .aload_n 0, 1, 0, 0, 0), (480, .iload_n 3, 1, 0, 0, 0), (481, .iconst 1, 1, 0, 0, 0), (482, .iadd, 1, 0, 0, 0), (483, .iaload, 1, 0, 0, 0), (484, .aload_n 0, 1, 0, 0, 0), (485, .iload_n 3, 1, 0, 0, 0), (486, .iconst 2, 1, 0, 0, 0), (487, .iadd, 1, 0, 0, 0), (488, .iaload, 1, 0, 0, 0), (489, .invokevirtual 49, 3, 3146, 78, 0), (492, .pop, 1, 0, 0, 0), (493, .aload_n 2, 1, 0, 0, 0), (494, .aload_n 0, 1, 0, 0, 0), (495, .iload_n 3, 1, 0, 0, 0), (496, .iconst 1, 1, 0, 0, 0), (497, .iadd, 1, 0, 0, 0), (498, .iaload, 1, 0, 0, 0), (499, .aload_n 0, 1, 0, 0, 0), (500, .iload_n 3, 1, 0, 0, 0), (501, .iconst 2, 1, 0, 0, 0), (502, .iadd, 1, 0, 0, 0), (503, .iaload, 1, 0, 0, 0), (504, .invokevirtual 52, 3, 6172, 182, 0), (507, .pop, 1, 0, 0, 0), (508, .goto 1308, 3, 0, 0, 0)])
set_option maxRecDepth 100000 in
theorem kLc8 : fz_okM mLc8 = true := by decide +kernel
set_option maxHeartbeats 1000000 in
set_option maxRecDepth 100000 in
theorem lc8 (h : fz_H) (hI : fz_Iv h) (hX : fz_Xc h) (hXd : fz_Xd h) (hXh : fz_Xh h) (hXw : fz_Xw h) (hv1 : h 53 10 ≤ 10) (hv2 : h 53 42 ≤ h 53 41) (hr0 : h 9 5 = h 53 10) (hr1 : h 44 2 = h 53 44) (hr2 : h 20 2 = h 53 16) (hr3 : h 1 7 = h 53 0) (hr4 : h 1 8 = h 53 2) (hRS : fz_RS h) (hRP : fz_RP h) (hRK : fz_RK h) (hRR : fz_RR h) (hRT : fz_RT h) (hRE : fz_RE h) (i : Int) (hi : 0 ≤ i ∧ i + 6 ≤ h 200 100000 ∧ h 200 100000 ≤ 3072) {Q : fz_H → Option fz_V → Prop} (K : ∀ H : fz_H, fz_Gd H → H 200 = h 200 → fz_R 47 mLe 1816 [(3, fz_i i), (0, fz_r 200), (1, fz_r 0), (2, fz_r 53)] [] H Q) : fz_R 47 mLc8 478 [(3, fz_i i), (0, fz_r 200), (1, fz_r 0), (2, fz_r 53)] [] h Q := by
  have hf : fz_fr fz_all h h := fz_fr_rf
  refine fz_aload_n kLc8 rfl rfl ?_
  refine fz_aload_n kLc8 rfl rfl ?_
  refine fz_iload_n kLc8 rfl rfl ?_
  refine fz_iconst ⟨by decide, by decide⟩ kLc8 rfl ?_
  refine fz_iaddN kLc8 rfl (by omega) ?_
  obtain ⟨a1, e2⟩ : ∃ z, h 200 ((i + 1)).toNat = z := ⟨_, rfl⟩
  refine fz_taldV (v := a1) kLc8 rfl ⟨by decide, by decide⟩ (by omega) (by omega) e2 ?_
  refine fz_aload_n kLc8 rfl rfl ?_
  refine fz_iload_n kLc8 rfl rfl ?_
  refine fz_iconst ⟨by decide, by decide⟩ kLc8 rfl ?_
  refine fz_iaddN kLc8 rfl (by omega) ?_
  obtain ⟨a3, e4⟩ : ∃ z, h 200 ((i + 2)).toNat = z := ⟨_, rfl⟩
  refine fz_taldV (v := a3) kLc8 rfl ⟨by decide, by decide⟩ (by omega) (by omega) e4 ?_
  refine fz_callV (d' := 2) (M' := mX10_way) (As := [fz_i a1, fz_i a3]) (st := []) kLc8 rfl rfl vX10_way rfl rfl rfl rfl (Nat.le_of_ble_eq_true rfl) (Nat.le_of_ble_eq_true rfl) (by decide) (sX10_way h hI a1 a3 ) (fun H5 r6 q7 o8 => ?_)
  obtain ⟨e9, y11, rfl, f10⟩ := q7
  subst H5
  clear o8
  refine fz_pop rfl kLc8 rfl ?_
  refine fz_aload_n kLc8 rfl rfl ?_
  refine fz_aload_n kLc8 rfl rfl ?_
  refine fz_iload_n kLc8 rfl rfl ?_
  refine fz_iconst ⟨by decide, by decide⟩ kLc8 rfl ?_
  refine fz_iaddN kLc8 rfl (by omega) ?_
  refine fz_taldV (v := a1) kLc8 rfl ⟨by decide, by decide⟩ (by omega) (by omega) e2 ?_
  refine fz_aload_n kLc8 rfl rfl ?_
  refine fz_iload_n kLc8 rfl rfl ?_
  refine fz_iconst ⟨by decide, by decide⟩ kLc8 rfl ?_
  refine fz_iaddN kLc8 rfl (by omega) ?_
  refine fz_taldV (v := a3) kLc8 rfl ⟨by decide, by decide⟩ (by omega) (by omega) e4 ?_
  refine fz_callV (d' := 3) (M' := mX11_way) (As := [fz_i a1, fz_i a3]) (st := []) kLc8 rfl rfl vX11_way rfl rfl rfl rfl (Nat.le_of_ble_eq_true rfl) (Nat.le_of_ble_eq_true rfl) (by decide) (sX11_way h hI a1 a3 ) (fun H12 r13 q14 o15 => ?_)
  obtain ⟨hI16, hf17, y19, rfl, f18⟩ := q14
  clear o15
  have hf20 := fz_fr_tr hf hf17 (fz_su_all rfl)
  have hXd21 : fz_Xd H12 := fz_Xd_eq (funext fun s => hf17 80 s rfl) hXd
  have hXh22 : fz_Xh H12 := fz_Xh_eq (funext fun s => hf17 83 s rfl) hXh
  have hXw23 : fz_Xw H12 := fz_Xw_eq (hf17 53 19 rfl) (funext fun s => hf17 66 s rfl) (funext fun s => hf17 67 s rfl) (funext fun s => hf17 68 s rfl) (funext fun s => hf17 69 s rfl) hXw
  have hRS24 : fz_RS H12 := fz_RS_eq (funext fun s => hf17 48 s rfl) (funext fun s => hf17 49 s rfl) (funext fun s => hf17 50 s rfl) (funext fun s => hf17 51 s rfl) (funext fun s => hf17 83 s rfl) (funext fun s => hf17 84 s rfl) (hf17 44 2 rfl) hRS
  have hRP25 : fz_RP H12 := fz_RP_eq (funext fun s => hf17 52 s rfl) (funext fun s => hf17 85 s rfl) hRP
  have hRK26 : fz_RK H12 := fz_RK_eq (funext fun s => hf17 45 s rfl) (funext fun s => hf17 81 s rfl) hRK
  have hRR27 : fz_RR H12 := fz_RR_eq (hf17 44 3 rfl) (hf17 53 46 rfl) (funext fun s => hf17 46 s rfl) (funext fun s => hf17 82 s rfl) hRR
  have hRT28 : fz_RT H12 := fz_RT_eq (funext fun s => hf17 41 s rfl) (funext fun s => hf17 42 s rfl) (hf17 1 7 rfl) hRT
  have hRE29 : fz_RE H12 := fz_RE_eq (funext fun s => hf17 5 s rfl) (funext fun s => hf17 6 s rfl) (hf17 1 8 rfl) (hf17 1 7 rfl) hRE
  have hX30 : fz_Xc H12 := fz_Xc_fr hf17 rfl hX
  have t31 : H12 53 10 = h 53 10 := hf17 53 10 rfl
  have t32 : H12 53 41 = h 53 41 := hf17 53 41 rfl
  have t33 : H12 53 42 = h 53 42 := hf17 53 42 rfl
  have t34 : H12 9 5 = h 9 5 := hf17 9 5 rfl
  have t35 : H12 53 10 = h 53 10 := hf17 53 10 rfl
  have t36 : H12 44 2 = h 44 2 := hf17 44 2 rfl
  have t37 : H12 53 44 = h 53 44 := hf17 53 44 rfl
  have t38 : H12 20 2 = h 20 2 := hf17 20 2 rfl
  have t39 : H12 53 16 = h 53 16 := hf17 53 16 rfl
  have t40 : H12 1 7 = h 1 7 := hf17 1 7 rfl
  have t41 : H12 53 0 = h 53 0 := hf17 53 0 rfl
  have t42 : H12 1 8 = h 1 8 := hf17 1 8 rfl
  have t43 : H12 53 2 = h 53 2 := hf17 53 2 rfl
  refine fz_pop rfl kLc8 rfl ?_
  refine fz_goto (tgt := 1816) kLc8 rfl (by decide) ?_
  exact K H12 ⟨hI16, hX30, hXd21, hXh22, hXw23, by omega, by omega, by omega, by omega, by omega, by omega, by omega, hRS24, hRP25, hRK26, hRR27, hRT28, hRE29⟩ (funext fun s => hf20 200 s rfl)
def mLc9 : fz_M := (yL_law, code, 4, (some .boolean), [(511, .aload_n 1, 1, 0, 0, 0), (512, .aload_n 0, 1, 0, 0, 0), (513, .iload_n 3, 1, 0, 0, 0), (514, .iconst 1, 1, 0, 0, 0), (515, .iadd, 1, 0, 0, 0), (516, .iaload, 1, 0, 0, 0), (517, .aload_n 0, 1, 0, 0, 0), (518, .iload_n 3, 1, 0, 0, 0), (519, .iconst 2, 1, 0, 0, 0), (520, .iadd, 1, 0, 0, 0), (521, .iaload, 1, 0, 0, 0), (522, .invokevirtual 53, 3, 3158, 37, 0), (525, .pop, 1, 0, 0, 0), (526, .aload_n 2, 1, 0, 0, 0), (527, .aload_n 0, 1, 0, 0, 0), (528, .iload_n 3, 1, 0, 0, 0), (529, .iconst 1, 1, 0, 0, 0), (530, .iadd, 1, 0, 0, 0), (531, .iaload, 1, 0, 0, 0), (532, .aload_n 0, 1, 0, 0, 0), (533, .iload_n 3, 1, 0, 0, 0), (534, .iconst 2, 1, 0, 0, 0), (535, .iadd, 1, 0, 0, 0), (536, .iaload, 1, 0, 0, 0), (537, .invokevirtual 56, 3, 6188, 109, 0), (540, .pop, 1, 0, 0, 0), (541, .goto 1275, 3, 0, 0, 0)])
set_option maxRecDepth 100000 in
theorem kLc9 : fz_okM mLc9 = true := by decide +kernel
set_option maxHeartbeats 1000000 in
set_option maxRecDepth 100000 in
theorem lc9 (h : fz_H) (hI : fz_Iv h) (hX : fz_Xc h) (hXd : fz_Xd h) (hXh : fz_Xh h) (hXw : fz_Xw h) (hv1 : h 53 10 ≤ 10) (hv2 : h 53 42 ≤ h 53 41) (hr0 : h 9 5 = h 53 10) (hr1 : h 44 2 = h 53 44) (hr2 : h 20 2 = h 53 16) (hr3 : h 1 7 = h 53 0) (hr4 : h 1 8 = h 53 2) (hRS : fz_RS h) (hRP : fz_RP h) (hRK : fz_RK h) (hRR : fz_RR h) (hRT : fz_RT h) (hRE : fz_RE h) (i : Int) (hi : 0 ≤ i ∧ i + 6 ≤ h 200 100000 ∧ h 200 100000 ≤ 3072) {Q : fz_H → Option fz_V → Prop} (K : ∀ H : fz_H, fz_Gd H → H 200 = h 200 → fz_R 47 mLe 1816 [(3, fz_i i), (0, fz_r 200), (1, fz_r 0), (2, fz_r 53)] [] H Q) : fz_R 47 mLc9 511 [(3, fz_i i), (0, fz_r 200), (1, fz_r 0), (2, fz_r 53)] [] h Q := by
  have hf : fz_fr fz_all h h := fz_fr_rf
  refine fz_aload_n kLc9 rfl rfl ?_
  refine fz_aload_n kLc9 rfl rfl ?_
  refine fz_iload_n kLc9 rfl rfl ?_
  refine fz_iconst ⟨by decide, by decide⟩ kLc9 rfl ?_
  refine fz_iaddN kLc9 rfl (by omega) ?_
  obtain ⟨a1, e2⟩ : ∃ z, h 200 ((i + 1)).toNat = z := ⟨_, rfl⟩
  refine fz_taldV (v := a1) kLc9 rfl ⟨by decide, by decide⟩ (by omega) (by omega) e2 ?_
  refine fz_aload_n kLc9 rfl rfl ?_
  refine fz_iload_n kLc9 rfl rfl ?_
  refine fz_iconst ⟨by decide, by decide⟩ kLc9 rfl ?_
  refine fz_iaddN kLc9 rfl (by omega) ?_
  obtain ⟨a3, e4⟩ : ∃ z, h 200 ((i + 2)).toNat = z := ⟨_, rfl⟩
  refine fz_taldV (v := a3) kLc9 rfl ⟨by decide, by decide⟩ (by omega) (by omega) e4 ?_
  refine fz_callV (d' := 2) (M' := mX10_heard) (As := [fz_i a1, fz_i a3]) (st := []) kLc9 rfl rfl vX10_heard rfl rfl rfl rfl (Nat.le_of_ble_eq_true rfl) (Nat.le_of_ble_eq_true rfl) (by decide) (sX10_heard h hI a1 a3 ) (fun H5 r6 q7 o8 => ?_)
  obtain ⟨e9, y11, rfl, f10⟩ := q7
  subst H5
  clear o8
  refine fz_pop rfl kLc9 rfl ?_
  refine fz_aload_n kLc9 rfl rfl ?_
  refine fz_aload_n kLc9 rfl rfl ?_
  refine fz_iload_n kLc9 rfl rfl ?_
  refine fz_iconst ⟨by decide, by decide⟩ kLc9 rfl ?_
  refine fz_iaddN kLc9 rfl (by omega) ?_
  refine fz_taldV (v := a1) kLc9 rfl ⟨by decide, by decide⟩ (by omega) (by omega) e2 ?_
  refine fz_aload_n kLc9 rfl rfl ?_
  refine fz_iload_n kLc9 rfl rfl ?_
  refine fz_iconst ⟨by decide, by decide⟩ kLc9 rfl ?_
  refine fz_iaddN kLc9 rfl (by omega) ?_
  refine fz_taldV (v := a3) kLc9 rfl ⟨by decide, by decide⟩ (by omega) (by omega) e4 ?_
  refine fz_callV (d' := 3) (M' := mX11_heard) (As := [fz_i a1, fz_i a3]) (st := []) kLc9 rfl rfl vX11_heard rfl rfl rfl rfl (Nat.le_of_ble_eq_true rfl) (Nat.le_of_ble_eq_true rfl) (by decide) (sX11_heard h hI a1 a3 ) (fun H12 r13 q14 o15 => ?_)
  obtain ⟨hI16, hf17, y19, rfl, f18⟩ := q14
  clear o15
  have hf20 := fz_fr_tr hf hf17 (fz_su_all rfl)
  have hXd21 : fz_Xd H12 := fz_Xd_eq (funext fun s => hf17 80 s rfl) hXd
  have hXh22 : fz_Xh H12 := fz_Xh_eq (funext fun s => hf17 83 s rfl) hXh
  have hXw23 : fz_Xw H12 := fz_Xw_eq (hf17 53 19 rfl) (funext fun s => hf17 66 s rfl) (funext fun s => hf17 67 s rfl) (funext fun s => hf17 68 s rfl) (funext fun s => hf17 69 s rfl) hXw
  have hRS24 : fz_RS H12 := fz_RS_eq (funext fun s => hf17 48 s rfl) (funext fun s => hf17 49 s rfl) (funext fun s => hf17 50 s rfl) (funext fun s => hf17 51 s rfl) (funext fun s => hf17 83 s rfl) (funext fun s => hf17 84 s rfl) (hf17 44 2 rfl) hRS
  have hRP25 : fz_RP H12 := fz_RP_eq (funext fun s => hf17 52 s rfl) (funext fun s => hf17 85 s rfl) hRP
  have hRK26 : fz_RK H12 := fz_RK_eq (funext fun s => hf17 45 s rfl) (funext fun s => hf17 81 s rfl) hRK
  have hRR27 : fz_RR H12 := fz_RR_eq (hf17 44 3 rfl) (hf17 53 46 rfl) (funext fun s => hf17 46 s rfl) (funext fun s => hf17 82 s rfl) hRR
  have hRT28 : fz_RT H12 := fz_RT_eq (funext fun s => hf17 41 s rfl) (funext fun s => hf17 42 s rfl) (hf17 1 7 rfl) hRT
  have hRE29 : fz_RE H12 := fz_RE_eq (funext fun s => hf17 5 s rfl) (funext fun s => hf17 6 s rfl) (hf17 1 8 rfl) (hf17 1 7 rfl) hRE
  have hX30 : fz_Xc H12 := fz_Xc_fr hf17 rfl hX
  have t31 : H12 53 10 = h 53 10 := hf17 53 10 rfl
  have t32 : H12 53 41 = h 53 41 := hf17 53 41 rfl
  have t33 : H12 53 42 = h 53 42 := hf17 53 42 rfl
  have t34 : H12 9 5 = h 9 5 := hf17 9 5 rfl
  have t35 : H12 53 10 = h 53 10 := hf17 53 10 rfl
  have t36 : H12 44 2 = h 44 2 := hf17 44 2 rfl
  have t37 : H12 53 44 = h 53 44 := hf17 53 44 rfl
  have t38 : H12 20 2 = h 20 2 := hf17 20 2 rfl
  have t39 : H12 53 16 = h 53 16 := hf17 53 16 rfl
  have t40 : H12 1 7 = h 1 7 := hf17 1 7 rfl
  have t41 : H12 53 0 = h 53 0 := hf17 53 0 rfl
  have t42 : H12 1 8 = h 1 8 := hf17 1 8 rfl
  have t43 : H12 53 2 = h 53 2 := hf17 53 2 rfl
  refine fz_pop rfl kLc9 rfl ?_
  refine fz_goto (tgt := 1816) kLc9 rfl (by decide) ?_
  exact K H12 ⟨hI16, hX30, hXd21, hXh22, hXw23, by omega, by omega, by omega, by omega, by omega, by omega, by omega, hRS24, hRP25, hRK26, hRR27, hRT28, hRE29⟩ (funext fun s => hf20 200 s rfl)
def mLc10 : fz_M := (yL_law, code, 4, (some .boolean), [(544, .aload_n 1, 1, 0, 0, 0), (545, .aload_n 0, 1, 0, 0, 0), (546, .iload_n 3, 1, 0, 0, 0), (547, .iconst 1, 1, 0, 0, 0), (548, .iadd, 1, 0, 0, 0), (549, .iaload, 1, 0, 0, 0), (550, .aload_n 0, 1, 0, 0, 0), (551, .iload_n 3, 1, 0, 0, 0), (552, .iconst 2, 1, 0, 0, 0), (553, .iadd, 1, 0, 0, 0), (554, .iaload, 1, 0, 0, 0), (555, .invokevirtual 57, 3, 3167, 55, 0), (558, .pop, 1, 0, 0, 0), (559, .aload_n 2, 1, 0, 0, 0), (560, .aload_n 0, 1, 0, 0, 0), (561, .iload_n 3, 1, 0, 0, 0), (562, .iconst 1, 1, 0, 0, 0), (563, .iadd, 1, 0, 0, 0), (564, .iaload, 1, 0, 0, 0), (565, .aload_n 0, 1, 0, 0, 0), (566, .iload_n 3, 1, 0, 0, 0), (567, .iconst 2, 1, 0, 0, 0), (568, .iadd, 1, 0, 0, 0), (569, .iaload, 1, 0, 0, 0), (570, .invokevirtual 60, 3, 6196, 147, 0), (573, .pop, 1, 0, 0, 0), (574, .goto 1242, 3, 0, 0, 0)])
set_option maxRecDepth 100000 in
theorem kLc10 : fz_okM mLc10 = true := by decide +kernel
set_option maxHeartbeats 1000000 in
set_option maxRecDepth 100000 in
theorem lc10 (h : fz_H) (hI : fz_Iv h) (hX : fz_Xc h) (hXd : fz_Xd h) (hXh : fz_Xh h) (hXw : fz_Xw h) (hv1 : h 53 10 ≤ 10) (hv2 : h 53 42 ≤ h 53 41) (hr0 : h 9 5 = h 53 10) (hr1 : h 44 2 = h 53 44) (hr2 : h 20 2 = h 53 16) (hr3 : h 1 7 = h 53 0) (hr4 : h 1 8 = h 53 2) (hRS : fz_RS h) (hRP : fz_RP h) (hRK : fz_RK h) (hRR : fz_RR h) (hRT : fz_RT h) (hRE : fz_RE h) (i : Int) (hi : 0 ≤ i ∧ i + 6 ≤ h 200 100000 ∧ h 200 100000 ≤ 3072) {Q : fz_H → Option fz_V → Prop} (K : ∀ H : fz_H, fz_Gd H → H 200 = h 200 → fz_R 47 mLe 1816 [(3, fz_i i), (0, fz_r 200), (1, fz_r 0), (2, fz_r 53)] [] H Q) : fz_R 47 mLc10 544 [(3, fz_i i), (0, fz_r 200), (1, fz_r 0), (2, fz_r 53)] [] h Q := by
  have hf : fz_fr fz_all h h := fz_fr_rf
  refine fz_aload_n kLc10 rfl rfl ?_
  refine fz_aload_n kLc10 rfl rfl ?_
  refine fz_iload_n kLc10 rfl rfl ?_
  refine fz_iconst ⟨by decide, by decide⟩ kLc10 rfl ?_
  refine fz_iaddN kLc10 rfl (by omega) ?_
  obtain ⟨a1, e2⟩ : ∃ z, h 200 ((i + 1)).toNat = z := ⟨_, rfl⟩
  refine fz_taldV (v := a1) kLc10 rfl ⟨by decide, by decide⟩ (by omega) (by omega) e2 ?_
  refine fz_aload_n kLc10 rfl rfl ?_
  refine fz_iload_n kLc10 rfl rfl ?_
  refine fz_iconst ⟨by decide, by decide⟩ kLc10 rfl ?_
  refine fz_iaddN kLc10 rfl (by omega) ?_
  obtain ⟨a3, e4⟩ : ∃ z, h 200 ((i + 2)).toNat = z := ⟨_, rfl⟩
  refine fz_taldV (v := a3) kLc10 rfl ⟨by decide, by decide⟩ (by omega) (by omega) e4 ?_
  refine fz_callV (d' := 4) (M' := mX10_loud) (As := [fz_i a1, fz_i a3]) (st := []) kLc10 rfl rfl vX10_loud rfl rfl rfl rfl (Nat.le_of_ble_eq_true rfl) (Nat.le_of_ble_eq_true rfl) (by decide) (sX10_loud h hI a1 a3 ) (fun H5 r6 q7 o8 => ?_)
  obtain ⟨hI9, hf10, y12, rfl, f11⟩ := q7
  clear o8
  have hf13 := fz_fr_tr hf hf10 (fz_su_all rfl)
  have hXd14 : fz_Xd H5 := fz_Xd_eq (funext fun s => hf10 80 s rfl) hXd
  have hXh15 : fz_Xh H5 := fz_Xh_eq (funext fun s => hf10 83 s rfl) hXh
  have hXw16 : fz_Xw H5 := fz_Xw_eq (hf10 53 19 rfl) (funext fun s => hf10 66 s rfl) (funext fun s => hf10 67 s rfl) (funext fun s => hf10 68 s rfl) (funext fun s => hf10 69 s rfl) hXw
  have hRS17 : fz_RS H5 := fz_RS_eq (funext fun s => hf10 48 s rfl) (funext fun s => hf10 49 s rfl) (funext fun s => hf10 50 s rfl) (funext fun s => hf10 51 s rfl) (funext fun s => hf10 83 s rfl) (funext fun s => hf10 84 s rfl) (hf10 44 2 rfl) hRS
  have hRP18 : fz_RP H5 := fz_RP_eq (funext fun s => hf10 52 s rfl) (funext fun s => hf10 85 s rfl) hRP
  have hRK19 : fz_RK H5 := fz_RK_eq (funext fun s => hf10 45 s rfl) (funext fun s => hf10 81 s rfl) hRK
  have hRR20 : fz_RR H5 := fz_RR_eq (hf10 44 3 rfl) (hf10 53 46 rfl) (funext fun s => hf10 46 s rfl) (funext fun s => hf10 82 s rfl) hRR
  have hRT21 : fz_RT H5 := fz_RT_eq (funext fun s => hf10 41 s rfl) (funext fun s => hf10 42 s rfl) (hf10 1 7 rfl) hRT
  have hRE22 : fz_RE H5 := fz_RE_eq (funext fun s => hf10 5 s rfl) (funext fun s => hf10 6 s rfl) (hf10 1 8 rfl) (hf10 1 7 rfl) hRE
  have hX23 : fz_Xc H5 := fz_Xc_fr hf10 rfl hX
  have t24 : H5 53 10 = h 53 10 := hf10 53 10 rfl
  have t25 : H5 53 41 = h 53 41 := hf10 53 41 rfl
  have t26 : H5 53 42 = h 53 42 := hf10 53 42 rfl
  have t27 : H5 9 5 = h 9 5 := hf10 9 5 rfl
  have t28 : H5 53 10 = h 53 10 := hf10 53 10 rfl
  have t29 : H5 44 2 = h 44 2 := hf10 44 2 rfl
  have t30 : H5 53 44 = h 53 44 := hf10 53 44 rfl
  have t31 : H5 20 2 = h 20 2 := hf10 20 2 rfl
  have t32 : H5 53 16 = h 53 16 := hf10 53 16 rfl
  have t33 : H5 1 7 = h 1 7 := hf10 1 7 rfl
  have t34 : H5 53 0 = h 53 0 := hf10 53 0 rfl
  have t35 : H5 1 8 = h 1 8 := hf10 1 8 rfl
  have t36 : H5 53 2 = h 53 2 := hf10 53 2 rfl
  refine fz_pop rfl kLc10 rfl ?_
  refine fz_aload_n kLc10 rfl rfl ?_
  refine fz_aload_n kLc10 rfl rfl ?_
  refine fz_iload_n kLc10 rfl rfl ?_
  refine fz_iconst ⟨by decide, by decide⟩ kLc10 rfl ?_
  refine fz_iaddN kLc10 rfl (by omega) ?_
  refine fz_taldV (v := a1) kLc10 rfl ⟨by decide, by decide⟩ (by omega) (by rw [hf13 200 _ rfl]; omega) ((hf13 200 _ rfl).trans e2) ?_
  refine fz_aload_n kLc10 rfl rfl ?_
  refine fz_iload_n kLc10 rfl rfl ?_
  refine fz_iconst ⟨by decide, by decide⟩ kLc10 rfl ?_
  refine fz_iaddN kLc10 rfl (by omega) ?_
  refine fz_taldV (v := a3) kLc10 rfl ⟨by decide, by decide⟩ (by omega) (by rw [hf13 200 _ rfl]; omega) ((hf13 200 _ rfl).trans e4) ?_
  refine fz_callV (d' := 3) (M' := mX11_loud) (As := [fz_i a1, fz_i a3]) (st := []) kLc10 rfl rfl vX11_loud rfl rfl rfl rfl (Nat.le_of_ble_eq_true rfl) (Nat.le_of_ble_eq_true rfl) (by decide) (sX11_loud H5 hI9 a1 a3 hXw16) (fun H37 r38 q39 o40 => ?_)
  obtain ⟨hI41, hf42, hXw43, y45, rfl, f44⟩ := q39
  clear o40
  have hf46 := fz_fr_tr hf13 hf42 (fz_su_all rfl)
  have hXd47 : fz_Xd H37 := fz_Xd_eq (funext fun s => hf42 80 s rfl) hXd14
  have hXh48 : fz_Xh H37 := fz_Xh_eq (funext fun s => hf42 83 s rfl) hXh15
  have hRS49 : fz_RS H37 := fz_RS_eq (funext fun s => hf42 48 s rfl) (funext fun s => hf42 49 s rfl) (funext fun s => hf42 50 s rfl) (funext fun s => hf42 51 s rfl) (funext fun s => hf42 83 s rfl) (funext fun s => hf42 84 s rfl) (hf42 44 2 rfl) hRS17
  have hRP50 : fz_RP H37 := fz_RP_eq (funext fun s => hf42 52 s rfl) (funext fun s => hf42 85 s rfl) hRP18
  have hRK51 : fz_RK H37 := fz_RK_eq (funext fun s => hf42 45 s rfl) (funext fun s => hf42 81 s rfl) hRK19
  have hRR52 : fz_RR H37 := fz_RR_eq (hf42 44 3 rfl) (hf42 53 46 rfl) (funext fun s => hf42 46 s rfl) (funext fun s => hf42 82 s rfl) hRR20
  have hRT53 : fz_RT H37 := fz_RT_eq (funext fun s => hf42 41 s rfl) (funext fun s => hf42 42 s rfl) (hf42 1 7 rfl) hRT21
  have hRE54 : fz_RE H37 := fz_RE_eq (funext fun s => hf42 5 s rfl) (funext fun s => hf42 6 s rfl) (hf42 1 8 rfl) (hf42 1 7 rfl) hRE22
  have hX55 : fz_Xc H37 := fz_Xc_fr hf42 rfl hX23
  have t56 : H37 53 10 = H5 53 10 := hf42 53 10 rfl
  have t57 : H37 53 41 = H5 53 41 := hf42 53 41 rfl
  have t58 : H37 53 42 = H5 53 42 := hf42 53 42 rfl
  have t59 : H37 9 5 = H5 9 5 := hf42 9 5 rfl
  have t60 : H37 53 10 = H5 53 10 := hf42 53 10 rfl
  have t61 : H37 44 2 = H5 44 2 := hf42 44 2 rfl
  have t62 : H37 53 44 = H5 53 44 := hf42 53 44 rfl
  have t63 : H37 20 2 = H5 20 2 := hf42 20 2 rfl
  have t64 : H37 53 16 = H5 53 16 := hf42 53 16 rfl
  have t65 : H37 1 7 = H5 1 7 := hf42 1 7 rfl
  have t66 : H37 53 0 = H5 53 0 := hf42 53 0 rfl
  have t67 : H37 1 8 = H5 1 8 := hf42 1 8 rfl
  have t68 : H37 53 2 = H5 53 2 := hf42 53 2 rfl
  refine fz_pop rfl kLc10 rfl ?_
  refine fz_goto (tgt := 1816) kLc10 rfl (by decide) ?_
  exact K H37 ⟨hI41, hX55, hXd47, hXh48, hXw43, by omega, by omega, by omega, by omega, by omega, by omega, by omega, hRS49, hRP50, hRK51, hRR52, hRT53, hRE54⟩ (funext fun s => hf46 200 s rfl)
def mLc11 : fz_M := (yL_law, code, 4, (some .boolean), [(577, .aload_n 1, 1, 0, 0, 0), (578, .aload_n 0, 1, 0, 0, 0), (579, .iload_n 3, 1, 0, 0, 0), (580, .iconst 1, 1, 0, 0, 0), (581, .iadd, 1, 0, 0, 0), (582, .iaload, 1, 0, 0, 0), (583, .aload_n 0, 1, 0, 0, 0), (584, .iload_n 3, 1, 0, 0, 0), (585, .iconst 2, 1, 0, 0, 0), (586, .iadd, 1, 0, 0, 0), (587, .iaload, 1, 0, 0, 0), (588, .invokevirtual 61, 3, 3191, 70, 0), (591, .pop, 1, 0, 0, 0), (592, .aload_n 2, 1, 0, 0, 0), (593, .aload_n 0, 1, 0, 0, 0), (594, .iload_n 3, 1, 0, 0, 0), (595, .iconst 1, 1, 0, 0, 0), (596, .iadd, 1, 0, 0, 0), (597, .iaload, 1, 0, 0, 0), (598, .aload_n 0, 1, 0, 0, 0), (599, .iload_n 3, 1, 0, 0, 0), (600, .iconst 2, 1, 0, 0, 0), (601, .iadd, 1, 0, 0, 0), (602, .iaload, 1, 0, 0, 0), (603, .invokevirtual 64, 3, 6217, 170, 0), (606, .pop, 1, 0, 0, 0), (607, .goto 1209, 3, 0, 0, 0)])
set_option maxRecDepth 100000 in
theorem kLc11 : fz_okM mLc11 = true := by decide +kernel
set_option maxHeartbeats 1000000 in
set_option maxRecDepth 100000 in
theorem lc11 (h : fz_H) (hI : fz_Iv h) (hX : fz_Xc h) (hXd : fz_Xd h) (hXh : fz_Xh h) (hXw : fz_Xw h) (hv1 : h 53 10 ≤ 10) (hv2 : h 53 42 ≤ h 53 41) (hr0 : h 9 5 = h 53 10) (hr1 : h 44 2 = h 53 44) (hr2 : h 20 2 = h 53 16) (hr3 : h 1 7 = h 53 0) (hr4 : h 1 8 = h 53 2) (hRS : fz_RS h) (hRP : fz_RP h) (hRK : fz_RK h) (hRR : fz_RR h) (hRT : fz_RT h) (hRE : fz_RE h) (i : Int) (hi : 0 ≤ i ∧ i + 6 ≤ h 200 100000 ∧ h 200 100000 ≤ 3072) {Q : fz_H → Option fz_V → Prop} (K : ∀ H : fz_H, fz_Gd H → H 200 = h 200 → fz_R 47 mLe 1816 [(3, fz_i i), (0, fz_r 200), (1, fz_r 0), (2, fz_r 53)] [] H Q) : fz_R 47 mLc11 577 [(3, fz_i i), (0, fz_r 200), (1, fz_r 0), (2, fz_r 53)] [] h Q := by
  have hf : fz_fr fz_all h h := fz_fr_rf
  refine fz_aload_n kLc11 rfl rfl ?_
  refine fz_aload_n kLc11 rfl rfl ?_
  refine fz_iload_n kLc11 rfl rfl ?_
  refine fz_iconst ⟨by decide, by decide⟩ kLc11 rfl ?_
  refine fz_iaddN kLc11 rfl (by omega) ?_
  obtain ⟨a1, e2⟩ : ∃ z, h 200 ((i + 1)).toNat = z := ⟨_, rfl⟩
  refine fz_taldV (v := a1) kLc11 rfl ⟨by decide, by decide⟩ (by omega) (by omega) e2 ?_
  refine fz_aload_n kLc11 rfl rfl ?_
  refine fz_iload_n kLc11 rfl rfl ?_
  refine fz_iconst ⟨by decide, by decide⟩ kLc11 rfl ?_
  refine fz_iaddN kLc11 rfl (by omega) ?_
  obtain ⟨a3, e4⟩ : ∃ z, h 200 ((i + 2)).toNat = z := ⟨_, rfl⟩
  refine fz_taldV (v := a3) kLc11 rfl ⟨by decide, by decide⟩ (by omega) (by omega) e4 ?_
  refine fz_callV (d' := 5) (M' := mX10_said) (As := [fz_i a1, fz_i a3]) (st := []) kLc11 rfl rfl vX10_said rfl rfl rfl rfl (Nat.le_of_ble_eq_true rfl) (Nat.le_of_ble_eq_true rfl) (by decide) (sX10_said h hI a1 a3 ) (fun H5 r6 q7 o8 => ?_)
  obtain ⟨hI9, hf10, y12, rfl, f11⟩ := q7
  clear o8
  have hf13 := fz_fr_tr hf hf10 (fz_su_all rfl)
  have hXd14 : fz_Xd H5 := fz_Xd_eq (funext fun s => hf10 80 s rfl) hXd
  have hXh15 : fz_Xh H5 := fz_Xh_eq (funext fun s => hf10 83 s rfl) hXh
  have hXw16 : fz_Xw H5 := fz_Xw_eq (hf10 53 19 rfl) (funext fun s => hf10 66 s rfl) (funext fun s => hf10 67 s rfl) (funext fun s => hf10 68 s rfl) (funext fun s => hf10 69 s rfl) hXw
  have hRS17 : fz_RS H5 := fz_RS_eq (funext fun s => hf10 48 s rfl) (funext fun s => hf10 49 s rfl) (funext fun s => hf10 50 s rfl) (funext fun s => hf10 51 s rfl) (funext fun s => hf10 83 s rfl) (funext fun s => hf10 84 s rfl) (hf10 44 2 rfl) hRS
  have hRP18 : fz_RP H5 := fz_RP_eq (funext fun s => hf10 52 s rfl) (funext fun s => hf10 85 s rfl) hRP
  have hRK19 : fz_RK H5 := fz_RK_eq (funext fun s => hf10 45 s rfl) (funext fun s => hf10 81 s rfl) hRK
  have hRR20 : fz_RR H5 := fz_RR_eq (hf10 44 3 rfl) (hf10 53 46 rfl) (funext fun s => hf10 46 s rfl) (funext fun s => hf10 82 s rfl) hRR
  have hRT21 : fz_RT H5 := fz_RT_eq (funext fun s => hf10 41 s rfl) (funext fun s => hf10 42 s rfl) (hf10 1 7 rfl) hRT
  have hRE22 : fz_RE H5 := fz_RE_eq (funext fun s => hf10 5 s rfl) (funext fun s => hf10 6 s rfl) (hf10 1 8 rfl) (hf10 1 7 rfl) hRE
  have hX23 : fz_Xc H5 := fz_Xc_fr hf10 rfl hX
  have t24 : H5 53 10 = h 53 10 := hf10 53 10 rfl
  have t25 : H5 53 41 = h 53 41 := hf10 53 41 rfl
  have t26 : H5 53 42 = h 53 42 := hf10 53 42 rfl
  have t27 : H5 9 5 = h 9 5 := hf10 9 5 rfl
  have t28 : H5 53 10 = h 53 10 := hf10 53 10 rfl
  have t29 : H5 44 2 = h 44 2 := hf10 44 2 rfl
  have t30 : H5 53 44 = h 53 44 := hf10 53 44 rfl
  have t31 : H5 20 2 = h 20 2 := hf10 20 2 rfl
  have t32 : H5 53 16 = h 53 16 := hf10 53 16 rfl
  have t33 : H5 1 7 = h 1 7 := hf10 1 7 rfl
  have t34 : H5 53 0 = h 53 0 := hf10 53 0 rfl
  have t35 : H5 1 8 = h 1 8 := hf10 1 8 rfl
  have t36 : H5 53 2 = h 53 2 := hf10 53 2 rfl
  refine fz_pop rfl kLc11 rfl ?_
  refine fz_aload_n kLc11 rfl rfl ?_
  refine fz_aload_n kLc11 rfl rfl ?_
  refine fz_iload_n kLc11 rfl rfl ?_
  refine fz_iconst ⟨by decide, by decide⟩ kLc11 rfl ?_
  refine fz_iaddN kLc11 rfl (by omega) ?_
  refine fz_taldV (v := a1) kLc11 rfl ⟨by decide, by decide⟩ (by omega) (by rw [hf13 200 _ rfl]; omega) ((hf13 200 _ rfl).trans e2) ?_
  refine fz_aload_n kLc11 rfl rfl ?_
  refine fz_iload_n kLc11 rfl rfl ?_
  refine fz_iconst ⟨by decide, by decide⟩ kLc11 rfl ?_
  refine fz_iaddN kLc11 rfl (by omega) ?_
  refine fz_taldV (v := a3) kLc11 rfl ⟨by decide, by decide⟩ (by omega) (by rw [hf13 200 _ rfl]; omega) ((hf13 200 _ rfl).trans e4) ?_
  refine fz_callV (d' := 4) (M' := mX11_said) (As := [fz_i a1, fz_i a3]) (st := []) kLc11 rfl rfl vX11_said rfl rfl rfl rfl (Nat.le_of_ble_eq_true rfl) (Nat.le_of_ble_eq_true rfl) (by decide) (sX11_said H5 hI9 a1 a3 hXw16) (fun H37 r38 q39 o40 => ?_)
  obtain ⟨hI41, hf42, hXw43, y45, rfl, f44⟩ := q39
  clear o40
  have hf46 := fz_fr_tr hf13 hf42 (fz_su_all rfl)
  have hXd47 : fz_Xd H37 := fz_Xd_eq (funext fun s => hf42 80 s rfl) hXd14
  have hXh48 : fz_Xh H37 := fz_Xh_eq (funext fun s => hf42 83 s rfl) hXh15
  have hRS49 : fz_RS H37 := fz_RS_eq (funext fun s => hf42 48 s rfl) (funext fun s => hf42 49 s rfl) (funext fun s => hf42 50 s rfl) (funext fun s => hf42 51 s rfl) (funext fun s => hf42 83 s rfl) (funext fun s => hf42 84 s rfl) (hf42 44 2 rfl) hRS17
  have hRP50 : fz_RP H37 := fz_RP_eq (funext fun s => hf42 52 s rfl) (funext fun s => hf42 85 s rfl) hRP18
  have hRK51 : fz_RK H37 := fz_RK_eq (funext fun s => hf42 45 s rfl) (funext fun s => hf42 81 s rfl) hRK19
  have hRR52 : fz_RR H37 := fz_RR_eq (hf42 44 3 rfl) (hf42 53 46 rfl) (funext fun s => hf42 46 s rfl) (funext fun s => hf42 82 s rfl) hRR20
  have hRT53 : fz_RT H37 := fz_RT_eq (funext fun s => hf42 41 s rfl) (funext fun s => hf42 42 s rfl) (hf42 1 7 rfl) hRT21
  have hRE54 : fz_RE H37 := fz_RE_eq (funext fun s => hf42 5 s rfl) (funext fun s => hf42 6 s rfl) (hf42 1 8 rfl) (hf42 1 7 rfl) hRE22
  have hX55 : fz_Xc H37 := fz_Xc_fr hf42 rfl hX23
  have t56 : H37 53 10 = H5 53 10 := hf42 53 10 rfl
  have t57 : H37 53 41 = H5 53 41 := hf42 53 41 rfl
  have t58 : H37 53 42 = H5 53 42 := hf42 53 42 rfl
  have t59 : H37 9 5 = H5 9 5 := hf42 9 5 rfl
  have t60 : H37 53 10 = H5 53 10 := hf42 53 10 rfl
  have t61 : H37 44 2 = H5 44 2 := hf42 44 2 rfl
  have t62 : H37 53 44 = H5 53 44 := hf42 53 44 rfl
  have t63 : H37 20 2 = H5 20 2 := hf42 20 2 rfl
  have t64 : H37 53 16 = H5 53 16 := hf42 53 16 rfl
  have t65 : H37 1 7 = H5 1 7 := hf42 1 7 rfl
  have t66 : H37 53 0 = H5 53 0 := hf42 53 0 rfl
  have t67 : H37 1 8 = H5 1 8 := hf42 1 8 rfl
  have t68 : H37 53 2 = H5 53 2 := hf42 53 2 rfl
  refine fz_pop rfl kLc11 rfl ?_
  refine fz_goto (tgt := 1816) kLc11 rfl (by decide) ?_
  exact K H37 ⟨hI41, hX55, hXd47, hXh48, hXw43, by omega, by omega, by omega, by omega, by omega, by omega, by omega, hRS49, hRP50, hRK51, hRR52, hRT53, hRE54⟩ (funext fun s => hf46 200 s rfl)
def mLc12 : fz_M := (yL_law, code, 4, (some .boolean), [(610, .aload_n 1, 1, 0, 0, 0), (611, .aload_n 0, 1, 0, 0, 0), (612, .iload_n 3, 1, 0, 0, 0), (613, .iconst 1, 1, 0, 0, 0), (614, .iadd, 1, 0, 0, 0), (615, .iaload, 1, 0, 0, 0), (616, .aload_n 0, 1, 0, 0, 0), (617, .iload_n 3, 1, 0, 0, 0), (618, .iconst 2, 1, 0, 0, 0), (619, .iadd, 1, 0, 0, 0), (620, .iaload, 1, 0, 0, 0), (621, .aload_n 0, 1, 0, 0, 0), (622, .iload_n 3, 1, 0, 0, 0), (623, .iconst 3, 1, 0, 0, 0), (624, .iadd, 1, 0, 0, 0), (625, .iaload, 1, 0, 0, 0), (626, .invokevirtual 65, 3, 3201, 63, 0), (629, .pop, 1, 0, 0, 0), (630, .aload_n 2, 1, 0, 0, 0), (631, .aload_n 0, 1, 0, 0, 0), (632, .iload_n 3, 1, 0, 0, 0), (633, .iconst 1, 1, 0, 0, 0), (634, .iadd, 1, 0, 0, 0), (635, .iaload, 1, 0, 0, 0), (636, .aload_n 0, 1, 0, 0, 0), (637, .iload_n 3, 1, 0, 0, 0), (638, .iconst 2, 1, 0, 0, 0), (639, .iadd, 1, 0, 0, 0), (640, .iaload, 1, 0, 0, 0), (641, .aload_n 0, 1, 0, 0, 0), (642, .iload_n 3, 1, 0, 0, 0), (643, .iconst 3, 1, 0, 0, 0), (644, .iadd, 1, 0, 0, 0), (645, .iaload, 1, 0, 0, 0), (646, .invokevirtual 68, 3, 6229, 163, 0), (649, .pop, 1, 0, 0, 0), (650, .goto 1166, 3, 0, 0, 0)])
set_option maxRecDepth 100000 in
theorem kLc12 : fz_okM mLc12 = true := by decide +kernel
set_option maxHeartbeats 1000000 in
set_option maxRecDepth 100000 in
theorem lc12 (h : fz_H) (hI : fz_Iv h) (hX : fz_Xc h) (hXd : fz_Xd h) (hXh : fz_Xh h) (hXw : fz_Xw h) (hv1 : h 53 10 ≤ 10) (hv2 : h 53 42 ≤ h 53 41) (hr0 : h 9 5 = h 53 10) (hr1 : h 44 2 = h 53 44) (hr2 : h 20 2 = h 53 16) (hr3 : h 1 7 = h 53 0) (hr4 : h 1 8 = h 53 2) (hRS : fz_RS h) (hRP : fz_RP h) (hRK : fz_RK h) (hRR : fz_RR h) (hRT : fz_RT h) (hRE : fz_RE h) (i : Int) (hi : 0 ≤ i ∧ i + 6 ≤ h 200 100000 ∧ h 200 100000 ≤ 3072) {Q : fz_H → Option fz_V → Prop} (K : ∀ H : fz_H, fz_Gd H → H 200 = h 200 → fz_R 47 mLe 1816 [(3, fz_i i), (0, fz_r 200), (1, fz_r 0), (2, fz_r 53)] [] H Q) : fz_R 47 mLc12 610 [(3, fz_i i), (0, fz_r 200), (1, fz_r 0), (2, fz_r 53)] [] h Q := by
  have hf : fz_fr fz_all h h := fz_fr_rf
  refine fz_aload_n kLc12 rfl rfl ?_
  refine fz_aload_n kLc12 rfl rfl ?_
  refine fz_iload_n kLc12 rfl rfl ?_
  refine fz_iconst ⟨by decide, by decide⟩ kLc12 rfl ?_
  refine fz_iaddN kLc12 rfl (by omega) ?_
  obtain ⟨a1, e2⟩ : ∃ z, h 200 ((i + 1)).toNat = z := ⟨_, rfl⟩
  refine fz_taldV (v := a1) kLc12 rfl ⟨by decide, by decide⟩ (by omega) (by omega) e2 ?_
  refine fz_aload_n kLc12 rfl rfl ?_
  refine fz_iload_n kLc12 rfl rfl ?_
  refine fz_iconst ⟨by decide, by decide⟩ kLc12 rfl ?_
  refine fz_iaddN kLc12 rfl (by omega) ?_
  obtain ⟨a3, e4⟩ : ∃ z, h 200 ((i + 2)).toNat = z := ⟨_, rfl⟩
  refine fz_taldV (v := a3) kLc12 rfl ⟨by decide, by decide⟩ (by omega) (by omega) e4 ?_
  refine fz_aload_n kLc12 rfl rfl ?_
  refine fz_iload_n kLc12 rfl rfl ?_
  refine fz_iconst ⟨by decide, by decide⟩ kLc12 rfl ?_
  refine fz_iaddN kLc12 rfl (by omega) ?_
  obtain ⟨a5, e6⟩ : ∃ z, h 200 ((i + 3)).toNat = z := ⟨_, rfl⟩
  refine fz_taldV (v := a5) kLc12 rfl ⟨by decide, by decide⟩ (by omega) (by omega) e6 ?_
  refine fz_callV (d' := 5) (M' := mX10_received) (As := [fz_i a1, fz_i a3, fz_i a5]) (st := []) kLc12 rfl rfl vX10_received rfl rfl rfl rfl (Nat.le_of_ble_eq_true rfl) (Nat.le_of_ble_eq_true rfl) (by decide) (sX10_received h hI a1 a3 a5 ) (fun H7 r8 q9 o10 => ?_)
  obtain ⟨hI11, hf12, y14, rfl, f13⟩ := q9
  clear o10
  have hf15 := fz_fr_tr hf hf12 (fz_su_all rfl)
  have hXd16 : fz_Xd H7 := fz_Xd_eq (funext fun s => hf12 80 s rfl) hXd
  have hXh17 : fz_Xh H7 := fz_Xh_eq (funext fun s => hf12 83 s rfl) hXh
  have hXw18 : fz_Xw H7 := fz_Xw_eq (hf12 53 19 rfl) (funext fun s => hf12 66 s rfl) (funext fun s => hf12 67 s rfl) (funext fun s => hf12 68 s rfl) (funext fun s => hf12 69 s rfl) hXw
  have hRS19 : fz_RS H7 := fz_RS_eq (funext fun s => hf12 48 s rfl) (funext fun s => hf12 49 s rfl) (funext fun s => hf12 50 s rfl) (funext fun s => hf12 51 s rfl) (funext fun s => hf12 83 s rfl) (funext fun s => hf12 84 s rfl) (hf12 44 2 rfl) hRS
  have hRP20 : fz_RP H7 := fz_RP_eq (funext fun s => hf12 52 s rfl) (funext fun s => hf12 85 s rfl) hRP
  have hRK21 : fz_RK H7 := fz_RK_eq (funext fun s => hf12 45 s rfl) (funext fun s => hf12 81 s rfl) hRK
  have hRR22 : fz_RR H7 := fz_RR_eq (hf12 44 3 rfl) (hf12 53 46 rfl) (funext fun s => hf12 46 s rfl) (funext fun s => hf12 82 s rfl) hRR
  have hRT23 : fz_RT H7 := fz_RT_eq (funext fun s => hf12 41 s rfl) (funext fun s => hf12 42 s rfl) (hf12 1 7 rfl) hRT
  have hRE24 : fz_RE H7 := fz_RE_eq (funext fun s => hf12 5 s rfl) (funext fun s => hf12 6 s rfl) (hf12 1 8 rfl) (hf12 1 7 rfl) hRE
  have hX25 : fz_Xc H7 := fz_Xc_fr hf12 rfl hX
  have t26 : H7 53 10 = h 53 10 := hf12 53 10 rfl
  have t27 : H7 53 41 = h 53 41 := hf12 53 41 rfl
  have t28 : H7 53 42 = h 53 42 := hf12 53 42 rfl
  have t29 : H7 9 5 = h 9 5 := hf12 9 5 rfl
  have t30 : H7 53 10 = h 53 10 := hf12 53 10 rfl
  have t31 : H7 44 2 = h 44 2 := hf12 44 2 rfl
  have t32 : H7 53 44 = h 53 44 := hf12 53 44 rfl
  have t33 : H7 20 2 = h 20 2 := hf12 20 2 rfl
  have t34 : H7 53 16 = h 53 16 := hf12 53 16 rfl
  have t35 : H7 1 7 = h 1 7 := hf12 1 7 rfl
  have t36 : H7 53 0 = h 53 0 := hf12 53 0 rfl
  have t37 : H7 1 8 = h 1 8 := hf12 1 8 rfl
  have t38 : H7 53 2 = h 53 2 := hf12 53 2 rfl
  refine fz_pop rfl kLc12 rfl ?_
  refine fz_aload_n kLc12 rfl rfl ?_
  refine fz_aload_n kLc12 rfl rfl ?_
  refine fz_iload_n kLc12 rfl rfl ?_
  refine fz_iconst ⟨by decide, by decide⟩ kLc12 rfl ?_
  refine fz_iaddN kLc12 rfl (by omega) ?_
  refine fz_taldV (v := a1) kLc12 rfl ⟨by decide, by decide⟩ (by omega) (by rw [hf15 200 _ rfl]; omega) ((hf15 200 _ rfl).trans e2) ?_
  refine fz_aload_n kLc12 rfl rfl ?_
  refine fz_iload_n kLc12 rfl rfl ?_
  refine fz_iconst ⟨by decide, by decide⟩ kLc12 rfl ?_
  refine fz_iaddN kLc12 rfl (by omega) ?_
  refine fz_taldV (v := a3) kLc12 rfl ⟨by decide, by decide⟩ (by omega) (by rw [hf15 200 _ rfl]; omega) ((hf15 200 _ rfl).trans e4) ?_
  refine fz_aload_n kLc12 rfl rfl ?_
  refine fz_iload_n kLc12 rfl rfl ?_
  refine fz_iconst ⟨by decide, by decide⟩ kLc12 rfl ?_
  refine fz_iaddN kLc12 rfl (by omega) ?_
  refine fz_taldV (v := a5) kLc12 rfl ⟨by decide, by decide⟩ (by omega) (by rw [hf15 200 _ rfl]; omega) ((hf15 200 _ rfl).trans e6) ?_
  refine fz_callV (d' := 5) (M' := mX11_received) (As := [fz_i a1, fz_i a3, fz_i a5]) (st := []) kLc12 rfl rfl vX11_received rfl rfl rfl rfl (Nat.le_of_ble_eq_true rfl) (Nat.le_of_ble_eq_true rfl) (by decide) (sX11_received H7 hI11 a1 a3 a5 hXw18) (fun H39 r40 q41 o42 => ?_)
  obtain ⟨hI43, hf44, hXw45, y47, rfl, f46⟩ := q41
  clear o42
  have hf48 := fz_fr_tr hf15 hf44 (fz_su_all rfl)
  have hXd49 : fz_Xd H39 := fz_Xd_eq (funext fun s => hf44 80 s rfl) hXd16
  have hXh50 : fz_Xh H39 := fz_Xh_eq (funext fun s => hf44 83 s rfl) hXh17
  have hRS51 : fz_RS H39 := fz_RS_eq (funext fun s => hf44 48 s rfl) (funext fun s => hf44 49 s rfl) (funext fun s => hf44 50 s rfl) (funext fun s => hf44 51 s rfl) (funext fun s => hf44 83 s rfl) (funext fun s => hf44 84 s rfl) (hf44 44 2 rfl) hRS19
  have hRP52 : fz_RP H39 := fz_RP_eq (funext fun s => hf44 52 s rfl) (funext fun s => hf44 85 s rfl) hRP20
  have hRK53 : fz_RK H39 := fz_RK_eq (funext fun s => hf44 45 s rfl) (funext fun s => hf44 81 s rfl) hRK21
  have hRR54 : fz_RR H39 := fz_RR_eq (hf44 44 3 rfl) (hf44 53 46 rfl) (funext fun s => hf44 46 s rfl) (funext fun s => hf44 82 s rfl) hRR22
  have hRT55 : fz_RT H39 := fz_RT_eq (funext fun s => hf44 41 s rfl) (funext fun s => hf44 42 s rfl) (hf44 1 7 rfl) hRT23
  have hRE56 : fz_RE H39 := fz_RE_eq (funext fun s => hf44 5 s rfl) (funext fun s => hf44 6 s rfl) (hf44 1 8 rfl) (hf44 1 7 rfl) hRE24
  have hX57 : fz_Xc H39 := fz_Xc_fr hf44 rfl hX25
  have t58 : H39 53 10 = H7 53 10 := hf44 53 10 rfl
  have t59 : H39 53 41 = H7 53 41 := hf44 53 41 rfl
  have t60 : H39 53 42 = H7 53 42 := hf44 53 42 rfl
  have t61 : H39 9 5 = H7 9 5 := hf44 9 5 rfl
  have t62 : H39 53 10 = H7 53 10 := hf44 53 10 rfl
  have t63 : H39 44 2 = H7 44 2 := hf44 44 2 rfl
  have t64 : H39 53 44 = H7 53 44 := hf44 53 44 rfl
  have t65 : H39 20 2 = H7 20 2 := hf44 20 2 rfl
  have t66 : H39 53 16 = H7 53 16 := hf44 53 16 rfl
  have t67 : H39 1 7 = H7 1 7 := hf44 1 7 rfl
  have t68 : H39 53 0 = H7 53 0 := hf44 53 0 rfl
  have t69 : H39 1 8 = H7 1 8 := hf44 1 8 rfl
  have t70 : H39 53 2 = H7 53 2 := hf44 53 2 rfl
  refine fz_pop rfl kLc12 rfl ?_
  refine fz_goto (tgt := 1816) kLc12 rfl (by decide) ?_
  exact K H39 ⟨hI43, hX57, hXd49, hXh50, hXw45, by omega, by omega, by omega, by omega, by omega, by omega, by omega, hRS51, hRP52, hRK53, hRR54, hRT55, hRE56⟩ (funext fun s => hf48 200 s rfl)
def mLc13 : fz_M := (yL_law, code, 4, (some .boolean), [(653, .aload_n 1, 1, 0, 0, 0), (654, .aload_n 0, 1, 0, 0, 0), (655, .iload_n 3, 1, 0, 0, 0), (656, .iconst 1, 1, 0, 0, 0), (657, .iadd, 1, 0, 0, 0), (658, .iaload, 1, 0, 0, 0), (659, .aload_n 0, 1, 0, 0, 0), (660, .iload_n 3, 1, 0, 0, 0), (661, .iconst 2, 1, 0, 0, 0), (662, .iadd, 1, 0, 0, 0), (663, .iaload, 1, 0, 0, 0), (664, .aload_n 0, 1, 0, 0, 0), (665, .iload_n 3, 1, 0, 0, 0), (666, .iconst 3, 1, 0, 0, 0), (667, .iadd, 1, 0, 0, 0), (668, .iaload, 1, 0, 0, 0), (669, .invokevirtual 69, 3, 3234, 18, 0), (672, .pop, 1, 0, 0, 0), (673, .aload_n 2, 1, 0, 0, 0), (674, .aload_n 0, 1, 0, 0, 0), (675, .iload_n 3, 1, 0, 0, 0), (676, .iconst 1, 1, 0, 0, 0), (677, .iadd, 1, 0, 0, 0), (678, .iaload, 1, 0, 0, 0), (679, .aload_n 0, 1, 0, 0, 0), (680, .iload_n 3, 1, 0, 0, 0), (681, .iconst 2, 1, 0, 0, 0), (682, .iadd, 1, 0, 0, 0), (683, .iaload, 1, 0, 0, 0), (684, .aload_n 0, 1, 0, 0, 0), (685, .iload_n 3, 1, 0, 0, 0), (686, .iconst 3, 1, 0, 0, 0), (687, .iadd, 1, 0, 0, 0), (688, .iaload, 1, 0, 0, 0), (689, .invokevirtual 72, 3, 7009, 85, 0), (692, .pop, 1, 0, 0, 0), (693, .goto 1123, 3, 0, 0, 0)])
set_option maxRecDepth 100000 in
theorem kLc13 : fz_okM mLc13 = true := by decide +kernel
set_option maxHeartbeats 1000000 in
set_option maxRecDepth 100000 in
theorem lc13 (h : fz_H) (hI : fz_Iv h) (hX : fz_Xc h) (hXd : fz_Xd h) (hXh : fz_Xh h) (hXw : fz_Xw h) (hv1 : h 53 10 ≤ 10) (hv2 : h 53 42 ≤ h 53 41) (hr0 : h 9 5 = h 53 10) (hr1 : h 44 2 = h 53 44) (hr2 : h 20 2 = h 53 16) (hr3 : h 1 7 = h 53 0) (hr4 : h 1 8 = h 53 2) (hRS : fz_RS h) (hRP : fz_RP h) (hRK : fz_RK h) (hRR : fz_RR h) (hRT : fz_RT h) (hRE : fz_RE h) (i : Int) (hi : 0 ≤ i ∧ i + 6 ≤ h 200 100000 ∧ h 200 100000 ≤ 3072) {Q : fz_H → Option fz_V → Prop} (K : ∀ H : fz_H, fz_Gd H → H 200 = h 200 → fz_R 47 mLe 1816 [(3, fz_i i), (0, fz_r 200), (1, fz_r 0), (2, fz_r 53)] [] H Q) : fz_R 47 mLc13 653 [(3, fz_i i), (0, fz_r 200), (1, fz_r 0), (2, fz_r 53)] [] h Q := by
  have hf : fz_fr fz_all h h := fz_fr_rf
  refine fz_aload_n kLc13 rfl rfl ?_
  refine fz_aload_n kLc13 rfl rfl ?_
  refine fz_iload_n kLc13 rfl rfl ?_
  refine fz_iconst ⟨by decide, by decide⟩ kLc13 rfl ?_
  refine fz_iaddN kLc13 rfl (by omega) ?_
  obtain ⟨a1, e2⟩ : ∃ z, h 200 ((i + 1)).toNat = z := ⟨_, rfl⟩
  refine fz_taldV (v := a1) kLc13 rfl ⟨by decide, by decide⟩ (by omega) (by omega) e2 ?_
  refine fz_aload_n kLc13 rfl rfl ?_
  refine fz_iload_n kLc13 rfl rfl ?_
  refine fz_iconst ⟨by decide, by decide⟩ kLc13 rfl ?_
  refine fz_iaddN kLc13 rfl (by omega) ?_
  obtain ⟨a3, e4⟩ : ∃ z, h 200 ((i + 2)).toNat = z := ⟨_, rfl⟩
  refine fz_taldV (v := a3) kLc13 rfl ⟨by decide, by decide⟩ (by omega) (by omega) e4 ?_
  refine fz_aload_n kLc13 rfl rfl ?_
  refine fz_iload_n kLc13 rfl rfl ?_
  refine fz_iconst ⟨by decide, by decide⟩ kLc13 rfl ?_
  refine fz_iaddN kLc13 rfl (by omega) ?_
  obtain ⟨a5, e6⟩ : ∃ z, h 200 ((i + 3)).toNat = z := ⟨_, rfl⟩
  refine fz_taldV (v := a5) kLc13 rfl ⟨by decide, by decide⟩ (by omega) (by omega) e6 ?_
  refine fz_callV (d' := 6) (M' := mX10_atHour) (As := [fz_i a1, fz_i a3, fz_i a5]) (st := []) kLc13 rfl rfl vX10_atHour rfl rfl rfl rfl (Nat.le_of_ble_eq_true rfl) (Nat.le_of_ble_eq_true rfl) (by decide) (sX10_atHour h hI a1 a3 a5 ) (fun H7 r8 q9 o10 => ?_)
  obtain ⟨hI11, hf12, y14, rfl, f13⟩ := q9
  clear o10
  have hf15 := fz_fr_tr hf hf12 (fz_su_all rfl)
  have hXd16 : fz_Xd H7 := fz_Xd_eq (funext fun s => hf12 80 s rfl) hXd
  have hXh17 : fz_Xh H7 := fz_Xh_eq (funext fun s => hf12 83 s rfl) hXh
  have hXw18 : fz_Xw H7 := fz_Xw_eq (hf12 53 19 rfl) (funext fun s => hf12 66 s rfl) (funext fun s => hf12 67 s rfl) (funext fun s => hf12 68 s rfl) (funext fun s => hf12 69 s rfl) hXw
  have hRS19 : fz_RS H7 := fz_RS_eq (funext fun s => hf12 48 s rfl) (funext fun s => hf12 49 s rfl) (funext fun s => hf12 50 s rfl) (funext fun s => hf12 51 s rfl) (funext fun s => hf12 83 s rfl) (funext fun s => hf12 84 s rfl) (hf12 44 2 rfl) hRS
  have hRP20 : fz_RP H7 := fz_RP_eq (funext fun s => hf12 52 s rfl) (funext fun s => hf12 85 s rfl) hRP
  have hRK21 : fz_RK H7 := fz_RK_eq (funext fun s => hf12 45 s rfl) (funext fun s => hf12 81 s rfl) hRK
  have hRR22 : fz_RR H7 := fz_RR_eq (hf12 44 3 rfl) (hf12 53 46 rfl) (funext fun s => hf12 46 s rfl) (funext fun s => hf12 82 s rfl) hRR
  have hRT23 : fz_RT H7 := fz_RT_eq (funext fun s => hf12 41 s rfl) (funext fun s => hf12 42 s rfl) (hf12 1 7 rfl) hRT
  have hRE24 : fz_RE H7 := fz_RE_eq (funext fun s => hf12 5 s rfl) (funext fun s => hf12 6 s rfl) (hf12 1 8 rfl) (hf12 1 7 rfl) hRE
  have hX25 : fz_Xc H7 := fz_Xc_fr hf12 rfl hX
  have t26 : H7 53 10 = h 53 10 := hf12 53 10 rfl
  have t27 : H7 53 41 = h 53 41 := hf12 53 41 rfl
  have t28 : H7 53 42 = h 53 42 := hf12 53 42 rfl
  have t29 : H7 9 5 = h 9 5 := hf12 9 5 rfl
  have t30 : H7 53 10 = h 53 10 := hf12 53 10 rfl
  have t31 : H7 44 2 = h 44 2 := hf12 44 2 rfl
  have t32 : H7 53 44 = h 53 44 := hf12 53 44 rfl
  have t33 : H7 20 2 = h 20 2 := hf12 20 2 rfl
  have t34 : H7 53 16 = h 53 16 := hf12 53 16 rfl
  have t35 : H7 1 7 = h 1 7 := hf12 1 7 rfl
  have t36 : H7 53 0 = h 53 0 := hf12 53 0 rfl
  have t37 : H7 1 8 = h 1 8 := hf12 1 8 rfl
  have t38 : H7 53 2 = h 53 2 := hf12 53 2 rfl
  refine fz_pop rfl kLc13 rfl ?_
  refine fz_aload_n kLc13 rfl rfl ?_
  refine fz_aload_n kLc13 rfl rfl ?_
  refine fz_iload_n kLc13 rfl rfl ?_
  refine fz_iconst ⟨by decide, by decide⟩ kLc13 rfl ?_
  refine fz_iaddN kLc13 rfl (by omega) ?_
  refine fz_taldV (v := a1) kLc13 rfl ⟨by decide, by decide⟩ (by omega) (by rw [hf15 200 _ rfl]; omega) ((hf15 200 _ rfl).trans e2) ?_
  refine fz_aload_n kLc13 rfl rfl ?_
  refine fz_iload_n kLc13 rfl rfl ?_
  refine fz_iconst ⟨by decide, by decide⟩ kLc13 rfl ?_
  refine fz_iaddN kLc13 rfl (by omega) ?_
  refine fz_taldV (v := a3) kLc13 rfl ⟨by decide, by decide⟩ (by omega) (by rw [hf15 200 _ rfl]; omega) ((hf15 200 _ rfl).trans e4) ?_
  refine fz_aload_n kLc13 rfl rfl ?_
  refine fz_iload_n kLc13 rfl rfl ?_
  refine fz_iconst ⟨by decide, by decide⟩ kLc13 rfl ?_
  refine fz_iaddN kLc13 rfl (by omega) ?_
  refine fz_taldV (v := a5) kLc13 rfl ⟨by decide, by decide⟩ (by omega) (by rw [hf15 200 _ rfl]; omega) ((hf15 200 _ rfl).trans e6) ?_
  refine fz_callV (d' := 5) (M' := mX11_atHour) (As := [fz_i a1, fz_i a3, fz_i a5]) (st := []) kLc13 rfl rfl vX11_atHour rfl rfl rfl rfl (Nat.le_of_ble_eq_true rfl) (Nat.le_of_ble_eq_true rfl) (by decide) (sX11_atHour H7 hI11 a1 a3 a5 hXw18) (fun H39 r40 q41 o42 => ?_)
  obtain ⟨hI43, hf44, hXw45, y47, rfl, f46⟩ := q41
  clear o42
  have hf48 := fz_fr_tr hf15 hf44 (fz_su_all rfl)
  have hXd49 : fz_Xd H39 := fz_Xd_eq (funext fun s => hf44 80 s rfl) hXd16
  have hXh50 : fz_Xh H39 := fz_Xh_eq (funext fun s => hf44 83 s rfl) hXh17
  have hRS51 : fz_RS H39 := fz_RS_eq (funext fun s => hf44 48 s rfl) (funext fun s => hf44 49 s rfl) (funext fun s => hf44 50 s rfl) (funext fun s => hf44 51 s rfl) (funext fun s => hf44 83 s rfl) (funext fun s => hf44 84 s rfl) (hf44 44 2 rfl) hRS19
  have hRP52 : fz_RP H39 := fz_RP_eq (funext fun s => hf44 52 s rfl) (funext fun s => hf44 85 s rfl) hRP20
  have hRK53 : fz_RK H39 := fz_RK_eq (funext fun s => hf44 45 s rfl) (funext fun s => hf44 81 s rfl) hRK21
  have hRR54 : fz_RR H39 := fz_RR_eq (hf44 44 3 rfl) (hf44 53 46 rfl) (funext fun s => hf44 46 s rfl) (funext fun s => hf44 82 s rfl) hRR22
  have hRT55 : fz_RT H39 := fz_RT_eq (funext fun s => hf44 41 s rfl) (funext fun s => hf44 42 s rfl) (hf44 1 7 rfl) hRT23
  have hRE56 : fz_RE H39 := fz_RE_eq (funext fun s => hf44 5 s rfl) (funext fun s => hf44 6 s rfl) (hf44 1 8 rfl) (hf44 1 7 rfl) hRE24
  have hX57 : fz_Xc H39 := fz_Xc_fr hf44 rfl hX25
  have t58 : H39 53 10 = H7 53 10 := hf44 53 10 rfl
  have t59 : H39 53 41 = H7 53 41 := hf44 53 41 rfl
  have t60 : H39 53 42 = H7 53 42 := hf44 53 42 rfl
  have t61 : H39 9 5 = H7 9 5 := hf44 9 5 rfl
  have t62 : H39 53 10 = H7 53 10 := hf44 53 10 rfl
  have t63 : H39 44 2 = H7 44 2 := hf44 44 2 rfl
  have t64 : H39 53 44 = H7 53 44 := hf44 53 44 rfl
  have t65 : H39 20 2 = H7 20 2 := hf44 20 2 rfl
  have t66 : H39 53 16 = H7 53 16 := hf44 53 16 rfl
  have t67 : H39 1 7 = H7 1 7 := hf44 1 7 rfl
  have t68 : H39 53 0 = H7 53 0 := hf44 53 0 rfl
  have t69 : H39 1 8 = H7 1 8 := hf44 1 8 rfl
  have t70 : H39 53 2 = H7 53 2 := hf44 53 2 rfl
  refine fz_pop rfl kLc13 rfl ?_
  refine fz_goto (tgt := 1816) kLc13 rfl (by decide) ?_
  exact K H39 ⟨hI43, hX57, hXd49, hXh50, hXw45, by omega, by omega, by omega, by omega, by omega, by omega, by omega, hRS51, hRP52, hRK53, hRR54, hRT55, hRE56⟩ (funext fun s => hf48 200 s rfl)
def mLc14 : fz_M := (yL_law, code, 4, (some .boolean), [(696, .aload_n 1, 1, 0, 0, 0), (697, .aload_n 0, 1, 0, 0, 0), (698, .iload_n 3, 1, 0, 0, 0), (699, .iconst 1, 1, 0, 0, 0), (700, .iadd, 1, 0, 0, 0), (701, .iaload, 1, 0, 0, 0), (702, .aload_n 0, 1, 0, 0, 0), (703, .iload_n 3, 1, 0, 0, 0), (704, .iconst 2, 1, 0, 0, 0), (705, .iadd, 1, 0, 0, 0), (706, .iaload, 1, 0, 0, 0), (707, .aload_n 0, 1, 0, 0, 0), (708, .iload_n 3, 1, 0, 0, 0), (709, .iconst 3, 1, 0, 0, 0), (710, .iadd, 1, 0, 0, 0), (711, .iaload, 1, 0, 0, 0), (712, .invokevirtual 73, 3, 4006, 38, 0), (715, .pop, 1, 0, 0, 0), (716, .aload_n 2, 1, 0, 0, 0), (717, .aload_n 0, 1, 0, 0, 0), (718, .iload_n 3, 1, 0, 0, 0), (719, .iconst 1, 1, 0, 0, 0), (720, .iadd, 1, 0, 0, 0), (721, .iaload, 1, 0, 0, 0), (722, .aload_n 0, 1, 0, 0, 0), (723, .iload_n 3, 1, 0, 0, 0), (724, .iconst 2, 1, 0, 0, 0), (725, .iadd, 1, 0, 0, 0), (726, .iaload, 1, 0, 0, 0), (727, .aload_n 0, 1, 0, 0, 0), (728, .iload_n 3, 1, 0, 0, 0), (729, .iconst 3, 1, 0, 0, 0), (730, .iadd, 1, 0, 0, 0), (731, .iaload, 1, 0, 0, 0), (732, .invokevirtual 76, 3, 7013, 112, 0), (735, .pop, 1, 0, 0, 0), (736, .goto 1080, 3, 0, 0, 0)])
set_option maxRecDepth 100000 in
theorem kLc14 : fz_okM mLc14 = true := by decide +kernel
set_option maxHeartbeats 1000000 in
set_option maxRecDepth 100000 in
theorem lc14 (h : fz_H) (hI : fz_Iv h) (hX : fz_Xc h) (hXd : fz_Xd h) (hXh : fz_Xh h) (hXw : fz_Xw h) (hv1 : h 53 10 ≤ 10) (hv2 : h 53 42 ≤ h 53 41) (hr0 : h 9 5 = h 53 10) (hr1 : h 44 2 = h 53 44) (hr2 : h 20 2 = h 53 16) (hr3 : h 1 7 = h 53 0) (hr4 : h 1 8 = h 53 2) (hRS : fz_RS h) (hRP : fz_RP h) (hRK : fz_RK h) (hRR : fz_RR h) (hRT : fz_RT h) (hRE : fz_RE h) (i : Int) (hi : 0 ≤ i ∧ i + 6 ≤ h 200 100000 ∧ h 200 100000 ≤ 3072) {Q : fz_H → Option fz_V → Prop} (K : ∀ H : fz_H, fz_Gd H → H 200 = h 200 → fz_R 47 mLe 1816 [(3, fz_i i), (0, fz_r 200), (1, fz_r 0), (2, fz_r 53)] [] H Q) : fz_R 47 mLc14 696 [(3, fz_i i), (0, fz_r 200), (1, fz_r 0), (2, fz_r 53)] [] h Q := by
  have hf : fz_fr fz_all h h := fz_fr_rf
  refine fz_aload_n kLc14 rfl rfl ?_
  refine fz_aload_n kLc14 rfl rfl ?_
  refine fz_iload_n kLc14 rfl rfl ?_
  refine fz_iconst ⟨by decide, by decide⟩ kLc14 rfl ?_
  refine fz_iaddN kLc14 rfl (by omega) ?_
  obtain ⟨a1, e2⟩ : ∃ z, h 200 ((i + 1)).toNat = z := ⟨_, rfl⟩
  refine fz_taldV (v := a1) kLc14 rfl ⟨by decide, by decide⟩ (by omega) (by omega) e2 ?_
  refine fz_aload_n kLc14 rfl rfl ?_
  refine fz_iload_n kLc14 rfl rfl ?_
  refine fz_iconst ⟨by decide, by decide⟩ kLc14 rfl ?_
  refine fz_iaddN kLc14 rfl (by omega) ?_
  obtain ⟨a3, e4⟩ : ∃ z, h 200 ((i + 2)).toNat = z := ⟨_, rfl⟩
  refine fz_taldV (v := a3) kLc14 rfl ⟨by decide, by decide⟩ (by omega) (by omega) e4 ?_
  refine fz_aload_n kLc14 rfl rfl ?_
  refine fz_iload_n kLc14 rfl rfl ?_
  refine fz_iconst ⟨by decide, by decide⟩ kLc14 rfl ?_
  refine fz_iaddN kLc14 rfl (by omega) ?_
  obtain ⟨a5, e6⟩ : ∃ z, h 200 ((i + 3)).toNat = z := ⟨_, rfl⟩
  refine fz_taldV (v := a5) kLc14 rfl ⟨by decide, by decide⟩ (by omega) (by omega) e6 ?_
  refine fz_callV (d' := 6) (M' := mX10_home) (As := [fz_i a1, fz_i a3, fz_i a5]) (st := []) kLc14 rfl rfl vX10_home rfl rfl rfl rfl (Nat.le_of_ble_eq_true rfl) (Nat.le_of_ble_eq_true rfl) (by decide) (sX10_home h hI a1 a3 a5 ) (fun H7 r8 q9 o10 => ?_)
  obtain ⟨hI11, hf12, y14, rfl, f13⟩ := q9
  clear o10
  have hf15 := fz_fr_tr hf hf12 (fz_su_all rfl)
  have hXd16 : fz_Xd H7 := fz_Xd_eq (funext fun s => hf12 80 s rfl) hXd
  have hXh17 : fz_Xh H7 := fz_Xh_eq (funext fun s => hf12 83 s rfl) hXh
  have hXw18 : fz_Xw H7 := fz_Xw_eq (hf12 53 19 rfl) (funext fun s => hf12 66 s rfl) (funext fun s => hf12 67 s rfl) (funext fun s => hf12 68 s rfl) (funext fun s => hf12 69 s rfl) hXw
  have hRS19 : fz_RS H7 := fz_RS_eq (funext fun s => hf12 48 s rfl) (funext fun s => hf12 49 s rfl) (funext fun s => hf12 50 s rfl) (funext fun s => hf12 51 s rfl) (funext fun s => hf12 83 s rfl) (funext fun s => hf12 84 s rfl) (hf12 44 2 rfl) hRS
  have hRP20 : fz_RP H7 := fz_RP_eq (funext fun s => hf12 52 s rfl) (funext fun s => hf12 85 s rfl) hRP
  have hRK21 : fz_RK H7 := fz_RK_eq (funext fun s => hf12 45 s rfl) (funext fun s => hf12 81 s rfl) hRK
  have hRR22 : fz_RR H7 := fz_RR_eq (hf12 44 3 rfl) (hf12 53 46 rfl) (funext fun s => hf12 46 s rfl) (funext fun s => hf12 82 s rfl) hRR
  have hRT23 : fz_RT H7 := fz_RT_eq (funext fun s => hf12 41 s rfl) (funext fun s => hf12 42 s rfl) (hf12 1 7 rfl) hRT
  have hRE24 : fz_RE H7 := fz_RE_eq (funext fun s => hf12 5 s rfl) (funext fun s => hf12 6 s rfl) (hf12 1 8 rfl) (hf12 1 7 rfl) hRE
  have hX25 : fz_Xc H7 := fz_Xc_fr hf12 rfl hX
  have t26 : H7 53 10 = h 53 10 := hf12 53 10 rfl
  have t27 : H7 53 41 = h 53 41 := hf12 53 41 rfl
  have t28 : H7 53 42 = h 53 42 := hf12 53 42 rfl
  have t29 : H7 9 5 = h 9 5 := hf12 9 5 rfl
  have t30 : H7 53 10 = h 53 10 := hf12 53 10 rfl
  have t31 : H7 44 2 = h 44 2 := hf12 44 2 rfl
  have t32 : H7 53 44 = h 53 44 := hf12 53 44 rfl
  have t33 : H7 20 2 = h 20 2 := hf12 20 2 rfl
  have t34 : H7 53 16 = h 53 16 := hf12 53 16 rfl
  have t35 : H7 1 7 = h 1 7 := hf12 1 7 rfl
  have t36 : H7 53 0 = h 53 0 := hf12 53 0 rfl
  have t37 : H7 1 8 = h 1 8 := hf12 1 8 rfl
  have t38 : H7 53 2 = h 53 2 := hf12 53 2 rfl
  refine fz_pop rfl kLc14 rfl ?_
  refine fz_aload_n kLc14 rfl rfl ?_
  refine fz_aload_n kLc14 rfl rfl ?_
  refine fz_iload_n kLc14 rfl rfl ?_
  refine fz_iconst ⟨by decide, by decide⟩ kLc14 rfl ?_
  refine fz_iaddN kLc14 rfl (by omega) ?_
  refine fz_taldV (v := a1) kLc14 rfl ⟨by decide, by decide⟩ (by omega) (by rw [hf15 200 _ rfl]; omega) ((hf15 200 _ rfl).trans e2) ?_
  refine fz_aload_n kLc14 rfl rfl ?_
  refine fz_iload_n kLc14 rfl rfl ?_
  refine fz_iconst ⟨by decide, by decide⟩ kLc14 rfl ?_
  refine fz_iaddN kLc14 rfl (by omega) ?_
  refine fz_taldV (v := a3) kLc14 rfl ⟨by decide, by decide⟩ (by omega) (by rw [hf15 200 _ rfl]; omega) ((hf15 200 _ rfl).trans e4) ?_
  refine fz_aload_n kLc14 rfl rfl ?_
  refine fz_iload_n kLc14 rfl rfl ?_
  refine fz_iconst ⟨by decide, by decide⟩ kLc14 rfl ?_
  refine fz_iaddN kLc14 rfl (by omega) ?_
  refine fz_taldV (v := a5) kLc14 rfl ⟨by decide, by decide⟩ (by omega) (by rw [hf15 200 _ rfl]; omega) ((hf15 200 _ rfl).trans e6) ?_
  refine fz_callV (d' := 5) (M' := mX11_home) (As := [fz_i a1, fz_i a3, fz_i a5]) (st := []) kLc14 rfl rfl vX11_home rfl rfl rfl rfl (Nat.le_of_ble_eq_true rfl) (Nat.le_of_ble_eq_true rfl) (by decide) (sX11_home H7 hI11 a1 a3 a5 hXw18) (fun H39 r40 q41 o42 => ?_)
  obtain ⟨hI43, hf44, hXw45, y47, rfl, f46⟩ := q41
  clear o42
  have hf48 := fz_fr_tr hf15 hf44 (fz_su_all rfl)
  have hXd49 : fz_Xd H39 := fz_Xd_eq (funext fun s => hf44 80 s rfl) hXd16
  have hXh50 : fz_Xh H39 := fz_Xh_eq (funext fun s => hf44 83 s rfl) hXh17
  have hRS51 : fz_RS H39 := fz_RS_eq (funext fun s => hf44 48 s rfl) (funext fun s => hf44 49 s rfl) (funext fun s => hf44 50 s rfl) (funext fun s => hf44 51 s rfl) (funext fun s => hf44 83 s rfl) (funext fun s => hf44 84 s rfl) (hf44 44 2 rfl) hRS19
  have hRP52 : fz_RP H39 := fz_RP_eq (funext fun s => hf44 52 s rfl) (funext fun s => hf44 85 s rfl) hRP20
  have hRK53 : fz_RK H39 := fz_RK_eq (funext fun s => hf44 45 s rfl) (funext fun s => hf44 81 s rfl) hRK21
  have hRR54 : fz_RR H39 := fz_RR_eq (hf44 44 3 rfl) (hf44 53 46 rfl) (funext fun s => hf44 46 s rfl) (funext fun s => hf44 82 s rfl) hRR22
  have hRT55 : fz_RT H39 := fz_RT_eq (funext fun s => hf44 41 s rfl) (funext fun s => hf44 42 s rfl) (hf44 1 7 rfl) hRT23
  have hRE56 : fz_RE H39 := fz_RE_eq (funext fun s => hf44 5 s rfl) (funext fun s => hf44 6 s rfl) (hf44 1 8 rfl) (hf44 1 7 rfl) hRE24
  have hX57 : fz_Xc H39 := fz_Xc_fr hf44 rfl hX25
  have t58 : H39 53 10 = H7 53 10 := hf44 53 10 rfl
  have t59 : H39 53 41 = H7 53 41 := hf44 53 41 rfl
  have t60 : H39 53 42 = H7 53 42 := hf44 53 42 rfl
  have t61 : H39 9 5 = H7 9 5 := hf44 9 5 rfl
  have t62 : H39 53 10 = H7 53 10 := hf44 53 10 rfl
  have t63 : H39 44 2 = H7 44 2 := hf44 44 2 rfl
  have t64 : H39 53 44 = H7 53 44 := hf44 53 44 rfl
  have t65 : H39 20 2 = H7 20 2 := hf44 20 2 rfl
  have t66 : H39 53 16 = H7 53 16 := hf44 53 16 rfl
  have t67 : H39 1 7 = H7 1 7 := hf44 1 7 rfl
  have t68 : H39 53 0 = H7 53 0 := hf44 53 0 rfl
  have t69 : H39 1 8 = H7 1 8 := hf44 1 8 rfl
  have t70 : H39 53 2 = H7 53 2 := hf44 53 2 rfl
  refine fz_pop rfl kLc14 rfl ?_
  refine fz_goto (tgt := 1816) kLc14 rfl (by decide) ?_
  exact K H39 ⟨hI43, hX57, hXd49, hXh50, hXw45, by omega, by omega, by omega, by omega, by omega, by omega, by omega, hRS51, hRP52, hRK53, hRR54, hRT55, hRE56⟩ (funext fun s => hf48 200 s rfl)
def mLc15 : fz_M := (yL_law, code, 4, (some .boolean), [(739, .aload_n 1, 1, 0, 0, 0), (740, .aload_n 0, 1, 0, 0, 0), (741, .iload_n 3, 1, 0, 0, 0), (742, .iconst 1, 1, 0, 0, 0), (743, .iadd, 1, 0, 0, 0), (744, .iaload, 1, 0, 0, 0), (745, .aload_n 0, 1, 0, 0, 0), (746, .iload_n 3, 1, 0, 0, 0), (747, .iconst 2, 1, 0, 0, 0), (748, .iadd, 1, 0, 0, 0), (749, .iaload, 1, 0, 0, 0), (750, .aload_n 0, 1, 0, 0, 0), (751, .iload_n 3, 1, 0, 0, 0), (752, .iconst 3, 1, 0, 0, 0), (753, .iadd, 1, 0, 0, 0), (754, .iaload, 1, 0, 0, 0), (755, .invokevirtual 77, 3, 4014, 68, 0), (758, .pop, 1, 0, 0, 0), (759, .aload_n 2, 1, 0, 0, 0), (760, .aload_n 0, 1, 0, 0, 0), (761, .iload_n 3, 1, 0, 0, 0), (762, .iconst 1, 1, 0, 0, 0), (763, .iadd, 1, 0, 0, 0), (764, .iaload, 1, 0, 0, 0), (765, .aload_n 0, 1, 0, 0, 0), (766, .iload_n 3, 1, 0, 0, 0), (767, .iconst 2, 1, 0, 0, 0), (768, .iadd, 1, 0, 0, 0), (769, .iaload, 1, 0, 0, 0), (770, .aload_n 0, 1, 0, 0, 0), (771, .iload_n 3, 1, 0, 0, 0), (772, .iconst 3, 1, 0, 0, 0), (773, .iadd, 1, 0, 0, 0), (774, .iaload, 1, 0, 0, 0), (775, .invokevirtual 80, 3, 7021, 168, 0), (778, .pop, 1, 0, 0, 0), (779, .goto 1037, 3, 0, 0, 0)])
set_option maxRecDepth 100000 in
theorem kLc15 : fz_okM mLc15 = true := by decide +kernel
set_option maxHeartbeats 1000000 in
set_option maxRecDepth 100000 in
theorem lc15 (h : fz_H) (hI : fz_Iv h) (hX : fz_Xc h) (hXd : fz_Xd h) (hXh : fz_Xh h) (hXw : fz_Xw h) (hv1 : h 53 10 ≤ 10) (hv2 : h 53 42 ≤ h 53 41) (hr0 : h 9 5 = h 53 10) (hr1 : h 44 2 = h 53 44) (hr2 : h 20 2 = h 53 16) (hr3 : h 1 7 = h 53 0) (hr4 : h 1 8 = h 53 2) (hRS : fz_RS h) (hRP : fz_RP h) (hRK : fz_RK h) (hRR : fz_RR h) (hRT : fz_RT h) (hRE : fz_RE h) (i : Int) (hi : 0 ≤ i ∧ i + 6 ≤ h 200 100000 ∧ h 200 100000 ≤ 3072) {Q : fz_H → Option fz_V → Prop} (K : ∀ H : fz_H, fz_Gd H → H 200 = h 200 → fz_R 47 mLe 1816 [(3, fz_i i), (0, fz_r 200), (1, fz_r 0), (2, fz_r 53)] [] H Q) : fz_R 47 mLc15 739 [(3, fz_i i), (0, fz_r 200), (1, fz_r 0), (2, fz_r 53)] [] h Q := by
  have hf : fz_fr fz_all h h := fz_fr_rf
  refine fz_aload_n kLc15 rfl rfl ?_
  refine fz_aload_n kLc15 rfl rfl ?_
  refine fz_iload_n kLc15 rfl rfl ?_
  refine fz_iconst ⟨by decide, by decide⟩ kLc15 rfl ?_
  refine fz_iaddN kLc15 rfl (by omega) ?_
  obtain ⟨a1, e2⟩ : ∃ z, h 200 ((i + 1)).toNat = z := ⟨_, rfl⟩
  refine fz_taldV (v := a1) kLc15 rfl ⟨by decide, by decide⟩ (by omega) (by omega) e2 ?_
  refine fz_aload_n kLc15 rfl rfl ?_
  refine fz_iload_n kLc15 rfl rfl ?_
  refine fz_iconst ⟨by decide, by decide⟩ kLc15 rfl ?_
  refine fz_iaddN kLc15 rfl (by omega) ?_
  obtain ⟨a3, e4⟩ : ∃ z, h 200 ((i + 2)).toNat = z := ⟨_, rfl⟩
  refine fz_taldV (v := a3) kLc15 rfl ⟨by decide, by decide⟩ (by omega) (by omega) e4 ?_
  refine fz_aload_n kLc15 rfl rfl ?_
  refine fz_iload_n kLc15 rfl rfl ?_
  refine fz_iconst ⟨by decide, by decide⟩ kLc15 rfl ?_
  refine fz_iaddN kLc15 rfl (by omega) ?_
  obtain ⟨a5, e6⟩ : ∃ z, h 200 ((i + 3)).toNat = z := ⟨_, rfl⟩
  refine fz_taldV (v := a5) kLc15 rfl ⟨by decide, by decide⟩ (by omega) (by omega) e6 ?_
  refine fz_callV (d' := 10) (M' := mX10_route) (As := [fz_i a1, fz_i a3, fz_i a5]) (st := []) kLc15 rfl rfl vX10_route rfl rfl rfl rfl (Nat.le_of_ble_eq_true rfl) (Nat.le_of_ble_eq_true rfl) (by decide) (sX10_route h hI a1 a3 a5 ) (fun H7 r8 q9 o10 => ?_)
  obtain ⟨hI11, hf12, y14, rfl, f13⟩ := q9
  clear o10
  have hf15 := fz_fr_tr hf hf12 (fz_su_all rfl)
  have hXd16 : fz_Xd H7 := fz_Xd_eq (funext fun s => hf12 80 s rfl) hXd
  have hXh17 : fz_Xh H7 := fz_Xh_eq (funext fun s => hf12 83 s rfl) hXh
  have hXw18 : fz_Xw H7 := fz_Xw_eq (hf12 53 19 rfl) (funext fun s => hf12 66 s rfl) (funext fun s => hf12 67 s rfl) (funext fun s => hf12 68 s rfl) (funext fun s => hf12 69 s rfl) hXw
  have hRS19 : fz_RS H7 := fz_RS_eq (funext fun s => hf12 48 s rfl) (funext fun s => hf12 49 s rfl) (funext fun s => hf12 50 s rfl) (funext fun s => hf12 51 s rfl) (funext fun s => hf12 83 s rfl) (funext fun s => hf12 84 s rfl) (hf12 44 2 rfl) hRS
  have hRP20 : fz_RP H7 := fz_RP_eq (funext fun s => hf12 52 s rfl) (funext fun s => hf12 85 s rfl) hRP
  have hRK21 : fz_RK H7 := fz_RK_eq (funext fun s => hf12 45 s rfl) (funext fun s => hf12 81 s rfl) hRK
  have hRR22 : fz_RR H7 := fz_RR_eq (hf12 44 3 rfl) (hf12 53 46 rfl) (funext fun s => hf12 46 s rfl) (funext fun s => hf12 82 s rfl) hRR
  have hRT23 : fz_RT H7 := fz_RT_eq (funext fun s => hf12 41 s rfl) (funext fun s => hf12 42 s rfl) (hf12 1 7 rfl) hRT
  have hRE24 : fz_RE H7 := fz_RE_eq (funext fun s => hf12 5 s rfl) (funext fun s => hf12 6 s rfl) (hf12 1 8 rfl) (hf12 1 7 rfl) hRE
  have hX25 : fz_Xc H7 := fz_Xc_fr hf12 rfl hX
  have t26 : H7 53 10 = h 53 10 := hf12 53 10 rfl
  have t27 : H7 53 41 = h 53 41 := hf12 53 41 rfl
  have t28 : H7 53 42 = h 53 42 := hf12 53 42 rfl
  have t29 : H7 9 5 = h 9 5 := hf12 9 5 rfl
  have t30 : H7 53 10 = h 53 10 := hf12 53 10 rfl
  have t31 : H7 44 2 = h 44 2 := hf12 44 2 rfl
  have t32 : H7 53 44 = h 53 44 := hf12 53 44 rfl
  have t33 : H7 20 2 = h 20 2 := hf12 20 2 rfl
  have t34 : H7 53 16 = h 53 16 := hf12 53 16 rfl
  have t35 : H7 1 7 = h 1 7 := hf12 1 7 rfl
  have t36 : H7 53 0 = h 53 0 := hf12 53 0 rfl
  have t37 : H7 1 8 = h 1 8 := hf12 1 8 rfl
  have t38 : H7 53 2 = h 53 2 := hf12 53 2 rfl
  refine fz_pop rfl kLc15 rfl ?_
  refine fz_aload_n kLc15 rfl rfl ?_
  refine fz_aload_n kLc15 rfl rfl ?_
  refine fz_iload_n kLc15 rfl rfl ?_
  refine fz_iconst ⟨by decide, by decide⟩ kLc15 rfl ?_
  refine fz_iaddN kLc15 rfl (by omega) ?_
  refine fz_taldV (v := a1) kLc15 rfl ⟨by decide, by decide⟩ (by omega) (by rw [hf15 200 _ rfl]; omega) ((hf15 200 _ rfl).trans e2) ?_
  refine fz_aload_n kLc15 rfl rfl ?_
  refine fz_iload_n kLc15 rfl rfl ?_
  refine fz_iconst ⟨by decide, by decide⟩ kLc15 rfl ?_
  refine fz_iaddN kLc15 rfl (by omega) ?_
  refine fz_taldV (v := a3) kLc15 rfl ⟨by decide, by decide⟩ (by omega) (by rw [hf15 200 _ rfl]; omega) ((hf15 200 _ rfl).trans e4) ?_
  refine fz_aload_n kLc15 rfl rfl ?_
  refine fz_iload_n kLc15 rfl rfl ?_
  refine fz_iconst ⟨by decide, by decide⟩ kLc15 rfl ?_
  refine fz_iaddN kLc15 rfl (by omega) ?_
  refine fz_taldV (v := a5) kLc15 rfl ⟨by decide, by decide⟩ (by omega) (by rw [hf15 200 _ rfl]; omega) ((hf15 200 _ rfl).trans e6) ?_
  refine fz_callV (d' := 9) (M' := mX11_route) (As := [fz_i a1, fz_i a3, fz_i a5]) (st := []) kLc15 rfl rfl vX11_route rfl rfl rfl rfl (Nat.le_of_ble_eq_true rfl) (Nat.le_of_ble_eq_true rfl) (by decide) (sX11_route H7 hI11 a1 a3 a5 hXw18) (fun H39 r40 q41 o42 => ?_)
  obtain ⟨hI43, hf44, hXw45, y47, rfl, f46⟩ := q41
  clear o42
  have hf48 := fz_fr_tr hf15 hf44 (fz_su_all rfl)
  have hXd49 : fz_Xd H39 := fz_Xd_eq (funext fun s => hf44 80 s rfl) hXd16
  have hXh50 : fz_Xh H39 := fz_Xh_eq (funext fun s => hf44 83 s rfl) hXh17
  have hRS51 : fz_RS H39 := fz_RS_eq (funext fun s => hf44 48 s rfl) (funext fun s => hf44 49 s rfl) (funext fun s => hf44 50 s rfl) (funext fun s => hf44 51 s rfl) (funext fun s => hf44 83 s rfl) (funext fun s => hf44 84 s rfl) (hf44 44 2 rfl) hRS19
  have hRP52 : fz_RP H39 := fz_RP_eq (funext fun s => hf44 52 s rfl) (funext fun s => hf44 85 s rfl) hRP20
  have hRK53 : fz_RK H39 := fz_RK_eq (funext fun s => hf44 45 s rfl) (funext fun s => hf44 81 s rfl) hRK21
  have hRR54 : fz_RR H39 := fz_RR_eq (hf44 44 3 rfl) (hf44 53 46 rfl) (funext fun s => hf44 46 s rfl) (funext fun s => hf44 82 s rfl) hRR22
  have hRT55 : fz_RT H39 := fz_RT_eq (funext fun s => hf44 41 s rfl) (funext fun s => hf44 42 s rfl) (hf44 1 7 rfl) hRT23
  have hRE56 : fz_RE H39 := fz_RE_eq (funext fun s => hf44 5 s rfl) (funext fun s => hf44 6 s rfl) (hf44 1 8 rfl) (hf44 1 7 rfl) hRE24
  have hX57 : fz_Xc H39 := fz_Xc_fr hf44 rfl hX25
  have t58 : H39 53 10 = H7 53 10 := hf44 53 10 rfl
  have t59 : H39 53 41 = H7 53 41 := hf44 53 41 rfl
  have t60 : H39 53 42 = H7 53 42 := hf44 53 42 rfl
  have t61 : H39 9 5 = H7 9 5 := hf44 9 5 rfl
  have t62 : H39 53 10 = H7 53 10 := hf44 53 10 rfl
  have t63 : H39 44 2 = H7 44 2 := hf44 44 2 rfl
  have t64 : H39 53 44 = H7 53 44 := hf44 53 44 rfl
  have t65 : H39 20 2 = H7 20 2 := hf44 20 2 rfl
  have t66 : H39 53 16 = H7 53 16 := hf44 53 16 rfl
  have t67 : H39 1 7 = H7 1 7 := hf44 1 7 rfl
  have t68 : H39 53 0 = H7 53 0 := hf44 53 0 rfl
  have t69 : H39 1 8 = H7 1 8 := hf44 1 8 rfl
  have t70 : H39 53 2 = H7 53 2 := hf44 53 2 rfl
  refine fz_pop rfl kLc15 rfl ?_
  refine fz_goto (tgt := 1816) kLc15 rfl (by decide) ?_
  exact K H39 ⟨hI43, hX57, hXd49, hXh50, hXw45, by omega, by omega, by omega, by omega, by omega, by omega, by omega, hRS51, hRP52, hRK53, hRR54, hRT55, hRE56⟩ (funext fun s => hf48 200 s rfl)
def mLc16 : fz_M := (yL_law, code, 4, (some .boolean), [(782, .aload_n 1, 1, 0, 0, 0), (783, .aload_n 0, 1, 0, 0, 0), (784, .iload_n 3, 1, 0, 0, 0), (785, .iconst 1, 1, 0, 0, 0), (786, .iadd, 1, 0, 0, 0), (787, .iaload, 1, 0, 0, 0), (788, .aload_n 0, 1, 0, 0, 0), (789, .iload_n 3, 1, 0, 0, 0), (790, .iconst 2, 1, 0, 0, 0), (791, .iadd, 1, 0, 0, 0), (792, .iaload, 1, 0, 0, 0), (793, .aload_n 0, 1, 0, 0, 0), (794, .iload_n 3, 1, 0, 0, 0), (795, .iconst 3, 1, 0, 0, 0), (796, .iadd, 1, 0, 0, 0), (797, .iaload, 1, 0, 0, 0), (798, .aload_n 0, 1, 0, 0, 0), (799, .iload_n 3, 1, 0, 0, 0), (800, .iconst 4, 1, 0, 0, 0), (801, .iadd, 1, 0, 0, 0), (802, .iaload, 1, 0, 0, 0), (803, .invokevirtual 81, 3, 4044, 58, 0), (806, .pop, 1, 0, 0, 0), (807, .aload_n 2, 1, 0, 0, 0), (808, .aload_n 0, 1, 0, 0, 0), (809, .iload_n 3, 1, 0, 0, 0), (810, .iconst 1, 1, 0, 0, 0), (811, .iadd, 1, 0, 0, 0), (812, .iaload, 1, 0, 0, 0), (813, .aload_n 0, 1, 0, 0, 0), (814, .iload_n 3, 1, 0, 0, 0), (815, .iconst 2, 1, 0, 0, 0), (816, .iadd, 1, 0, 0, 0), (817, .iaload, 1, 0, 0, 0), (818, .aload_n 0, 1, 0, 0, 0), (819, .iload_n 3, 1, 0, 0, 0), (820, .iconst 3, 1, 0, 0, 0), (821, .iadd, 1, 0, 0, 0), (822, .iaload, 1, 0, 0, 0), (823, .aload_n 0, 1, 0, 0, 0), (824, .iload_n 3, 1, 0, 0, 0), (825, .iconst 4, 1, 0, 0, 0), (826, .iadd, 1, 0, 0, 0), (827, .iaload, 1, 0, 0, 0), (828, .invokevirtual 85, 3, 7033, 155, 0), (831, .pop, 1, 0, 0, 0), (832, .goto 984, 3, 0, 0, 0)])
set_option maxRecDepth 100000 in
theorem kLc16 : fz_okM mLc16 = true := by decide +kernel
set_option maxHeartbeats 1000000 in
set_option maxRecDepth 100000 in
theorem lc16 (h : fz_H) (hI : fz_Iv h) (hX : fz_Xc h) (hXd : fz_Xd h) (hXh : fz_Xh h) (hXw : fz_Xw h) (hv1 : h 53 10 ≤ 10) (hv2 : h 53 42 ≤ h 53 41) (hr0 : h 9 5 = h 53 10) (hr1 : h 44 2 = h 53 44) (hr2 : h 20 2 = h 53 16) (hr3 : h 1 7 = h 53 0) (hr4 : h 1 8 = h 53 2) (hRS : fz_RS h) (hRP : fz_RP h) (hRK : fz_RK h) (hRR : fz_RR h) (hRT : fz_RT h) (hRE : fz_RE h) (i : Int) (hi : 0 ≤ i ∧ i + 6 ≤ h 200 100000 ∧ h 200 100000 ≤ 3072) {Q : fz_H → Option fz_V → Prop} (K : ∀ H : fz_H, fz_Gd H → H 200 = h 200 → fz_R 47 mLe 1816 [(3, fz_i i), (0, fz_r 200), (1, fz_r 0), (2, fz_r 53)] [] H Q) : fz_R 47 mLc16 782 [(3, fz_i i), (0, fz_r 200), (1, fz_r 0), (2, fz_r 53)] [] h Q := by
  have hf : fz_fr fz_all h h := fz_fr_rf
  refine fz_aload_n kLc16 rfl rfl ?_
  refine fz_aload_n kLc16 rfl rfl ?_
  refine fz_iload_n kLc16 rfl rfl ?_
  refine fz_iconst ⟨by decide, by decide⟩ kLc16 rfl ?_
  refine fz_iaddN kLc16 rfl (by omega) ?_
  obtain ⟨a1, e2⟩ : ∃ z, h 200 ((i + 1)).toNat = z := ⟨_, rfl⟩
  refine fz_taldV (v := a1) kLc16 rfl ⟨by decide, by decide⟩ (by omega) (by omega) e2 ?_
  refine fz_aload_n kLc16 rfl rfl ?_
  refine fz_iload_n kLc16 rfl rfl ?_
  refine fz_iconst ⟨by decide, by decide⟩ kLc16 rfl ?_
  refine fz_iaddN kLc16 rfl (by omega) ?_
  obtain ⟨a3, e4⟩ : ∃ z, h 200 ((i + 2)).toNat = z := ⟨_, rfl⟩
  refine fz_taldV (v := a3) kLc16 rfl ⟨by decide, by decide⟩ (by omega) (by omega) e4 ?_
  refine fz_aload_n kLc16 rfl rfl ?_
  refine fz_iload_n kLc16 rfl rfl ?_
  refine fz_iconst ⟨by decide, by decide⟩ kLc16 rfl ?_
  refine fz_iaddN kLc16 rfl (by omega) ?_
  obtain ⟨a5, e6⟩ : ∃ z, h 200 ((i + 3)).toNat = z := ⟨_, rfl⟩
  refine fz_taldV (v := a5) kLc16 rfl ⟨by decide, by decide⟩ (by omega) (by omega) e6 ?_
  refine fz_aload_n kLc16 rfl rfl ?_
  refine fz_iload_n kLc16 rfl rfl ?_
  refine fz_iconst ⟨by decide, by decide⟩ kLc16 rfl ?_
  refine fz_iaddN kLc16 rfl (by omega) ?_
  obtain ⟨a7, e8⟩ : ∃ z, h 200 ((i + 4)).toNat = z := ⟨_, rfl⟩
  refine fz_taldV (v := a7) kLc16 rfl ⟨by decide, by decide⟩ (by omega) (by omega) e8 ?_
  refine fz_callV (d' := 5) (M' := mX10_needs) (As := [fz_i a1, fz_i a3, fz_i a5, fz_i a7]) (st := []) kLc16 rfl rfl vX10_needs rfl rfl rfl rfl (Nat.le_of_ble_eq_true rfl) (Nat.le_of_ble_eq_true rfl) (by decide) (sX10_needs h hI a1 a3 a5 a7 ) (fun H9 r10 q11 o12 => ?_)
  obtain ⟨hI13, hf14, y16, rfl, f15⟩ := q11
  clear o12
  have hf17 := fz_fr_tr hf hf14 (fz_su_all rfl)
  have hXd18 : fz_Xd H9 := fz_Xd_eq (funext fun s => hf14 80 s rfl) hXd
  have hXh19 : fz_Xh H9 := fz_Xh_eq (funext fun s => hf14 83 s rfl) hXh
  have hXw20 : fz_Xw H9 := fz_Xw_eq (hf14 53 19 rfl) (funext fun s => hf14 66 s rfl) (funext fun s => hf14 67 s rfl) (funext fun s => hf14 68 s rfl) (funext fun s => hf14 69 s rfl) hXw
  have hRS21 : fz_RS H9 := fz_RS_eq (funext fun s => hf14 48 s rfl) (funext fun s => hf14 49 s rfl) (funext fun s => hf14 50 s rfl) (funext fun s => hf14 51 s rfl) (funext fun s => hf14 83 s rfl) (funext fun s => hf14 84 s rfl) (hf14 44 2 rfl) hRS
  have hRP22 : fz_RP H9 := fz_RP_eq (funext fun s => hf14 52 s rfl) (funext fun s => hf14 85 s rfl) hRP
  have hRK23 : fz_RK H9 := fz_RK_eq (funext fun s => hf14 45 s rfl) (funext fun s => hf14 81 s rfl) hRK
  have hRR24 : fz_RR H9 := fz_RR_eq (hf14 44 3 rfl) (hf14 53 46 rfl) (funext fun s => hf14 46 s rfl) (funext fun s => hf14 82 s rfl) hRR
  have hRT25 : fz_RT H9 := fz_RT_eq (funext fun s => hf14 41 s rfl) (funext fun s => hf14 42 s rfl) (hf14 1 7 rfl) hRT
  have hRE26 : fz_RE H9 := fz_RE_eq (funext fun s => hf14 5 s rfl) (funext fun s => hf14 6 s rfl) (hf14 1 8 rfl) (hf14 1 7 rfl) hRE
  have hX27 : fz_Xc H9 := fz_Xc_fr hf14 rfl hX
  have t28 : H9 53 10 = h 53 10 := hf14 53 10 rfl
  have t29 : H9 53 41 = h 53 41 := hf14 53 41 rfl
  have t30 : H9 53 42 = h 53 42 := hf14 53 42 rfl
  have t31 : H9 9 5 = h 9 5 := hf14 9 5 rfl
  have t32 : H9 53 10 = h 53 10 := hf14 53 10 rfl
  have t33 : H9 44 2 = h 44 2 := hf14 44 2 rfl
  have t34 : H9 53 44 = h 53 44 := hf14 53 44 rfl
  have t35 : H9 20 2 = h 20 2 := hf14 20 2 rfl
  have t36 : H9 53 16 = h 53 16 := hf14 53 16 rfl
  have t37 : H9 1 7 = h 1 7 := hf14 1 7 rfl
  have t38 : H9 53 0 = h 53 0 := hf14 53 0 rfl
  have t39 : H9 1 8 = h 1 8 := hf14 1 8 rfl
  have t40 : H9 53 2 = h 53 2 := hf14 53 2 rfl
  refine fz_pop rfl kLc16 rfl ?_
  refine fz_aload_n kLc16 rfl rfl ?_
  refine fz_aload_n kLc16 rfl rfl ?_
  refine fz_iload_n kLc16 rfl rfl ?_
  refine fz_iconst ⟨by decide, by decide⟩ kLc16 rfl ?_
  refine fz_iaddN kLc16 rfl (by omega) ?_
  refine fz_taldV (v := a1) kLc16 rfl ⟨by decide, by decide⟩ (by omega) (by rw [hf17 200 _ rfl]; omega) ((hf17 200 _ rfl).trans e2) ?_
  refine fz_aload_n kLc16 rfl rfl ?_
  refine fz_iload_n kLc16 rfl rfl ?_
  refine fz_iconst ⟨by decide, by decide⟩ kLc16 rfl ?_
  refine fz_iaddN kLc16 rfl (by omega) ?_
  refine fz_taldV (v := a3) kLc16 rfl ⟨by decide, by decide⟩ (by omega) (by rw [hf17 200 _ rfl]; omega) ((hf17 200 _ rfl).trans e4) ?_
  refine fz_aload_n kLc16 rfl rfl ?_
  refine fz_iload_n kLc16 rfl rfl ?_
  refine fz_iconst ⟨by decide, by decide⟩ kLc16 rfl ?_
  refine fz_iaddN kLc16 rfl (by omega) ?_
  refine fz_taldV (v := a5) kLc16 rfl ⟨by decide, by decide⟩ (by omega) (by rw [hf17 200 _ rfl]; omega) ((hf17 200 _ rfl).trans e6) ?_
  refine fz_aload_n kLc16 rfl rfl ?_
  refine fz_iload_n kLc16 rfl rfl ?_
  refine fz_iconst ⟨by decide, by decide⟩ kLc16 rfl ?_
  refine fz_iaddN kLc16 rfl (by omega) ?_
  refine fz_taldV (v := a7) kLc16 rfl ⟨by decide, by decide⟩ (by omega) (by rw [hf17 200 _ rfl]; omega) ((hf17 200 _ rfl).trans e8) ?_
  have b41 : 0 ≤ H9 53 10 ∧ H9 53 10 ≤ 11 := hI13.1 53 _
  refine fz_callV (d' := 5) (M' := mX11_needs) (As := [fz_i a1, fz_i a3, fz_i a5, fz_i a7]) (st := []) kLc16 rfl rfl vX11_needs rfl rfl rfl rfl (Nat.le_of_ble_eq_true rfl) (Nat.le_of_ble_eq_true rfl) (by decide) (sX11_needs H9 hI13 a1 a3 a5 a7 hXw20 (by omega)) (fun H42 r43 q44 o45 => ?_)
  obtain ⟨hI46, hf47, hXw48, y51, rfl, f49, f50⟩ := q44
  clear o45
  have hf52 := fz_fr_tr hf17 hf47 (fz_su_all rfl)
  have hXd53 : fz_Xd H42 := fz_Xd_eq (funext fun s => hf47 80 s rfl) hXd18
  have hXh54 : fz_Xh H42 := fz_Xh_eq (funext fun s => hf47 83 s rfl) hXh19
  have hRS55 : fz_RS H42 := fz_RS_eq (funext fun s => hf47 48 s rfl) (funext fun s => hf47 49 s rfl) (funext fun s => hf47 50 s rfl) (funext fun s => hf47 51 s rfl) (funext fun s => hf47 83 s rfl) (funext fun s => hf47 84 s rfl) (hf47 44 2 rfl) hRS21
  have hRP56 : fz_RP H42 := fz_RP_eq (funext fun s => hf47 52 s rfl) (funext fun s => hf47 85 s rfl) hRP22
  have hRK57 : fz_RK H42 := fz_RK_eq (funext fun s => hf47 45 s rfl) (funext fun s => hf47 81 s rfl) hRK23
  have hRR58 : fz_RR H42 := fz_RR_eq (hf47 44 3 rfl) (hf47 53 46 rfl) (funext fun s => hf47 46 s rfl) (funext fun s => hf47 82 s rfl) hRR24
  have hRT59 : fz_RT H42 := fz_RT_eq (funext fun s => hf47 41 s rfl) (funext fun s => hf47 42 s rfl) (hf47 1 7 rfl) hRT25
  have hRE60 : fz_RE H42 := fz_RE_eq (funext fun s => hf47 5 s rfl) (funext fun s => hf47 6 s rfl) (hf47 1 8 rfl) (hf47 1 7 rfl) hRE26
  have hX61 : fz_Xc H42 := fz_Xc_fr hf47 rfl hX27
  have t62 : H42 53 41 = H9 53 41 := hf47 53 41 rfl
  have t63 : H42 53 42 = H9 53 42 := hf47 53 42 rfl
  have t64 : H42 9 5 = H9 9 5 := hf47 9 5 rfl
  have t65 : H42 44 2 = H9 44 2 := hf47 44 2 rfl
  have t66 : H42 53 44 = H9 53 44 := hf47 53 44 rfl
  have t67 : H42 20 2 = H9 20 2 := hf47 20 2 rfl
  have t68 : H42 53 16 = H9 53 16 := hf47 53 16 rfl
  have t69 : H42 1 7 = H9 1 7 := hf47 1 7 rfl
  have t70 : H42 53 0 = H9 53 0 := hf47 53 0 rfl
  have t71 : H42 1 8 = H9 1 8 := hf47 1 8 rfl
  have t72 : H42 53 2 = H9 53 2 := hf47 53 2 rfl
  refine fz_pop rfl kLc16 rfl ?_
  refine fz_goto (tgt := 1816) kLc16 rfl (by decide) ?_
  exact K H42 ⟨hI46, hX61, hXd53, hXh54, hXw48, by omega, by omega, by omega, by omega, by omega, by omega, by omega, hRS55, hRP56, hRK57, hRR58, hRT59, hRE60⟩ (funext fun s => hf52 200 s rfl)
def mLc17 : fz_M := (yL_law, code, 4, (some .boolean), [(835, .aload_n 1, 1, 0, 0, 0), (836, .aload_n 0, 1, 0, 0, 0), (837, .iload_n 3, 1, 0, 0, 0), (838, .iconst 1, 1, 0, 0, 0), (839, .iadd, 1, 0, 0, 0), (840, .iaload, 1, 0, 0, 0), (841, .aload_n 0, 1, 0, 0, 0), (842, .iload_n 3, 1, 0, 0, 0), (843, .iconst 2, 1, 0, 0, 0), (844, .iadd, 1, 0, 0, 0), (845, .iaload, 1, 0, 0, 0), (846, .aload_n 0, 1, 0, 0, 0), (847, .iload_n 3, 1, 0, 0, 0), (848, .iconst 3, 1, 0, 0, 0), (849, .iadd, 1, 0, 0, 0), (850, .iaload, 1, 0, 0, 0), (851, .aload_n 0, 1, 0, 0, 0), (852, .iload_n 3, 1, 0, 0, 0), (853, .iconst 4, 1, 0, 0, 0), (854, .iadd, 1, 0, 0, 0), (855, .iaload, 1, 0, 0, 0), (856, .invokevirtual 86, 3, 4056, 52, 0), (859, .pop, 1, 0, 0, 0), (860, .aload_n 2, 1, 0, 0, 0), (861, .aload_n 0, 1, 0, 0, 0), (862, .iload_n 3, 1, 0, 0, 0), (863, .iconst 1, 1, 0, 0, 0), (864, .iadd, 1, 0, 0, 0), (865, .iaload, 1, 0, 0, 0), (866, .aload_n 0, 1, 0, 0, 0), (867, .iload_n 3, 1, 0, 0, 0), (868, .iconst 2, 1, 0, 0, 0), (869, .iadd, 1, 0, 0, 0), (870, .iaload, 1, 0, 0, 0), (871, .aload_n 0, 1, 0, 0, 0), (872, .iload_n 3, 1, 0, 0, 0), (873, .iconst 3, 1, 0, 0, 0), (874, .iadd, 1, 0, 0, 0), (875, .iaload, 1, 0, 0, 0), (876, .aload_n 0, 1, 0, 0, 0), (877, .iload_n 3, 1, 0, 0, 0), (878, .iconst 4, 1, 0, 0, 0), (879, .iadd, 1, 0, 0, 0), (880, .iaload, 1, 0, 0, 0), (881, .invokevirtual 89, 3, 7041, 144, 0), (884, .pop, 1, 0, 0, 0), (885, .goto 931, 3, 0, 0, 0)])
set_option maxRecDepth 100000 in
theorem kLc17 : fz_okM mLc17 = true := by decide +kernel
set_option maxHeartbeats 1000000 in
set_option maxRecDepth 100000 in
theorem lc17 (h : fz_H) (hI : fz_Iv h) (hX : fz_Xc h) (hXd : fz_Xd h) (hXh : fz_Xh h) (hXw : fz_Xw h) (hv1 : h 53 10 ≤ 10) (hv2 : h 53 42 ≤ h 53 41) (hr0 : h 9 5 = h 53 10) (hr1 : h 44 2 = h 53 44) (hr2 : h 20 2 = h 53 16) (hr3 : h 1 7 = h 53 0) (hr4 : h 1 8 = h 53 2) (hRS : fz_RS h) (hRP : fz_RP h) (hRK : fz_RK h) (hRR : fz_RR h) (hRT : fz_RT h) (hRE : fz_RE h) (i : Int) (hi : 0 ≤ i ∧ i + 6 ≤ h 200 100000 ∧ h 200 100000 ≤ 3072) {Q : fz_H → Option fz_V → Prop} (K : ∀ H : fz_H, fz_Gd H → H 200 = h 200 → fz_R 47 mLe 1816 [(3, fz_i i), (0, fz_r 200), (1, fz_r 0), (2, fz_r 53)] [] H Q) : fz_R 47 mLc17 835 [(3, fz_i i), (0, fz_r 200), (1, fz_r 0), (2, fz_r 53)] [] h Q := by
  have hf : fz_fr fz_all h h := fz_fr_rf
  refine fz_aload_n kLc17 rfl rfl ?_
  refine fz_aload_n kLc17 rfl rfl ?_
  refine fz_iload_n kLc17 rfl rfl ?_
  refine fz_iconst ⟨by decide, by decide⟩ kLc17 rfl ?_
  refine fz_iaddN kLc17 rfl (by omega) ?_
  obtain ⟨a1, e2⟩ : ∃ z, h 200 ((i + 1)).toNat = z := ⟨_, rfl⟩
  refine fz_taldV (v := a1) kLc17 rfl ⟨by decide, by decide⟩ (by omega) (by omega) e2 ?_
  refine fz_aload_n kLc17 rfl rfl ?_
  refine fz_iload_n kLc17 rfl rfl ?_
  refine fz_iconst ⟨by decide, by decide⟩ kLc17 rfl ?_
  refine fz_iaddN kLc17 rfl (by omega) ?_
  obtain ⟨a3, e4⟩ : ∃ z, h 200 ((i + 2)).toNat = z := ⟨_, rfl⟩
  refine fz_taldV (v := a3) kLc17 rfl ⟨by decide, by decide⟩ (by omega) (by omega) e4 ?_
  refine fz_aload_n kLc17 rfl rfl ?_
  refine fz_iload_n kLc17 rfl rfl ?_
  refine fz_iconst ⟨by decide, by decide⟩ kLc17 rfl ?_
  refine fz_iaddN kLc17 rfl (by omega) ?_
  obtain ⟨a5, e6⟩ : ∃ z, h 200 ((i + 3)).toNat = z := ⟨_, rfl⟩
  refine fz_taldV (v := a5) kLc17 rfl ⟨by decide, by decide⟩ (by omega) (by omega) e6 ?_
  refine fz_aload_n kLc17 rfl rfl ?_
  refine fz_iload_n kLc17 rfl rfl ?_
  refine fz_iconst ⟨by decide, by decide⟩ kLc17 rfl ?_
  refine fz_iaddN kLc17 rfl (by omega) ?_
  obtain ⟨a7, e8⟩ : ∃ z, h 200 ((i + 4)).toNat = z := ⟨_, rfl⟩
  refine fz_taldV (v := a7) kLc17 rfl ⟨by decide, by decide⟩ (by omega) (by omega) e8 ?_
  refine fz_callV (d' := 5) (M' := mX10_latest) (As := [fz_i a1, fz_i a3, fz_i a5, fz_i a7]) (st := []) kLc17 rfl rfl vX10_latest rfl rfl rfl rfl (Nat.le_of_ble_eq_true rfl) (Nat.le_of_ble_eq_true rfl) (by decide) (sX10_latest h hI a1 a3 a5 a7 ) (fun H9 r10 q11 o12 => ?_)
  obtain ⟨hI13, hf14, y16, rfl, f15⟩ := q11
  clear o12
  have hf17 := fz_fr_tr hf hf14 (fz_su_all rfl)
  have hXd18 : fz_Xd H9 := fz_Xd_eq (funext fun s => hf14 80 s rfl) hXd
  have hXh19 : fz_Xh H9 := fz_Xh_eq (funext fun s => hf14 83 s rfl) hXh
  have hXw20 : fz_Xw H9 := fz_Xw_eq (hf14 53 19 rfl) (funext fun s => hf14 66 s rfl) (funext fun s => hf14 67 s rfl) (funext fun s => hf14 68 s rfl) (funext fun s => hf14 69 s rfl) hXw
  have hRS21 : fz_RS H9 := fz_RS_eq (funext fun s => hf14 48 s rfl) (funext fun s => hf14 49 s rfl) (funext fun s => hf14 50 s rfl) (funext fun s => hf14 51 s rfl) (funext fun s => hf14 83 s rfl) (funext fun s => hf14 84 s rfl) (hf14 44 2 rfl) hRS
  have hRP22 : fz_RP H9 := fz_RP_eq (funext fun s => hf14 52 s rfl) (funext fun s => hf14 85 s rfl) hRP
  have hRK23 : fz_RK H9 := fz_RK_eq (funext fun s => hf14 45 s rfl) (funext fun s => hf14 81 s rfl) hRK
  have hRR24 : fz_RR H9 := fz_RR_eq (hf14 44 3 rfl) (hf14 53 46 rfl) (funext fun s => hf14 46 s rfl) (funext fun s => hf14 82 s rfl) hRR
  have hRT25 : fz_RT H9 := fz_RT_eq (funext fun s => hf14 41 s rfl) (funext fun s => hf14 42 s rfl) (hf14 1 7 rfl) hRT
  have hRE26 : fz_RE H9 := fz_RE_eq (funext fun s => hf14 5 s rfl) (funext fun s => hf14 6 s rfl) (hf14 1 8 rfl) (hf14 1 7 rfl) hRE
  have hX27 : fz_Xc H9 := fz_Xc_fr hf14 rfl hX
  have t28 : H9 53 10 = h 53 10 := hf14 53 10 rfl
  have t29 : H9 53 41 = h 53 41 := hf14 53 41 rfl
  have t30 : H9 53 42 = h 53 42 := hf14 53 42 rfl
  have t31 : H9 9 5 = h 9 5 := hf14 9 5 rfl
  have t32 : H9 53 10 = h 53 10 := hf14 53 10 rfl
  have t33 : H9 44 2 = h 44 2 := hf14 44 2 rfl
  have t34 : H9 53 44 = h 53 44 := hf14 53 44 rfl
  have t35 : H9 20 2 = h 20 2 := hf14 20 2 rfl
  have t36 : H9 53 16 = h 53 16 := hf14 53 16 rfl
  have t37 : H9 1 7 = h 1 7 := hf14 1 7 rfl
  have t38 : H9 53 0 = h 53 0 := hf14 53 0 rfl
  have t39 : H9 1 8 = h 1 8 := hf14 1 8 rfl
  have t40 : H9 53 2 = h 53 2 := hf14 53 2 rfl
  refine fz_pop rfl kLc17 rfl ?_
  refine fz_aload_n kLc17 rfl rfl ?_
  refine fz_aload_n kLc17 rfl rfl ?_
  refine fz_iload_n kLc17 rfl rfl ?_
  refine fz_iconst ⟨by decide, by decide⟩ kLc17 rfl ?_
  refine fz_iaddN kLc17 rfl (by omega) ?_
  refine fz_taldV (v := a1) kLc17 rfl ⟨by decide, by decide⟩ (by omega) (by rw [hf17 200 _ rfl]; omega) ((hf17 200 _ rfl).trans e2) ?_
  refine fz_aload_n kLc17 rfl rfl ?_
  refine fz_iload_n kLc17 rfl rfl ?_
  refine fz_iconst ⟨by decide, by decide⟩ kLc17 rfl ?_
  refine fz_iaddN kLc17 rfl (by omega) ?_
  refine fz_taldV (v := a3) kLc17 rfl ⟨by decide, by decide⟩ (by omega) (by rw [hf17 200 _ rfl]; omega) ((hf17 200 _ rfl).trans e4) ?_
  refine fz_aload_n kLc17 rfl rfl ?_
  refine fz_iload_n kLc17 rfl rfl ?_
  refine fz_iconst ⟨by decide, by decide⟩ kLc17 rfl ?_
  refine fz_iaddN kLc17 rfl (by omega) ?_
  refine fz_taldV (v := a5) kLc17 rfl ⟨by decide, by decide⟩ (by omega) (by rw [hf17 200 _ rfl]; omega) ((hf17 200 _ rfl).trans e6) ?_
  refine fz_aload_n kLc17 rfl rfl ?_
  refine fz_iload_n kLc17 rfl rfl ?_
  refine fz_iconst ⟨by decide, by decide⟩ kLc17 rfl ?_
  refine fz_iaddN kLc17 rfl (by omega) ?_
  refine fz_taldV (v := a7) kLc17 rfl ⟨by decide, by decide⟩ (by omega) (by rw [hf17 200 _ rfl]; omega) ((hf17 200 _ rfl).trans e8) ?_
  have b41 : 0 ≤ H9 53 10 ∧ H9 53 10 ≤ 11 := hI13.1 53 _
  refine fz_callV (d' := 5) (M' := mX11_latest) (As := [fz_i a1, fz_i a3, fz_i a5, fz_i a7]) (st := []) kLc17 rfl rfl vX11_latest rfl rfl rfl rfl (Nat.le_of_ble_eq_true rfl) (Nat.le_of_ble_eq_true rfl) (by decide) (sX11_latest H9 hI13 a1 a3 a5 a7 hXw20 (by omega)) (fun H42 r43 q44 o45 => ?_)
  obtain ⟨hI46, hf47, hXw48, y51, rfl, f49, f50⟩ := q44
  clear o45
  have hf52 := fz_fr_tr hf17 hf47 (fz_su_all rfl)
  have hXd53 : fz_Xd H42 := fz_Xd_eq (funext fun s => hf47 80 s rfl) hXd18
  have hXh54 : fz_Xh H42 := fz_Xh_eq (funext fun s => hf47 83 s rfl) hXh19
  have hRS55 : fz_RS H42 := fz_RS_eq (funext fun s => hf47 48 s rfl) (funext fun s => hf47 49 s rfl) (funext fun s => hf47 50 s rfl) (funext fun s => hf47 51 s rfl) (funext fun s => hf47 83 s rfl) (funext fun s => hf47 84 s rfl) (hf47 44 2 rfl) hRS21
  have hRP56 : fz_RP H42 := fz_RP_eq (funext fun s => hf47 52 s rfl) (funext fun s => hf47 85 s rfl) hRP22
  have hRK57 : fz_RK H42 := fz_RK_eq (funext fun s => hf47 45 s rfl) (funext fun s => hf47 81 s rfl) hRK23
  have hRR58 : fz_RR H42 := fz_RR_eq (hf47 44 3 rfl) (hf47 53 46 rfl) (funext fun s => hf47 46 s rfl) (funext fun s => hf47 82 s rfl) hRR24
  have hRT59 : fz_RT H42 := fz_RT_eq (funext fun s => hf47 41 s rfl) (funext fun s => hf47 42 s rfl) (hf47 1 7 rfl) hRT25
  have hRE60 : fz_RE H42 := fz_RE_eq (funext fun s => hf47 5 s rfl) (funext fun s => hf47 6 s rfl) (hf47 1 8 rfl) (hf47 1 7 rfl) hRE26
  have hX61 : fz_Xc H42 := fz_Xc_fr hf47 rfl hX27
  have t62 : H42 53 41 = H9 53 41 := hf47 53 41 rfl
  have t63 : H42 53 42 = H9 53 42 := hf47 53 42 rfl
  have t64 : H42 9 5 = H9 9 5 := hf47 9 5 rfl
  have t65 : H42 44 2 = H9 44 2 := hf47 44 2 rfl
  have t66 : H42 53 44 = H9 53 44 := hf47 53 44 rfl
  have t67 : H42 20 2 = H9 20 2 := hf47 20 2 rfl
  have t68 : H42 53 16 = H9 53 16 := hf47 53 16 rfl
  have t69 : H42 1 7 = H9 1 7 := hf47 1 7 rfl
  have t70 : H42 53 0 = H9 53 0 := hf47 53 0 rfl
  have t71 : H42 1 8 = H9 1 8 := hf47 1 8 rfl
  have t72 : H42 53 2 = H9 53 2 := hf47 53 2 rfl
  refine fz_pop rfl kLc17 rfl ?_
  refine fz_goto (tgt := 1816) kLc17 rfl (by decide) ?_
  exact K H42 ⟨hI46, hX61, hXd53, hXh54, hXw48, by omega, by omega, by omega, by omega, by omega, by omega, by omega, hRS55, hRP56, hRK57, hRR58, hRT59, hRE60⟩ (funext fun s => hf52 200 s rfl)
def mLc18 : fz_M := (yL_law, code, 4, (some .boolean), [(888, .aload_n 1, 1, 0, 0, 0), (889, .aload_n 0, 1, 0, 0, 0), (890, .iload_n 3, 1, 0, 0, 0), (891, .iconst 1, 1, 0, 0, 0), (892, .iadd, 1, 0, 0, 0), (893, .iaload, 1, 0, 0, 0), (894, .aload_n 0, 1, 0, 0, 0), (895, .iload_n 3, 1, 0, 0, 0), (896, .iconst 2, 1, 0, 0, 0), (897, .iadd, 1, 0, 0, 0), (898, .iaload, 1, 0, 0, 0), (899, .aload_n 0, 1, 0, 0, 0), (900, .iload_n 3, 1, 0, 0, 0), (901, .iconst 3, 1, 0, 0, 0), (902, .iadd, 1, 0, 0, 0), (903, .iaload, 1, 0, 0, 0), (904, .invokevirtual 90, 3, 4060, 24, 0), (907, .pop, 1, 0, 0, 0), (908, .aload_n 2, 1, 0, 0, 0), (909, .aload_n 0, 1, 0, 0, 0), (910, .iload_n 3, 1, 0, 0, 0), (911, .iconst 1, 1, 0, 0, 0), (912, .iadd, 1, 0, 0, 0), (913, .iaload, 1, 0, 0, 0), (914, .aload_n 0, 1, 0, 0, 0), (915, .iload_n 3, 1, 0, 0, 0), (916, .iconst 2, 1, 0, 0, 0), (917, .iadd, 1, 0, 0, 0), (918, .iaload, 1, 0, 0, 0), (919, .aload_n 0, 1, 0, 0, 0), (920, .iload_n 3, 1, 0, 0, 0), (921, .iconst 3, 1, 0, 0, 0), (922, .iadd, 1, 0, 0, 0), (923, .iaload, 1, 0, 0, 0), (924, .invokevirtual 93, 3, 7045, 92, 0), (927, .pop, 1, 0, 0, 0), (928, .goto 888, 3, 0, 0, 0)])
set_option maxRecDepth 100000 in
theorem kLc18 : fz_okM mLc18 = true := by decide +kernel
set_option maxHeartbeats 1000000 in
set_option maxRecDepth 100000 in
theorem lc18 (h : fz_H) (hI : fz_Iv h) (hX : fz_Xc h) (hXd : fz_Xd h) (hXh : fz_Xh h) (hXw : fz_Xw h) (hv1 : h 53 10 ≤ 10) (hv2 : h 53 42 ≤ h 53 41) (hr0 : h 9 5 = h 53 10) (hr1 : h 44 2 = h 53 44) (hr2 : h 20 2 = h 53 16) (hr3 : h 1 7 = h 53 0) (hr4 : h 1 8 = h 53 2) (hRS : fz_RS h) (hRP : fz_RP h) (hRK : fz_RK h) (hRR : fz_RR h) (hRT : fz_RT h) (hRE : fz_RE h) (i : Int) (hi : 0 ≤ i ∧ i + 6 ≤ h 200 100000 ∧ h 200 100000 ≤ 3072) {Q : fz_H → Option fz_V → Prop} (K : ∀ H : fz_H, fz_Gd H → H 200 = h 200 → fz_R 47 mLe 1816 [(3, fz_i i), (0, fz_r 200), (1, fz_r 0), (2, fz_r 53)] [] H Q) : fz_R 47 mLc18 888 [(3, fz_i i), (0, fz_r 200), (1, fz_r 0), (2, fz_r 53)] [] h Q := by
  have hf : fz_fr fz_all h h := fz_fr_rf
  refine fz_aload_n kLc18 rfl rfl ?_
  refine fz_aload_n kLc18 rfl rfl ?_
  refine fz_iload_n kLc18 rfl rfl ?_
  refine fz_iconst ⟨by decide, by decide⟩ kLc18 rfl ?_
  refine fz_iaddN kLc18 rfl (by omega) ?_
  obtain ⟨a1, e2⟩ : ∃ z, h 200 ((i + 1)).toNat = z := ⟨_, rfl⟩
  refine fz_taldV (v := a1) kLc18 rfl ⟨by decide, by decide⟩ (by omega) (by omega) e2 ?_
  refine fz_aload_n kLc18 rfl rfl ?_
  refine fz_iload_n kLc18 rfl rfl ?_
  refine fz_iconst ⟨by decide, by decide⟩ kLc18 rfl ?_
  refine fz_iaddN kLc18 rfl (by omega) ?_
  obtain ⟨a3, e4⟩ : ∃ z, h 200 ((i + 2)).toNat = z := ⟨_, rfl⟩
  refine fz_taldV (v := a3) kLc18 rfl ⟨by decide, by decide⟩ (by omega) (by omega) e4 ?_
  refine fz_aload_n kLc18 rfl rfl ?_
  refine fz_iload_n kLc18 rfl rfl ?_
  refine fz_iconst ⟨by decide, by decide⟩ kLc18 rfl ?_
  refine fz_iaddN kLc18 rfl (by omega) ?_
  obtain ⟨a5, e6⟩ : ∃ z, h 200 ((i + 3)).toNat = z := ⟨_, rfl⟩
  refine fz_taldV (v := a5) kLc18 rfl ⟨by decide, by decide⟩ (by omega) (by omega) e6 ?_
  refine fz_callV (d' := 1) (M' := mX10_cut) (As := [fz_i a1, fz_i a3, fz_i a5]) (st := []) kLc18 rfl rfl vX10_cut rfl rfl rfl rfl (Nat.le_of_ble_eq_true rfl) (Nat.le_of_ble_eq_true rfl) (by decide) (sX10_cut h hI a1 a3 a5 ) (fun H7 r8 q9 o10 => ?_)
  obtain ⟨e11, y13, rfl, f12⟩ := q9
  subst H7
  clear o10
  refine fz_pop rfl kLc18 rfl ?_
  refine fz_aload_n kLc18 rfl rfl ?_
  refine fz_aload_n kLc18 rfl rfl ?_
  refine fz_iload_n kLc18 rfl rfl ?_
  refine fz_iconst ⟨by decide, by decide⟩ kLc18 rfl ?_
  refine fz_iaddN kLc18 rfl (by omega) ?_
  refine fz_taldV (v := a1) kLc18 rfl ⟨by decide, by decide⟩ (by omega) (by omega) e2 ?_
  refine fz_aload_n kLc18 rfl rfl ?_
  refine fz_iload_n kLc18 rfl rfl ?_
  refine fz_iconst ⟨by decide, by decide⟩ kLc18 rfl ?_
  refine fz_iaddN kLc18 rfl (by omega) ?_
  refine fz_taldV (v := a3) kLc18 rfl ⟨by decide, by decide⟩ (by omega) (by omega) e4 ?_
  refine fz_aload_n kLc18 rfl rfl ?_
  refine fz_iload_n kLc18 rfl rfl ?_
  refine fz_iconst ⟨by decide, by decide⟩ kLc18 rfl ?_
  refine fz_iaddN kLc18 rfl (by omega) ?_
  refine fz_taldV (v := a5) kLc18 rfl ⟨by decide, by decide⟩ (by omega) (by omega) e6 ?_
  refine fz_callV (d' := 3) (M' := mX11_cut) (As := [fz_i a1, fz_i a3, fz_i a5]) (st := []) kLc18 rfl rfl vX11_cut rfl rfl rfl rfl (Nat.le_of_ble_eq_true rfl) (Nat.le_of_ble_eq_true rfl) (by decide) (sX11_cut h hI a1 a3 a5 ) (fun H14 r15 q16 o17 => ?_)
  obtain ⟨hI18, hf19, y21, rfl, f20⟩ := q16
  clear o17
  have hf22 := fz_fr_tr hf hf19 (fz_su_all rfl)
  have hXd23 : fz_Xd H14 := fz_Xd_eq (funext fun s => hf19 80 s rfl) hXd
  have hXh24 : fz_Xh H14 := fz_Xh_eq (funext fun s => hf19 83 s rfl) hXh
  have hXw25 : fz_Xw H14 := fz_Xw_eq (hf19 53 19 rfl) (funext fun s => hf19 66 s rfl) (funext fun s => hf19 67 s rfl) (funext fun s => hf19 68 s rfl) (funext fun s => hf19 69 s rfl) hXw
  have hRS26 : fz_RS H14 := fz_RS_eq (funext fun s => hf19 48 s rfl) (funext fun s => hf19 49 s rfl) (funext fun s => hf19 50 s rfl) (funext fun s => hf19 51 s rfl) (funext fun s => hf19 83 s rfl) (funext fun s => hf19 84 s rfl) (hf19 44 2 rfl) hRS
  have hRP27 : fz_RP H14 := fz_RP_eq (funext fun s => hf19 52 s rfl) (funext fun s => hf19 85 s rfl) hRP
  have hRK28 : fz_RK H14 := fz_RK_eq (funext fun s => hf19 45 s rfl) (funext fun s => hf19 81 s rfl) hRK
  have hRR29 : fz_RR H14 := fz_RR_eq (hf19 44 3 rfl) (hf19 53 46 rfl) (funext fun s => hf19 46 s rfl) (funext fun s => hf19 82 s rfl) hRR
  have hRT30 : fz_RT H14 := fz_RT_eq (funext fun s => hf19 41 s rfl) (funext fun s => hf19 42 s rfl) (hf19 1 7 rfl) hRT
  have hRE31 : fz_RE H14 := fz_RE_eq (funext fun s => hf19 5 s rfl) (funext fun s => hf19 6 s rfl) (hf19 1 8 rfl) (hf19 1 7 rfl) hRE
  have hX32 : fz_Xc H14 := fz_Xc_fr hf19 rfl hX
  have t33 : H14 53 10 = h 53 10 := hf19 53 10 rfl
  have t34 : H14 53 41 = h 53 41 := hf19 53 41 rfl
  have t35 : H14 53 42 = h 53 42 := hf19 53 42 rfl
  have t36 : H14 9 5 = h 9 5 := hf19 9 5 rfl
  have t37 : H14 53 10 = h 53 10 := hf19 53 10 rfl
  have t38 : H14 44 2 = h 44 2 := hf19 44 2 rfl
  have t39 : H14 53 44 = h 53 44 := hf19 53 44 rfl
  have t40 : H14 20 2 = h 20 2 := hf19 20 2 rfl
  have t41 : H14 53 16 = h 53 16 := hf19 53 16 rfl
  have t42 : H14 1 7 = h 1 7 := hf19 1 7 rfl
  have t43 : H14 53 0 = h 53 0 := hf19 53 0 rfl
  have t44 : H14 1 8 = h 1 8 := hf19 1 8 rfl
  have t45 : H14 53 2 = h 53 2 := hf19 53 2 rfl
  refine fz_pop rfl kLc18 rfl ?_
  refine fz_goto (tgt := 1816) kLc18 rfl (by decide) ?_
  exact K H14 ⟨hI18, hX32, hXd23, hXh24, hXw25, by omega, by omega, by omega, by omega, by omega, by omega, by omega, hRS26, hRP27, hRK28, hRR29, hRT30, hRE31⟩ (funext fun s => hf22 200 s rfl)
def mLc19 : fz_M := (yL_law, code, 4, (some .boolean), [(931, .aload_n 1, 1, 0, 0, 0), (932, .aload_n 0, 1, 0, 0, 0), (933, .iload_n 3, 1, 0, 0, 0), (934, .iconst 1, 1, 0, 0, 0), (935, .iadd, 1, 0, 0, 0), (936, .iaload, 1, 0, 0, 0), (937, .aload_n 0, 1, 0, 0, 0), (938, .iload_n 3, 1, 0, 0, 0), (939, .iconst 2, 1, 0, 0, 0), (940, .iadd, 1, 0, 0, 0), (941, .iaload, 1, 0, 0, 0), (942, .aload_n 0, 1, 0, 0, 0), (943, .iload_n 3, 1, 0, 0, 0), (944, .iconst 3, 1, 0, 0, 0), (945, .iadd, 1, 0, 0, 0), (946, .iaload, 1, 0, 0, 0), (947, .invokevirtual 94, 3, 4074, 35, 0), (950, .pop, 1, 0, 0, 0), (951, .aload_n 2, 1, 0, 0, 0), (952, .aload_n 0, 1, 0, 0, 0), (953, .iload_n 3, 1, 0, 0, 0), (954, .iconst 1, 1, 0, 0, 0), (955, .iadd, 1, 0, 0, 0), (956, .iaload, 1, 0, 0, 0), (957, .aload_n 0, 1, 0, 0, 0), (958, .iload_n 3, 1, 0, 0, 0), (959, .iconst 2, 1, 0, 0, 0), (960, .iadd, 1, 0, 0, 0), (961, .iaload, 1, 0, 0, 0), (962, .aload_n 0, 1, 0, 0, 0), (963, .iload_n 3, 1, 0, 0, 0), (964, .iconst 3, 1, 0, 0, 0), (965, .iadd, 1, 0, 0, 0), (966, .iaload, 1, 0, 0, 0), (967, .invokevirtual 97, 3, 7050, 104, 0), (970, .pop, 1, 0, 0, 0), (971, .goto 845, 3, 0, 0, 0)])
set_option maxRecDepth 100000 in
theorem kLc19 : fz_okM mLc19 = true := by decide +kernel
set_option maxHeartbeats 1000000 in
set_option maxRecDepth 100000 in
theorem lc19 (h : fz_H) (hI : fz_Iv h) (hX : fz_Xc h) (hXd : fz_Xd h) (hXh : fz_Xh h) (hXw : fz_Xw h) (hv1 : h 53 10 ≤ 10) (hv2 : h 53 42 ≤ h 53 41) (hr0 : h 9 5 = h 53 10) (hr1 : h 44 2 = h 53 44) (hr2 : h 20 2 = h 53 16) (hr3 : h 1 7 = h 53 0) (hr4 : h 1 8 = h 53 2) (hRS : fz_RS h) (hRP : fz_RP h) (hRK : fz_RK h) (hRR : fz_RR h) (hRT : fz_RT h) (hRE : fz_RE h) (i : Int) (hi : 0 ≤ i ∧ i + 6 ≤ h 200 100000 ∧ h 200 100000 ≤ 3072) {Q : fz_H → Option fz_V → Prop} (K : ∀ H : fz_H, fz_Gd H → H 200 = h 200 → fz_R 47 mLe 1816 [(3, fz_i i), (0, fz_r 200), (1, fz_r 0), (2, fz_r 53)] [] H Q) : fz_R 47 mLc19 931 [(3, fz_i i), (0, fz_r 200), (1, fz_r 0), (2, fz_r 53)] [] h Q := by
  have hf : fz_fr fz_all h h := fz_fr_rf
  refine fz_aload_n kLc19 rfl rfl ?_
  refine fz_aload_n kLc19 rfl rfl ?_
  refine fz_iload_n kLc19 rfl rfl ?_
  refine fz_iconst ⟨by decide, by decide⟩ kLc19 rfl ?_
  refine fz_iaddN kLc19 rfl (by omega) ?_
  obtain ⟨a1, e2⟩ : ∃ z, h 200 ((i + 1)).toNat = z := ⟨_, rfl⟩
  refine fz_taldV (v := a1) kLc19 rfl ⟨by decide, by decide⟩ (by omega) (by omega) e2 ?_
  refine fz_aload_n kLc19 rfl rfl ?_
  refine fz_iload_n kLc19 rfl rfl ?_
  refine fz_iconst ⟨by decide, by decide⟩ kLc19 rfl ?_
  refine fz_iaddN kLc19 rfl (by omega) ?_
  obtain ⟨a3, e4⟩ : ∃ z, h 200 ((i + 2)).toNat = z := ⟨_, rfl⟩
  refine fz_taldV (v := a3) kLc19 rfl ⟨by decide, by decide⟩ (by omega) (by omega) e4 ?_
  refine fz_aload_n kLc19 rfl rfl ?_
  refine fz_iload_n kLc19 rfl rfl ?_
  refine fz_iconst ⟨by decide, by decide⟩ kLc19 rfl ?_
  refine fz_iaddN kLc19 rfl (by omega) ?_
  obtain ⟨a5, e6⟩ : ∃ z, h 200 ((i + 3)).toNat = z := ⟨_, rfl⟩
  refine fz_taldV (v := a5) kLc19 rfl ⟨by decide, by decide⟩ (by omega) (by omega) e6 ?_
  refine fz_callV (d' := 5) (M' := mX10_free) (As := [fz_i a1, fz_i a3, fz_i a5]) (st := []) kLc19 rfl rfl vX10_free rfl rfl rfl rfl (Nat.le_of_ble_eq_true rfl) (Nat.le_of_ble_eq_true rfl) (by decide) (sX10_free h hI a1 a3 a5 ) (fun H7 r8 q9 o10 => ?_)
  obtain ⟨hI11, hf12, y14, rfl, f13⟩ := q9
  clear o10
  have hf15 := fz_fr_tr hf hf12 (fz_su_all rfl)
  have hXd16 : fz_Xd H7 := fz_Xd_eq (funext fun s => hf12 80 s rfl) hXd
  have hXh17 : fz_Xh H7 := fz_Xh_eq (funext fun s => hf12 83 s rfl) hXh
  have hXw18 : fz_Xw H7 := fz_Xw_eq (hf12 53 19 rfl) (funext fun s => hf12 66 s rfl) (funext fun s => hf12 67 s rfl) (funext fun s => hf12 68 s rfl) (funext fun s => hf12 69 s rfl) hXw
  have hRS19 : fz_RS H7 := fz_RS_eq (funext fun s => hf12 48 s rfl) (funext fun s => hf12 49 s rfl) (funext fun s => hf12 50 s rfl) (funext fun s => hf12 51 s rfl) (funext fun s => hf12 83 s rfl) (funext fun s => hf12 84 s rfl) (hf12 44 2 rfl) hRS
  have hRP20 : fz_RP H7 := fz_RP_eq (funext fun s => hf12 52 s rfl) (funext fun s => hf12 85 s rfl) hRP
  have hRK21 : fz_RK H7 := fz_RK_eq (funext fun s => hf12 45 s rfl) (funext fun s => hf12 81 s rfl) hRK
  have hRR22 : fz_RR H7 := fz_RR_eq (hf12 44 3 rfl) (hf12 53 46 rfl) (funext fun s => hf12 46 s rfl) (funext fun s => hf12 82 s rfl) hRR
  have hRT23 : fz_RT H7 := fz_RT_eq (funext fun s => hf12 41 s rfl) (funext fun s => hf12 42 s rfl) (hf12 1 7 rfl) hRT
  have hRE24 : fz_RE H7 := fz_RE_eq (funext fun s => hf12 5 s rfl) (funext fun s => hf12 6 s rfl) (hf12 1 8 rfl) (hf12 1 7 rfl) hRE
  have hX25 : fz_Xc H7 := fz_Xc_fr hf12 rfl hX
  have t26 : H7 53 10 = h 53 10 := hf12 53 10 rfl
  have t27 : H7 53 41 = h 53 41 := hf12 53 41 rfl
  have t28 : H7 53 42 = h 53 42 := hf12 53 42 rfl
  have t29 : H7 9 5 = h 9 5 := hf12 9 5 rfl
  have t30 : H7 53 10 = h 53 10 := hf12 53 10 rfl
  have t31 : H7 44 2 = h 44 2 := hf12 44 2 rfl
  have t32 : H7 53 44 = h 53 44 := hf12 53 44 rfl
  have t33 : H7 20 2 = h 20 2 := hf12 20 2 rfl
  have t34 : H7 53 16 = h 53 16 := hf12 53 16 rfl
  have t35 : H7 1 7 = h 1 7 := hf12 1 7 rfl
  have t36 : H7 53 0 = h 53 0 := hf12 53 0 rfl
  have t37 : H7 1 8 = h 1 8 := hf12 1 8 rfl
  have t38 : H7 53 2 = h 53 2 := hf12 53 2 rfl
  refine fz_pop rfl kLc19 rfl ?_
  refine fz_aload_n kLc19 rfl rfl ?_
  refine fz_aload_n kLc19 rfl rfl ?_
  refine fz_iload_n kLc19 rfl rfl ?_
  refine fz_iconst ⟨by decide, by decide⟩ kLc19 rfl ?_
  refine fz_iaddN kLc19 rfl (by omega) ?_
  refine fz_taldV (v := a1) kLc19 rfl ⟨by decide, by decide⟩ (by omega) (by rw [hf15 200 _ rfl]; omega) ((hf15 200 _ rfl).trans e2) ?_
  refine fz_aload_n kLc19 rfl rfl ?_
  refine fz_iload_n kLc19 rfl rfl ?_
  refine fz_iconst ⟨by decide, by decide⟩ kLc19 rfl ?_
  refine fz_iaddN kLc19 rfl (by omega) ?_
  refine fz_taldV (v := a3) kLc19 rfl ⟨by decide, by decide⟩ (by omega) (by rw [hf15 200 _ rfl]; omega) ((hf15 200 _ rfl).trans e4) ?_
  refine fz_aload_n kLc19 rfl rfl ?_
  refine fz_iload_n kLc19 rfl rfl ?_
  refine fz_iconst ⟨by decide, by decide⟩ kLc19 rfl ?_
  refine fz_iaddN kLc19 rfl (by omega) ?_
  refine fz_taldV (v := a5) kLc19 rfl ⟨by decide, by decide⟩ (by omega) (by rw [hf15 200 _ rfl]; omega) ((hf15 200 _ rfl).trans e6) ?_
  refine fz_callV (d' := 6) (M' := mX11_free) (As := [fz_i a1, fz_i a3, fz_i a5]) (st := []) kLc19 rfl rfl vX11_free rfl rfl rfl rfl (Nat.le_of_ble_eq_true rfl) (Nat.le_of_ble_eq_true rfl) (by decide) (sX11_free H7 hI11 a1 a3 a5 hXw18) (fun H39 r40 q41 o42 => ?_)
  obtain ⟨hI43, hf44, hXw45, y47, rfl, f46⟩ := q41
  clear o42
  have hf48 := fz_fr_tr hf15 hf44 (fz_su_all rfl)
  have hXd49 : fz_Xd H39 := fz_Xd_eq (funext fun s => hf44 80 s rfl) hXd16
  have hXh50 : fz_Xh H39 := fz_Xh_eq (funext fun s => hf44 83 s rfl) hXh17
  have hRS51 : fz_RS H39 := fz_RS_eq (funext fun s => hf44 48 s rfl) (funext fun s => hf44 49 s rfl) (funext fun s => hf44 50 s rfl) (funext fun s => hf44 51 s rfl) (funext fun s => hf44 83 s rfl) (funext fun s => hf44 84 s rfl) (hf44 44 2 rfl) hRS19
  have hRP52 : fz_RP H39 := fz_RP_eq (funext fun s => hf44 52 s rfl) (funext fun s => hf44 85 s rfl) hRP20
  have hRK53 : fz_RK H39 := fz_RK_eq (funext fun s => hf44 45 s rfl) (funext fun s => hf44 81 s rfl) hRK21
  have hRR54 : fz_RR H39 := fz_RR_eq (hf44 44 3 rfl) (hf44 53 46 rfl) (funext fun s => hf44 46 s rfl) (funext fun s => hf44 82 s rfl) hRR22
  have hRT55 : fz_RT H39 := fz_RT_eq (funext fun s => hf44 41 s rfl) (funext fun s => hf44 42 s rfl) (hf44 1 7 rfl) hRT23
  have hRE56 : fz_RE H39 := fz_RE_eq (funext fun s => hf44 5 s rfl) (funext fun s => hf44 6 s rfl) (hf44 1 8 rfl) (hf44 1 7 rfl) hRE24
  have hX57 : fz_Xc H39 := fz_Xc_fr hf44 rfl hX25
  have t58 : H39 53 10 = H7 53 10 := hf44 53 10 rfl
  have t59 : H39 53 41 = H7 53 41 := hf44 53 41 rfl
  have t60 : H39 53 42 = H7 53 42 := hf44 53 42 rfl
  have t61 : H39 9 5 = H7 9 5 := hf44 9 5 rfl
  have t62 : H39 53 10 = H7 53 10 := hf44 53 10 rfl
  have t63 : H39 44 2 = H7 44 2 := hf44 44 2 rfl
  have t64 : H39 53 44 = H7 53 44 := hf44 53 44 rfl
  have t65 : H39 20 2 = H7 20 2 := hf44 20 2 rfl
  have t66 : H39 53 16 = H7 53 16 := hf44 53 16 rfl
  have t67 : H39 1 7 = H7 1 7 := hf44 1 7 rfl
  have t68 : H39 53 0 = H7 53 0 := hf44 53 0 rfl
  have t69 : H39 1 8 = H7 1 8 := hf44 1 8 rfl
  have t70 : H39 53 2 = H7 53 2 := hf44 53 2 rfl
  refine fz_pop rfl kLc19 rfl ?_
  refine fz_goto (tgt := 1816) kLc19 rfl (by decide) ?_
  exact K H39 ⟨hI43, hX57, hXd49, hXh50, hXw45, by omega, by omega, by omega, by omega, by omega, by omega, by omega, hRS51, hRP52, hRK53, hRR54, hRT55, hRE56⟩ (funext fun s => hf48 200 s rfl)
def mLc20 : fz_M := (yL_law, code, 4, (some .boolean), [(974, .aload_n 1, 1, 0, 0, 0), (975, .aload_n 0, 1, 0, 0, 0), (976, .iload_n 3, 1, 0, 0, 0), (977, .iconst 1, 1, 0, 0, 0), (978, .iadd, 1, 0, 0, 0), (979, .iaload, 1, 0, 0, 0), (980, .aload_n 0, 1, 0, 0, 0), (981, .iload_n 3, 1, 0, 0, 0), (982, .iconst 2, 1, 0, 0, 0), (983, .iadd, 1, 0, 0, 0), (984, .iaload, 1, 0, 0, 0), (985, .aload_n 0, 1, 0, 0, 0), (986, .iload_n 3, 1, 0, 0, 0), (987, .iconst 3, 1, 0, 0, 0), (988, .iadd, 1, 0, 0, 0), (989, .iaload, 1, 0, 0, 0), (990, .invokevirtual 98, 3, 4083, 14, 0), (993, .pop, 1, 0, 0, 0), (994, .aload_n 2, 1, 0, 0, 0), (995, .aload_n 0, 1, 0, 0, 0), (996, .iload_n 3, 1, 0, 0, 0), (997, .iconst 1, 1, 0, 0, 0), (998, .iadd, 1, 0, 0, 0), (999, .iaload, 1, 0, 0, 0), (1000, .aload_n 0, 1, 0, 0, 0), (1001, .iload_n 3, 1, 0, 0, 0), (1002, .iconst 2, 1, 0, 0, 0), (1003, .iadd, 1, 0, 0, 0), (1004, .iaload, 1, 0, 0, 0), (1005, .aload_n 0, 1, 0, 0, 0), (1006, .iload_n 3, 1, 0, 0, 0), (1007, .iconst 3, 1, 0, 0, 0), (1008, .iadd, 1, 0, 0, 0), (1009, .iaload, 1, 0, 0, 0), (1010, .invokevirtual 101, 3, 7066, 82, 0), (1013, .pop, 1, 0, 0, 0), (1014, .goto 802, 3, 0, 0, 0)])
set_option maxRecDepth 100000 in
theorem kLc20 : fz_okM mLc20 = true := by decide +kernel
set_option maxHeartbeats 1000000 in
set_option maxRecDepth 100000 in
theorem lc20 (h : fz_H) (hI : fz_Iv h) (hX : fz_Xc h) (hXd : fz_Xd h) (hXh : fz_Xh h) (hXw : fz_Xw h) (hv1 : h 53 10 ≤ 10) (hv2 : h 53 42 ≤ h 53 41) (hr0 : h 9 5 = h 53 10) (hr1 : h 44 2 = h 53 44) (hr2 : h 20 2 = h 53 16) (hr3 : h 1 7 = h 53 0) (hr4 : h 1 8 = h 53 2) (hRS : fz_RS h) (hRP : fz_RP h) (hRK : fz_RK h) (hRR : fz_RR h) (hRT : fz_RT h) (hRE : fz_RE h) (i : Int) (hi : 0 ≤ i ∧ i + 6 ≤ h 200 100000 ∧ h 200 100000 ≤ 3072) {Q : fz_H → Option fz_V → Prop} (K : ∀ H : fz_H, fz_Gd H → H 200 = h 200 → fz_R 47 mLe 1816 [(3, fz_i i), (0, fz_r 200), (1, fz_r 0), (2, fz_r 53)] [] H Q) : fz_R 47 mLc20 974 [(3, fz_i i), (0, fz_r 200), (1, fz_r 0), (2, fz_r 53)] [] h Q := by
  have hf : fz_fr fz_all h h := fz_fr_rf
  refine fz_aload_n kLc20 rfl rfl ?_
  refine fz_aload_n kLc20 rfl rfl ?_
  refine fz_iload_n kLc20 rfl rfl ?_
  refine fz_iconst ⟨by decide, by decide⟩ kLc20 rfl ?_
  refine fz_iaddN kLc20 rfl (by omega) ?_
  obtain ⟨a1, e2⟩ : ∃ z, h 200 ((i + 1)).toNat = z := ⟨_, rfl⟩
  refine fz_taldV (v := a1) kLc20 rfl ⟨by decide, by decide⟩ (by omega) (by omega) e2 ?_
  refine fz_aload_n kLc20 rfl rfl ?_
  refine fz_iload_n kLc20 rfl rfl ?_
  refine fz_iconst ⟨by decide, by decide⟩ kLc20 rfl ?_
  refine fz_iaddN kLc20 rfl (by omega) ?_
  obtain ⟨a3, e4⟩ : ∃ z, h 200 ((i + 2)).toNat = z := ⟨_, rfl⟩
  refine fz_taldV (v := a3) kLc20 rfl ⟨by decide, by decide⟩ (by omega) (by omega) e4 ?_
  refine fz_aload_n kLc20 rfl rfl ?_
  refine fz_iload_n kLc20 rfl rfl ?_
  refine fz_iconst ⟨by decide, by decide⟩ kLc20 rfl ?_
  refine fz_iaddN kLc20 rfl (by omega) ?_
  obtain ⟨a5, e6⟩ : ∃ z, h 200 ((i + 3)).toNat = z := ⟨_, rfl⟩
  refine fz_taldV (v := a5) kLc20 rfl ⟨by decide, by decide⟩ (by omega) (by omega) e6 ?_
  refine fz_callV (d' := 6) (M' := mX10_alike) (As := [fz_i a1, fz_i a3, fz_i a5]) (st := []) kLc20 rfl rfl vX10_alike rfl rfl rfl rfl (Nat.le_of_ble_eq_true rfl) (Nat.le_of_ble_eq_true rfl) (by decide) (sX10_alike h hI a1 a3 a5 ) (fun H7 r8 q9 o10 => ?_)
  obtain ⟨hI11, hf12, y14, rfl, f13⟩ := q9
  clear o10
  have hf15 := fz_fr_tr hf hf12 (fz_su_all rfl)
  have hXd16 : fz_Xd H7 := fz_Xd_eq (funext fun s => hf12 80 s rfl) hXd
  have hXh17 : fz_Xh H7 := fz_Xh_eq (funext fun s => hf12 83 s rfl) hXh
  have hXw18 : fz_Xw H7 := fz_Xw_eq (hf12 53 19 rfl) (funext fun s => hf12 66 s rfl) (funext fun s => hf12 67 s rfl) (funext fun s => hf12 68 s rfl) (funext fun s => hf12 69 s rfl) hXw
  have hRS19 : fz_RS H7 := fz_RS_eq (funext fun s => hf12 48 s rfl) (funext fun s => hf12 49 s rfl) (funext fun s => hf12 50 s rfl) (funext fun s => hf12 51 s rfl) (funext fun s => hf12 83 s rfl) (funext fun s => hf12 84 s rfl) (hf12 44 2 rfl) hRS
  have hRP20 : fz_RP H7 := fz_RP_eq (funext fun s => hf12 52 s rfl) (funext fun s => hf12 85 s rfl) hRP
  have hRK21 : fz_RK H7 := fz_RK_eq (funext fun s => hf12 45 s rfl) (funext fun s => hf12 81 s rfl) hRK
  have hRR22 : fz_RR H7 := fz_RR_eq (hf12 44 3 rfl) (hf12 53 46 rfl) (funext fun s => hf12 46 s rfl) (funext fun s => hf12 82 s rfl) hRR
  have hRT23 : fz_RT H7 := fz_RT_eq (funext fun s => hf12 41 s rfl) (funext fun s => hf12 42 s rfl) (hf12 1 7 rfl) hRT
  have hRE24 : fz_RE H7 := fz_RE_eq (funext fun s => hf12 5 s rfl) (funext fun s => hf12 6 s rfl) (hf12 1 8 rfl) (hf12 1 7 rfl) hRE
  have hX25 : fz_Xc H7 := fz_Xc_fr hf12 rfl hX
  have t26 : H7 53 10 = h 53 10 := hf12 53 10 rfl
  have t27 : H7 53 41 = h 53 41 := hf12 53 41 rfl
  have t28 : H7 53 42 = h 53 42 := hf12 53 42 rfl
  have t29 : H7 9 5 = h 9 5 := hf12 9 5 rfl
  have t30 : H7 53 10 = h 53 10 := hf12 53 10 rfl
  have t31 : H7 44 2 = h 44 2 := hf12 44 2 rfl
  have t32 : H7 53 44 = h 53 44 := hf12 53 44 rfl
  have t33 : H7 20 2 = h 20 2 := hf12 20 2 rfl
  have t34 : H7 53 16 = h 53 16 := hf12 53 16 rfl
  have t35 : H7 1 7 = h 1 7 := hf12 1 7 rfl
  have t36 : H7 53 0 = h 53 0 := hf12 53 0 rfl
  have t37 : H7 1 8 = h 1 8 := hf12 1 8 rfl
  have t38 : H7 53 2 = h 53 2 := hf12 53 2 rfl
  refine fz_pop rfl kLc20 rfl ?_
  refine fz_aload_n kLc20 rfl rfl ?_
  refine fz_aload_n kLc20 rfl rfl ?_
  refine fz_iload_n kLc20 rfl rfl ?_
  refine fz_iconst ⟨by decide, by decide⟩ kLc20 rfl ?_
  refine fz_iaddN kLc20 rfl (by omega) ?_
  refine fz_taldV (v := a1) kLc20 rfl ⟨by decide, by decide⟩ (by omega) (by rw [hf15 200 _ rfl]; omega) ((hf15 200 _ rfl).trans e2) ?_
  refine fz_aload_n kLc20 rfl rfl ?_
  refine fz_iload_n kLc20 rfl rfl ?_
  refine fz_iconst ⟨by decide, by decide⟩ kLc20 rfl ?_
  refine fz_iaddN kLc20 rfl (by omega) ?_
  refine fz_taldV (v := a3) kLc20 rfl ⟨by decide, by decide⟩ (by omega) (by rw [hf15 200 _ rfl]; omega) ((hf15 200 _ rfl).trans e4) ?_
  refine fz_aload_n kLc20 rfl rfl ?_
  refine fz_iload_n kLc20 rfl rfl ?_
  refine fz_iconst ⟨by decide, by decide⟩ kLc20 rfl ?_
  refine fz_iaddN kLc20 rfl (by omega) ?_
  refine fz_taldV (v := a5) kLc20 rfl ⟨by decide, by decide⟩ (by omega) (by rw [hf15 200 _ rfl]; omega) ((hf15 200 _ rfl).trans e6) ?_
  refine fz_callV (d' := 5) (M' := mX11_alike) (As := [fz_i a1, fz_i a3, fz_i a5]) (st := []) kLc20 rfl rfl vX11_alike rfl rfl rfl rfl (Nat.le_of_ble_eq_true rfl) (Nat.le_of_ble_eq_true rfl) (by decide) (sX11_alike H7 hI11 a1 a3 a5 hXw18) (fun H39 r40 q41 o42 => ?_)
  obtain ⟨hI43, hf44, hXw45, y47, rfl, f46⟩ := q41
  clear o42
  have hf48 := fz_fr_tr hf15 hf44 (fz_su_all rfl)
  have hXd49 : fz_Xd H39 := fz_Xd_eq (funext fun s => hf44 80 s rfl) hXd16
  have hXh50 : fz_Xh H39 := fz_Xh_eq (funext fun s => hf44 83 s rfl) hXh17
  have hRS51 : fz_RS H39 := fz_RS_eq (funext fun s => hf44 48 s rfl) (funext fun s => hf44 49 s rfl) (funext fun s => hf44 50 s rfl) (funext fun s => hf44 51 s rfl) (funext fun s => hf44 83 s rfl) (funext fun s => hf44 84 s rfl) (hf44 44 2 rfl) hRS19
  have hRP52 : fz_RP H39 := fz_RP_eq (funext fun s => hf44 52 s rfl) (funext fun s => hf44 85 s rfl) hRP20
  have hRK53 : fz_RK H39 := fz_RK_eq (funext fun s => hf44 45 s rfl) (funext fun s => hf44 81 s rfl) hRK21
  have hRR54 : fz_RR H39 := fz_RR_eq (hf44 44 3 rfl) (hf44 53 46 rfl) (funext fun s => hf44 46 s rfl) (funext fun s => hf44 82 s rfl) hRR22
  have hRT55 : fz_RT H39 := fz_RT_eq (funext fun s => hf44 41 s rfl) (funext fun s => hf44 42 s rfl) (hf44 1 7 rfl) hRT23
  have hRE56 : fz_RE H39 := fz_RE_eq (funext fun s => hf44 5 s rfl) (funext fun s => hf44 6 s rfl) (hf44 1 8 rfl) (hf44 1 7 rfl) hRE24
  have hX57 : fz_Xc H39 := fz_Xc_fr hf44 rfl hX25
  have t58 : H39 53 10 = H7 53 10 := hf44 53 10 rfl
  have t59 : H39 53 41 = H7 53 41 := hf44 53 41 rfl
  have t60 : H39 53 42 = H7 53 42 := hf44 53 42 rfl
  have t61 : H39 9 5 = H7 9 5 := hf44 9 5 rfl
  have t62 : H39 53 10 = H7 53 10 := hf44 53 10 rfl
  have t63 : H39 44 2 = H7 44 2 := hf44 44 2 rfl
  have t64 : H39 53 44 = H7 53 44 := hf44 53 44 rfl
  have t65 : H39 20 2 = H7 20 2 := hf44 20 2 rfl
  have t66 : H39 53 16 = H7 53 16 := hf44 53 16 rfl
  have t67 : H39 1 7 = H7 1 7 := hf44 1 7 rfl
  have t68 : H39 53 0 = H7 53 0 := hf44 53 0 rfl
  have t69 : H39 1 8 = H7 1 8 := hf44 1 8 rfl
  have t70 : H39 53 2 = H7 53 2 := hf44 53 2 rfl
  refine fz_pop rfl kLc20 rfl ?_
  refine fz_goto (tgt := 1816) kLc20 rfl (by decide) ?_
  exact K H39 ⟨hI43, hX57, hXd49, hXh50, hXw45, by omega, by omega, by omega, by omega, by omega, by omega, by omega, hRS51, hRP52, hRK53, hRR54, hRT55, hRE56⟩ (funext fun s => hf48 200 s rfl)
def mLc21 : fz_M := (yL_law, code, 4, (some .boolean), [(1017, .aload_n 1, 1, 0, 0, 0), (1018, .aload_n 0, 1, 0, 0, 0), (1019, .iload_n 3, 1, 0, 0, 0), (1020, .iconst 1, 1, 0, 0, 0), (1021, .iadd, 1, 0, 0, 0), (1022, .iaload, 1, 0, 0, 0), (1023, .aload_n 0, 1, 0, 0, 0), (1024, .iload_n 3, 1, 0, 0, 0), (1025, .iconst 2, 1, 0, 0, 0), (1026, .iadd, 1, 0, 0, 0), (1027, .iaload, 1, 0, 0, 0), (1028, .aload_n 0, 1, 0, 0, 0), (1029, .iload_n 3, 1, 0, 0, 0), (1030, .iconst 3, 1, 0, 0, 0), (1031, .iadd, 1, 0, 0, 0), (1032, .iaload, 1, 0, 0, 0), (1033, .invokevirtual 102, 3, 4097, 50, 0), (1036, .pop, 1, 0, 0, 0), (1037, .aload_n 2, 1, 0, 0, 0), (1038, .aload_n 0, 1, 0, 0, 0), (1039, .iload_n 3, 1, 0, 0, 0), (1040, .iconst 1, 1, 0, 0, 0), (1041, .iadd, 1, 0, 0, 0), (1042, .iaload, 1, 0, 0, 0), (1043, .aload_n 0, 1, 0, 0, 0), (1044, .iload_n 3, 1, 0, 0, 0), (1045, .iconst 2, 1, 0, 0, 0), (1046, .iadd, 1, 0, 0, 0), (1047, .iaload, 1, 0, 0, 0), (1048, .aload_n 0, 1, 0, 0, 0), (1049, .iload_n 3, 1, 0, 0, 0), (1050, .iconst 3, 1, 0, 0, 0), (1051, .iadd, 1, 0, 0, 0), (1052, .iaload, 1, 0, 0, 0), (1053, .invokevirtual 105, 3, 7074, 141, 0), (1056, .pop, 1, 0, 0, 0), (1057, .goto 759, 3, 0, 0, 0)])
set_option maxRecDepth 100000 in
theorem kLc21 : fz_okM mLc21 = true := by decide +kernel
set_option maxHeartbeats 1000000 in
set_option maxRecDepth 100000 in
theorem lc21 (h : fz_H) (hI : fz_Iv h) (hX : fz_Xc h) (hXd : fz_Xd h) (hXh : fz_Xh h) (hXw : fz_Xw h) (hv1 : h 53 10 ≤ 10) (hv2 : h 53 42 ≤ h 53 41) (hr0 : h 9 5 = h 53 10) (hr1 : h 44 2 = h 53 44) (hr2 : h 20 2 = h 53 16) (hr3 : h 1 7 = h 53 0) (hr4 : h 1 8 = h 53 2) (hRS : fz_RS h) (hRP : fz_RP h) (hRK : fz_RK h) (hRR : fz_RR h) (hRT : fz_RT h) (hRE : fz_RE h) (i : Int) (hi : 0 ≤ i ∧ i + 6 ≤ h 200 100000 ∧ h 200 100000 ≤ 3072) {Q : fz_H → Option fz_V → Prop} (K : ∀ H : fz_H, fz_Gd H → H 200 = h 200 → fz_R 47 mLe 1816 [(3, fz_i i), (0, fz_r 200), (1, fz_r 0), (2, fz_r 53)] [] H Q) : fz_R 47 mLc21 1017 [(3, fz_i i), (0, fz_r 200), (1, fz_r 0), (2, fz_r 53)] [] h Q := by
  have hf : fz_fr fz_all h h := fz_fr_rf
  refine fz_aload_n kLc21 rfl rfl ?_
  refine fz_aload_n kLc21 rfl rfl ?_
  refine fz_iload_n kLc21 rfl rfl ?_
  refine fz_iconst ⟨by decide, by decide⟩ kLc21 rfl ?_
  refine fz_iaddN kLc21 rfl (by omega) ?_
  obtain ⟨a1, e2⟩ : ∃ z, h 200 ((i + 1)).toNat = z := ⟨_, rfl⟩
  refine fz_taldV (v := a1) kLc21 rfl ⟨by decide, by decide⟩ (by omega) (by omega) e2 ?_
  refine fz_aload_n kLc21 rfl rfl ?_
  refine fz_iload_n kLc21 rfl rfl ?_
  refine fz_iconst ⟨by decide, by decide⟩ kLc21 rfl ?_
  refine fz_iaddN kLc21 rfl (by omega) ?_
  obtain ⟨a3, e4⟩ : ∃ z, h 200 ((i + 2)).toNat = z := ⟨_, rfl⟩
  refine fz_taldV (v := a3) kLc21 rfl ⟨by decide, by decide⟩ (by omega) (by omega) e4 ?_
  refine fz_aload_n kLc21 rfl rfl ?_
  refine fz_iload_n kLc21 rfl rfl ?_
  refine fz_iconst ⟨by decide, by decide⟩ kLc21 rfl ?_
  refine fz_iaddN kLc21 rfl (by omega) ?_
  obtain ⟨a5, e6⟩ : ∃ z, h 200 ((i + 3)).toNat = z := ⟨_, rfl⟩
  refine fz_taldV (v := a5) kLc21 rfl ⟨by decide, by decide⟩ (by omega) (by omega) e6 ?_
  refine fz_callV (d' := 5) (M' := mX10_judge) (As := [fz_i a1, fz_i a3, fz_i a5]) (st := []) kLc21 rfl rfl vX10_judge rfl rfl rfl rfl (Nat.le_of_ble_eq_true rfl) (Nat.le_of_ble_eq_true rfl) (by decide) (sX10_judge h hI a1 a3 a5 ) (fun H7 r8 q9 o10 => ?_)
  obtain ⟨hI11, hf12, y14, rfl, f13⟩ := q9
  clear o10
  have hf15 := fz_fr_tr hf hf12 (fz_su_all rfl)
  have hXd16 : fz_Xd H7 := fz_Xd_eq (funext fun s => hf12 80 s rfl) hXd
  have hXh17 : fz_Xh H7 := fz_Xh_eq (funext fun s => hf12 83 s rfl) hXh
  have hXw18 : fz_Xw H7 := fz_Xw_eq (hf12 53 19 rfl) (funext fun s => hf12 66 s rfl) (funext fun s => hf12 67 s rfl) (funext fun s => hf12 68 s rfl) (funext fun s => hf12 69 s rfl) hXw
  have hRS19 : fz_RS H7 := fz_RS_eq (funext fun s => hf12 48 s rfl) (funext fun s => hf12 49 s rfl) (funext fun s => hf12 50 s rfl) (funext fun s => hf12 51 s rfl) (funext fun s => hf12 83 s rfl) (funext fun s => hf12 84 s rfl) (hf12 44 2 rfl) hRS
  have hRP20 : fz_RP H7 := fz_RP_eq (funext fun s => hf12 52 s rfl) (funext fun s => hf12 85 s rfl) hRP
  have hRK21 : fz_RK H7 := fz_RK_eq (funext fun s => hf12 45 s rfl) (funext fun s => hf12 81 s rfl) hRK
  have hRR22 : fz_RR H7 := fz_RR_eq (hf12 44 3 rfl) (hf12 53 46 rfl) (funext fun s => hf12 46 s rfl) (funext fun s => hf12 82 s rfl) hRR
  have hRT23 : fz_RT H7 := fz_RT_eq (funext fun s => hf12 41 s rfl) (funext fun s => hf12 42 s rfl) (hf12 1 7 rfl) hRT
  have hRE24 : fz_RE H7 := fz_RE_eq (funext fun s => hf12 5 s rfl) (funext fun s => hf12 6 s rfl) (hf12 1 8 rfl) (hf12 1 7 rfl) hRE
  have hX25 : fz_Xc H7 := fz_Xc_fr hf12 rfl hX
  have t26 : H7 53 10 = h 53 10 := hf12 53 10 rfl
  have t27 : H7 53 41 = h 53 41 := hf12 53 41 rfl
  have t28 : H7 53 42 = h 53 42 := hf12 53 42 rfl
  have t29 : H7 9 5 = h 9 5 := hf12 9 5 rfl
  have t30 : H7 53 10 = h 53 10 := hf12 53 10 rfl
  have t31 : H7 44 2 = h 44 2 := hf12 44 2 rfl
  have t32 : H7 53 44 = h 53 44 := hf12 53 44 rfl
  have t33 : H7 20 2 = h 20 2 := hf12 20 2 rfl
  have t34 : H7 53 16 = h 53 16 := hf12 53 16 rfl
  have t35 : H7 1 7 = h 1 7 := hf12 1 7 rfl
  have t36 : H7 53 0 = h 53 0 := hf12 53 0 rfl
  have t37 : H7 1 8 = h 1 8 := hf12 1 8 rfl
  have t38 : H7 53 2 = h 53 2 := hf12 53 2 rfl
  refine fz_pop rfl kLc21 rfl ?_
  refine fz_aload_n kLc21 rfl rfl ?_
  refine fz_aload_n kLc21 rfl rfl ?_
  refine fz_iload_n kLc21 rfl rfl ?_
  refine fz_iconst ⟨by decide, by decide⟩ kLc21 rfl ?_
  refine fz_iaddN kLc21 rfl (by omega) ?_
  refine fz_taldV (v := a1) kLc21 rfl ⟨by decide, by decide⟩ (by omega) (by rw [hf15 200 _ rfl]; omega) ((hf15 200 _ rfl).trans e2) ?_
  refine fz_aload_n kLc21 rfl rfl ?_
  refine fz_iload_n kLc21 rfl rfl ?_
  refine fz_iconst ⟨by decide, by decide⟩ kLc21 rfl ?_
  refine fz_iaddN kLc21 rfl (by omega) ?_
  refine fz_taldV (v := a3) kLc21 rfl ⟨by decide, by decide⟩ (by omega) (by rw [hf15 200 _ rfl]; omega) ((hf15 200 _ rfl).trans e4) ?_
  refine fz_aload_n kLc21 rfl rfl ?_
  refine fz_iload_n kLc21 rfl rfl ?_
  refine fz_iconst ⟨by decide, by decide⟩ kLc21 rfl ?_
  refine fz_iaddN kLc21 rfl (by omega) ?_
  refine fz_taldV (v := a5) kLc21 rfl ⟨by decide, by decide⟩ (by omega) (by rw [hf15 200 _ rfl]; omega) ((hf15 200 _ rfl).trans e6) ?_
  refine fz_callV (d' := 5) (M' := mX11_judge) (As := [fz_i a1, fz_i a3, fz_i a5]) (st := []) kLc21 rfl rfl vX11_judge rfl rfl rfl rfl (Nat.le_of_ble_eq_true rfl) (Nat.le_of_ble_eq_true rfl) (by decide) (sX11_judge H7 hI11 a1 a3 a5 hXw18) (fun H39 r40 q41 o42 => ?_)
  obtain ⟨hI43, hf44, hXw45, y47, rfl, f46⟩ := q41
  clear o42
  have hf48 := fz_fr_tr hf15 hf44 (fz_su_all rfl)
  have hXd49 : fz_Xd H39 := fz_Xd_eq (funext fun s => hf44 80 s rfl) hXd16
  have hXh50 : fz_Xh H39 := fz_Xh_eq (funext fun s => hf44 83 s rfl) hXh17
  have hRS51 : fz_RS H39 := fz_RS_eq (funext fun s => hf44 48 s rfl) (funext fun s => hf44 49 s rfl) (funext fun s => hf44 50 s rfl) (funext fun s => hf44 51 s rfl) (funext fun s => hf44 83 s rfl) (funext fun s => hf44 84 s rfl) (hf44 44 2 rfl) hRS19
  have hRP52 : fz_RP H39 := fz_RP_eq (funext fun s => hf44 52 s rfl) (funext fun s => hf44 85 s rfl) hRP20
  have hRK53 : fz_RK H39 := fz_RK_eq (funext fun s => hf44 45 s rfl) (funext fun s => hf44 81 s rfl) hRK21
  have hRR54 : fz_RR H39 := fz_RR_eq (hf44 44 3 rfl) (hf44 53 46 rfl) (funext fun s => hf44 46 s rfl) (funext fun s => hf44 82 s rfl) hRR22
  have hRT55 : fz_RT H39 := fz_RT_eq (funext fun s => hf44 41 s rfl) (funext fun s => hf44 42 s rfl) (hf44 1 7 rfl) hRT23
  have hRE56 : fz_RE H39 := fz_RE_eq (funext fun s => hf44 5 s rfl) (funext fun s => hf44 6 s rfl) (hf44 1 8 rfl) (hf44 1 7 rfl) hRE24
  have hX57 : fz_Xc H39 := fz_Xc_fr hf44 rfl hX25
  have t58 : H39 53 10 = H7 53 10 := hf44 53 10 rfl
  have t59 : H39 53 41 = H7 53 41 := hf44 53 41 rfl
  have t60 : H39 53 42 = H7 53 42 := hf44 53 42 rfl
  have t61 : H39 9 5 = H7 9 5 := hf44 9 5 rfl
  have t62 : H39 53 10 = H7 53 10 := hf44 53 10 rfl
  have t63 : H39 44 2 = H7 44 2 := hf44 44 2 rfl
  have t64 : H39 53 44 = H7 53 44 := hf44 53 44 rfl
  have t65 : H39 20 2 = H7 20 2 := hf44 20 2 rfl
  have t66 : H39 53 16 = H7 53 16 := hf44 53 16 rfl
  have t67 : H39 1 7 = H7 1 7 := hf44 1 7 rfl
  have t68 : H39 53 0 = H7 53 0 := hf44 53 0 rfl
  have t69 : H39 1 8 = H7 1 8 := hf44 1 8 rfl
  have t70 : H39 53 2 = H7 53 2 := hf44 53 2 rfl
  refine fz_pop rfl kLc21 rfl ?_
  refine fz_goto (tgt := 1816) kLc21 rfl (by decide) ?_
  exact K H39 ⟨hI43, hX57, hXd49, hXh50, hXw45, by omega, by omega, by omega, by omega, by omega, by omega, by omega, hRS51, hRP52, hRK53, hRR54, hRT55, hRE56⟩ (funext fun s => hf48 200 s rfl)
def mLc22 : fz_M := (yL_law, code, 4, (some .boolean), [(1060, .aload_n 1, 1, 0, 0, 0), (1061, .aload_n 0, 1, 0, 0, 0), (1062, .iload_n 3, 1, 0, 0, 0), (1063, .iconst 1, 1, 0, 0, 0), (1064, .iadd, 1, 0, 0, 0), (1065, .iaload, 1, 0, 0, 0), (1066, .aload_n 0, 1, 0, 0, 0), (1067, .iload_n 3, 1, 0, 0, 0), (1068, .iconst 2, 1, 0, 0, 0), (1069, .iadd, 1, 0, 0, 0), (1070, .iaload, 1, 0, 0, 0), (1071, .aload_n 0, 1, 0, 0, 0), (1072, .iload_n 3, 1, 0, 0, 0), (1073, .iconst 3, 1, 0, 0, 0), (1074, .iadd, 1, 0, 0, 0), (1075, .iaload, 1, 0, 0, 0), (1076, .aload_n 0, 1, 0, 0, 0), (1077, .iload_n 3, 1, 0, 0, 0), (1078, .iconst 4, 1, 0, 0, 0), (1079, .iadd, 1, 0, 0, 0), (1080, .iaload, 1, 0, 0, 0), (1081, .invokevirtual 106, 3, 4109, 79, 0), (1084, .pop, 1, 0, 0, 0), (1085, .aload_n 2, 1, 0, 0, 0), (1086, .aload_n 0, 1, 0, 0, 0), (1087, .iload_n 3, 1, 0, 0, 0), (1088, .iconst 1, 1, 0, 0, 0), (1089, .iadd, 1, 0, 0, 0), (1090, .iaload, 1, 0, 0, 0), (1091, .aload_n 0, 1, 0, 0, 0), (1092, .iload_n 3, 1, 0, 0, 0), (1093, .iconst 2, 1, 0, 0, 0), (1094, .iadd, 1, 0, 0, 0), (1095, .iaload, 1, 0, 0, 0), (1096, .aload_n 0, 1, 0, 0, 0), (1097, .iload_n 3, 1, 0, 0, 0), (1098, .iconst 3, 1, 0, 0, 0), (1099, .iadd, 1, 0, 0, 0), (1100, .iaload, 1, 0, 0, 0), (1101, .aload_n 0, 1, 0, 0, 0), (1102, .iload_n 3, 1, 0, 0, 0), (1103, .iconst 4, 1, 0, 0, 0), (1104, .iadd, 1, 0, 0, 0), (1105, .iaload, 1, 0, 0, 0), (1106, .invokevirtual 109, 3, 7086, 183, 0), (1109, .pop, 1, 0, 0, 0), (1110, .goto 706, 3, 0, 0, 0)])
set_option maxRecDepth 100000 in
theorem kLc22 : fz_okM mLc22 = true := by decide +kernel
set_option maxHeartbeats 1000000 in
set_option maxRecDepth 100000 in
theorem lc22 (h : fz_H) (hI : fz_Iv h) (hX : fz_Xc h) (hXd : fz_Xd h) (hXh : fz_Xh h) (hXw : fz_Xw h) (hv1 : h 53 10 ≤ 10) (hv2 : h 53 42 ≤ h 53 41) (hr0 : h 9 5 = h 53 10) (hr1 : h 44 2 = h 53 44) (hr2 : h 20 2 = h 53 16) (hr3 : h 1 7 = h 53 0) (hr4 : h 1 8 = h 53 2) (hRS : fz_RS h) (hRP : fz_RP h) (hRK : fz_RK h) (hRR : fz_RR h) (hRT : fz_RT h) (hRE : fz_RE h) (i : Int) (hi : 0 ≤ i ∧ i + 6 ≤ h 200 100000 ∧ h 200 100000 ≤ 3072) {Q : fz_H → Option fz_V → Prop} (K : ∀ H : fz_H, fz_Gd H → H 200 = h 200 → fz_R 47 mLe 1816 [(3, fz_i i), (0, fz_r 200), (1, fz_r 0), (2, fz_r 53)] [] H Q) : fz_R 47 mLc22 1060 [(3, fz_i i), (0, fz_r 200), (1, fz_r 0), (2, fz_r 53)] [] h Q := by
  have hf : fz_fr fz_all h h := fz_fr_rf
  refine fz_aload_n kLc22 rfl rfl ?_
  refine fz_aload_n kLc22 rfl rfl ?_
  refine fz_iload_n kLc22 rfl rfl ?_
  refine fz_iconst ⟨by decide, by decide⟩ kLc22 rfl ?_
  refine fz_iaddN kLc22 rfl (by omega) ?_
  obtain ⟨a1, e2⟩ : ∃ z, h 200 ((i + 1)).toNat = z := ⟨_, rfl⟩
  refine fz_taldV (v := a1) kLc22 rfl ⟨by decide, by decide⟩ (by omega) (by omega) e2 ?_
  refine fz_aload_n kLc22 rfl rfl ?_
  refine fz_iload_n kLc22 rfl rfl ?_
  refine fz_iconst ⟨by decide, by decide⟩ kLc22 rfl ?_
  refine fz_iaddN kLc22 rfl (by omega) ?_
  obtain ⟨a3, e4⟩ : ∃ z, h 200 ((i + 2)).toNat = z := ⟨_, rfl⟩
  refine fz_taldV (v := a3) kLc22 rfl ⟨by decide, by decide⟩ (by omega) (by omega) e4 ?_
  refine fz_aload_n kLc22 rfl rfl ?_
  refine fz_iload_n kLc22 rfl rfl ?_
  refine fz_iconst ⟨by decide, by decide⟩ kLc22 rfl ?_
  refine fz_iaddN kLc22 rfl (by omega) ?_
  obtain ⟨a5, e6⟩ : ∃ z, h 200 ((i + 3)).toNat = z := ⟨_, rfl⟩
  refine fz_taldV (v := a5) kLc22 rfl ⟨by decide, by decide⟩ (by omega) (by omega) e6 ?_
  refine fz_aload_n kLc22 rfl rfl ?_
  refine fz_iload_n kLc22 rfl rfl ?_
  refine fz_iconst ⟨by decide, by decide⟩ kLc22 rfl ?_
  refine fz_iaddN kLc22 rfl (by omega) ?_
  obtain ⟨a7, e8⟩ : ∃ z, h 200 ((i + 4)).toNat = z := ⟨_, rfl⟩
  refine fz_taldV (v := a7) kLc22 rfl ⟨by decide, by decide⟩ (by omega) (by omega) e8 ?_
  refine fz_callV (d' := 5) (M' := mX10_which) (As := [fz_i a1, fz_i a3, fz_i a5, fz_i a7]) (st := []) kLc22 rfl rfl vX10_which rfl rfl rfl rfl (Nat.le_of_ble_eq_true rfl) (Nat.le_of_ble_eq_true rfl) (by decide) (sX10_which h hI a1 a3 a5 a7 ) (fun H9 r10 q11 o12 => ?_)
  obtain ⟨hI13, hf14, y16, rfl, f15⟩ := q11
  clear o12
  have hf17 := fz_fr_tr hf hf14 (fz_su_all rfl)
  have hXd18 : fz_Xd H9 := fz_Xd_eq (funext fun s => hf14 80 s rfl) hXd
  have hXh19 : fz_Xh H9 := fz_Xh_eq (funext fun s => hf14 83 s rfl) hXh
  have hXw20 : fz_Xw H9 := fz_Xw_eq (hf14 53 19 rfl) (funext fun s => hf14 66 s rfl) (funext fun s => hf14 67 s rfl) (funext fun s => hf14 68 s rfl) (funext fun s => hf14 69 s rfl) hXw
  have hRS21 : fz_RS H9 := fz_RS_eq (funext fun s => hf14 48 s rfl) (funext fun s => hf14 49 s rfl) (funext fun s => hf14 50 s rfl) (funext fun s => hf14 51 s rfl) (funext fun s => hf14 83 s rfl) (funext fun s => hf14 84 s rfl) (hf14 44 2 rfl) hRS
  have hRP22 : fz_RP H9 := fz_RP_eq (funext fun s => hf14 52 s rfl) (funext fun s => hf14 85 s rfl) hRP
  have hRK23 : fz_RK H9 := fz_RK_eq (funext fun s => hf14 45 s rfl) (funext fun s => hf14 81 s rfl) hRK
  have hRR24 : fz_RR H9 := fz_RR_eq (hf14 44 3 rfl) (hf14 53 46 rfl) (funext fun s => hf14 46 s rfl) (funext fun s => hf14 82 s rfl) hRR
  have hRT25 : fz_RT H9 := fz_RT_eq (funext fun s => hf14 41 s rfl) (funext fun s => hf14 42 s rfl) (hf14 1 7 rfl) hRT
  have hRE26 : fz_RE H9 := fz_RE_eq (funext fun s => hf14 5 s rfl) (funext fun s => hf14 6 s rfl) (hf14 1 8 rfl) (hf14 1 7 rfl) hRE
  have hX27 : fz_Xc H9 := fz_Xc_fr hf14 rfl hX
  have t28 : H9 53 10 = h 53 10 := hf14 53 10 rfl
  have t29 : H9 53 41 = h 53 41 := hf14 53 41 rfl
  have t30 : H9 53 42 = h 53 42 := hf14 53 42 rfl
  have t31 : H9 9 5 = h 9 5 := hf14 9 5 rfl
  have t32 : H9 53 10 = h 53 10 := hf14 53 10 rfl
  have t33 : H9 44 2 = h 44 2 := hf14 44 2 rfl
  have t34 : H9 53 44 = h 53 44 := hf14 53 44 rfl
  have t35 : H9 20 2 = h 20 2 := hf14 20 2 rfl
  have t36 : H9 53 16 = h 53 16 := hf14 53 16 rfl
  have t37 : H9 1 7 = h 1 7 := hf14 1 7 rfl
  have t38 : H9 53 0 = h 53 0 := hf14 53 0 rfl
  have t39 : H9 1 8 = h 1 8 := hf14 1 8 rfl
  have t40 : H9 53 2 = h 53 2 := hf14 53 2 rfl
  refine fz_pop rfl kLc22 rfl ?_
  refine fz_aload_n kLc22 rfl rfl ?_
  refine fz_aload_n kLc22 rfl rfl ?_
  refine fz_iload_n kLc22 rfl rfl ?_
  refine fz_iconst ⟨by decide, by decide⟩ kLc22 rfl ?_
  refine fz_iaddN kLc22 rfl (by omega) ?_
  refine fz_taldV (v := a1) kLc22 rfl ⟨by decide, by decide⟩ (by omega) (by rw [hf17 200 _ rfl]; omega) ((hf17 200 _ rfl).trans e2) ?_
  refine fz_aload_n kLc22 rfl rfl ?_
  refine fz_iload_n kLc22 rfl rfl ?_
  refine fz_iconst ⟨by decide, by decide⟩ kLc22 rfl ?_
  refine fz_iaddN kLc22 rfl (by omega) ?_
  refine fz_taldV (v := a3) kLc22 rfl ⟨by decide, by decide⟩ (by omega) (by rw [hf17 200 _ rfl]; omega) ((hf17 200 _ rfl).trans e4) ?_
  refine fz_aload_n kLc22 rfl rfl ?_
  refine fz_iload_n kLc22 rfl rfl ?_
  refine fz_iconst ⟨by decide, by decide⟩ kLc22 rfl ?_
  refine fz_iaddN kLc22 rfl (by omega) ?_
  refine fz_taldV (v := a5) kLc22 rfl ⟨by decide, by decide⟩ (by omega) (by rw [hf17 200 _ rfl]; omega) ((hf17 200 _ rfl).trans e6) ?_
  refine fz_aload_n kLc22 rfl rfl ?_
  refine fz_iload_n kLc22 rfl rfl ?_
  refine fz_iconst ⟨by decide, by decide⟩ kLc22 rfl ?_
  refine fz_iaddN kLc22 rfl (by omega) ?_
  refine fz_taldV (v := a7) kLc22 rfl ⟨by decide, by decide⟩ (by omega) (by rw [hf17 200 _ rfl]; omega) ((hf17 200 _ rfl).trans e8) ?_
  refine fz_callV (d' := 5) (M' := mX11_which) (As := [fz_i a1, fz_i a3, fz_i a5, fz_i a7]) (st := []) kLc22 rfl rfl vX11_which rfl rfl rfl rfl (Nat.le_of_ble_eq_true rfl) (Nat.le_of_ble_eq_true rfl) (by decide) (sX11_which H9 hI13 a1 a3 a5 a7 hXw20) (fun H41 r42 q43 o44 => ?_)
  obtain ⟨hI45, hf46, hXw47, y49, rfl, f48⟩ := q43
  clear o44
  have hf50 := fz_fr_tr hf17 hf46 (fz_su_all rfl)
  have hXd51 : fz_Xd H41 := fz_Xd_eq (funext fun s => hf46 80 s rfl) hXd18
  have hXh52 : fz_Xh H41 := fz_Xh_eq (funext fun s => hf46 83 s rfl) hXh19
  have hRS53 : fz_RS H41 := fz_RS_eq (funext fun s => hf46 48 s rfl) (funext fun s => hf46 49 s rfl) (funext fun s => hf46 50 s rfl) (funext fun s => hf46 51 s rfl) (funext fun s => hf46 83 s rfl) (funext fun s => hf46 84 s rfl) (hf46 44 2 rfl) hRS21
  have hRP54 : fz_RP H41 := fz_RP_eq (funext fun s => hf46 52 s rfl) (funext fun s => hf46 85 s rfl) hRP22
  have hRK55 : fz_RK H41 := fz_RK_eq (funext fun s => hf46 45 s rfl) (funext fun s => hf46 81 s rfl) hRK23
  have hRR56 : fz_RR H41 := fz_RR_eq (hf46 44 3 rfl) (hf46 53 46 rfl) (funext fun s => hf46 46 s rfl) (funext fun s => hf46 82 s rfl) hRR24
  have hRT57 : fz_RT H41 := fz_RT_eq (funext fun s => hf46 41 s rfl) (funext fun s => hf46 42 s rfl) (hf46 1 7 rfl) hRT25
  have hRE58 : fz_RE H41 := fz_RE_eq (funext fun s => hf46 5 s rfl) (funext fun s => hf46 6 s rfl) (hf46 1 8 rfl) (hf46 1 7 rfl) hRE26
  have hX59 : fz_Xc H41 := fz_Xc_fr hf46 rfl hX27
  have t60 : H41 53 10 = H9 53 10 := hf46 53 10 rfl
  have t61 : H41 53 41 = H9 53 41 := hf46 53 41 rfl
  have t62 : H41 53 42 = H9 53 42 := hf46 53 42 rfl
  have t63 : H41 9 5 = H9 9 5 := hf46 9 5 rfl
  have t64 : H41 53 10 = H9 53 10 := hf46 53 10 rfl
  have t65 : H41 44 2 = H9 44 2 := hf46 44 2 rfl
  have t66 : H41 53 44 = H9 53 44 := hf46 53 44 rfl
  have t67 : H41 20 2 = H9 20 2 := hf46 20 2 rfl
  have t68 : H41 53 16 = H9 53 16 := hf46 53 16 rfl
  have t69 : H41 1 7 = H9 1 7 := hf46 1 7 rfl
  have t70 : H41 53 0 = H9 53 0 := hf46 53 0 rfl
  have t71 : H41 1 8 = H9 1 8 := hf46 1 8 rfl
  have t72 : H41 53 2 = H9 53 2 := hf46 53 2 rfl
  refine fz_pop rfl kLc22 rfl ?_
  refine fz_goto (tgt := 1816) kLc22 rfl (by decide) ?_
  exact K H41 ⟨hI45, hX59, hXd51, hXh52, hXw47, by omega, by omega, by omega, by omega, by omega, by omega, by omega, hRS53, hRP54, hRK55, hRR56, hRT57, hRE58⟩ (funext fun s => hf50 200 s rfl)
def mLc23 : fz_M := (yL_law, code, 4, (some .boolean), [(1113, .aload_n 1, 1, 0, 0, 0), (1114, .aload_n 0, 1, 0, 0, 0), (1115, .iload_n 3, 1, 0, 0, 0), (1116, .iconst 1, 1, 0, 0, 0), (1117, .iadd, 1, 0, 0, 0), (1118, .iaload, 1, 0, 0, 0), (1119, .aload_n 0, 1, 0, 0, 0), (1120, .iload_n 3, 1, 0, 0, 0), (1121, .iconst 2, 1, 0, 0, 0), (1122, .iadd, 1, 0, 0, 0), (1123, .iaload, 1, 0, 0, 0), (1124, .aload_n 0, 1, 0, 0, 0), (1125, .iload_n 3, 1, 0, 0, 0), (1126, .iconst 3, 1, 0, 0, 0), (1127, .iadd, 1, 0, 0, 0), (1128, .iaload, 1, 0, 0, 0), (1129, .invokevirtual 110, 3, 4125, 32, 0), (1132, .pop, 1, 0, 0, 0), (1133, .aload_n 2, 1, 0, 0, 0), (1134, .aload_n 0, 1, 0, 0, 0), (1135, .iload_n 3, 1, 0, 0, 0), (1136, .iconst 1, 1, 0, 0, 0), (1137, .iadd, 1, 0, 0, 0), (1138, .iaload, 1, 0, 0, 0), (1139, .aload_n 0, 1, 0, 0, 0), (1140, .iload_n 3, 1, 0, 0, 0), (1141, .iconst 2, 1, 0, 0, 0), (1142, .iadd, 1, 0, 0, 0), (1143, .iaload, 1, 0, 0, 0), (1144, .aload_n 0, 1, 0, 0, 0), (1145, .iload_n 3, 1, 0, 0, 0), (1146, .iconst 3, 1, 0, 0, 0), (1147, .iadd, 1, 0, 0, 0), (1148, .iaload, 1, 0, 0, 0), (1149, .invokevirtual 113, 3, 7090, 102, 0), (1152, .pop, 1, 0, 0, 0), (1153, .goto 663, 3, 0, 0, 0)])
set_option maxRecDepth 100000 in
theorem kLc23 : fz_okM mLc23 = true := by decide +kernel
set_option maxHeartbeats 1000000 in
set_option maxRecDepth 100000 in
theorem lc23 (h : fz_H) (hI : fz_Iv h) (hX : fz_Xc h) (hXd : fz_Xd h) (hXh : fz_Xh h) (hXw : fz_Xw h) (hv1 : h 53 10 ≤ 10) (hv2 : h 53 42 ≤ h 53 41) (hr0 : h 9 5 = h 53 10) (hr1 : h 44 2 = h 53 44) (hr2 : h 20 2 = h 53 16) (hr3 : h 1 7 = h 53 0) (hr4 : h 1 8 = h 53 2) (hRS : fz_RS h) (hRP : fz_RP h) (hRK : fz_RK h) (hRR : fz_RR h) (hRT : fz_RT h) (hRE : fz_RE h) (i : Int) (hi : 0 ≤ i ∧ i + 6 ≤ h 200 100000 ∧ h 200 100000 ≤ 3072) {Q : fz_H → Option fz_V → Prop} (K : ∀ H : fz_H, fz_Gd H → H 200 = h 200 → fz_R 47 mLe 1816 [(3, fz_i i), (0, fz_r 200), (1, fz_r 0), (2, fz_r 53)] [] H Q) : fz_R 47 mLc23 1113 [(3, fz_i i), (0, fz_r 200), (1, fz_r 0), (2, fz_r 53)] [] h Q := by
  have hf : fz_fr fz_all h h := fz_fr_rf
  refine fz_aload_n kLc23 rfl rfl ?_
  refine fz_aload_n kLc23 rfl rfl ?_
  refine fz_iload_n kLc23 rfl rfl ?_
  refine fz_iconst ⟨by decide, by decide⟩ kLc23 rfl ?_
  refine fz_iaddN kLc23 rfl (by omega) ?_
  obtain ⟨a1, e2⟩ : ∃ z, h 200 ((i + 1)).toNat = z := ⟨_, rfl⟩
  refine fz_taldV (v := a1) kLc23 rfl ⟨by decide, by decide⟩ (by omega) (by omega) e2 ?_
  refine fz_aload_n kLc23 rfl rfl ?_
  refine fz_iload_n kLc23 rfl rfl ?_
  refine fz_iconst ⟨by decide, by decide⟩ kLc23 rfl ?_
  refine fz_iaddN kLc23 rfl (by omega) ?_
  obtain ⟨a3, e4⟩ : ∃ z, h 200 ((i + 2)).toNat = z := ⟨_, rfl⟩
  refine fz_taldV (v := a3) kLc23 rfl ⟨by decide, by decide⟩ (by omega) (by omega) e4 ?_
  refine fz_aload_n kLc23 rfl rfl ?_
  refine fz_iload_n kLc23 rfl rfl ?_
  refine fz_iconst ⟨by decide, by decide⟩ kLc23 rfl ?_
  refine fz_iaddN kLc23 rfl (by omega) ?_
  obtain ⟨a5, e6⟩ : ∃ z, h 200 ((i + 3)).toNat = z := ⟨_, rfl⟩
  refine fz_taldV (v := a5) kLc23 rfl ⟨by decide, by decide⟩ (by omega) (by omega) e6 ?_
  refine fz_callV (d' := 5) (M' := mX10_first) (As := [fz_i a1, fz_i a3, fz_i a5]) (st := []) kLc23 rfl rfl vX10_first rfl rfl rfl rfl (Nat.le_of_ble_eq_true rfl) (Nat.le_of_ble_eq_true rfl) (by decide) (sX10_first h hI a1 a3 a5 ) (fun H7 r8 q9 o10 => ?_)
  obtain ⟨hI11, hf12, y14, rfl, f13⟩ := q9
  clear o10
  have hf15 := fz_fr_tr hf hf12 (fz_su_all rfl)
  have hXd16 : fz_Xd H7 := fz_Xd_eq (funext fun s => hf12 80 s rfl) hXd
  have hXh17 : fz_Xh H7 := fz_Xh_eq (funext fun s => hf12 83 s rfl) hXh
  have hXw18 : fz_Xw H7 := fz_Xw_eq (hf12 53 19 rfl) (funext fun s => hf12 66 s rfl) (funext fun s => hf12 67 s rfl) (funext fun s => hf12 68 s rfl) (funext fun s => hf12 69 s rfl) hXw
  have hRS19 : fz_RS H7 := fz_RS_eq (funext fun s => hf12 48 s rfl) (funext fun s => hf12 49 s rfl) (funext fun s => hf12 50 s rfl) (funext fun s => hf12 51 s rfl) (funext fun s => hf12 83 s rfl) (funext fun s => hf12 84 s rfl) (hf12 44 2 rfl) hRS
  have hRP20 : fz_RP H7 := fz_RP_eq (funext fun s => hf12 52 s rfl) (funext fun s => hf12 85 s rfl) hRP
  have hRK21 : fz_RK H7 := fz_RK_eq (funext fun s => hf12 45 s rfl) (funext fun s => hf12 81 s rfl) hRK
  have hRR22 : fz_RR H7 := fz_RR_eq (hf12 44 3 rfl) (hf12 53 46 rfl) (funext fun s => hf12 46 s rfl) (funext fun s => hf12 82 s rfl) hRR
  have hRT23 : fz_RT H7 := fz_RT_eq (funext fun s => hf12 41 s rfl) (funext fun s => hf12 42 s rfl) (hf12 1 7 rfl) hRT
  have hRE24 : fz_RE H7 := fz_RE_eq (funext fun s => hf12 5 s rfl) (funext fun s => hf12 6 s rfl) (hf12 1 8 rfl) (hf12 1 7 rfl) hRE
  have hX25 : fz_Xc H7 := fz_Xc_fr hf12 rfl hX
  have t26 : H7 53 10 = h 53 10 := hf12 53 10 rfl
  have t27 : H7 53 41 = h 53 41 := hf12 53 41 rfl
  have t28 : H7 53 42 = h 53 42 := hf12 53 42 rfl
  have t29 : H7 9 5 = h 9 5 := hf12 9 5 rfl
  have t30 : H7 53 10 = h 53 10 := hf12 53 10 rfl
  have t31 : H7 44 2 = h 44 2 := hf12 44 2 rfl
  have t32 : H7 53 44 = h 53 44 := hf12 53 44 rfl
  have t33 : H7 20 2 = h 20 2 := hf12 20 2 rfl
  have t34 : H7 53 16 = h 53 16 := hf12 53 16 rfl
  have t35 : H7 1 7 = h 1 7 := hf12 1 7 rfl
  have t36 : H7 53 0 = h 53 0 := hf12 53 0 rfl
  have t37 : H7 1 8 = h 1 8 := hf12 1 8 rfl
  have t38 : H7 53 2 = h 53 2 := hf12 53 2 rfl
  refine fz_pop rfl kLc23 rfl ?_
  refine fz_aload_n kLc23 rfl rfl ?_
  refine fz_aload_n kLc23 rfl rfl ?_
  refine fz_iload_n kLc23 rfl rfl ?_
  refine fz_iconst ⟨by decide, by decide⟩ kLc23 rfl ?_
  refine fz_iaddN kLc23 rfl (by omega) ?_
  refine fz_taldV (v := a1) kLc23 rfl ⟨by decide, by decide⟩ (by omega) (by rw [hf15 200 _ rfl]; omega) ((hf15 200 _ rfl).trans e2) ?_
  refine fz_aload_n kLc23 rfl rfl ?_
  refine fz_iload_n kLc23 rfl rfl ?_
  refine fz_iconst ⟨by decide, by decide⟩ kLc23 rfl ?_
  refine fz_iaddN kLc23 rfl (by omega) ?_
  refine fz_taldV (v := a3) kLc23 rfl ⟨by decide, by decide⟩ (by omega) (by rw [hf15 200 _ rfl]; omega) ((hf15 200 _ rfl).trans e4) ?_
  refine fz_aload_n kLc23 rfl rfl ?_
  refine fz_iload_n kLc23 rfl rfl ?_
  refine fz_iconst ⟨by decide, by decide⟩ kLc23 rfl ?_
  refine fz_iaddN kLc23 rfl (by omega) ?_
  refine fz_taldV (v := a5) kLc23 rfl ⟨by decide, by decide⟩ (by omega) (by rw [hf15 200 _ rfl]; omega) ((hf15 200 _ rfl).trans e6) ?_
  refine fz_callV (d' := 4) (M' := mX11_first) (As := [fz_i a1, fz_i a3, fz_i a5]) (st := []) kLc23 rfl rfl vX11_first rfl rfl rfl rfl (Nat.le_of_ble_eq_true rfl) (Nat.le_of_ble_eq_true rfl) (by decide) (sX11_first H7 hI11 a1 a3 a5 hXw18) (fun H39 r40 q41 o42 => ?_)
  obtain ⟨hI43, hf44, hXw45, y47, rfl, f46⟩ := q41
  clear o42
  have hf48 := fz_fr_tr hf15 hf44 (fz_su_all rfl)
  have hXd49 : fz_Xd H39 := fz_Xd_eq (funext fun s => hf44 80 s rfl) hXd16
  have hXh50 : fz_Xh H39 := fz_Xh_eq (funext fun s => hf44 83 s rfl) hXh17
  have hRS51 : fz_RS H39 := fz_RS_eq (funext fun s => hf44 48 s rfl) (funext fun s => hf44 49 s rfl) (funext fun s => hf44 50 s rfl) (funext fun s => hf44 51 s rfl) (funext fun s => hf44 83 s rfl) (funext fun s => hf44 84 s rfl) (hf44 44 2 rfl) hRS19
  have hRP52 : fz_RP H39 := fz_RP_eq (funext fun s => hf44 52 s rfl) (funext fun s => hf44 85 s rfl) hRP20
  have hRK53 : fz_RK H39 := fz_RK_eq (funext fun s => hf44 45 s rfl) (funext fun s => hf44 81 s rfl) hRK21
  have hRR54 : fz_RR H39 := fz_RR_eq (hf44 44 3 rfl) (hf44 53 46 rfl) (funext fun s => hf44 46 s rfl) (funext fun s => hf44 82 s rfl) hRR22
  have hRT55 : fz_RT H39 := fz_RT_eq (funext fun s => hf44 41 s rfl) (funext fun s => hf44 42 s rfl) (hf44 1 7 rfl) hRT23
  have hRE56 : fz_RE H39 := fz_RE_eq (funext fun s => hf44 5 s rfl) (funext fun s => hf44 6 s rfl) (hf44 1 8 rfl) (hf44 1 7 rfl) hRE24
  have hX57 : fz_Xc H39 := fz_Xc_fr hf44 rfl hX25
  have t58 : H39 53 10 = H7 53 10 := hf44 53 10 rfl
  have t59 : H39 53 41 = H7 53 41 := hf44 53 41 rfl
  have t60 : H39 53 42 = H7 53 42 := hf44 53 42 rfl
  have t61 : H39 9 5 = H7 9 5 := hf44 9 5 rfl
  have t62 : H39 53 10 = H7 53 10 := hf44 53 10 rfl
  have t63 : H39 44 2 = H7 44 2 := hf44 44 2 rfl
  have t64 : H39 53 44 = H7 53 44 := hf44 53 44 rfl
  have t65 : H39 20 2 = H7 20 2 := hf44 20 2 rfl
  have t66 : H39 53 16 = H7 53 16 := hf44 53 16 rfl
  have t67 : H39 1 7 = H7 1 7 := hf44 1 7 rfl
  have t68 : H39 53 0 = H7 53 0 := hf44 53 0 rfl
  have t69 : H39 1 8 = H7 1 8 := hf44 1 8 rfl
  have t70 : H39 53 2 = H7 53 2 := hf44 53 2 rfl
  refine fz_pop rfl kLc23 rfl ?_
  refine fz_goto (tgt := 1816) kLc23 rfl (by decide) ?_
  exact K H39 ⟨hI43, hX57, hXd49, hXh50, hXw45, by omega, by omega, by omega, by omega, by omega, by omega, by omega, hRS51, hRP52, hRK53, hRR54, hRT55, hRE56⟩ (funext fun s => hf48 200 s rfl)
def mLc24 : fz_M := (yL_law, code, 4, (some .boolean), [(1156, .aload_n 1, 1, 0, 0, 0), (1157, .aload_n 0, 1, 0, 0, 0), (1158, .iload_n 3, 1, 0, 0, 0), (1159, .iconst 1, 1, 0, 0, 0), (1160, .iadd, 1, 0, 0, 0), (1161, .iaload, 1, 0, 0, 0), (1162, .aload_n 0, 1, 0, 0, 0), (1163, .iload_n 3, 1, 0, 0, 0), (1164, .iconst 2, 1, 0, 0, 0), (1165, .iadd, 1, 0, 0, 0), (1166, .iaload, 1, 0, 0, 0), (1167, .invokevirtual 114, 3, 4129, 59, 0), (1170, .pop, 1, 0, 0, 0), (1171, .aload_n 2, 1, 0, 0, 0), (1172, .aload_n 0, 1, 0, 0, 0), (1173, .iload_n 3, 1, 0, 0, 0), (1174, .iconst 1, 1, 0, 0, 0), (1175, .iadd, 1, 0, 0, 0), (1176, .iaload, 1, 0, 0, 0), (1177, .aload_n 0, 1, 0, 0, 0), (1178, .iload_n 3, 1, 0, 0, 0), (1179, .iconst 2, 1, 0, 0, 0), (1180, .iadd, 1, 0, 0, 0), (1181, .iaload, 1, 0, 0, 0), (1182, .invokevirtual 117, 3, 7094, 158, 0), (1185, .pop, 1, 0, 0, 0), (1186, .goto 630, 3, 0, 0, 0)])
set_option maxRecDepth 100000 in
theorem kLc24 : fz_okM mLc24 = true := by decide +kernel
set_option maxHeartbeats 1000000 in
set_option maxRecDepth 100000 in
theorem lc24 (h : fz_H) (hI : fz_Iv h) (hX : fz_Xc h) (hXd : fz_Xd h) (hXh : fz_Xh h) (hXw : fz_Xw h) (hv1 : h 53 10 ≤ 10) (hv2 : h 53 42 ≤ h 53 41) (hr0 : h 9 5 = h 53 10) (hr1 : h 44 2 = h 53 44) (hr2 : h 20 2 = h 53 16) (hr3 : h 1 7 = h 53 0) (hr4 : h 1 8 = h 53 2) (hRS : fz_RS h) (hRP : fz_RP h) (hRK : fz_RK h) (hRR : fz_RR h) (hRT : fz_RT h) (hRE : fz_RE h) (i : Int) (hi : 0 ≤ i ∧ i + 6 ≤ h 200 100000 ∧ h 200 100000 ≤ 3072) {Q : fz_H → Option fz_V → Prop} (K : ∀ H : fz_H, fz_Gd H → H 200 = h 200 → fz_R 47 mLe 1816 [(3, fz_i i), (0, fz_r 200), (1, fz_r 0), (2, fz_r 53)] [] H Q) : fz_R 47 mLc24 1156 [(3, fz_i i), (0, fz_r 200), (1, fz_r 0), (2, fz_r 53)] [] h Q := by
  have hf : fz_fr fz_all h h := fz_fr_rf
  refine fz_aload_n kLc24 rfl rfl ?_
  refine fz_aload_n kLc24 rfl rfl ?_
  refine fz_iload_n kLc24 rfl rfl ?_
  refine fz_iconst ⟨by decide, by decide⟩ kLc24 rfl ?_
  refine fz_iaddN kLc24 rfl (by omega) ?_
  obtain ⟨a1, e2⟩ : ∃ z, h 200 ((i + 1)).toNat = z := ⟨_, rfl⟩
  refine fz_taldV (v := a1) kLc24 rfl ⟨by decide, by decide⟩ (by omega) (by omega) e2 ?_
  refine fz_aload_n kLc24 rfl rfl ?_
  refine fz_iload_n kLc24 rfl rfl ?_
  refine fz_iconst ⟨by decide, by decide⟩ kLc24 rfl ?_
  refine fz_iaddN kLc24 rfl (by omega) ?_
  obtain ⟨a3, e4⟩ : ∃ z, h 200 ((i + 2)).toNat = z := ⟨_, rfl⟩
  refine fz_taldV (v := a3) kLc24 rfl ⟨by decide, by decide⟩ (by omega) (by omega) e4 ?_
  refine fz_callV (d' := 2) (M' := mX10_news) (As := [fz_i a1, fz_i a3]) (st := []) kLc24 rfl rfl vX10_news rfl rfl rfl rfl (Nat.le_of_ble_eq_true rfl) (Nat.le_of_ble_eq_true rfl) (by decide) (sX10_news h hI a1 a3 ) (fun H5 r6 q7 o8 => ?_)
  obtain ⟨e9, y11, rfl, f10⟩ := q7
  subst H5
  clear o8
  refine fz_pop rfl kLc24 rfl ?_
  refine fz_aload_n kLc24 rfl rfl ?_
  refine fz_aload_n kLc24 rfl rfl ?_
  refine fz_iload_n kLc24 rfl rfl ?_
  refine fz_iconst ⟨by decide, by decide⟩ kLc24 rfl ?_
  refine fz_iaddN kLc24 rfl (by omega) ?_
  refine fz_taldV (v := a1) kLc24 rfl ⟨by decide, by decide⟩ (by omega) (by omega) e2 ?_
  refine fz_aload_n kLc24 rfl rfl ?_
  refine fz_iload_n kLc24 rfl rfl ?_
  refine fz_iconst ⟨by decide, by decide⟩ kLc24 rfl ?_
  refine fz_iaddN kLc24 rfl (by omega) ?_
  refine fz_taldV (v := a3) kLc24 rfl ⟨by decide, by decide⟩ (by omega) (by omega) e4 ?_
  refine fz_callV (d' := 3) (M' := mX11_news) (As := [fz_i a1, fz_i a3]) (st := []) kLc24 rfl rfl vX11_news rfl rfl rfl rfl (Nat.le_of_ble_eq_true rfl) (Nat.le_of_ble_eq_true rfl) (by decide) (sX11_news h hI a1 a3 ) (fun H12 r13 q14 o15 => ?_)
  obtain ⟨hI16, hf17, y19, rfl, f18⟩ := q14
  clear o15
  have hf20 := fz_fr_tr hf hf17 (fz_su_all rfl)
  have hXd21 : fz_Xd H12 := fz_Xd_eq (funext fun s => hf17 80 s rfl) hXd
  have hXh22 : fz_Xh H12 := fz_Xh_eq (funext fun s => hf17 83 s rfl) hXh
  have hXw23 : fz_Xw H12 := fz_Xw_eq (hf17 53 19 rfl) (funext fun s => hf17 66 s rfl) (funext fun s => hf17 67 s rfl) (funext fun s => hf17 68 s rfl) (funext fun s => hf17 69 s rfl) hXw
  have hRS24 : fz_RS H12 := fz_RS_eq (funext fun s => hf17 48 s rfl) (funext fun s => hf17 49 s rfl) (funext fun s => hf17 50 s rfl) (funext fun s => hf17 51 s rfl) (funext fun s => hf17 83 s rfl) (funext fun s => hf17 84 s rfl) (hf17 44 2 rfl) hRS
  have hRP25 : fz_RP H12 := fz_RP_eq (funext fun s => hf17 52 s rfl) (funext fun s => hf17 85 s rfl) hRP
  have hRK26 : fz_RK H12 := fz_RK_eq (funext fun s => hf17 45 s rfl) (funext fun s => hf17 81 s rfl) hRK
  have hRR27 : fz_RR H12 := fz_RR_eq (hf17 44 3 rfl) (hf17 53 46 rfl) (funext fun s => hf17 46 s rfl) (funext fun s => hf17 82 s rfl) hRR
  have hRT28 : fz_RT H12 := fz_RT_eq (funext fun s => hf17 41 s rfl) (funext fun s => hf17 42 s rfl) (hf17 1 7 rfl) hRT
  have hRE29 : fz_RE H12 := fz_RE_eq (funext fun s => hf17 5 s rfl) (funext fun s => hf17 6 s rfl) (hf17 1 8 rfl) (hf17 1 7 rfl) hRE
  have hX30 : fz_Xc H12 := fz_Xc_fr hf17 rfl hX
  have t31 : H12 53 10 = h 53 10 := hf17 53 10 rfl
  have t32 : H12 53 41 = h 53 41 := hf17 53 41 rfl
  have t33 : H12 53 42 = h 53 42 := hf17 53 42 rfl
  have t34 : H12 9 5 = h 9 5 := hf17 9 5 rfl
  have t35 : H12 53 10 = h 53 10 := hf17 53 10 rfl
  have t36 : H12 44 2 = h 44 2 := hf17 44 2 rfl
  have t37 : H12 53 44 = h 53 44 := hf17 53 44 rfl
  have t38 : H12 20 2 = h 20 2 := hf17 20 2 rfl
  have t39 : H12 53 16 = h 53 16 := hf17 53 16 rfl
  have t40 : H12 1 7 = h 1 7 := hf17 1 7 rfl
  have t41 : H12 53 0 = h 53 0 := hf17 53 0 rfl
  have t42 : H12 1 8 = h 1 8 := hf17 1 8 rfl
  have t43 : H12 53 2 = h 53 2 := hf17 53 2 rfl
  refine fz_pop rfl kLc24 rfl ?_
  refine fz_goto (tgt := 1816) kLc24 rfl (by decide) ?_
  exact K H12 ⟨hI16, hX30, hXd21, hXh22, hXw23, by omega, by omega, by omega, by omega, by omega, by omega, by omega, hRS24, hRP25, hRK26, hRR27, hRT28, hRE29⟩ (funext fun s => hf20 200 s rfl)
def mLc25 : fz_M := (yL_law, code, 4, (some .boolean), [(1189, .aload_n 1, 1, 0, 0, 0), (1190, .aload_n 0, 1, 0, 0, 0), (1191, .iload_n 3, 1, 0, 0, 0), (1192, .iconst 1, 1, 0, 0, 0), (1193, .iadd, 1, 0, 0, 0), (1194, .iaload, 1, 0, 0, 0), (1195, .aload_n 0, 1, 0, 0, 0), (1196, .iload_n 3, 1, 0, 0, 0), (1197, .iconst 2, 1, 0, 0, 0), (1198, .iadd, 1, 0, 0, 0), (1199, .iaload, 1, 0, 0, 0), (1200, .aload_n 0, 1, 0, 0, 0), (1201, .iload_n 3, 1, 0, 0, 0), (1202, .iconst 3, 1, 0, 0, 0), (1203, .iadd, 1, 0, 0, 0), (1204, .iaload, 1, 0, 0, 0), (1205, .invokevirtual 118, 3, 4133, 36, 0), (1208, .pop2, 1, 0, 0, 0), (1209, .aload_n 2, 1, 0, 0, 0), (1210, .aload_n 0, 1, 0, 0, 0), (1211, .iload_n 3, 1, 0, 0, 0), (1212, .iconst 1, 1, 0, 0, 0), (1213, .iadd, 1, 0, 0, 0), (1214, .iaload, 1, 0, 0, 0), (1215, .aload_n 0, 1, 0, 0, 0), (1216, .iload_n 3, 1, 0, 0, 0), (1217, .iconst 2, 1, 0, 0, 0), (1218, .iadd, 1, 0, 0, 0), (1219, .iaload, 1, 0, 0, 0), (1220, .aload_n 0, 1, 0, 0, 0), (1221, .iload_n 3, 1, 0, 0, 0), (1222, .iconst 3, 1, 0, 0, 0), (1223, .iadd, 1, 0, 0, 0), (1224, .iaload, 1, 0, 0, 0), (1225, .invokevirtual 122, 3, 7098, 105, 0), (1228, .pop2, 1, 0, 0, 0), (1229, .goto 587, 3, 0, 0, 0)])
set_option maxRecDepth 100000 in
theorem kLc25 : fz_okM mLc25 = true := by decide +kernel
set_option maxHeartbeats 1000000 in
set_option maxRecDepth 100000 in
theorem lc25 (h : fz_H) (hI : fz_Iv h) (hX : fz_Xc h) (hXd : fz_Xd h) (hXh : fz_Xh h) (hXw : fz_Xw h) (hv1 : h 53 10 ≤ 10) (hv2 : h 53 42 ≤ h 53 41) (hr0 : h 9 5 = h 53 10) (hr1 : h 44 2 = h 53 44) (hr2 : h 20 2 = h 53 16) (hr3 : h 1 7 = h 53 0) (hr4 : h 1 8 = h 53 2) (hRS : fz_RS h) (hRP : fz_RP h) (hRK : fz_RK h) (hRR : fz_RR h) (hRT : fz_RT h) (hRE : fz_RE h) (i : Int) (hi : 0 ≤ i ∧ i + 6 ≤ h 200 100000 ∧ h 200 100000 ≤ 3072) {Q : fz_H → Option fz_V → Prop} (K : ∀ H : fz_H, fz_Gd H → H 200 = h 200 → fz_R 47 mLe 1816 [(3, fz_i i), (0, fz_r 200), (1, fz_r 0), (2, fz_r 53)] [] H Q) : fz_R 47 mLc25 1189 [(3, fz_i i), (0, fz_r 200), (1, fz_r 0), (2, fz_r 53)] [] h Q := by
  have hf : fz_fr fz_all h h := fz_fr_rf
  refine fz_aload_n kLc25 rfl rfl ?_
  refine fz_aload_n kLc25 rfl rfl ?_
  refine fz_iload_n kLc25 rfl rfl ?_
  refine fz_iconst ⟨by decide, by decide⟩ kLc25 rfl ?_
  refine fz_iaddN kLc25 rfl (by omega) ?_
  obtain ⟨a1, e2⟩ : ∃ z, h 200 ((i + 1)).toNat = z := ⟨_, rfl⟩
  refine fz_taldV (v := a1) kLc25 rfl ⟨by decide, by decide⟩ (by omega) (by omega) e2 ?_
  refine fz_aload_n kLc25 rfl rfl ?_
  refine fz_iload_n kLc25 rfl rfl ?_
  refine fz_iconst ⟨by decide, by decide⟩ kLc25 rfl ?_
  refine fz_iaddN kLc25 rfl (by omega) ?_
  obtain ⟨a3, e4⟩ : ∃ z, h 200 ((i + 2)).toNat = z := ⟨_, rfl⟩
  refine fz_taldV (v := a3) kLc25 rfl ⟨by decide, by decide⟩ (by omega) (by omega) e4 ?_
  refine fz_aload_n kLc25 rfl rfl ?_
  refine fz_iload_n kLc25 rfl rfl ?_
  refine fz_iconst ⟨by decide, by decide⟩ kLc25 rfl ?_
  refine fz_iaddN kLc25 rfl (by omega) ?_
  obtain ⟨a5, e6⟩ : ∃ z, h 200 ((i + 3)).toNat = z := ⟨_, rfl⟩
  refine fz_taldV (v := a5) kLc25 rfl ⟨by decide, by decide⟩ (by omega) (by omega) e6 ?_
  refine fz_callV (d' := 2) (M' := mX10_garbled) (As := [fz_i a1, fz_i a3, fz_i a5]) (st := []) kLc25 rfl rfl vX10_garbled rfl rfl rfl rfl (Nat.le_of_ble_eq_true rfl) (Nat.le_of_ble_eq_true rfl) (by decide) (sX10_garbled h hI a1 a3 a5 ) (fun H7 r8 q9 o10 => ?_)
  obtain ⟨hI11, hf12, y14, rfl, f13⟩ := q9
  clear o10
  have hf15 := fz_fr_tr hf hf12 (fz_su_all rfl)
  have hXd16 : fz_Xd H7 := fz_Xd_eq (funext fun s => hf12 80 s rfl) hXd
  have hXh17 : fz_Xh H7 := fz_Xh_eq (funext fun s => hf12 83 s rfl) hXh
  have hXw18 : fz_Xw H7 := fz_Xw_eq (hf12 53 19 rfl) (funext fun s => hf12 66 s rfl) (funext fun s => hf12 67 s rfl) (funext fun s => hf12 68 s rfl) (funext fun s => hf12 69 s rfl) hXw
  have hRS19 : fz_RS H7 := fz_RS_eq (funext fun s => hf12 48 s rfl) (funext fun s => hf12 49 s rfl) (funext fun s => hf12 50 s rfl) (funext fun s => hf12 51 s rfl) (funext fun s => hf12 83 s rfl) (funext fun s => hf12 84 s rfl) (hf12 44 2 rfl) hRS
  have hRP20 : fz_RP H7 := fz_RP_eq (funext fun s => hf12 52 s rfl) (funext fun s => hf12 85 s rfl) hRP
  have hRK21 : fz_RK H7 := fz_RK_eq (funext fun s => hf12 45 s rfl) (funext fun s => hf12 81 s rfl) hRK
  have hRR22 : fz_RR H7 := fz_RR_eq (hf12 44 3 rfl) (hf12 53 46 rfl) (funext fun s => hf12 46 s rfl) (funext fun s => hf12 82 s rfl) hRR
  have hRT23 : fz_RT H7 := fz_RT_eq (funext fun s => hf12 41 s rfl) (funext fun s => hf12 42 s rfl) (hf12 1 7 rfl) hRT
  have hRE24 : fz_RE H7 := fz_RE_eq (funext fun s => hf12 5 s rfl) (funext fun s => hf12 6 s rfl) (hf12 1 8 rfl) (hf12 1 7 rfl) hRE
  have hX25 : fz_Xc H7 := fz_Xc_fr hf12 rfl hX
  have t26 : H7 53 10 = h 53 10 := hf12 53 10 rfl
  have t27 : H7 53 41 = h 53 41 := hf12 53 41 rfl
  have t28 : H7 53 42 = h 53 42 := hf12 53 42 rfl
  have t29 : H7 9 5 = h 9 5 := hf12 9 5 rfl
  have t30 : H7 53 10 = h 53 10 := hf12 53 10 rfl
  have t31 : H7 44 2 = h 44 2 := hf12 44 2 rfl
  have t32 : H7 53 44 = h 53 44 := hf12 53 44 rfl
  have t33 : H7 20 2 = h 20 2 := hf12 20 2 rfl
  have t34 : H7 53 16 = h 53 16 := hf12 53 16 rfl
  have t35 : H7 1 7 = h 1 7 := hf12 1 7 rfl
  have t36 : H7 53 0 = h 53 0 := hf12 53 0 rfl
  have t37 : H7 1 8 = h 1 8 := hf12 1 8 rfl
  have t38 : H7 53 2 = h 53 2 := hf12 53 2 rfl
  refine fz_pop2 kLc25 rfl ?_
  refine fz_aload_n kLc25 rfl rfl ?_
  refine fz_aload_n kLc25 rfl rfl ?_
  refine fz_iload_n kLc25 rfl rfl ?_
  refine fz_iconst ⟨by decide, by decide⟩ kLc25 rfl ?_
  refine fz_iaddN kLc25 rfl (by omega) ?_
  refine fz_taldV (v := a1) kLc25 rfl ⟨by decide, by decide⟩ (by omega) (by rw [hf15 200 _ rfl]; omega) ((hf15 200 _ rfl).trans e2) ?_
  refine fz_aload_n kLc25 rfl rfl ?_
  refine fz_iload_n kLc25 rfl rfl ?_
  refine fz_iconst ⟨by decide, by decide⟩ kLc25 rfl ?_
  refine fz_iaddN kLc25 rfl (by omega) ?_
  refine fz_taldV (v := a3) kLc25 rfl ⟨by decide, by decide⟩ (by omega) (by rw [hf15 200 _ rfl]; omega) ((hf15 200 _ rfl).trans e4) ?_
  refine fz_aload_n kLc25 rfl rfl ?_
  refine fz_iload_n kLc25 rfl rfl ?_
  refine fz_iconst ⟨by decide, by decide⟩ kLc25 rfl ?_
  refine fz_iaddN kLc25 rfl (by omega) ?_
  refine fz_taldV (v := a5) kLc25 rfl ⟨by decide, by decide⟩ (by omega) (by rw [hf15 200 _ rfl]; omega) ((hf15 200 _ rfl).trans e6) ?_
  refine fz_callV (d' := 3) (M' := mX11_garbled) (As := [fz_i a1, fz_i a3, fz_i a5]) (st := []) kLc25 rfl rfl vX11_garbled rfl rfl rfl rfl (Nat.le_of_ble_eq_true rfl) (Nat.le_of_ble_eq_true rfl) (by decide) (sX11_garbled H7 hI11 a1 a3 a5 ) (fun H39 r40 q41 o42 => ?_)
  obtain ⟨hI43, hf44, y46, rfl, f45⟩ := q41
  clear o42
  have hf47 := fz_fr_tr hf15 hf44 (fz_su_all rfl)
  have hXd48 : fz_Xd H39 := fz_Xd_eq (funext fun s => hf44 80 s rfl) hXd16
  have hXh49 : fz_Xh H39 := fz_Xh_eq (funext fun s => hf44 83 s rfl) hXh17
  have hXw50 : fz_Xw H39 := fz_Xw_eq (hf44 53 19 rfl) (funext fun s => hf44 66 s rfl) (funext fun s => hf44 67 s rfl) (funext fun s => hf44 68 s rfl) (funext fun s => hf44 69 s rfl) hXw18
  have hRS51 : fz_RS H39 := fz_RS_eq (funext fun s => hf44 48 s rfl) (funext fun s => hf44 49 s rfl) (funext fun s => hf44 50 s rfl) (funext fun s => hf44 51 s rfl) (funext fun s => hf44 83 s rfl) (funext fun s => hf44 84 s rfl) (hf44 44 2 rfl) hRS19
  have hRP52 : fz_RP H39 := fz_RP_eq (funext fun s => hf44 52 s rfl) (funext fun s => hf44 85 s rfl) hRP20
  have hRK53 : fz_RK H39 := fz_RK_eq (funext fun s => hf44 45 s rfl) (funext fun s => hf44 81 s rfl) hRK21
  have hRR54 : fz_RR H39 := fz_RR_eq (hf44 44 3 rfl) (hf44 53 46 rfl) (funext fun s => hf44 46 s rfl) (funext fun s => hf44 82 s rfl) hRR22
  have hRT55 : fz_RT H39 := fz_RT_eq (funext fun s => hf44 41 s rfl) (funext fun s => hf44 42 s rfl) (hf44 1 7 rfl) hRT23
  have hRE56 : fz_RE H39 := fz_RE_eq (funext fun s => hf44 5 s rfl) (funext fun s => hf44 6 s rfl) (hf44 1 8 rfl) (hf44 1 7 rfl) hRE24
  have hX57 : fz_Xc H39 := fz_Xc_fr hf44 rfl hX25
  have t58 : H39 53 10 = H7 53 10 := hf44 53 10 rfl
  have t59 : H39 53 41 = H7 53 41 := hf44 53 41 rfl
  have t60 : H39 53 42 = H7 53 42 := hf44 53 42 rfl
  have t61 : H39 9 5 = H7 9 5 := hf44 9 5 rfl
  have t62 : H39 53 10 = H7 53 10 := hf44 53 10 rfl
  have t63 : H39 44 2 = H7 44 2 := hf44 44 2 rfl
  have t64 : H39 53 44 = H7 53 44 := hf44 53 44 rfl
  have t65 : H39 20 2 = H7 20 2 := hf44 20 2 rfl
  have t66 : H39 53 16 = H7 53 16 := hf44 53 16 rfl
  have t67 : H39 1 7 = H7 1 7 := hf44 1 7 rfl
  have t68 : H39 53 0 = H7 53 0 := hf44 53 0 rfl
  have t69 : H39 1 8 = H7 1 8 := hf44 1 8 rfl
  have t70 : H39 53 2 = H7 53 2 := hf44 53 2 rfl
  refine fz_pop2 kLc25 rfl ?_
  refine fz_goto (tgt := 1816) kLc25 rfl (by decide) ?_
  exact K H39 ⟨hI43, hX57, hXd48, hXh49, hXw50, by omega, by omega, by omega, by omega, by omega, by omega, by omega, hRS51, hRP52, hRK53, hRR54, hRT55, hRE56⟩ (funext fun s => hf47 200 s rfl)
def mLc26 : fz_M := (yL_law, code, 4, (some .boolean), [(1232, .aload_n 1, 1, 0, 0, 0), (1233, .aload_n 0, 1, 0, 0, 0), (1234, .iload_n 3, 1, 0, 0, 0), (1235, .iconst 1, 1, 0, 0, 0), (1236, .iadd, 1, 0, 0, 0), (1237, .iaload, 1, 0, 0, 0), (1238, .aload_n 0, 1, 0, 0, 0), (1239, .iload_n 3, 1, 0, 0, 0), (1240, .iconst 2, 1, 0, 0, 0), (1241, .iadd, 1, 0, 0, 0), (1242, .iaload, 1, 0, 0, 0), (1243, .aload_n 0, 1, 0, 0, 0), (1244, .iload_n 3, 1, 0, 0, 0), (1245, .iconst 3, 1, 0, 0, 0), (1246, .iadd, 1, 0, 0, 0), (1247, .iaload, 1, 0, 0, 0), (1248, .aload_n 0, 1, 0, 0, 0), (1249, .iload_n 3, 1, 0, 0, 0), (1250, .iconst 4, 1, 0, 0, 0), (1251, .iadd, 1, 0, 0, 0), (1252, .iaload, 1, 0, 0, 0), (1253, .invokevirtual 123, 3, 4153, 28, 0), (1256, .pop, 1, 0, 0, 0), (1257, .aload_n 2, 1, 0, 0, 0), (1258, .aload_n 0, 1, 0, 0, 0), (1259, .iload_n 3, 1, 0, 0, 0), (1260, .iconst 1, 1, 0, 0, 0), (1261, .iadd, 1, 0, 0, 0), (1262, .iaload, 1, 0, 0, 0), (1263, .aload_n 0, 1, 0, 0, 0), (1264, .iload_n 3, 1, 0, 0, 0), (1265, .iconst 2, 1, 0, 0, 0), (1266, .iadd, 1, 0, 0, 0), (1267, .iaload, 1, 0, 0, 0), (1268, .aload_n 0, 1, 0, 0, 0), (1269, .iload_n 3, 1, 0, 0, 0), (1270, .iconst 3, 1, 0, 0, 0), (1271, .iadd, 1, 0, 0, 0), (1272, .iaload, 1, 0, 0, 0), (1273, .aload_n 0, 1, 0, 0, 0), (1274, .iload_n 3, 1, 0, 0, 0), (1275, .iconst 4, 1, 0, 0, 0), (1276, .iadd, 1, 0, 0, 0), (1277, .iaload, 1, 0, 0, 0), (1278, .invokevirtual 126, 3, 7108, 97, 0), (1281, .pop, 1, 0, 0, 0), (1282, .goto 534, 3, 0, 0, 0)])
set_option maxRecDepth 100000 in
theorem kLc26 : fz_okM mLc26 = true := by decide +kernel
set_option maxHeartbeats 1000000 in
set_option maxRecDepth 100000 in
theorem lc26 (h : fz_H) (hI : fz_Iv h) (hX : fz_Xc h) (hXd : fz_Xd h) (hXh : fz_Xh h) (hXw : fz_Xw h) (hv1 : h 53 10 ≤ 10) (hv2 : h 53 42 ≤ h 53 41) (hr0 : h 9 5 = h 53 10) (hr1 : h 44 2 = h 53 44) (hr2 : h 20 2 = h 53 16) (hr3 : h 1 7 = h 53 0) (hr4 : h 1 8 = h 53 2) (hRS : fz_RS h) (hRP : fz_RP h) (hRK : fz_RK h) (hRR : fz_RR h) (hRT : fz_RT h) (hRE : fz_RE h) (i : Int) (hi : 0 ≤ i ∧ i + 6 ≤ h 200 100000 ∧ h 200 100000 ≤ 3072) {Q : fz_H → Option fz_V → Prop} (K : ∀ H : fz_H, fz_Gd H → H 200 = h 200 → fz_R 47 mLe 1816 [(3, fz_i i), (0, fz_r 200), (1, fz_r 0), (2, fz_r 53)] [] H Q) : fz_R 47 mLc26 1232 [(3, fz_i i), (0, fz_r 200), (1, fz_r 0), (2, fz_r 53)] [] h Q := by
  have hf : fz_fr fz_all h h := fz_fr_rf
  refine fz_aload_n kLc26 rfl rfl ?_
  refine fz_aload_n kLc26 rfl rfl ?_
  refine fz_iload_n kLc26 rfl rfl ?_
  refine fz_iconst ⟨by decide, by decide⟩ kLc26 rfl ?_
  refine fz_iaddN kLc26 rfl (by omega) ?_
  obtain ⟨a1, e2⟩ : ∃ z, h 200 ((i + 1)).toNat = z := ⟨_, rfl⟩
  refine fz_taldV (v := a1) kLc26 rfl ⟨by decide, by decide⟩ (by omega) (by omega) e2 ?_
  refine fz_aload_n kLc26 rfl rfl ?_
  refine fz_iload_n kLc26 rfl rfl ?_
  refine fz_iconst ⟨by decide, by decide⟩ kLc26 rfl ?_
  refine fz_iaddN kLc26 rfl (by omega) ?_
  obtain ⟨a3, e4⟩ : ∃ z, h 200 ((i + 2)).toNat = z := ⟨_, rfl⟩
  refine fz_taldV (v := a3) kLc26 rfl ⟨by decide, by decide⟩ (by omega) (by omega) e4 ?_
  refine fz_aload_n kLc26 rfl rfl ?_
  refine fz_iload_n kLc26 rfl rfl ?_
  refine fz_iconst ⟨by decide, by decide⟩ kLc26 rfl ?_
  refine fz_iaddN kLc26 rfl (by omega) ?_
  obtain ⟨a5, e6⟩ : ∃ z, h 200 ((i + 3)).toNat = z := ⟨_, rfl⟩
  refine fz_taldV (v := a5) kLc26 rfl ⟨by decide, by decide⟩ (by omega) (by omega) e6 ?_
  refine fz_aload_n kLc26 rfl rfl ?_
  refine fz_iload_n kLc26 rfl rfl ?_
  refine fz_iconst ⟨by decide, by decide⟩ kLc26 rfl ?_
  refine fz_iaddN kLc26 rfl (by omega) ?_
  obtain ⟨a7, e8⟩ : ∃ z, h 200 ((i + 4)).toNat = z := ⟨_, rfl⟩
  refine fz_taldV (v := a7) kLc26 rfl ⟨by decide, by decide⟩ (by omega) (by omega) e8 ?_
  refine fz_callV (d' := 1) (M' := mX10_drawn) (As := [fz_i a1, fz_i a3, fz_i a5, fz_i a7]) (st := []) kLc26 rfl rfl vX10_drawn rfl rfl rfl rfl (Nat.le_of_ble_eq_true rfl) (Nat.le_of_ble_eq_true rfl) (by decide) (sX10_drawn h hI a1 a3 a5 a7 ) (fun H9 r10 q11 o12 => ?_)
  obtain ⟨e13, y15, rfl, f14⟩ := q11
  subst H9
  clear o12
  refine fz_pop rfl kLc26 rfl ?_
  refine fz_aload_n kLc26 rfl rfl ?_
  refine fz_aload_n kLc26 rfl rfl ?_
  refine fz_iload_n kLc26 rfl rfl ?_
  refine fz_iconst ⟨by decide, by decide⟩ kLc26 rfl ?_
  refine fz_iaddN kLc26 rfl (by omega) ?_
  refine fz_taldV (v := a1) kLc26 rfl ⟨by decide, by decide⟩ (by omega) (by omega) e2 ?_
  refine fz_aload_n kLc26 rfl rfl ?_
  refine fz_iload_n kLc26 rfl rfl ?_
  refine fz_iconst ⟨by decide, by decide⟩ kLc26 rfl ?_
  refine fz_iaddN kLc26 rfl (by omega) ?_
  refine fz_taldV (v := a3) kLc26 rfl ⟨by decide, by decide⟩ (by omega) (by omega) e4 ?_
  refine fz_aload_n kLc26 rfl rfl ?_
  refine fz_iload_n kLc26 rfl rfl ?_
  refine fz_iconst ⟨by decide, by decide⟩ kLc26 rfl ?_
  refine fz_iaddN kLc26 rfl (by omega) ?_
  refine fz_taldV (v := a5) kLc26 rfl ⟨by decide, by decide⟩ (by omega) (by omega) e6 ?_
  refine fz_aload_n kLc26 rfl rfl ?_
  refine fz_iload_n kLc26 rfl rfl ?_
  refine fz_iconst ⟨by decide, by decide⟩ kLc26 rfl ?_
  refine fz_iaddN kLc26 rfl (by omega) ?_
  refine fz_taldV (v := a7) kLc26 rfl ⟨by decide, by decide⟩ (by omega) (by omega) e8 ?_
  refine fz_callV (d' := 3) (M' := mX11_drawn) (As := [fz_i a1, fz_i a3, fz_i a5, fz_i a7]) (st := []) kLc26 rfl rfl vX11_drawn rfl rfl rfl rfl (Nat.le_of_ble_eq_true rfl) (Nat.le_of_ble_eq_true rfl) (by decide) (sX11_drawn h hI a1 a3 a5 a7 ) (fun H16 r17 q18 o19 => ?_)
  obtain ⟨hI20, hf21, y23, rfl, f22⟩ := q18
  clear o19
  have hf24 := fz_fr_tr hf hf21 (fz_su_all rfl)
  have hXd25 : fz_Xd H16 := fz_Xd_eq (funext fun s => hf21 80 s rfl) hXd
  have hXh26 : fz_Xh H16 := fz_Xh_eq (funext fun s => hf21 83 s rfl) hXh
  have hXw27 : fz_Xw H16 := fz_Xw_eq (hf21 53 19 rfl) (funext fun s => hf21 66 s rfl) (funext fun s => hf21 67 s rfl) (funext fun s => hf21 68 s rfl) (funext fun s => hf21 69 s rfl) hXw
  have hRS28 : fz_RS H16 := fz_RS_eq (funext fun s => hf21 48 s rfl) (funext fun s => hf21 49 s rfl) (funext fun s => hf21 50 s rfl) (funext fun s => hf21 51 s rfl) (funext fun s => hf21 83 s rfl) (funext fun s => hf21 84 s rfl) (hf21 44 2 rfl) hRS
  have hRP29 : fz_RP H16 := fz_RP_eq (funext fun s => hf21 52 s rfl) (funext fun s => hf21 85 s rfl) hRP
  have hRK30 : fz_RK H16 := fz_RK_eq (funext fun s => hf21 45 s rfl) (funext fun s => hf21 81 s rfl) hRK
  have hRR31 : fz_RR H16 := fz_RR_eq (hf21 44 3 rfl) (hf21 53 46 rfl) (funext fun s => hf21 46 s rfl) (funext fun s => hf21 82 s rfl) hRR
  have hRT32 : fz_RT H16 := fz_RT_eq (funext fun s => hf21 41 s rfl) (funext fun s => hf21 42 s rfl) (hf21 1 7 rfl) hRT
  have hRE33 : fz_RE H16 := fz_RE_eq (funext fun s => hf21 5 s rfl) (funext fun s => hf21 6 s rfl) (hf21 1 8 rfl) (hf21 1 7 rfl) hRE
  have hX34 : fz_Xc H16 := fz_Xc_fr hf21 rfl hX
  have t35 : H16 53 10 = h 53 10 := hf21 53 10 rfl
  have t36 : H16 53 41 = h 53 41 := hf21 53 41 rfl
  have t37 : H16 53 42 = h 53 42 := hf21 53 42 rfl
  have t38 : H16 9 5 = h 9 5 := hf21 9 5 rfl
  have t39 : H16 53 10 = h 53 10 := hf21 53 10 rfl
  have t40 : H16 44 2 = h 44 2 := hf21 44 2 rfl
  have t41 : H16 53 44 = h 53 44 := hf21 53 44 rfl
  have t42 : H16 20 2 = h 20 2 := hf21 20 2 rfl
  have t43 : H16 53 16 = h 53 16 := hf21 53 16 rfl
  have t44 : H16 1 7 = h 1 7 := hf21 1 7 rfl
  have t45 : H16 53 0 = h 53 0 := hf21 53 0 rfl
  have t46 : H16 1 8 = h 1 8 := hf21 1 8 rfl
  have t47 : H16 53 2 = h 53 2 := hf21 53 2 rfl
  refine fz_pop rfl kLc26 rfl ?_
  refine fz_goto (tgt := 1816) kLc26 rfl (by decide) ?_
  exact K H16 ⟨hI20, hX34, hXd25, hXh26, hXw27, by omega, by omega, by omega, by omega, by omega, by omega, by omega, hRS28, hRP29, hRK30, hRR31, hRT32, hRE33⟩ (funext fun s => hf24 200 s rfl)
def mLc27 : fz_M := (yL_law, code, 4, (some .boolean), [(1285, .aload_n 1, 1, 0, 0, 0), (1286, .aload_n 0, 1, 0, 0, 0), (1287, .iload_n 3, 1, 0, 0, 0), (1288, .iconst 1, 1, 0, 0, 0), (1289, .iadd, 1, 0, 0, 0), (1290, .iaload, 1, 0, 0, 0), (1291, .aload_n 0, 1, 0, 0, 0), (1292, .iload_n 3, 1, 0, 0, 0), (1293, .iconst 2, 1, 0, 0, 0), (1294, .iadd, 1, 0, 0, 0), (1295, .iaload, 1, 0, 0, 0), (1296, .invokevirtual 127, 3, 4158, 77, 0), (1299, .pop, 1, 0, 0, 0), (1300, .aload_n 2, 1, 0, 0, 0), (1301, .aload_n 0, 1, 0, 0, 0), (1302, .iload_n 3, 1, 0, 0, 0), (1303, .iconst 1, 1, 0, 0, 0), (1304, .iadd, 1, 0, 0, 0), (1305, .iaload, 1, 0, 0, 0), (1306, .aload_n 0, 1, 0, 0, 0), (1307, .iload_n 3, 1, 0, 0, 0), (1308, .iconst 2, 1, 0, 0, 0), (1309, .iadd, 1, 0, 0, 0), (1310, .iaload, 1, 0, 0, 0), (1311, .invokevirtual 130, 3, 7113, 181, 0), (1314, .pop, 1, 0, 0, 0), (1315, .goto 501, 3, 0, 0, 0)])
set_option maxRecDepth 100000 in
theorem kLc27 : fz_okM mLc27 = true := by decide +kernel
set_option maxHeartbeats 1000000 in
set_option maxRecDepth 100000 in
theorem lc27 (h : fz_H) (hI : fz_Iv h) (hX : fz_Xc h) (hXd : fz_Xd h) (hXh : fz_Xh h) (hXw : fz_Xw h) (hv1 : h 53 10 ≤ 10) (hv2 : h 53 42 ≤ h 53 41) (hr0 : h 9 5 = h 53 10) (hr1 : h 44 2 = h 53 44) (hr2 : h 20 2 = h 53 16) (hr3 : h 1 7 = h 53 0) (hr4 : h 1 8 = h 53 2) (hRS : fz_RS h) (hRP : fz_RP h) (hRK : fz_RK h) (hRR : fz_RR h) (hRT : fz_RT h) (hRE : fz_RE h) (i : Int) (hi : 0 ≤ i ∧ i + 6 ≤ h 200 100000 ∧ h 200 100000 ≤ 3072) {Q : fz_H → Option fz_V → Prop} (K : ∀ H : fz_H, fz_Gd H → H 200 = h 200 → fz_R 47 mLe 1816 [(3, fz_i i), (0, fz_r 200), (1, fz_r 0), (2, fz_r 53)] [] H Q) : fz_R 47 mLc27 1285 [(3, fz_i i), (0, fz_r 200), (1, fz_r 0), (2, fz_r 53)] [] h Q := by
  have hf : fz_fr fz_all h h := fz_fr_rf
  refine fz_aload_n kLc27 rfl rfl ?_
  refine fz_aload_n kLc27 rfl rfl ?_
  refine fz_iload_n kLc27 rfl rfl ?_
  refine fz_iconst ⟨by decide, by decide⟩ kLc27 rfl ?_
  refine fz_iaddN kLc27 rfl (by omega) ?_
  obtain ⟨a1, e2⟩ : ∃ z, h 200 ((i + 1)).toNat = z := ⟨_, rfl⟩
  refine fz_taldV (v := a1) kLc27 rfl ⟨by decide, by decide⟩ (by omega) (by omega) e2 ?_
  refine fz_aload_n kLc27 rfl rfl ?_
  refine fz_iload_n kLc27 rfl rfl ?_
  refine fz_iconst ⟨by decide, by decide⟩ kLc27 rfl ?_
  refine fz_iaddN kLc27 rfl (by omega) ?_
  obtain ⟨a3, e4⟩ : ∃ z, h 200 ((i + 2)).toNat = z := ⟨_, rfl⟩
  refine fz_taldV (v := a3) kLc27 rfl ⟨by decide, by decide⟩ (by omega) (by omega) e4 ?_
  refine fz_callV (d' := 5) (M' := mX10_walk) (As := [fz_i a1, fz_i a3]) (st := []) kLc27 rfl rfl vX10_walk rfl rfl rfl rfl (Nat.le_of_ble_eq_true rfl) (Nat.le_of_ble_eq_true rfl) (by decide) (sX10_walk h hI a1 a3 hRT hRE) (fun H5 r6 q7 o8 => ?_)
  obtain ⟨hI9, hf10, hRT11, hRE12, y14, rfl, f13⟩ := q7
  clear o8
  have hf15 := fz_fr_tr hf hf10 (fz_su_all rfl)
  have hXd16 : fz_Xd H5 := fz_Xd_eq (funext fun s => hf10 80 s rfl) hXd
  have hXh17 : fz_Xh H5 := fz_Xh_eq (funext fun s => hf10 83 s rfl) hXh
  have hXw18 : fz_Xw H5 := fz_Xw_eq (hf10 53 19 rfl) (funext fun s => hf10 66 s rfl) (funext fun s => hf10 67 s rfl) (funext fun s => hf10 68 s rfl) (funext fun s => hf10 69 s rfl) hXw
  have hRS19 : fz_RS H5 := fz_RS_eq (funext fun s => hf10 48 s rfl) (funext fun s => hf10 49 s rfl) (funext fun s => hf10 50 s rfl) (funext fun s => hf10 51 s rfl) (funext fun s => hf10 83 s rfl) (funext fun s => hf10 84 s rfl) (hf10 44 2 rfl) hRS
  have hRP20 : fz_RP H5 := fz_RP_eq (funext fun s => hf10 52 s rfl) (funext fun s => hf10 85 s rfl) hRP
  have hRK21 : fz_RK H5 := fz_RK_eq (funext fun s => hf10 45 s rfl) (funext fun s => hf10 81 s rfl) hRK
  have hRR22 : fz_RR H5 := fz_RR_eq (hf10 44 3 rfl) (hf10 53 46 rfl) (funext fun s => hf10 46 s rfl) (funext fun s => hf10 82 s rfl) hRR
  have hX23 : fz_Xc H5 := fz_Xc_fr hf10 rfl hX
  have t24 : H5 53 10 = h 53 10 := hf10 53 10 rfl
  have t25 : H5 53 41 = h 53 41 := hf10 53 41 rfl
  have t26 : H5 53 42 = h 53 42 := hf10 53 42 rfl
  have t27 : H5 9 5 = h 9 5 := hf10 9 5 rfl
  have t28 : H5 53 10 = h 53 10 := hf10 53 10 rfl
  have t29 : H5 44 2 = h 44 2 := hf10 44 2 rfl
  have t30 : H5 53 44 = h 53 44 := hf10 53 44 rfl
  have t31 : H5 20 2 = h 20 2 := hf10 20 2 rfl
  have t32 : H5 53 16 = h 53 16 := hf10 53 16 rfl
  have t33 : H5 1 7 = h 1 7 := hf10 1 7 rfl
  have t34 : H5 53 0 = h 53 0 := hf10 53 0 rfl
  have t35 : H5 1 8 = h 1 8 := hf10 1 8 rfl
  have t36 : H5 53 2 = h 53 2 := hf10 53 2 rfl
  refine fz_pop rfl kLc27 rfl ?_
  refine fz_aload_n kLc27 rfl rfl ?_
  refine fz_aload_n kLc27 rfl rfl ?_
  refine fz_iload_n kLc27 rfl rfl ?_
  refine fz_iconst ⟨by decide, by decide⟩ kLc27 rfl ?_
  refine fz_iaddN kLc27 rfl (by omega) ?_
  refine fz_taldV (v := a1) kLc27 rfl ⟨by decide, by decide⟩ (by omega) (by rw [hf15 200 _ rfl]; omega) ((hf15 200 _ rfl).trans e2) ?_
  refine fz_aload_n kLc27 rfl rfl ?_
  refine fz_iload_n kLc27 rfl rfl ?_
  refine fz_iconst ⟨by decide, by decide⟩ kLc27 rfl ?_
  refine fz_iaddN kLc27 rfl (by omega) ?_
  refine fz_taldV (v := a3) kLc27 rfl ⟨by decide, by decide⟩ (by omega) (by rw [hf15 200 _ rfl]; omega) ((hf15 200 _ rfl).trans e4) ?_
  refine fz_callV (d' := 5) (M' := mX11_walk) (As := [fz_i a1, fz_i a3]) (st := []) kLc27 rfl rfl vX11_walk rfl rfl rfl rfl (Nat.le_of_ble_eq_true rfl) (Nat.le_of_ble_eq_true rfl) (by decide) (sX11_walk H5 hI9 a1 a3 hXw18) (fun H37 r38 q39 o40 => ?_)
  obtain ⟨hI41, hf42, hXw43, y45, rfl, f44⟩ := q39
  clear o40
  have hf46 := fz_fr_tr hf15 hf42 (fz_su_all rfl)
  have hXd47 : fz_Xd H37 := fz_Xd_eq (funext fun s => hf42 80 s rfl) hXd16
  have hXh48 : fz_Xh H37 := fz_Xh_eq (funext fun s => hf42 83 s rfl) hXh17
  have hRS49 : fz_RS H37 := fz_RS_eq (funext fun s => hf42 48 s rfl) (funext fun s => hf42 49 s rfl) (funext fun s => hf42 50 s rfl) (funext fun s => hf42 51 s rfl) (funext fun s => hf42 83 s rfl) (funext fun s => hf42 84 s rfl) (hf42 44 2 rfl) hRS19
  have hRP50 : fz_RP H37 := fz_RP_eq (funext fun s => hf42 52 s rfl) (funext fun s => hf42 85 s rfl) hRP20
  have hRK51 : fz_RK H37 := fz_RK_eq (funext fun s => hf42 45 s rfl) (funext fun s => hf42 81 s rfl) hRK21
  have hRR52 : fz_RR H37 := fz_RR_eq (hf42 44 3 rfl) (hf42 53 46 rfl) (funext fun s => hf42 46 s rfl) (funext fun s => hf42 82 s rfl) hRR22
  have hRT53 : fz_RT H37 := fz_RT_eq (funext fun s => hf42 41 s rfl) (funext fun s => hf42 42 s rfl) (hf42 1 7 rfl) hRT11
  have hRE54 : fz_RE H37 := fz_RE_eq (funext fun s => hf42 5 s rfl) (funext fun s => hf42 6 s rfl) (hf42 1 8 rfl) (hf42 1 7 rfl) hRE12
  have hX55 : fz_Xc H37 := fz_Xc_fr hf42 rfl hX23
  have t56 : H37 53 10 = H5 53 10 := hf42 53 10 rfl
  have t57 : H37 53 41 = H5 53 41 := hf42 53 41 rfl
  have t58 : H37 53 42 = H5 53 42 := hf42 53 42 rfl
  have t59 : H37 9 5 = H5 9 5 := hf42 9 5 rfl
  have t60 : H37 53 10 = H5 53 10 := hf42 53 10 rfl
  have t61 : H37 44 2 = H5 44 2 := hf42 44 2 rfl
  have t62 : H37 53 44 = H5 53 44 := hf42 53 44 rfl
  have t63 : H37 20 2 = H5 20 2 := hf42 20 2 rfl
  have t64 : H37 53 16 = H5 53 16 := hf42 53 16 rfl
  have t65 : H37 1 7 = H5 1 7 := hf42 1 7 rfl
  have t66 : H37 53 0 = H5 53 0 := hf42 53 0 rfl
  have t67 : H37 1 8 = H5 1 8 := hf42 1 8 rfl
  have t68 : H37 53 2 = H5 53 2 := hf42 53 2 rfl
  refine fz_pop rfl kLc27 rfl ?_
  refine fz_goto (tgt := 1816) kLc27 rfl (by decide) ?_
  exact K H37 ⟨hI41, hX55, hXd47, hXh48, hXw43, by omega, by omega, by omega, by omega, by omega, by omega, by omega, hRS49, hRP50, hRK51, hRR52, hRT53, hRE54⟩ (funext fun s => hf46 200 s rfl)
def mLc28 : fz_M := (yL_law, code, 4, (some .boolean), [(1318, .aload_n 1, 1, 0, 0, 0), (1319, .aload_n 0, 1, 0, 0, 0), (1320, .iload_n 3, 1, 0, 0, 0), (1321, .iconst 1, 1, 0, 0, 0), (1322, .iadd, 1, 0, 0, 0), (1323, .iaload, 1, 0, 0, 0), (1324, .aload_n 0, 1, 0, 0, 0), (1325, .iload_n 3, 1, 0, 0, 0), (1326, .iconst 2, 1, 0, 0, 0), (1327, .iadd, 1, 0, 0, 0), (1328, .iaload, 1, 0, 0, 0), (1329, .invokevirtual 131, 3, 4167, 27, 0), (1332, .pop, 1, 0, 0, 0), (1333, .aload_n 2, 1, 0, 0, 0), (1334, .aload_n 0, 1, 0, 0, 0), (1335, .iload_n 3, 1, 0, 0, 0), (1336, .iconst 1, 1, 0, 0, 0), (1337, .iadd, 1, 0, 0, 0), (1338, .iaload, 1, 0, 0, 0), (1339, .aload_n 0, 1, 0, 0, 0), (1340, .iload_n 3, 1, 0, 0, 0), (1341, .iconst 2, 1, 0, 0, 0), (1342, .iadd, 1, 0, 0, 0), (1343, .iaload, 1, 0, 0, 0), (1344, .invokevirtual 134, 3, 7117, 96, 0), (1347, .pop, 1, 0, 0, 0), (1348, .goto 468, 3, 0, 0, 0)])
set_option maxRecDepth 100000 in
theorem kLc28 : fz_okM mLc28 = true := by decide +kernel
set_option maxHeartbeats 1000000 in
set_option maxRecDepth 100000 in
theorem lc28 (h : fz_H) (hI : fz_Iv h) (hX : fz_Xc h) (hXd : fz_Xd h) (hXh : fz_Xh h) (hXw : fz_Xw h) (hv1 : h 53 10 ≤ 10) (hv2 : h 53 42 ≤ h 53 41) (hr0 : h 9 5 = h 53 10) (hr1 : h 44 2 = h 53 44) (hr2 : h 20 2 = h 53 16) (hr3 : h 1 7 = h 53 0) (hr4 : h 1 8 = h 53 2) (hRS : fz_RS h) (hRP : fz_RP h) (hRK : fz_RK h) (hRR : fz_RR h) (hRT : fz_RT h) (hRE : fz_RE h) (i : Int) (hi : 0 ≤ i ∧ i + 6 ≤ h 200 100000 ∧ h 200 100000 ≤ 3072) {Q : fz_H → Option fz_V → Prop} (K : ∀ H : fz_H, fz_Gd H → H 200 = h 200 → fz_R 47 mLe 1816 [(3, fz_i i), (0, fz_r 200), (1, fz_r 0), (2, fz_r 53)] [] H Q) : fz_R 47 mLc28 1318 [(3, fz_i i), (0, fz_r 200), (1, fz_r 0), (2, fz_r 53)] [] h Q := by
  have hf : fz_fr fz_all h h := fz_fr_rf
  refine fz_aload_n kLc28 rfl rfl ?_
  refine fz_aload_n kLc28 rfl rfl ?_
  refine fz_iload_n kLc28 rfl rfl ?_
  refine fz_iconst ⟨by decide, by decide⟩ kLc28 rfl ?_
  refine fz_iaddN kLc28 rfl (by omega) ?_
  obtain ⟨a1, e2⟩ : ∃ z, h 200 ((i + 1)).toNat = z := ⟨_, rfl⟩
  refine fz_taldV (v := a1) kLc28 rfl ⟨by decide, by decide⟩ (by omega) (by omega) e2 ?_
  refine fz_aload_n kLc28 rfl rfl ?_
  refine fz_iload_n kLc28 rfl rfl ?_
  refine fz_iconst ⟨by decide, by decide⟩ kLc28 rfl ?_
  refine fz_iaddN kLc28 rfl (by omega) ?_
  obtain ⟨a3, e4⟩ : ∃ z, h 200 ((i + 2)).toNat = z := ⟨_, rfl⟩
  refine fz_taldV (v := a3) kLc28 rfl ⟨by decide, by decide⟩ (by omega) (by omega) e4 ?_
  have b5 : 0 ≤ h 1 7 ∧ h 1 7 ≤ 8 := hI.1 1 _
  have b6 : 0 ≤ h 9 5 ∧ h 9 5 ≤ 10 := hI.1 9 _
  refine fz_callV (d' := 2) (M' := mX10_does) (As := [fz_i a1, fz_i a3]) (st := []) kLc28 rfl rfl vX10_does rfl rfl rfl rfl (Nat.le_of_ble_eq_true rfl) (Nat.le_of_ble_eq_true rfl) (by decide) (sX10_does h hI a1 a3 ) (fun H7 r8 q9 o10 => ?_)
  obtain ⟨hI11, hf12, y15, rfl, f13, f14⟩ := q9
  clear o10
  have hf16 := fz_fr_tr hf hf12 (fz_su_all rfl)
  have hXd17 : fz_Xd H7 := fz_Xd_eq (funext fun s => hf12 80 s rfl) hXd
  have hXh18 : fz_Xh H7 := fz_Xh_eq (funext fun s => hf12 83 s rfl) hXh
  have hXw19 : fz_Xw H7 := fz_Xw_eq (hf12 53 19 rfl) (funext fun s => hf12 66 s rfl) (funext fun s => hf12 67 s rfl) (funext fun s => hf12 68 s rfl) (funext fun s => hf12 69 s rfl) hXw
  have hRS20 : fz_RS H7 := fz_RS_eq (funext fun s => hf12 48 s rfl) (funext fun s => hf12 49 s rfl) (funext fun s => hf12 50 s rfl) (funext fun s => hf12 51 s rfl) (funext fun s => hf12 83 s rfl) (funext fun s => hf12 84 s rfl) (hf12 44 2 rfl) hRS
  have hRP21 : fz_RP H7 := fz_RP_eq (funext fun s => hf12 52 s rfl) (funext fun s => hf12 85 s rfl) hRP
  have hRK22 : fz_RK H7 := fz_RK_eq (funext fun s => hf12 45 s rfl) (funext fun s => hf12 81 s rfl) hRK
  have hRR23 : fz_RR H7 := fz_RR_eq (hf12 44 3 rfl) (hf12 53 46 rfl) (funext fun s => hf12 46 s rfl) (funext fun s => hf12 82 s rfl) hRR
  have hRT24 : fz_RT H7 := fz_RT_eq (funext fun s => hf12 41 s rfl) (funext fun s => hf12 42 s rfl) (hf12 1 7 rfl) hRT
  have hRE25 : fz_RE H7 := fz_RE_eq (funext fun s => hf12 5 s rfl) (funext fun s => hf12 6 s rfl) (hf12 1 8 rfl) (hf12 1 7 rfl) hRE
  have hX26 : fz_Xc H7 := fz_Xc_fr hf12 rfl hX
  have t27 : H7 53 10 = h 53 10 := hf12 53 10 rfl
  have t28 : H7 53 41 = h 53 41 := hf12 53 41 rfl
  have t29 : H7 53 42 = h 53 42 := hf12 53 42 rfl
  have t30 : H7 53 10 = h 53 10 := hf12 53 10 rfl
  have t31 : H7 44 2 = h 44 2 := hf12 44 2 rfl
  have t32 : H7 53 44 = h 53 44 := hf12 53 44 rfl
  have t33 : H7 20 2 = h 20 2 := hf12 20 2 rfl
  have t34 : H7 53 16 = h 53 16 := hf12 53 16 rfl
  have t35 : H7 1 7 = h 1 7 := hf12 1 7 rfl
  have t36 : H7 53 0 = h 53 0 := hf12 53 0 rfl
  have t37 : H7 1 8 = h 1 8 := hf12 1 8 rfl
  have t38 : H7 53 2 = h 53 2 := hf12 53 2 rfl
  refine fz_pop rfl kLc28 rfl ?_
  refine fz_aload_n kLc28 rfl rfl ?_
  refine fz_aload_n kLc28 rfl rfl ?_
  refine fz_iload_n kLc28 rfl rfl ?_
  refine fz_iconst ⟨by decide, by decide⟩ kLc28 rfl ?_
  refine fz_iaddN kLc28 rfl (by omega) ?_
  refine fz_taldV (v := a1) kLc28 rfl ⟨by decide, by decide⟩ (by omega) (by rw [hf16 200 _ rfl]; omega) ((hf16 200 _ rfl).trans e2) ?_
  refine fz_aload_n kLc28 rfl rfl ?_
  refine fz_iload_n kLc28 rfl rfl ?_
  refine fz_iconst ⟨by decide, by decide⟩ kLc28 rfl ?_
  refine fz_iaddN kLc28 rfl (by omega) ?_
  refine fz_taldV (v := a3) kLc28 rfl ⟨by decide, by decide⟩ (by omega) (by rw [hf16 200 _ rfl]; omega) ((hf16 200 _ rfl).trans e4) ?_
  have b39 : 0 ≤ H7 53 10 ∧ H7 53 10 ≤ 11 := hI11.1 53 _
  have b40 : 0 ≤ H7 53 0 ∧ H7 53 0 ≤ 8 := hI11.1 53 _
  refine fz_callV (d' := 3) (M' := mX11_does) (As := [fz_i a1, fz_i a3]) (st := []) kLc28 rfl rfl vX11_does rfl rfl rfl rfl (Nat.le_of_ble_eq_true rfl) (Nat.le_of_ble_eq_true rfl) (by decide) (sX11_does H7 hI11 a1 a3 (by omega)) (fun H41 r42 q43 o44 => ?_)
  obtain ⟨hI45, hf46, y50, rfl, f47, f48, f49⟩ := q43
  clear o44
  have hf51 := fz_fr_tr hf16 hf46 (fz_su_all rfl)
  have hXd52 : fz_Xd H41 := fz_Xd_eq (funext fun s => hf46 80 s rfl) hXd17
  have hXh53 : fz_Xh H41 := fz_Xh_eq (funext fun s => hf46 83 s rfl) hXh18
  have hXw54 : fz_Xw H41 := fz_Xw_eq (hf46 53 19 rfl) (funext fun s => hf46 66 s rfl) (funext fun s => hf46 67 s rfl) (funext fun s => hf46 68 s rfl) (funext fun s => hf46 69 s rfl) hXw19
  have hRS55 : fz_RS H41 := fz_RS_eq (funext fun s => hf46 48 s rfl) (funext fun s => hf46 49 s rfl) (funext fun s => hf46 50 s rfl) (funext fun s => hf46 51 s rfl) (funext fun s => hf46 83 s rfl) (funext fun s => hf46 84 s rfl) (hf46 44 2 rfl) hRS20
  have hRP56 : fz_RP H41 := fz_RP_eq (funext fun s => hf46 52 s rfl) (funext fun s => hf46 85 s rfl) hRP21
  have hRK57 : fz_RK H41 := fz_RK_eq (funext fun s => hf46 45 s rfl) (funext fun s => hf46 81 s rfl) hRK22
  have hRR58 : fz_RR H41 := fz_RR_eq (hf46 44 3 rfl) (hf46 53 46 rfl) (funext fun s => hf46 46 s rfl) (funext fun s => hf46 82 s rfl) hRR23
  have hRT59 : fz_RT H41 := fz_RT_eq (funext fun s => hf46 41 s rfl) (funext fun s => hf46 42 s rfl) (hf46 1 7 rfl) hRT24
  have hRE60 : fz_RE H41 := fz_RE_eq (funext fun s => hf46 5 s rfl) (funext fun s => hf46 6 s rfl) (hf46 1 8 rfl) (hf46 1 7 rfl) hRE25
  have hX61 : fz_Xc H41 := fz_Xc_fr hf46 rfl hX26
  have t62 : H41 53 41 = H7 53 41 := hf46 53 41 rfl
  have t63 : H41 53 42 = H7 53 42 := hf46 53 42 rfl
  have t64 : H41 9 5 = H7 9 5 := hf46 9 5 rfl
  have t65 : H41 44 2 = H7 44 2 := hf46 44 2 rfl
  have t66 : H41 53 44 = H7 53 44 := hf46 53 44 rfl
  have t67 : H41 20 2 = H7 20 2 := hf46 20 2 rfl
  have t68 : H41 53 16 = H7 53 16 := hf46 53 16 rfl
  have t69 : H41 1 7 = H7 1 7 := hf46 1 7 rfl
  have t70 : H41 53 0 = H7 53 0 := hf46 53 0 rfl
  have t71 : H41 1 8 = H7 1 8 := hf46 1 8 rfl
  have t72 : H41 53 2 = H7 53 2 := hf46 53 2 rfl
  refine fz_pop rfl kLc28 rfl ?_
  refine fz_goto (tgt := 1816) kLc28 rfl (by decide) ?_
  have k73 : 0 ≤ a1 ∧ a1 ≤ 39 → _ := fun z => fz_RT_i hRT (x := a1 / 10) (by omega)
  exact K H41 ⟨hI45, hX61, hXd52, hXh53, hXw54, by omega, by omega, by omega, by omega, by omega, by omega, by omega, hRS55, hRP56, hRK57, hRR58, hRT59, hRE60⟩ (funext fun s => hf51 200 s rfl)
def mLc29 : fz_M := (yL_law, code, 4, (some .boolean), [(1351, .aload_n 1, 1, 0, 0, 0), (1352, .aload_n 0, 1, 0, 0, 0), (1353, .iload_n 3, 1, 0, 0, 0), (1354, .iconst 1, 1, 0, 0, 0), (1355, .iadd, 1, 0, 0, 0), (1356, .iaload, 1, 0, 0, 0), (1357, .invokevirtual 135, 3, 4171, 54, 0), (1360, .pop, 1, 0, 0, 0), (1361, .aload_n 2, 1, 0, 0, 0), (1362, .aload_n 0, 1, 0, 0, 0), (1363, .iload_n 3, 1, 0, 0, 0), (1364, .iconst 1, 1, 0, 0, 0), (1365, .iadd, 1, 0, 0, 0), (1366, .iaload, 1, 0, 0, 0), (1367, .invokevirtual 138, 3, 7121, 146, 0), (1370, .pop, 1, 0, 0, 0), (1371, .goto 445, 3, 0, 0, 0)])
set_option maxRecDepth 100000 in
theorem kLc29 : fz_okM mLc29 = true := by decide +kernel
set_option maxHeartbeats 1000000 in
set_option maxRecDepth 100000 in
theorem lc29 (h : fz_H) (hI : fz_Iv h) (hX : fz_Xc h) (hXd : fz_Xd h) (hXh : fz_Xh h) (hXw : fz_Xw h) (hv1 : h 53 10 ≤ 10) (hv2 : h 53 42 ≤ h 53 41) (hr0 : h 9 5 = h 53 10) (hr1 : h 44 2 = h 53 44) (hr2 : h 20 2 = h 53 16) (hr3 : h 1 7 = h 53 0) (hr4 : h 1 8 = h 53 2) (hRS : fz_RS h) (hRP : fz_RP h) (hRK : fz_RK h) (hRR : fz_RR h) (hRT : fz_RT h) (hRE : fz_RE h) (i : Int) (hi : 0 ≤ i ∧ i + 6 ≤ h 200 100000 ∧ h 200 100000 ≤ 3072) {Q : fz_H → Option fz_V → Prop} (K : ∀ H : fz_H, fz_Gd H → H 200 = h 200 → fz_R 47 mLe 1816 [(3, fz_i i), (0, fz_r 200), (1, fz_r 0), (2, fz_r 53)] [] H Q) : fz_R 47 mLc29 1351 [(3, fz_i i), (0, fz_r 200), (1, fz_r 0), (2, fz_r 53)] [] h Q := by
  have hf : fz_fr fz_all h h := fz_fr_rf
  refine fz_aload_n kLc29 rfl rfl ?_
  refine fz_aload_n kLc29 rfl rfl ?_
  refine fz_iload_n kLc29 rfl rfl ?_
  refine fz_iconst ⟨by decide, by decide⟩ kLc29 rfl ?_
  refine fz_iaddN kLc29 rfl (by omega) ?_
  obtain ⟨a1, e2⟩ : ∃ z, h 200 ((i + 1)).toNat = z := ⟨_, rfl⟩
  refine fz_taldV (v := a1) kLc29 rfl ⟨by decide, by decide⟩ (by omega) (by omega) e2 ?_
  refine fz_callV (d' := 0) (M' := mX10_led) (As := [fz_i a1]) (st := []) kLc29 rfl rfl vX10_led rfl rfl rfl rfl (Nat.le_of_ble_eq_true rfl) (Nat.le_of_ble_eq_true rfl) (by decide) (sX10_led h hI a1 ) (fun H3 r4 q5 o6 => ?_)
  obtain ⟨e7, y9, rfl, f8⟩ := q5
  subst H3
  clear o6
  refine fz_pop rfl kLc29 rfl ?_
  refine fz_aload_n kLc29 rfl rfl ?_
  refine fz_aload_n kLc29 rfl rfl ?_
  refine fz_iload_n kLc29 rfl rfl ?_
  refine fz_iconst ⟨by decide, by decide⟩ kLc29 rfl ?_
  refine fz_iaddN kLc29 rfl (by omega) ?_
  refine fz_taldV (v := a1) kLc29 rfl ⟨by decide, by decide⟩ (by omega) (by omega) e2 ?_
  refine fz_callV (d' := 1) (M' := mX11_led) (As := [fz_i a1]) (st := []) kLc29 rfl rfl vX11_led rfl rfl rfl rfl (Nat.le_of_ble_eq_true rfl) (Nat.le_of_ble_eq_true rfl) (by decide) (sX11_led h hI a1 ) (fun H10 r11 q12 o13 => ?_)
  obtain ⟨e14, y16, rfl, f15⟩ := q12
  subst H10
  clear o13
  refine fz_pop rfl kLc29 rfl ?_
  refine fz_goto (tgt := 1816) kLc29 rfl (by decide) ?_
  exact K h ⟨hI, hX, hXd, hXh, hXw, by omega, by omega, by omega, by omega, by omega, by omega, by omega, hRS, hRP, hRK, hRR, hRT, hRE⟩ rfl
def mLc30 : fz_M := (yL_law, code, 4, (some .boolean), [(1374, .aload_n 1, 1, 0, 0, 0), (1375, .invokevirtual 139, 3, 4175, 39, 0), (1378, .pop, 1, 0, 0, 0), (1379, .aload_n 2, 1, 0, 0, 0), (1380, .invokevirtual 142, 3, 7125, 114, 0), (1383, .pop, 1, 0, 0, 0), (1384, .goto 432, 3, 0, 0, 0)])
set_option maxRecDepth 100000 in
theorem kLc30 : fz_okM mLc30 = true := by decide +kernel
set_option maxHeartbeats 1000000 in
set_option maxRecDepth 100000 in
theorem lc30 (h : fz_H) (hI : fz_Iv h) (hX : fz_Xc h) (hXd : fz_Xd h) (hXh : fz_Xh h) (hXw : fz_Xw h) (hv1 : h 53 10 ≤ 10) (hv2 : h 53 42 ≤ h 53 41) (hr0 : h 9 5 = h 53 10) (hr1 : h 44 2 = h 53 44) (hr2 : h 20 2 = h 53 16) (hr3 : h 1 7 = h 53 0) (hr4 : h 1 8 = h 53 2) (hRS : fz_RS h) (hRP : fz_RP h) (hRK : fz_RK h) (hRR : fz_RR h) (hRT : fz_RT h) (hRE : fz_RE h) (i : Int) (hi : 0 ≤ i ∧ i + 6 ≤ h 200 100000 ∧ h 200 100000 ≤ 3072) {Q : fz_H → Option fz_V → Prop} (K : ∀ H : fz_H, fz_Gd H → H 200 = h 200 → fz_R 47 mLe 1816 [(3, fz_i i), (0, fz_r 200), (1, fz_r 0), (2, fz_r 53)] [] H Q) : fz_R 47 mLc30 1374 [(3, fz_i i), (0, fz_r 200), (1, fz_r 0), (2, fz_r 53)] [] h Q := by
  have hf : fz_fr fz_all h h := fz_fr_rf
  refine fz_aload_n kLc30 rfl rfl ?_
  refine fz_callV (d' := 2) (M' := mX10_image) (As := []) (st := []) kLc30 rfl rfl vX10_image rfl rfl rfl rfl (Nat.le_of_ble_eq_true rfl) (Nat.le_of_ble_eq_true rfl) (by decide) (sX10_image h hI  hRT) (fun H1 r2 q3 o4 => ?_)
  obtain ⟨hI5, hf6, hRT7, y9, rfl, f8⟩ := q3
  clear o4
  have hf10 := fz_fr_tr hf hf6 (fz_su_all rfl)
  have hXd11 : fz_Xd H1 := fz_Xd_eq (funext fun s => hf6 80 s rfl) hXd
  have hXh12 : fz_Xh H1 := fz_Xh_eq (funext fun s => hf6 83 s rfl) hXh
  have hXw13 : fz_Xw H1 := fz_Xw_eq (hf6 53 19 rfl) (funext fun s => hf6 66 s rfl) (funext fun s => hf6 67 s rfl) (funext fun s => hf6 68 s rfl) (funext fun s => hf6 69 s rfl) hXw
  have hRS14 : fz_RS H1 := fz_RS_eq (funext fun s => hf6 48 s rfl) (funext fun s => hf6 49 s rfl) (funext fun s => hf6 50 s rfl) (funext fun s => hf6 51 s rfl) (funext fun s => hf6 83 s rfl) (funext fun s => hf6 84 s rfl) (hf6 44 2 rfl) hRS
  have hRP15 : fz_RP H1 := fz_RP_eq (funext fun s => hf6 52 s rfl) (funext fun s => hf6 85 s rfl) hRP
  have hRK16 : fz_RK H1 := fz_RK_eq (funext fun s => hf6 45 s rfl) (funext fun s => hf6 81 s rfl) hRK
  have hRR17 : fz_RR H1 := fz_RR_eq (hf6 44 3 rfl) (hf6 53 46 rfl) (funext fun s => hf6 46 s rfl) (funext fun s => hf6 82 s rfl) hRR
  have hRE18 : fz_RE H1 := fz_RE_eq (funext fun s => hf6 5 s rfl) (funext fun s => hf6 6 s rfl) (hf6 1 8 rfl) (hf6 1 7 rfl) hRE
  have hX19 : fz_Xc H1 := fz_Xc_fr hf6 rfl hX
  have t20 : H1 53 10 = h 53 10 := hf6 53 10 rfl
  have t21 : H1 53 41 = h 53 41 := hf6 53 41 rfl
  have t22 : H1 53 42 = h 53 42 := hf6 53 42 rfl
  have t23 : H1 9 5 = h 9 5 := hf6 9 5 rfl
  have t24 : H1 53 10 = h 53 10 := hf6 53 10 rfl
  have t25 : H1 44 2 = h 44 2 := hf6 44 2 rfl
  have t26 : H1 53 44 = h 53 44 := hf6 53 44 rfl
  have t27 : H1 20 2 = h 20 2 := hf6 20 2 rfl
  have t28 : H1 53 16 = h 53 16 := hf6 53 16 rfl
  have t29 : H1 1 7 = h 1 7 := hf6 1 7 rfl
  have t30 : H1 53 0 = h 53 0 := hf6 53 0 rfl
  have t31 : H1 1 8 = h 1 8 := hf6 1 8 rfl
  have t32 : H1 53 2 = h 53 2 := hf6 53 2 rfl
  refine fz_pop rfl kLc30 rfl ?_
  refine fz_aload_n kLc30 rfl rfl ?_
  refine fz_callV (d' := 0) (M' := mX11_image) (As := []) (st := []) kLc30 rfl rfl vX11_image rfl rfl rfl rfl (Nat.le_of_ble_eq_true rfl) (Nat.le_of_ble_eq_true rfl) (by decide) (sX11_image H1 hI5  ) (fun H33 r34 q35 o36 => ?_)
  obtain ⟨hI37, hf38, y40, rfl, f39⟩ := q35
  clear o36
  have hf41 := fz_fr_tr hf10 hf38 (fz_su_all rfl)
  have hXd42 : fz_Xd H33 := fz_Xd_eq (funext fun s => hf38 80 s rfl) hXd11
  have hXh43 : fz_Xh H33 := fz_Xh_eq (funext fun s => hf38 83 s rfl) hXh12
  have hXw44 : fz_Xw H33 := fz_Xw_eq (hf38 53 19 rfl) (funext fun s => hf38 66 s rfl) (funext fun s => hf38 67 s rfl) (funext fun s => hf38 68 s rfl) (funext fun s => hf38 69 s rfl) hXw13
  have hRS45 : fz_RS H33 := fz_RS_eq (funext fun s => hf38 48 s rfl) (funext fun s => hf38 49 s rfl) (funext fun s => hf38 50 s rfl) (funext fun s => hf38 51 s rfl) (funext fun s => hf38 83 s rfl) (funext fun s => hf38 84 s rfl) (hf38 44 2 rfl) hRS14
  have hRP46 : fz_RP H33 := fz_RP_eq (funext fun s => hf38 52 s rfl) (funext fun s => hf38 85 s rfl) hRP15
  have hRK47 : fz_RK H33 := fz_RK_eq (funext fun s => hf38 45 s rfl) (funext fun s => hf38 81 s rfl) hRK16
  have hRR48 : fz_RR H33 := fz_RR_eq (hf38 44 3 rfl) (hf38 53 46 rfl) (funext fun s => hf38 46 s rfl) (funext fun s => hf38 82 s rfl) hRR17
  have hRT49 : fz_RT H33 := fz_RT_eq (funext fun s => hf38 41 s rfl) (funext fun s => hf38 42 s rfl) (hf38 1 7 rfl) hRT7
  have hRE50 : fz_RE H33 := fz_RE_eq (funext fun s => hf38 5 s rfl) (funext fun s => hf38 6 s rfl) (hf38 1 8 rfl) (hf38 1 7 rfl) hRE18
  have hX51 : fz_Xc H33 := fz_Xc_fr hf38 rfl hX19
  have t52 : H33 53 10 = H1 53 10 := hf38 53 10 rfl
  have t53 : H33 53 41 = H1 53 41 := hf38 53 41 rfl
  have t54 : H33 53 42 = H1 53 42 := hf38 53 42 rfl
  have t55 : H33 9 5 = H1 9 5 := hf38 9 5 rfl
  have t56 : H33 53 10 = H1 53 10 := hf38 53 10 rfl
  have t57 : H33 44 2 = H1 44 2 := hf38 44 2 rfl
  have t58 : H33 53 44 = H1 53 44 := hf38 53 44 rfl
  have t59 : H33 20 2 = H1 20 2 := hf38 20 2 rfl
  have t60 : H33 53 16 = H1 53 16 := hf38 53 16 rfl
  have t61 : H33 1 7 = H1 1 7 := hf38 1 7 rfl
  have t62 : H33 53 0 = H1 53 0 := hf38 53 0 rfl
  have t63 : H33 1 8 = H1 1 8 := hf38 1 8 rfl
  have t64 : H33 53 2 = H1 53 2 := hf38 53 2 rfl
  refine fz_pop rfl kLc30 rfl ?_
  refine fz_goto (tgt := 1816) kLc30 rfl (by decide) ?_
  exact K H33 ⟨hI37, hX51, hXd42, hXh43, hXw44, by omega, by omega, by omega, by omega, by omega, by omega, by omega, hRS45, hRP46, hRK47, hRR48, hRT49, hRE50⟩ (funext fun s => hf41 200 s rfl)
def mLc31 : fz_M := (yL_law, code, 4, (some .boolean), [(1387, .aload_n 1, 1, 0, 0, 0), (1388, .invokevirtual 143, 3, 4184, 19, 0), (1391, .pop, 1, 0, 0, 0), (1392, .aload_n 2, 1, 0, 0, 0), (1393, .invokevirtual 146, 3, 7129, 86, 0), (1396, .pop, 1, 0, 0, 0), (1397, .goto 419, 3, 0, 0, 0)])
set_option maxRecDepth 100000 in
theorem kLc31 : fz_okM mLc31 = true := by decide +kernel
set_option maxHeartbeats 1000000 in
set_option maxRecDepth 100000 in
theorem lc31 (h : fz_H) (hI : fz_Iv h) (hX : fz_Xc h) (hXd : fz_Xd h) (hXh : fz_Xh h) (hXw : fz_Xw h) (hv1 : h 53 10 ≤ 10) (hv2 : h 53 42 ≤ h 53 41) (hr0 : h 9 5 = h 53 10) (hr1 : h 44 2 = h 53 44) (hr2 : h 20 2 = h 53 16) (hr3 : h 1 7 = h 53 0) (hr4 : h 1 8 = h 53 2) (hRS : fz_RS h) (hRP : fz_RP h) (hRK : fz_RK h) (hRR : fz_RR h) (hRT : fz_RT h) (hRE : fz_RE h) (i : Int) (hi : 0 ≤ i ∧ i + 6 ≤ h 200 100000 ∧ h 200 100000 ≤ 3072) {Q : fz_H → Option fz_V → Prop} (K : ∀ H : fz_H, fz_Gd H → H 200 = h 200 → fz_R 47 mLe 1816 [(3, fz_i i), (0, fz_r 200), (1, fz_r 0), (2, fz_r 53)] [] H Q) : fz_R 47 mLc31 1387 [(3, fz_i i), (0, fz_r 200), (1, fz_r 0), (2, fz_r 53)] [] h Q := by
  have hf : fz_fr fz_all h h := fz_fr_rf
  refine fz_aload_n kLc31 rfl rfl ?_
  refine fz_callV (d' := 2) (M' := mX10_back) (As := []) (st := []) kLc31 rfl rfl vX10_back rfl rfl rfl rfl (Nat.le_of_ble_eq_true rfl) (Nat.le_of_ble_eq_true rfl) (by decide) (sX10_back h hI  hRT) (fun H1 r2 q3 o4 => ?_)
  obtain ⟨hI5, hf6, hRT7, y9, rfl, f8⟩ := q3
  clear o4
  have hf10 := fz_fr_tr hf hf6 (fz_su_all rfl)
  have hXd11 : fz_Xd H1 := fz_Xd_eq (funext fun s => hf6 80 s rfl) hXd
  have hXh12 : fz_Xh H1 := fz_Xh_eq (funext fun s => hf6 83 s rfl) hXh
  have hXw13 : fz_Xw H1 := fz_Xw_eq (hf6 53 19 rfl) (funext fun s => hf6 66 s rfl) (funext fun s => hf6 67 s rfl) (funext fun s => hf6 68 s rfl) (funext fun s => hf6 69 s rfl) hXw
  have hRS14 : fz_RS H1 := fz_RS_eq (funext fun s => hf6 48 s rfl) (funext fun s => hf6 49 s rfl) (funext fun s => hf6 50 s rfl) (funext fun s => hf6 51 s rfl) (funext fun s => hf6 83 s rfl) (funext fun s => hf6 84 s rfl) (hf6 44 2 rfl) hRS
  have hRP15 : fz_RP H1 := fz_RP_eq (funext fun s => hf6 52 s rfl) (funext fun s => hf6 85 s rfl) hRP
  have hRK16 : fz_RK H1 := fz_RK_eq (funext fun s => hf6 45 s rfl) (funext fun s => hf6 81 s rfl) hRK
  have hRR17 : fz_RR H1 := fz_RR_eq (hf6 44 3 rfl) (hf6 53 46 rfl) (funext fun s => hf6 46 s rfl) (funext fun s => hf6 82 s rfl) hRR
  have hRE18 : fz_RE H1 := fz_RE_eq (funext fun s => hf6 5 s rfl) (funext fun s => hf6 6 s rfl) (hf6 1 8 rfl) (hf6 1 7 rfl) hRE
  have hX19 : fz_Xc H1 := fz_Xc_fr hf6 rfl hX
  have t20 : H1 53 10 = h 53 10 := hf6 53 10 rfl
  have t21 : H1 53 41 = h 53 41 := hf6 53 41 rfl
  have t22 : H1 53 42 = h 53 42 := hf6 53 42 rfl
  have t23 : H1 9 5 = h 9 5 := hf6 9 5 rfl
  have t24 : H1 53 10 = h 53 10 := hf6 53 10 rfl
  have t25 : H1 44 2 = h 44 2 := hf6 44 2 rfl
  have t26 : H1 53 44 = h 53 44 := hf6 53 44 rfl
  have t27 : H1 20 2 = h 20 2 := hf6 20 2 rfl
  have t28 : H1 53 16 = h 53 16 := hf6 53 16 rfl
  have t29 : H1 1 7 = h 1 7 := hf6 1 7 rfl
  have t30 : H1 53 0 = h 53 0 := hf6 53 0 rfl
  have t31 : H1 1 8 = h 1 8 := hf6 1 8 rfl
  have t32 : H1 53 2 = h 53 2 := hf6 53 2 rfl
  refine fz_pop rfl kLc31 rfl ?_
  refine fz_aload_n kLc31 rfl rfl ?_
  refine fz_callV (d' := 0) (M' := mX11_back) (As := []) (st := []) kLc31 rfl rfl vX11_back rfl rfl rfl rfl (Nat.le_of_ble_eq_true rfl) (Nat.le_of_ble_eq_true rfl) (by decide) (sX11_back H1 hI5  ) (fun H33 r34 q35 o36 => ?_)
  obtain ⟨hI37, hf38, y40, rfl, f39⟩ := q35
  clear o36
  have hf41 := fz_fr_tr hf10 hf38 (fz_su_all rfl)
  have hXd42 : fz_Xd H33 := fz_Xd_eq (funext fun s => hf38 80 s rfl) hXd11
  have hXh43 : fz_Xh H33 := fz_Xh_eq (funext fun s => hf38 83 s rfl) hXh12
  have hXw44 : fz_Xw H33 := fz_Xw_eq (hf38 53 19 rfl) (funext fun s => hf38 66 s rfl) (funext fun s => hf38 67 s rfl) (funext fun s => hf38 68 s rfl) (funext fun s => hf38 69 s rfl) hXw13
  have hRS45 : fz_RS H33 := fz_RS_eq (funext fun s => hf38 48 s rfl) (funext fun s => hf38 49 s rfl) (funext fun s => hf38 50 s rfl) (funext fun s => hf38 51 s rfl) (funext fun s => hf38 83 s rfl) (funext fun s => hf38 84 s rfl) (hf38 44 2 rfl) hRS14
  have hRP46 : fz_RP H33 := fz_RP_eq (funext fun s => hf38 52 s rfl) (funext fun s => hf38 85 s rfl) hRP15
  have hRK47 : fz_RK H33 := fz_RK_eq (funext fun s => hf38 45 s rfl) (funext fun s => hf38 81 s rfl) hRK16
  have hRR48 : fz_RR H33 := fz_RR_eq (hf38 44 3 rfl) (hf38 53 46 rfl) (funext fun s => hf38 46 s rfl) (funext fun s => hf38 82 s rfl) hRR17
  have hRT49 : fz_RT H33 := fz_RT_eq (funext fun s => hf38 41 s rfl) (funext fun s => hf38 42 s rfl) (hf38 1 7 rfl) hRT7
  have hRE50 : fz_RE H33 := fz_RE_eq (funext fun s => hf38 5 s rfl) (funext fun s => hf38 6 s rfl) (hf38 1 8 rfl) (hf38 1 7 rfl) hRE18
  have hX51 : fz_Xc H33 := fz_Xc_fr hf38 rfl hX19
  have t52 : H33 53 10 = H1 53 10 := hf38 53 10 rfl
  have t53 : H33 53 41 = H1 53 41 := hf38 53 41 rfl
  have t54 : H33 53 42 = H1 53 42 := hf38 53 42 rfl
  have t55 : H33 9 5 = H1 9 5 := hf38 9 5 rfl
  have t56 : H33 53 10 = H1 53 10 := hf38 53 10 rfl
  have t57 : H33 44 2 = H1 44 2 := hf38 44 2 rfl
  have t58 : H33 53 44 = H1 53 44 := hf38 53 44 rfl
  have t59 : H33 20 2 = H1 20 2 := hf38 20 2 rfl
  have t60 : H33 53 16 = H1 53 16 := hf38 53 16 rfl
  have t61 : H33 1 7 = H1 1 7 := hf38 1 7 rfl
  have t62 : H33 53 0 = H1 53 0 := hf38 53 0 rfl
  have t63 : H33 1 8 = H1 1 8 := hf38 1 8 rfl
  have t64 : H33 53 2 = H1 53 2 := hf38 53 2 rfl
  refine fz_pop rfl kLc31 rfl ?_
  refine fz_goto (tgt := 1816) kLc31 rfl (by decide) ?_
  exact K H33 ⟨hI37, hX51, hXd42, hXh43, hXw44, by omega, by omega, by omega, by omega, by omega, by omega, by omega, hRS45, hRP46, hRK47, hRR48, hRT49, hRE50⟩ (funext fun s => hf41 200 s rfl)
def mLc32 : fz_M := (yL_law, code, 4, (some .boolean), [(1400, .aload_n 1, 1, 0, 0, 0), (1401, .invokevirtual 147, 3, 4192, 76, 0), (1404, .pop, 1, 0, 0, 0), (1405, .aload_n 2, 1, 0, 0, 0), (1406, .invokevirtual 150, 3, 6109, 180, 0), (1409, .pop, 1, 0, 0, 0), (1410, .goto 406, 3, 0, 0, 0)])
set_option maxRecDepth 100000 in
theorem kLc32 : fz_okM mLc32 = true := by decide +kernel
set_option maxHeartbeats 1000000 in
set_option maxRecDepth 100000 in
theorem lc32 (h : fz_H) (hI : fz_Iv h) (hX : fz_Xc h) (hXd : fz_Xd h) (hXh : fz_Xh h) (hXw : fz_Xw h) (hv1 : h 53 10 ≤ 10) (hv2 : h 53 42 ≤ h 53 41) (hr0 : h 9 5 = h 53 10) (hr1 : h 44 2 = h 53 44) (hr2 : h 20 2 = h 53 16) (hr3 : h 1 7 = h 53 0) (hr4 : h 1 8 = h 53 2) (hRS : fz_RS h) (hRP : fz_RP h) (hRK : fz_RK h) (hRR : fz_RR h) (hRT : fz_RT h) (hRE : fz_RE h) (i : Int) (hi : 0 ≤ i ∧ i + 6 ≤ h 200 100000 ∧ h 200 100000 ≤ 3072) {Q : fz_H → Option fz_V → Prop} (K : ∀ H : fz_H, fz_Gd H → H 200 = h 200 → fz_R 47 mLe 1816 [(3, fz_i i), (0, fz_r 200), (1, fz_r 0), (2, fz_r 53)] [] H Q) : fz_R 47 mLc32 1400 [(3, fz_i i), (0, fz_r 200), (1, fz_r 0), (2, fz_r 53)] [] h Q := by
  have hf : fz_fr fz_all h h := fz_fr_rf
  refine fz_aload_n kLc32 rfl rfl ?_
  refine fz_callV (d' := 4) (M' := mX10_undo) (As := []) (st := []) kLc32 rfl rfl vX10_undo rfl rfl rfl rfl (Nat.le_of_ble_eq_true rfl) (Nat.le_of_ble_eq_true rfl) (by decide) (sX10_undo h hI  (hX)) (fun H1 r2 q3 o4 => ?_)
  obtain ⟨hI5, hf6, hX7, y9, rfl, f8⟩ := q3
  clear o4
  have hf10 := fz_fr_tr hf hf6 (fz_su_all rfl)
  have hXd11 : fz_Xd H1 := fz_Xd_eq (funext fun s => hf6 80 s rfl) hXd
  have hXh12 : fz_Xh H1 := fz_Xh_eq (funext fun s => hf6 83 s rfl) hXh
  have hXw13 : fz_Xw H1 := fz_Xw_eq (hf6 53 19 rfl) (funext fun s => hf6 66 s rfl) (funext fun s => hf6 67 s rfl) (funext fun s => hf6 68 s rfl) (funext fun s => hf6 69 s rfl) hXw
  have hRS14 : fz_RS H1 := fz_RS_eq (funext fun s => hf6 48 s rfl) (funext fun s => hf6 49 s rfl) (funext fun s => hf6 50 s rfl) (funext fun s => hf6 51 s rfl) (funext fun s => hf6 83 s rfl) (funext fun s => hf6 84 s rfl) (hf6 44 2 rfl) hRS
  have hRP15 : fz_RP H1 := fz_RP_eq (funext fun s => hf6 52 s rfl) (funext fun s => hf6 85 s rfl) hRP
  have hRK16 : fz_RK H1 := fz_RK_eq (funext fun s => hf6 45 s rfl) (funext fun s => hf6 81 s rfl) hRK
  have hRR17 : fz_RR H1 := fz_RR_eq (hf6 44 3 rfl) (hf6 53 46 rfl) (funext fun s => hf6 46 s rfl) (funext fun s => hf6 82 s rfl) hRR
  have hRT18 : fz_RT H1 := fz_RT_eq (funext fun s => hf6 41 s rfl) (funext fun s => hf6 42 s rfl) (hf6 1 7 rfl) hRT
  have hRE19 : fz_RE H1 := fz_RE_eq (funext fun s => hf6 5 s rfl) (funext fun s => hf6 6 s rfl) (hf6 1 8 rfl) (hf6 1 7 rfl) hRE
  have t20 : H1 53 10 = h 53 10 := hf6 53 10 rfl
  have t21 : H1 53 41 = h 53 41 := hf6 53 41 rfl
  have t22 : H1 53 42 = h 53 42 := hf6 53 42 rfl
  have t23 : H1 9 5 = h 9 5 := hf6 9 5 rfl
  have t24 : H1 53 10 = h 53 10 := hf6 53 10 rfl
  have t25 : H1 44 2 = h 44 2 := hf6 44 2 rfl
  have t26 : H1 53 44 = h 53 44 := hf6 53 44 rfl
  have t27 : H1 20 2 = h 20 2 := hf6 20 2 rfl
  have t28 : H1 53 16 = h 53 16 := hf6 53 16 rfl
  have t29 : H1 1 7 = h 1 7 := hf6 1 7 rfl
  have t30 : H1 53 0 = h 53 0 := hf6 53 0 rfl
  have t31 : H1 1 8 = h 1 8 := hf6 1 8 rfl
  have t32 : H1 53 2 = h 53 2 := hf6 53 2 rfl
  refine fz_pop rfl kLc32 rfl ?_
  refine fz_aload_n kLc32 rfl rfl ?_
  have b33 : 0 ≤ H1 53 42 ∧ H1 53 42 ≤ 40 := hI5.1 53 _
  have b34 : 0 ≤ H1 53 41 ∧ H1 53 41 ≤ 40 := hI5.1 53 _
  refine fz_callV (d' := 1) (M' := mX11_undo) (As := []) (st := []) kLc32 rfl rfl vX11_undo rfl rfl rfl rfl (Nat.le_of_ble_eq_true rfl) (Nat.le_of_ble_eq_true rfl) (by decide) (sX11_undo H1 hI5  hXd11 (by omega)) (fun H35 r36 q37 o38 => ?_)
  obtain ⟨hI39, hf40, hXd41, y44, rfl, f42, f43⟩ := q37
  clear o38
  have hf45 := fz_fr_tr hf10 hf40 (fz_su_all rfl)
  have hXh46 : fz_Xh H35 := fz_Xh_eq (funext fun s => hf40 83 s rfl) hXh12
  have hXw47 : fz_Xw H35 := fz_Xw_eq (hf40 53 19 rfl) (funext fun s => hf40 66 s rfl) (funext fun s => hf40 67 s rfl) (funext fun s => hf40 68 s rfl) (funext fun s => hf40 69 s rfl) hXw13
  have hRS48 : fz_RS H35 := fz_RS_eq (funext fun s => hf40 48 s rfl) (funext fun s => hf40 49 s rfl) (funext fun s => hf40 50 s rfl) (funext fun s => hf40 51 s rfl) (funext fun s => hf40 83 s rfl) (funext fun s => hf40 84 s rfl) (hf40 44 2 rfl) hRS14
  have hRP49 : fz_RP H35 := fz_RP_eq (funext fun s => hf40 52 s rfl) (funext fun s => hf40 85 s rfl) hRP15
  have hRK50 : fz_RK H35 := fz_RK_eq (funext fun s => hf40 45 s rfl) (funext fun s => hf40 81 s rfl) hRK16
  have hRR51 : fz_RR H35 := fz_RR_eq (hf40 44 3 rfl) (hf40 53 46 rfl) (funext fun s => hf40 46 s rfl) (funext fun s => hf40 82 s rfl) hRR17
  have hRT52 : fz_RT H35 := fz_RT_eq (funext fun s => hf40 41 s rfl) (funext fun s => hf40 42 s rfl) (hf40 1 7 rfl) hRT18
  have hRE53 : fz_RE H35 := fz_RE_eq (funext fun s => hf40 5 s rfl) (funext fun s => hf40 6 s rfl) (hf40 1 8 rfl) (hf40 1 7 rfl) hRE19
  have hX54 : fz_Xc H35 := fz_Xc_fr hf40 rfl hX7
  have t55 : H35 53 10 = H1 53 10 := hf40 53 10 rfl
  have t56 : H35 53 41 = H1 53 41 := hf40 53 41 rfl
  have t57 : H35 9 5 = H1 9 5 := hf40 9 5 rfl
  have t58 : H35 53 10 = H1 53 10 := hf40 53 10 rfl
  have t59 : H35 44 2 = H1 44 2 := hf40 44 2 rfl
  have t60 : H35 53 44 = H1 53 44 := hf40 53 44 rfl
  have t61 : H35 20 2 = H1 20 2 := hf40 20 2 rfl
  have t62 : H35 53 16 = H1 53 16 := hf40 53 16 rfl
  have t63 : H35 1 7 = H1 1 7 := hf40 1 7 rfl
  have t64 : H35 53 0 = H1 53 0 := hf40 53 0 rfl
  have t65 : H35 1 8 = H1 1 8 := hf40 1 8 rfl
  have t66 : H35 53 2 = H1 53 2 := hf40 53 2 rfl
  refine fz_pop rfl kLc32 rfl ?_
  refine fz_goto (tgt := 1816) kLc32 rfl (by decide) ?_
  exact K H35 ⟨hI39, hX54, hXd41, hXh46, hXw47, by omega, by omega, by omega, by omega, by omega, by omega, by omega, hRS48, hRP49, hRK50, hRR51, hRT52, hRE53⟩ (funext fun s => hf45 200 s rfl)
def mLc33 : fz_M := (yL_law, code, 4, (some .boolean), [(1413, .aload_n 1, 1, 0, 0, 0), (1414, .invokevirtual 151, 3, 4200, 64, 0), (1417, .pop, 1, 0, 0, 0), (1418, .aload_n 2, 1, 0, 0, 0), (1419, .invokevirtual 154, 3, 6113, 165, 0), (1422, .pop, 1, 0, 0, 0), (1423, .goto 393, 3, 0, 0, 0)])
set_option maxRecDepth 100000 in
theorem kLc33 : fz_okM mLc33 = true := by decide +kernel
set_option maxHeartbeats 1000000 in
set_option maxRecDepth 100000 in
theorem lc33 (h : fz_H) (hI : fz_Iv h) (hX : fz_Xc h) (hXd : fz_Xd h) (hXh : fz_Xh h) (hXw : fz_Xw h) (hv1 : h 53 10 ≤ 10) (hv2 : h 53 42 ≤ h 53 41) (hr0 : h 9 5 = h 53 10) (hr1 : h 44 2 = h 53 44) (hr2 : h 20 2 = h 53 16) (hr3 : h 1 7 = h 53 0) (hr4 : h 1 8 = h 53 2) (hRS : fz_RS h) (hRP : fz_RP h) (hRK : fz_RK h) (hRR : fz_RR h) (hRT : fz_RT h) (hRE : fz_RE h) (i : Int) (hi : 0 ≤ i ∧ i + 6 ≤ h 200 100000 ∧ h 200 100000 ≤ 3072) {Q : fz_H → Option fz_V → Prop} (K : ∀ H : fz_H, fz_Gd H → H 200 = h 200 → fz_R 47 mLe 1816 [(3, fz_i i), (0, fz_r 200), (1, fz_r 0), (2, fz_r 53)] [] H Q) : fz_R 47 mLc33 1413 [(3, fz_i i), (0, fz_r 200), (1, fz_r 0), (2, fz_r 53)] [] h Q := by
  have hf : fz_fr fz_all h h := fz_fr_rf
  refine fz_aload_n kLc33 rfl rfl ?_
  refine fz_callV (d' := 4) (M' := mX10_redo) (As := []) (st := []) kLc33 rfl rfl vX10_redo rfl rfl rfl rfl (Nat.le_of_ble_eq_true rfl) (Nat.le_of_ble_eq_true rfl) (by decide) (sX10_redo h hI  (hX)) (fun H1 r2 q3 o4 => ?_)
  obtain ⟨hI5, hf6, hX7, y9, rfl, f8⟩ := q3
  clear o4
  have hf10 := fz_fr_tr hf hf6 (fz_su_all rfl)
  have hXd11 : fz_Xd H1 := fz_Xd_eq (funext fun s => hf6 80 s rfl) hXd
  have hXh12 : fz_Xh H1 := fz_Xh_eq (funext fun s => hf6 83 s rfl) hXh
  have hXw13 : fz_Xw H1 := fz_Xw_eq (hf6 53 19 rfl) (funext fun s => hf6 66 s rfl) (funext fun s => hf6 67 s rfl) (funext fun s => hf6 68 s rfl) (funext fun s => hf6 69 s rfl) hXw
  have hRS14 : fz_RS H1 := fz_RS_eq (funext fun s => hf6 48 s rfl) (funext fun s => hf6 49 s rfl) (funext fun s => hf6 50 s rfl) (funext fun s => hf6 51 s rfl) (funext fun s => hf6 83 s rfl) (funext fun s => hf6 84 s rfl) (hf6 44 2 rfl) hRS
  have hRP15 : fz_RP H1 := fz_RP_eq (funext fun s => hf6 52 s rfl) (funext fun s => hf6 85 s rfl) hRP
  have hRK16 : fz_RK H1 := fz_RK_eq (funext fun s => hf6 45 s rfl) (funext fun s => hf6 81 s rfl) hRK
  have hRR17 : fz_RR H1 := fz_RR_eq (hf6 44 3 rfl) (hf6 53 46 rfl) (funext fun s => hf6 46 s rfl) (funext fun s => hf6 82 s rfl) hRR
  have hRT18 : fz_RT H1 := fz_RT_eq (funext fun s => hf6 41 s rfl) (funext fun s => hf6 42 s rfl) (hf6 1 7 rfl) hRT
  have hRE19 : fz_RE H1 := fz_RE_eq (funext fun s => hf6 5 s rfl) (funext fun s => hf6 6 s rfl) (hf6 1 8 rfl) (hf6 1 7 rfl) hRE
  have t20 : H1 53 10 = h 53 10 := hf6 53 10 rfl
  have t21 : H1 53 41 = h 53 41 := hf6 53 41 rfl
  have t22 : H1 53 42 = h 53 42 := hf6 53 42 rfl
  have t23 : H1 9 5 = h 9 5 := hf6 9 5 rfl
  have t24 : H1 53 10 = h 53 10 := hf6 53 10 rfl
  have t25 : H1 44 2 = h 44 2 := hf6 44 2 rfl
  have t26 : H1 53 44 = h 53 44 := hf6 53 44 rfl
  have t27 : H1 20 2 = h 20 2 := hf6 20 2 rfl
  have t28 : H1 53 16 = h 53 16 := hf6 53 16 rfl
  have t29 : H1 1 7 = h 1 7 := hf6 1 7 rfl
  have t30 : H1 53 0 = h 53 0 := hf6 53 0 rfl
  have t31 : H1 1 8 = h 1 8 := hf6 1 8 rfl
  have t32 : H1 53 2 = h 53 2 := hf6 53 2 rfl
  refine fz_pop rfl kLc33 rfl ?_
  refine fz_aload_n kLc33 rfl rfl ?_
  have b33 : 0 ≤ H1 53 42 ∧ H1 53 42 ≤ 40 := hI5.1 53 _
  have b34 : 0 ≤ H1 53 41 ∧ H1 53 41 ≤ 40 := hI5.1 53 _
  refine fz_callV (d' := 1) (M' := mX11_redo) (As := []) (st := []) kLc33 rfl rfl vX11_redo rfl rfl rfl rfl (Nat.le_of_ble_eq_true rfl) (Nat.le_of_ble_eq_true rfl) (by decide) (sX11_redo H1 hI5  hXd11 (by omega)) (fun H35 r36 q37 o38 => ?_)
  obtain ⟨hI39, hf40, hXd41, y44, rfl, f42, f43⟩ := q37
  clear o38
  have hf45 := fz_fr_tr hf10 hf40 (fz_su_all rfl)
  have hXh46 : fz_Xh H35 := fz_Xh_eq (funext fun s => hf40 83 s rfl) hXh12
  have hXw47 : fz_Xw H35 := fz_Xw_eq (hf40 53 19 rfl) (funext fun s => hf40 66 s rfl) (funext fun s => hf40 67 s rfl) (funext fun s => hf40 68 s rfl) (funext fun s => hf40 69 s rfl) hXw13
  have hRS48 : fz_RS H35 := fz_RS_eq (funext fun s => hf40 48 s rfl) (funext fun s => hf40 49 s rfl) (funext fun s => hf40 50 s rfl) (funext fun s => hf40 51 s rfl) (funext fun s => hf40 83 s rfl) (funext fun s => hf40 84 s rfl) (hf40 44 2 rfl) hRS14
  have hRP49 : fz_RP H35 := fz_RP_eq (funext fun s => hf40 52 s rfl) (funext fun s => hf40 85 s rfl) hRP15
  have hRK50 : fz_RK H35 := fz_RK_eq (funext fun s => hf40 45 s rfl) (funext fun s => hf40 81 s rfl) hRK16
  have hRR51 : fz_RR H35 := fz_RR_eq (hf40 44 3 rfl) (hf40 53 46 rfl) (funext fun s => hf40 46 s rfl) (funext fun s => hf40 82 s rfl) hRR17
  have hRT52 : fz_RT H35 := fz_RT_eq (funext fun s => hf40 41 s rfl) (funext fun s => hf40 42 s rfl) (hf40 1 7 rfl) hRT18
  have hRE53 : fz_RE H35 := fz_RE_eq (funext fun s => hf40 5 s rfl) (funext fun s => hf40 6 s rfl) (hf40 1 8 rfl) (hf40 1 7 rfl) hRE19
  have hX54 : fz_Xc H35 := fz_Xc_fr hf40 rfl hX7
  have t55 : H35 53 10 = H1 53 10 := hf40 53 10 rfl
  have t56 : H35 53 41 = H1 53 41 := hf40 53 41 rfl
  have t57 : H35 9 5 = H1 9 5 := hf40 9 5 rfl
  have t58 : H35 53 10 = H1 53 10 := hf40 53 10 rfl
  have t59 : H35 44 2 = H1 44 2 := hf40 44 2 rfl
  have t60 : H35 53 44 = H1 53 44 := hf40 53 44 rfl
  have t61 : H35 20 2 = H1 20 2 := hf40 20 2 rfl
  have t62 : H35 53 16 = H1 53 16 := hf40 53 16 rfl
  have t63 : H35 1 7 = H1 1 7 := hf40 1 7 rfl
  have t64 : H35 53 0 = H1 53 0 := hf40 53 0 rfl
  have t65 : H35 1 8 = H1 1 8 := hf40 1 8 rfl
  have t66 : H35 53 2 = H1 53 2 := hf40 53 2 rfl
  refine fz_pop rfl kLc33 rfl ?_
  refine fz_goto (tgt := 1816) kLc33 rfl (by decide) ?_
  exact K H35 ⟨hI39, hX54, hXd41, hXh46, hXw47, by omega, by omega, by omega, by omega, by omega, by omega, by omega, hRS48, hRP49, hRK50, hRR51, hRT52, hRE53⟩ (funext fun s => hf45 200 s rfl)
def mLc34 : fz_M := (yL_law, code, 4, (some .boolean), [(1426, .aload_n 1, 1, 0, 0, 0), (1427, .aload_n 0, 1, 0, 0, 0), (1428, .iload_n 3, 1, 0, 0, 0), (1429, .iconst 1, 1, 0, 0, 0), (1430, .iadd, 1, 0, 0, 0), (1431, .iaload, 1, 0, 0, 0), (1432, .invokevirtual 155, 3, 4208, 21, 0), (1435, .pop, 1, 0, 0, 0), (1436, .aload_n 2, 1, 0, 0, 0), (1437, .aload_n 0, 1, 0, 0, 0), (1438, .iload_n 3, 1, 0, 0, 0), (1439, .iconst 1, 1, 0, 0, 0), (1440, .iadd, 1, 0, 0, 0), (1441, .iaload, 1, 0, 0, 0), (1442, .invokevirtual 158, 3, 7133, 88, 0), (1445, .pop, 1, 0, 0, 0), (1446, .goto 370, 3, 0, 0, 0)])
set_option maxRecDepth 100000 in
theorem kLc34 : fz_okM mLc34 = true := by decide +kernel
set_option maxHeartbeats 1000000 in
set_option maxRecDepth 100000 in
theorem lc34 (h : fz_H) (hI : fz_Iv h) (hX : fz_Xc h) (hXd : fz_Xd h) (hXh : fz_Xh h) (hXw : fz_Xw h) (hv1 : h 53 10 ≤ 10) (hv2 : h 53 42 ≤ h 53 41) (hr0 : h 9 5 = h 53 10) (hr1 : h 44 2 = h 53 44) (hr2 : h 20 2 = h 53 16) (hr3 : h 1 7 = h 53 0) (hr4 : h 1 8 = h 53 2) (hRS : fz_RS h) (hRP : fz_RP h) (hRK : fz_RK h) (hRR : fz_RR h) (hRT : fz_RT h) (hRE : fz_RE h) (i : Int) (hi : 0 ≤ i ∧ i + 6 ≤ h 200 100000 ∧ h 200 100000 ≤ 3072) {Q : fz_H → Option fz_V → Prop} (K : ∀ H : fz_H, fz_Gd H → H 200 = h 200 → fz_R 47 mLe 1816 [(3, fz_i i), (0, fz_r 200), (1, fz_r 0), (2, fz_r 53)] [] H Q) : fz_R 47 mLc34 1426 [(3, fz_i i), (0, fz_r 200), (1, fz_r 0), (2, fz_r 53)] [] h Q := by
  have hf : fz_fr fz_all h h := fz_fr_rf
  refine fz_aload_n kLc34 rfl rfl ?_
  refine fz_aload_n kLc34 rfl rfl ?_
  refine fz_iload_n kLc34 rfl rfl ?_
  refine fz_iconst ⟨by decide, by decide⟩ kLc34 rfl ?_
  refine fz_iaddN kLc34 rfl (by omega) ?_
  obtain ⟨a1, e2⟩ : ∃ z, h 200 ((i + 1)).toNat = z := ⟨_, rfl⟩
  refine fz_taldV (v := a1) kLc34 rfl ⟨by decide, by decide⟩ (by omega) (by omega) e2 ?_
  have b3 : 0 ≤ h 44 2 ∧ h 44 2 ≤ 50 := hI.1 44 _
  refine fz_callV (d' := 1) (M' := mX10_body) (As := [fz_i a1]) (st := []) kLc34 rfl rfl vX10_body rfl rfl rfl rfl (Nat.le_of_ble_eq_true rfl) (Nat.le_of_ble_eq_true rfl) (by decide) (sX10_body h hI a1 ) (fun H4 r5 q6 o7 => ?_)
  obtain ⟨hI8, hf9, y13, rfl, f10, f11, f12⟩ := q6
  clear o7
  have hf14 := fz_fr_tr hf hf9 (fz_su_all rfl)
  have hXd15 : fz_Xd H4 := fz_Xd_eq (funext fun s => hf9 80 s rfl) hXd
  have hXh16 : fz_Xh H4 := fz_Xh_eq (funext fun s => hf9 83 s rfl) hXh
  have hXw17 : fz_Xw H4 := fz_Xw_eq (hf9 53 19 rfl) (funext fun s => hf9 66 s rfl) (funext fun s => hf9 67 s rfl) (funext fun s => hf9 68 s rfl) (funext fun s => hf9 69 s rfl) hXw
  have hRP18 : fz_RP H4 := fz_RP_eq (funext fun s => hf9 52 s rfl) (funext fun s => hf9 85 s rfl) hRP
  have hRR19 : fz_RR H4 := fz_RR_eq (hf9 44 3 rfl) (hf9 53 46 rfl) (funext fun s => hf9 46 s rfl) (funext fun s => hf9 82 s rfl) hRR
  have hRT20 : fz_RT H4 := fz_RT_eq (funext fun s => hf9 41 s rfl) (funext fun s => hf9 42 s rfl) (hf9 1 7 rfl) hRT
  have hRE21 : fz_RE H4 := fz_RE_eq (funext fun s => hf9 5 s rfl) (funext fun s => hf9 6 s rfl) (hf9 1 8 rfl) (hf9 1 7 rfl) hRE
  have hX22 : fz_Xc H4 := fz_Xc_fr hf9 rfl hX
  have t23 : H4 53 10 = h 53 10 := hf9 53 10 rfl
  have t24 : H4 53 41 = h 53 41 := hf9 53 41 rfl
  have t25 : H4 53 42 = h 53 42 := hf9 53 42 rfl
  have t26 : H4 9 5 = h 9 5 := hf9 9 5 rfl
  have t27 : H4 53 10 = h 53 10 := hf9 53 10 rfl
  have t28 : H4 53 44 = h 53 44 := hf9 53 44 rfl
  have t29 : H4 20 2 = h 20 2 := hf9 20 2 rfl
  have t30 : H4 53 16 = h 53 16 := hf9 53 16 rfl
  have t31 : H4 1 7 = h 1 7 := hf9 1 7 rfl
  have t32 : H4 53 0 = h 53 0 := hf9 53 0 rfl
  have t33 : H4 1 8 = h 1 8 := hf9 1 8 rfl
  have t34 : H4 53 2 = h 53 2 := hf9 53 2 rfl
  refine fz_pop rfl kLc34 rfl ?_
  refine fz_aload_n kLc34 rfl rfl ?_
  refine fz_aload_n kLc34 rfl rfl ?_
  refine fz_iload_n kLc34 rfl rfl ?_
  refine fz_iconst ⟨by decide, by decide⟩ kLc34 rfl ?_
  refine fz_iaddN kLc34 rfl (by omega) ?_
  refine fz_taldV (v := a1) kLc34 rfl ⟨by decide, by decide⟩ (by omega) (by rw [hf14 200 _ rfl]; omega) ((hf14 200 _ rfl).trans e2) ?_
  have b35 : 0 ≤ H4 53 44 ∧ H4 53 44 ≤ 50 := hI8.1 53 _
  refine fz_callV (d' := 1) (M' := mX11_body) (As := [fz_i a1]) (st := []) kLc34 rfl rfl vX11_body rfl rfl rfl rfl (Nat.le_of_ble_eq_true rfl) (Nat.le_of_ble_eq_true rfl) (by decide) (sX11_body H4 hI8 a1 ) (fun H36 r37 q38 o39 => ?_)
  obtain ⟨hI40, hf41, y45, rfl, f42, f43, f44⟩ := q38
  clear o39
  have hf46 := fz_fr_tr hf14 hf41 (fz_su_all rfl)
  have hXd47 : fz_Xd H36 := fz_Xd_eq (funext fun s => hf41 80 s rfl) hXd15
  have hXh48 : fz_Xh H36 := fz_Xh_eq (funext fun s => hf41 83 s rfl) hXh16
  have hXw49 : fz_Xw H36 := fz_Xw_eq (hf41 53 19 rfl) (funext fun s => hf41 66 s rfl) (funext fun s => hf41 67 s rfl) (funext fun s => hf41 68 s rfl) (funext fun s => hf41 69 s rfl) hXw17
  have hRP50 : fz_RP H36 := fz_RP_eq (funext fun s => hf41 52 s rfl) (funext fun s => hf41 85 s rfl) hRP18
  have hRR51 : fz_RR H36 := fz_RR_eq (hf41 44 3 rfl) (hf41 53 46 rfl) (funext fun s => hf41 46 s rfl) (funext fun s => hf41 82 s rfl) hRR19
  have hRT52 : fz_RT H36 := fz_RT_eq (funext fun s => hf41 41 s rfl) (funext fun s => hf41 42 s rfl) (hf41 1 7 rfl) hRT20
  have hRE53 : fz_RE H36 := fz_RE_eq (funext fun s => hf41 5 s rfl) (funext fun s => hf41 6 s rfl) (hf41 1 8 rfl) (hf41 1 7 rfl) hRE21
  have hX54 : fz_Xc H36 := fz_Xc_fr hf41 rfl hX22
  have t55 : H36 53 10 = H4 53 10 := hf41 53 10 rfl
  have t56 : H36 53 41 = H4 53 41 := hf41 53 41 rfl
  have t57 : H36 53 42 = H4 53 42 := hf41 53 42 rfl
  have t58 : H36 9 5 = H4 9 5 := hf41 9 5 rfl
  have t59 : H36 53 10 = H4 53 10 := hf41 53 10 rfl
  have t60 : H36 44 2 = H4 44 2 := hf41 44 2 rfl
  have t61 : H36 20 2 = H4 20 2 := hf41 20 2 rfl
  have t62 : H36 53 16 = H4 53 16 := hf41 53 16 rfl
  have t63 : H36 1 7 = H4 1 7 := hf41 1 7 rfl
  have t64 : H36 53 0 = H4 53 0 := hf41 53 0 rfl
  have t65 : H36 1 8 = H4 1 8 := hf41 1 8 rfl
  have t66 : H36 53 2 = H4 53 2 := hf41 53 2 rfl
  refine fz_pop rfl kLc34 rfl ?_
  refine fz_goto (tgt := 1816) kLc34 rfl (by decide) ?_
  have hRS67 : fz_RS H36 := fz_RS_b (funext fun s => (hf41 48 s rfl).trans (hf9 48 s rfl)) (funext fun s => (hf41 49 s rfl).trans (hf9 49 s rfl)) (funext fun s => (hf41 50 s rfl).trans (hf9 50 s rfl)) (funext fun s => (hf41 51 s rfl).trans (hf9 51 s rfl)) (funext fun s => (hf41 83 s rfl).trans (hf9 83 s rfl)) (funext fun s => (hf41 84 s rfl).trans (hf9 84 s rfl)) (by omega) hRS
  have hRK69 : fz_RK H36 := fz_RK_body hRK f12 f44 (by omega) (funext fun s => hf9 81 s rfl) (funext fun s => hf41 45 s rfl)
  exact K H36 ⟨hI40, hX54, hXd47, hXh48, hXw49, by omega, by omega, by omega, by omega, by omega, by omega, by omega, hRS67, hRP50, hRK69, hRR51, hRT52, hRE53⟩ (funext fun s => hf46 200 s rfl)
def mLc35 : fz_M := (yL_law, code, 4, (some .boolean), [(1449, .aload_n 1, 1, 0, 0, 0), (1450, .aload_n 0, 1, 0, 0, 0), (1451, .iload_n 3, 1, 0, 0, 0), (1452, .iconst 1, 1, 0, 0, 0), (1453, .iadd, 1, 0, 0, 0), (1454, .iaload, 1, 0, 0, 0), (1455, .aload_n 0, 1, 0, 0, 0), (1456, .iload_n 3, 1, 0, 0, 0), (1457, .iconst 2, 1, 0, 0, 0), (1458, .iadd, 1, 0, 0, 0), (1459, .iaload, 1, 0, 0, 0), (1460, .aload_n 0, 1, 0, 0, 0), (1461, .iload_n 3, 1, 0, 0, 0), (1462, .iconst 3, 1, 0, 0, 0), (1463, .iadd, 1, 0, 0, 0), (1464, .iaload, 1, 0, 0, 0), (1465, .invokevirtual 159, 3, 4220, 13, 0), (1468, .pop, 1, 0, 0, 0), (1469, .aload_n 2, 1, 0, 0, 0), (1470, .aload_n 0, 1, 0, 0, 0), (1471, .iload_n 3, 1, 0, 0, 0), (1472, .iconst 1, 1, 0, 0, 0), (1473, .iadd, 1, 0, 0, 0), (1474, .iaload, 1, 0, 0, 0), (1475, .aload_n 0, 1, 0, 0, 0), (1476, .iload_n 3, 1, 0, 0, 0), (1477, .iconst 2, 1, 0, 0, 0), (1478, .iadd, 1, 0, 0, 0), (1479, .iaload, 1, 0, 0, 0), (1480, .aload_n 0, 1, 0, 0, 0), (1481, .iload_n 3, 1, 0, 0, 0), (1482, .iconst 3, 1, 0, 0, 0), (1483, .iadd, 1, 0, 0, 0), (1484, .iaload, 1, 0, 0, 0), (1485, .invokevirtual 162, 3, 7137, 81, 0), (1488, .pop, 1, 0, 0, 0), (1489, .goto 327, 3, 0, 0, 0)])
set_option maxRecDepth 100000 in
theorem kLc35 : fz_okM mLc35 = true := by decide +kernel
set_option maxHeartbeats 1000000 in
set_option maxRecDepth 100000 in
theorem lc35 (h : fz_H) (hI : fz_Iv h) (hX : fz_Xc h) (hXd : fz_Xd h) (hXh : fz_Xh h) (hXw : fz_Xw h) (hv1 : h 53 10 ≤ 10) (hv2 : h 53 42 ≤ h 53 41) (hr0 : h 9 5 = h 53 10) (hr1 : h 44 2 = h 53 44) (hr2 : h 20 2 = h 53 16) (hr3 : h 1 7 = h 53 0) (hr4 : h 1 8 = h 53 2) (hRS : fz_RS h) (hRP : fz_RP h) (hRK : fz_RK h) (hRR : fz_RR h) (hRT : fz_RT h) (hRE : fz_RE h) (i : Int) (hi : 0 ≤ i ∧ i + 6 ≤ h 200 100000 ∧ h 200 100000 ≤ 3072) {Q : fz_H → Option fz_V → Prop} (K : ∀ H : fz_H, fz_Gd H → H 200 = h 200 → fz_R 47 mLe 1816 [(3, fz_i i), (0, fz_r 200), (1, fz_r 0), (2, fz_r 53)] [] H Q) : fz_R 47 mLc35 1449 [(3, fz_i i), (0, fz_r 200), (1, fz_r 0), (2, fz_r 53)] [] h Q := by
  have hf : fz_fr fz_all h h := fz_fr_rf
  refine fz_aload_n kLc35 rfl rfl ?_
  refine fz_aload_n kLc35 rfl rfl ?_
  refine fz_iload_n kLc35 rfl rfl ?_
  refine fz_iconst ⟨by decide, by decide⟩ kLc35 rfl ?_
  refine fz_iaddN kLc35 rfl (by omega) ?_
  obtain ⟨a1, e2⟩ : ∃ z, h 200 ((i + 1)).toNat = z := ⟨_, rfl⟩
  refine fz_taldV (v := a1) kLc35 rfl ⟨by decide, by decide⟩ (by omega) (by omega) e2 ?_
  refine fz_aload_n kLc35 rfl rfl ?_
  refine fz_iload_n kLc35 rfl rfl ?_
  refine fz_iconst ⟨by decide, by decide⟩ kLc35 rfl ?_
  refine fz_iaddN kLc35 rfl (by omega) ?_
  obtain ⟨a3, e4⟩ : ∃ z, h 200 ((i + 2)).toNat = z := ⟨_, rfl⟩
  refine fz_taldV (v := a3) kLc35 rfl ⟨by decide, by decide⟩ (by omega) (by omega) e4 ?_
  refine fz_aload_n kLc35 rfl rfl ?_
  refine fz_iload_n kLc35 rfl rfl ?_
  refine fz_iconst ⟨by decide, by decide⟩ kLc35 rfl ?_
  refine fz_iaddN kLc35 rfl (by omega) ?_
  obtain ⟨a5, e6⟩ : ∃ z, h 200 ((i + 3)).toNat = z := ⟨_, rfl⟩
  refine fz_taldV (v := a5) kLc35 rfl ⟨by decide, by decide⟩ (by omega) (by omega) e6 ?_
  have b7 : 0 ≤ h 44 2 ∧ h 44 2 ≤ 50 := hI.1 44 _
  refine fz_callV (d' := 8) (M' := mX10_act) (As := [fz_i a1, fz_i a3, fz_i a5]) (st := []) kLc35 rfl rfl vX10_act rfl rfl rfl rfl (Nat.le_of_ble_eq_true rfl) (Nat.le_of_ble_eq_true rfl) (by decide) (sX10_act h hI a1 a3 a5 ) (fun H8 r9 q10 o11 => ?_)
  obtain ⟨hI12, hf13, y16, rfl, f14, f15⟩ := q10
  clear o11
  have hf17 := fz_fr_tr hf hf13 (fz_su_all rfl)
  have hXd18 : fz_Xd H8 := fz_Xd_eq (funext fun s => hf13 80 s rfl) hXd
  have hXh19 : fz_Xh H8 := fz_Xh_eq (funext fun s => hf13 83 s rfl) hXh
  have hXw20 : fz_Xw H8 := fz_Xw_eq (hf13 53 19 rfl) (funext fun s => hf13 66 s rfl) (funext fun s => hf13 67 s rfl) (funext fun s => hf13 68 s rfl) (funext fun s => hf13 69 s rfl) hXw
  have hRS21 : fz_RS H8 := fz_RS_eq (funext fun s => hf13 48 s rfl) (funext fun s => hf13 49 s rfl) (funext fun s => hf13 50 s rfl) (funext fun s => hf13 51 s rfl) (funext fun s => hf13 83 s rfl) (funext fun s => hf13 84 s rfl) (hf13 44 2 rfl) hRS
  have hRP22 : fz_RP H8 := fz_RP_eq (funext fun s => hf13 52 s rfl) (funext fun s => hf13 85 s rfl) hRP
  have hRK23 : fz_RK H8 := fz_RK_eq (funext fun s => hf13 45 s rfl) (funext fun s => hf13 81 s rfl) hRK
  have hRT24 : fz_RT H8 := fz_RT_eq (funext fun s => hf13 41 s rfl) (funext fun s => hf13 42 s rfl) (hf13 1 7 rfl) hRT
  have hRE25 : fz_RE H8 := fz_RE_eq (funext fun s => hf13 5 s rfl) (funext fun s => hf13 6 s rfl) (hf13 1 8 rfl) (hf13 1 7 rfl) hRE
  have hX26 : fz_Xc H8 := fz_Xc_fr hf13 rfl hX
  have t27 : H8 53 10 = h 53 10 := hf13 53 10 rfl
  have t28 : H8 53 41 = h 53 41 := hf13 53 41 rfl
  have t29 : H8 53 42 = h 53 42 := hf13 53 42 rfl
  have t30 : H8 9 5 = h 9 5 := hf13 9 5 rfl
  have t31 : H8 53 10 = h 53 10 := hf13 53 10 rfl
  have t32 : H8 44 2 = h 44 2 := hf13 44 2 rfl
  have t33 : H8 53 44 = h 53 44 := hf13 53 44 rfl
  have t34 : H8 20 2 = h 20 2 := hf13 20 2 rfl
  have t35 : H8 53 16 = h 53 16 := hf13 53 16 rfl
  have t36 : H8 1 7 = h 1 7 := hf13 1 7 rfl
  have t37 : H8 53 0 = h 53 0 := hf13 53 0 rfl
  have t38 : H8 1 8 = h 1 8 := hf13 1 8 rfl
  have t39 : H8 53 2 = h 53 2 := hf13 53 2 rfl
  refine fz_pop rfl kLc35 rfl ?_
  refine fz_aload_n kLc35 rfl rfl ?_
  refine fz_aload_n kLc35 rfl rfl ?_
  refine fz_iload_n kLc35 rfl rfl ?_
  refine fz_iconst ⟨by decide, by decide⟩ kLc35 rfl ?_
  refine fz_iaddN kLc35 rfl (by omega) ?_
  refine fz_taldV (v := a1) kLc35 rfl ⟨by decide, by decide⟩ (by omega) (by rw [hf17 200 _ rfl]; omega) ((hf17 200 _ rfl).trans e2) ?_
  refine fz_aload_n kLc35 rfl rfl ?_
  refine fz_iload_n kLc35 rfl rfl ?_
  refine fz_iconst ⟨by decide, by decide⟩ kLc35 rfl ?_
  refine fz_iaddN kLc35 rfl (by omega) ?_
  refine fz_taldV (v := a3) kLc35 rfl ⟨by decide, by decide⟩ (by omega) (by rw [hf17 200 _ rfl]; omega) ((hf17 200 _ rfl).trans e4) ?_
  refine fz_aload_n kLc35 rfl rfl ?_
  refine fz_iload_n kLc35 rfl rfl ?_
  refine fz_iconst ⟨by decide, by decide⟩ kLc35 rfl ?_
  refine fz_iaddN kLc35 rfl (by omega) ?_
  refine fz_taldV (v := a5) kLc35 rfl ⟨by decide, by decide⟩ (by omega) (by rw [hf17 200 _ rfl]; omega) ((hf17 200 _ rfl).trans e6) ?_
  have b40 : 0 ≤ H8 53 44 ∧ H8 53 44 ≤ 50 := hI12.1 53 _
  refine fz_callV (d' := 13) (M' := mX11_act) (As := [fz_i a1, fz_i a3, fz_i a5]) (st := []) kLc35 rfl rfl vX11_act rfl rfl rfl rfl (Nat.le_of_ble_eq_true rfl) (Nat.le_of_ble_eq_true rfl) (by decide) (sX11_act H8 hI12 a1 a3 a5 ) (fun H41 r42 q43 o44 => ?_)
  obtain ⟨hI45, hf46, y49, rfl, f47, f48⟩ := q43
  clear o44
  have hf50 := fz_fr_tr hf17 hf46 (fz_su_all rfl)
  have hXd51 : fz_Xd H41 := fz_Xd_eq (funext fun s => hf46 80 s rfl) hXd18
  have hXh52 : fz_Xh H41 := fz_Xh_eq (funext fun s => hf46 83 s rfl) hXh19
  have hXw53 : fz_Xw H41 := fz_Xw_eq (hf46 53 19 rfl) (funext fun s => hf46 66 s rfl) (funext fun s => hf46 67 s rfl) (funext fun s => hf46 68 s rfl) (funext fun s => hf46 69 s rfl) hXw20
  have hRS54 : fz_RS H41 := fz_RS_eq (funext fun s => hf46 48 s rfl) (funext fun s => hf46 49 s rfl) (funext fun s => hf46 50 s rfl) (funext fun s => hf46 51 s rfl) (funext fun s => hf46 83 s rfl) (funext fun s => hf46 84 s rfl) (hf46 44 2 rfl) hRS21
  have hRP55 : fz_RP H41 := fz_RP_eq (funext fun s => hf46 52 s rfl) (funext fun s => hf46 85 s rfl) hRP22
  have hRK56 : fz_RK H41 := fz_RK_eq (funext fun s => hf46 45 s rfl) (funext fun s => hf46 81 s rfl) hRK23
  have hRT57 : fz_RT H41 := fz_RT_eq (funext fun s => hf46 41 s rfl) (funext fun s => hf46 42 s rfl) (hf46 1 7 rfl) hRT24
  have hRE58 : fz_RE H41 := fz_RE_eq (funext fun s => hf46 5 s rfl) (funext fun s => hf46 6 s rfl) (hf46 1 8 rfl) (hf46 1 7 rfl) hRE25
  have hX59 : fz_Xc H41 := fz_Xc_fr hf46 rfl hX26
  have t60 : H41 53 10 = H8 53 10 := hf46 53 10 rfl
  have t61 : H41 53 41 = H8 53 41 := hf46 53 41 rfl
  have t62 : H41 53 42 = H8 53 42 := hf46 53 42 rfl
  have t63 : H41 9 5 = H8 9 5 := hf46 9 5 rfl
  have t64 : H41 53 10 = H8 53 10 := hf46 53 10 rfl
  have t65 : H41 44 2 = H8 44 2 := hf46 44 2 rfl
  have t66 : H41 53 44 = H8 53 44 := hf46 53 44 rfl
  have t67 : H41 20 2 = H8 20 2 := hf46 20 2 rfl
  have t68 : H41 53 16 = H8 53 16 := hf46 53 16 rfl
  have t69 : H41 1 7 = H8 1 7 := hf46 1 7 rfl
  have t70 : H41 53 0 = H8 53 0 := hf46 53 0 rfl
  have t71 : H41 1 8 = H8 1 8 := hf46 1 8 rfl
  have t72 : H41 53 2 = H8 53 2 := hf46 53 2 rfl
  refine fz_pop rfl kLc35 rfl ?_
  refine fz_goto (tgt := 1816) kLc35 rfl (by decide) ?_
  have hRR73 : fz_RR H41 := fz_RR_act f15 f48 (fz_atr_eq (by omega) ((hf13 81 _ rfl).trans (congrFun hRK.symm _))) (hf46 44 3 rfl) (funext fun s => hf46 46 s rfl)
  exact K H41 ⟨hI45, hX59, hXd51, hXh52, hXw53, by omega, by omega, by omega, by omega, by omega, by omega, by omega, hRS54, hRP55, hRK56, hRR73, hRT57, hRE58⟩ (funext fun s => hf50 200 s rfl)
def mLc36 : fz_M := (yL_law, code, 4, (some .boolean), [(1492, .aload_n 1, 1, 0, 0, 0), (1493, .aload_n 0, 1, 0, 0, 0), (1494, .iload_n 3, 1, 0, 0, 0), (1495, .iconst 1, 1, 0, 0, 0), (1496, .iadd, 1, 0, 0, 0), (1497, .iaload, 1, 0, 0, 0), (1498, .invokevirtual 163, 3, 5008, 75, 0), (1501, .pop, 1, 0, 0, 0), (1502, .aload_n 2, 1, 0, 0, 0), (1503, .aload_n 0, 1, 0, 0, 0), (1504, .iload_n 3, 1, 0, 0, 0), (1505, .iconst 1, 1, 0, 0, 0), (1506, .iadd, 1, 0, 0, 0), (1507, .iaload, 1, 0, 0, 0), (1508, .invokevirtual 166, 3, 7164, 178, 0), (1511, .pop, 1, 0, 0, 0), (1512, .goto 304, 3, 0, 0, 0)])
set_option maxRecDepth 100000 in
theorem kLc36 : fz_okM mLc36 = true := by decide +kernel
set_option maxHeartbeats 1000000 in
set_option maxRecDepth 100000 in
theorem lc36 (h : fz_H) (hI : fz_Iv h) (hX : fz_Xc h) (hXd : fz_Xd h) (hXh : fz_Xh h) (hXw : fz_Xw h) (hv1 : h 53 10 ≤ 10) (hv2 : h 53 42 ≤ h 53 41) (hr0 : h 9 5 = h 53 10) (hr1 : h 44 2 = h 53 44) (hr2 : h 20 2 = h 53 16) (hr3 : h 1 7 = h 53 0) (hr4 : h 1 8 = h 53 2) (hRS : fz_RS h) (hRP : fz_RP h) (hRK : fz_RK h) (hRR : fz_RR h) (hRT : fz_RT h) (hRE : fz_RE h) (i : Int) (hi : 0 ≤ i ∧ i + 6 ≤ h 200 100000 ∧ h 200 100000 ≤ 3072) {Q : fz_H → Option fz_V → Prop} (K : ∀ H : fz_H, fz_Gd H → H 200 = h 200 → fz_R 47 mLe 1816 [(3, fz_i i), (0, fz_r 200), (1, fz_r 0), (2, fz_r 53)] [] H Q) : fz_R 47 mLc36 1492 [(3, fz_i i), (0, fz_r 200), (1, fz_r 0), (2, fz_r 53)] [] h Q := by
  have hf : fz_fr fz_all h h := fz_fr_rf
  refine fz_aload_n kLc36 rfl rfl ?_
  refine fz_aload_n kLc36 rfl rfl ?_
  refine fz_iload_n kLc36 rfl rfl ?_
  refine fz_iconst ⟨by decide, by decide⟩ kLc36 rfl ?_
  refine fz_iaddN kLc36 rfl (by omega) ?_
  obtain ⟨a1, e2⟩ : ∃ z, h 200 ((i + 1)).toNat = z := ⟨_, rfl⟩
  refine fz_taldV (v := a1) kLc36 rfl ⟨by decide, by decide⟩ (by omega) (by omega) e2 ?_
  have b3 : (-2147483648) ≤ h 44 3 ∧ h 44 3 ≤ 2147483647 := hI.1 44 _
  refine fz_callV (d' := 1) (M' := mX10_trace) (As := [fz_i a1]) (st := []) kLc36 rfl rfl vX10_trace rfl rfl rfl rfl (Nat.le_of_ble_eq_true rfl) (Nat.le_of_ble_eq_true rfl) (by decide) (sX10_trace h hI a1 ) (fun H4 r5 q6 o7 => ?_)
  obtain ⟨e8, y11, rfl, f9, f10⟩ := q6
  subst H4
  clear o7
  refine fz_pop rfl kLc36 rfl ?_
  refine fz_aload_n kLc36 rfl rfl ?_
  refine fz_aload_n kLc36 rfl rfl ?_
  refine fz_iload_n kLc36 rfl rfl ?_
  refine fz_iconst ⟨by decide, by decide⟩ kLc36 rfl ?_
  refine fz_iaddN kLc36 rfl (by omega) ?_
  refine fz_taldV (v := a1) kLc36 rfl ⟨by decide, by decide⟩ (by omega) (by omega) e2 ?_
  have b12 : 0 ≤ h 53 46 ∧ h 53 46 ≤ 1000 := hI.1 53 _
  refine fz_callV (d' := 1) (M' := mX11_trace) (As := [fz_i a1]) (st := []) kLc36 rfl rfl vX11_trace rfl rfl rfl rfl (Nat.le_of_ble_eq_true rfl) (Nat.le_of_ble_eq_true rfl) (by decide) (sX11_trace h hI a1 ) (fun H13 r14 q15 o16 => ?_)
  obtain ⟨e17, y20, rfl, f18, f19⟩ := q15
  subst H13
  clear o16
  refine fz_pop rfl kLc36 rfl ?_
  refine fz_goto (tgt := 1816) kLc36 rfl (by decide) ?_
  exact K h ⟨hI, hX, hXd, hXh, hXw, by omega, by omega, by omega, by omega, by omega, by omega, by omega, hRS, hRP, hRK, hRR, hRT, hRE⟩ rfl
def mLc37 : fz_M := (yL_law, code, 4, (some .boolean), [(1515, .aload_n 1, 1, 0, 0, 0), (1516, .aload_n 0, 1, 0, 0, 0), (1517, .iload_n 3, 1, 0, 0, 0), (1518, .iconst 1, 1, 0, 0, 0), (1519, .iadd, 1, 0, 0, 0), (1520, .iaload, 1, 0, 0, 0), (1521, .aload_n 0, 1, 0, 0, 0), (1522, .iload_n 3, 1, 0, 0, 0), (1523, .iconst 2, 1, 0, 0, 0), (1524, .iadd, 1, 0, 0, 0), (1525, .iaload, 1, 0, 0, 0), (1526, .invokevirtual 167, 3, 5013, 51, 0), (1529, .pop, 1, 0, 0, 0), (1530, .aload_n 2, 1, 0, 0, 0), (1531, .aload_n 0, 1, 0, 0, 0), (1532, .iload_n 3, 1, 0, 0, 0), (1533, .iconst 1, 1, 0, 0, 0), (1534, .iadd, 1, 0, 0, 0), (1535, .iaload, 1, 0, 0, 0), (1536, .aload_n 0, 1, 0, 0, 0), (1537, .iload_n 3, 1, 0, 0, 0), (1538, .iconst 2, 1, 0, 0, 0), (1539, .iadd, 1, 0, 0, 0), (1540, .iaload, 1, 0, 0, 0), (1541, .invokevirtual 170, 3, 7168, 142, 0), (1544, .pop, 1, 0, 0, 0), (1545, .goto 271, 3, 0, 0, 0)])
set_option maxRecDepth 100000 in
theorem kLc37 : fz_okM mLc37 = true := by decide +kernel
set_option maxHeartbeats 1000000 in
set_option maxRecDepth 100000 in
theorem lc37 (h : fz_H) (hI : fz_Iv h) (hX : fz_Xc h) (hXd : fz_Xd h) (hXh : fz_Xh h) (hXw : fz_Xw h) (hv1 : h 53 10 ≤ 10) (hv2 : h 53 42 ≤ h 53 41) (hr0 : h 9 5 = h 53 10) (hr1 : h 44 2 = h 53 44) (hr2 : h 20 2 = h 53 16) (hr3 : h 1 7 = h 53 0) (hr4 : h 1 8 = h 53 2) (hRS : fz_RS h) (hRP : fz_RP h) (hRK : fz_RK h) (hRR : fz_RR h) (hRT : fz_RT h) (hRE : fz_RE h) (i : Int) (hi : 0 ≤ i ∧ i + 6 ≤ h 200 100000 ∧ h 200 100000 ≤ 3072) {Q : fz_H → Option fz_V → Prop} (K : ∀ H : fz_H, fz_Gd H → H 200 = h 200 → fz_R 47 mLe 1816 [(3, fz_i i), (0, fz_r 200), (1, fz_r 0), (2, fz_r 53)] [] H Q) : fz_R 47 mLc37 1515 [(3, fz_i i), (0, fz_r 200), (1, fz_r 0), (2, fz_r 53)] [] h Q := by
  have hf : fz_fr fz_all h h := fz_fr_rf
  refine fz_aload_n kLc37 rfl rfl ?_
  refine fz_aload_n kLc37 rfl rfl ?_
  refine fz_iload_n kLc37 rfl rfl ?_
  refine fz_iconst ⟨by decide, by decide⟩ kLc37 rfl ?_
  refine fz_iaddN kLc37 rfl (by omega) ?_
  obtain ⟨a1, e2⟩ : ∃ z, h 200 ((i + 1)).toNat = z := ⟨_, rfl⟩
  refine fz_taldV (v := a1) kLc37 rfl ⟨by decide, by decide⟩ (by omega) (by omega) e2 ?_
  refine fz_aload_n kLc37 rfl rfl ?_
  refine fz_iload_n kLc37 rfl rfl ?_
  refine fz_iconst ⟨by decide, by decide⟩ kLc37 rfl ?_
  refine fz_iaddN kLc37 rfl (by omega) ?_
  obtain ⟨a3, e4⟩ : ∃ z, h 200 ((i + 2)).toNat = z := ⟨_, rfl⟩
  refine fz_taldV (v := a3) kLc37 rfl ⟨by decide, by decide⟩ (by omega) (by omega) e4 ?_
  have b5 : 0 ≤ h 44 2 ∧ h 44 2 ≤ 50 := hI.1 44 _
  refine fz_callV (d' := 1) (M' := mX10_keep) (As := [fz_i a1, fz_i a3]) (st := []) kLc37 rfl rfl vX10_keep rfl rfl rfl rfl (Nat.le_of_ble_eq_true rfl) (Nat.le_of_ble_eq_true rfl) (by decide) (sX10_keep h hI a1 a3 ) (fun H6 r7 q8 o9 => ?_)
  obtain ⟨hI10, hf11, y15, rfl, f12, f13, f14⟩ := q8
  clear o9
  have hf16 := fz_fr_tr hf hf11 (fz_su_all rfl)
  have hXd17 : fz_Xd H6 := fz_Xd_eq (funext fun s => hf11 80 s rfl) hXd
  have hXh18 : fz_Xh H6 := fz_Xh_eq (funext fun s => hf11 83 s rfl) hXh
  have hXw19 : fz_Xw H6 := fz_Xw_eq (hf11 53 19 rfl) (funext fun s => hf11 66 s rfl) (funext fun s => hf11 67 s rfl) (funext fun s => hf11 68 s rfl) (funext fun s => hf11 69 s rfl) hXw
  have hRP20 : fz_RP H6 := fz_RP_eq (funext fun s => hf11 52 s rfl) (funext fun s => hf11 85 s rfl) hRP
  have hRK21 : fz_RK H6 := fz_RK_eq (funext fun s => hf11 45 s rfl) (funext fun s => hf11 81 s rfl) hRK
  have hRR22 : fz_RR H6 := fz_RR_eq (hf11 44 3 rfl) (hf11 53 46 rfl) (funext fun s => hf11 46 s rfl) (funext fun s => hf11 82 s rfl) hRR
  have hRT23 : fz_RT H6 := fz_RT_eq (funext fun s => hf11 41 s rfl) (funext fun s => hf11 42 s rfl) (hf11 1 7 rfl) hRT
  have hRE24 : fz_RE H6 := fz_RE_eq (funext fun s => hf11 5 s rfl) (funext fun s => hf11 6 s rfl) (hf11 1 8 rfl) (hf11 1 7 rfl) hRE
  have hX25 : fz_Xc H6 := fz_Xc_fr hf11 rfl hX
  have t26 : H6 53 10 = h 53 10 := hf11 53 10 rfl
  have t27 : H6 53 41 = h 53 41 := hf11 53 41 rfl
  have t28 : H6 53 42 = h 53 42 := hf11 53 42 rfl
  have t29 : H6 9 5 = h 9 5 := hf11 9 5 rfl
  have t30 : H6 53 10 = h 53 10 := hf11 53 10 rfl
  have t31 : H6 44 2 = h 44 2 := hf11 44 2 rfl
  have t32 : H6 53 44 = h 53 44 := hf11 53 44 rfl
  have t33 : H6 20 2 = h 20 2 := hf11 20 2 rfl
  have t34 : H6 53 16 = h 53 16 := hf11 53 16 rfl
  have t35 : H6 1 7 = h 1 7 := hf11 1 7 rfl
  have t36 : H6 53 0 = h 53 0 := hf11 53 0 rfl
  have t37 : H6 1 8 = h 1 8 := hf11 1 8 rfl
  have t38 : H6 53 2 = h 53 2 := hf11 53 2 rfl
  refine fz_pop rfl kLc37 rfl ?_
  refine fz_aload_n kLc37 rfl rfl ?_
  refine fz_aload_n kLc37 rfl rfl ?_
  refine fz_iload_n kLc37 rfl rfl ?_
  refine fz_iconst ⟨by decide, by decide⟩ kLc37 rfl ?_
  refine fz_iaddN kLc37 rfl (by omega) ?_
  refine fz_taldV (v := a1) kLc37 rfl ⟨by decide, by decide⟩ (by omega) (by rw [hf16 200 _ rfl]; omega) ((hf16 200 _ rfl).trans e2) ?_
  refine fz_aload_n kLc37 rfl rfl ?_
  refine fz_iload_n kLc37 rfl rfl ?_
  refine fz_iconst ⟨by decide, by decide⟩ kLc37 rfl ?_
  refine fz_iaddN kLc37 rfl (by omega) ?_
  refine fz_taldV (v := a3) kLc37 rfl ⟨by decide, by decide⟩ (by omega) (by rw [hf16 200 _ rfl]; omega) ((hf16 200 _ rfl).trans e4) ?_
  have b39 : 0 ≤ H6 53 44 ∧ H6 53 44 ≤ 50 := hI10.1 53 _
  refine fz_callV (d' := 2) (M' := mX11_keep) (As := [fz_i a1, fz_i a3]) (st := []) kLc37 rfl rfl vX11_keep rfl rfl rfl rfl (Nat.le_of_ble_eq_true rfl) (Nat.le_of_ble_eq_true rfl) (by decide) (sX11_keep H6 hI10 a1 a3 hXh18) (fun H40 r41 q42 o43 => ?_)
  obtain ⟨hI44, hf45, hXh46, y50, rfl, f47, f48, f49⟩ := q42
  clear o43
  have hf51 := fz_fr_tr hf16 hf45 (fz_su_all rfl)
  have hXd52 : fz_Xd H40 := fz_Xd_eq (funext fun s => hf45 80 s rfl) hXd17
  have hXw53 : fz_Xw H40 := fz_Xw_eq (hf45 53 19 rfl) (funext fun s => hf45 66 s rfl) (funext fun s => hf45 67 s rfl) (funext fun s => hf45 68 s rfl) (funext fun s => hf45 69 s rfl) hXw19
  have hRP54 : fz_RP H40 := fz_RP_eq (funext fun s => hf45 52 s rfl) (funext fun s => hf45 85 s rfl) hRP20
  have hRK55 : fz_RK H40 := fz_RK_eq (funext fun s => hf45 45 s rfl) (funext fun s => hf45 81 s rfl) hRK21
  have hRR56 : fz_RR H40 := fz_RR_eq (hf45 44 3 rfl) (hf45 53 46 rfl) (funext fun s => hf45 46 s rfl) (funext fun s => hf45 82 s rfl) hRR22
  have hRT57 : fz_RT H40 := fz_RT_eq (funext fun s => hf45 41 s rfl) (funext fun s => hf45 42 s rfl) (hf45 1 7 rfl) hRT23
  have hRE58 : fz_RE H40 := fz_RE_eq (funext fun s => hf45 5 s rfl) (funext fun s => hf45 6 s rfl) (hf45 1 8 rfl) (hf45 1 7 rfl) hRE24
  have hX59 : fz_Xc H40 := fz_Xc_fr hf45 rfl hX25
  have t60 : H40 53 10 = H6 53 10 := hf45 53 10 rfl
  have t61 : H40 53 41 = H6 53 41 := hf45 53 41 rfl
  have t62 : H40 53 42 = H6 53 42 := hf45 53 42 rfl
  have t63 : H40 9 5 = H6 9 5 := hf45 9 5 rfl
  have t64 : H40 53 10 = H6 53 10 := hf45 53 10 rfl
  have t65 : H40 44 2 = H6 44 2 := hf45 44 2 rfl
  have t66 : H40 53 44 = H6 53 44 := hf45 53 44 rfl
  have t67 : H40 20 2 = H6 20 2 := hf45 20 2 rfl
  have t68 : H40 53 16 = H6 53 16 := hf45 53 16 rfl
  have t69 : H40 1 7 = H6 1 7 := hf45 1 7 rfl
  have t70 : H40 53 0 = H6 53 0 := hf45 53 0 rfl
  have t71 : H40 1 8 = H6 1 8 := hf45 1 8 rfl
  have t72 : H40 53 2 = H6 53 2 := hf45 53 2 rfl
  refine fz_pop rfl kLc37 rfl ?_
  refine fz_goto (tgt := 1816) kLc37 rfl (by decide) ?_
  have hRS73 : fz_RS H40 := fz_RS_keep hRS f14 f49 (by omega)
  exact K H40 ⟨hI44, hX59, hXd52, hXh46, hXw53, by omega, by omega, by omega, by omega, by omega, by omega, by omega, hRS73, hRP54, hRK55, hRR56, hRT57, hRE58⟩ (funext fun s => hf51 200 s rfl)
def mLc38 : fz_M := (yL_law, code, 4, (some .boolean), [(1548, .aload_n 1, 1, 0, 0, 0), (1549, .aload_n 0, 1, 0, 0, 0), (1550, .iload_n 3, 1, 0, 0, 0), (1551, .iconst 1, 1, 0, 0, 0), (1552, .iadd, 1, 0, 0, 0), (1553, .iaload, 1, 0, 0, 0), (1554, .aload_n 0, 1, 0, 0, 0), (1555, .iload_n 3, 1, 0, 0, 0), (1556, .iconst 2, 1, 0, 0, 0), (1557, .iadd, 1, 0, 0, 0), (1558, .iaload, 1, 0, 0, 0), (1559, .aload_n 0, 1, 0, 0, 0), (1560, .iload_n 3, 1, 0, 0, 0), (1561, .iconst 3, 1, 0, 0, 0), (1562, .iadd, 1, 0, 0, 0), (1563, .iaload, 1, 0, 0, 0), (1564, .invokevirtual 171, 3, 5022, 69, 0), (1567, .pop, 1, 0, 0, 0), (1568, .aload_n 2, 1, 0, 0, 0), (1569, .aload_n 0, 1, 0, 0, 0), (1570, .iload_n 3, 1, 0, 0, 0), (1571, .iconst 1, 1, 0, 0, 0), (1572, .iadd, 1, 0, 0, 0), (1573, .iaload, 1, 0, 0, 0), (1574, .aload_n 0, 1, 0, 0, 0), (1575, .iload_n 3, 1, 0, 0, 0), (1576, .iconst 2, 1, 0, 0, 0), (1577, .iadd, 1, 0, 0, 0), (1578, .iaload, 1, 0, 0, 0), (1579, .aload_n 0, 1, 0, 0, 0), (1580, .iload_n 3, 1, 0, 0, 0), (1581, .iconst 3, 1, 0, 0, 0), (1582, .iadd, 1, 0, 0, 0), (1583, .iaload, 1, 0, 0, 0), (1584, .invokevirtual 174, 3, 7172, 169, 0), (1587, .pop, 1, 0, 0, 0), (1588, .goto 228, 3, 0, 0, 0)])
set_option maxRecDepth 100000 in
theorem kLc38 : fz_okM mLc38 = true := by decide +kernel
set_option maxHeartbeats 1000000 in
set_option maxRecDepth 100000 in
theorem lc38 (h : fz_H) (hI : fz_Iv h) (hX : fz_Xc h) (hXd : fz_Xd h) (hXh : fz_Xh h) (hXw : fz_Xw h) (hv1 : h 53 10 ≤ 10) (hv2 : h 53 42 ≤ h 53 41) (hr0 : h 9 5 = h 53 10) (hr1 : h 44 2 = h 53 44) (hr2 : h 20 2 = h 53 16) (hr3 : h 1 7 = h 53 0) (hr4 : h 1 8 = h 53 2) (hRS : fz_RS h) (hRP : fz_RP h) (hRK : fz_RK h) (hRR : fz_RR h) (hRT : fz_RT h) (hRE : fz_RE h) (i : Int) (hi : 0 ≤ i ∧ i + 6 ≤ h 200 100000 ∧ h 200 100000 ≤ 3072) {Q : fz_H → Option fz_V → Prop} (K : ∀ H : fz_H, fz_Gd H → H 200 = h 200 → fz_R 47 mLe 1816 [(3, fz_i i), (0, fz_r 200), (1, fz_r 0), (2, fz_r 53)] [] H Q) : fz_R 47 mLc38 1548 [(3, fz_i i), (0, fz_r 200), (1, fz_r 0), (2, fz_r 53)] [] h Q := by
  have hf : fz_fr fz_all h h := fz_fr_rf
  refine fz_aload_n kLc38 rfl rfl ?_
  refine fz_aload_n kLc38 rfl rfl ?_
  refine fz_iload_n kLc38 rfl rfl ?_
  refine fz_iconst ⟨by decide, by decide⟩ kLc38 rfl ?_
  refine fz_iaddN kLc38 rfl (by omega) ?_
  obtain ⟨a1, e2⟩ : ∃ z, h 200 ((i + 1)).toNat = z := ⟨_, rfl⟩
  refine fz_taldV (v := a1) kLc38 rfl ⟨by decide, by decide⟩ (by omega) (by omega) e2 ?_
  refine fz_aload_n kLc38 rfl rfl ?_
  refine fz_iload_n kLc38 rfl rfl ?_
  refine fz_iconst ⟨by decide, by decide⟩ kLc38 rfl ?_
  refine fz_iaddN kLc38 rfl (by omega) ?_
  obtain ⟨a3, e4⟩ : ∃ z, h 200 ((i + 2)).toNat = z := ⟨_, rfl⟩
  refine fz_taldV (v := a3) kLc38 rfl ⟨by decide, by decide⟩ (by omega) (by omega) e4 ?_
  refine fz_aload_n kLc38 rfl rfl ?_
  refine fz_iload_n kLc38 rfl rfl ?_
  refine fz_iconst ⟨by decide, by decide⟩ kLc38 rfl ?_
  refine fz_iaddN kLc38 rfl (by omega) ?_
  obtain ⟨a5, e6⟩ : ∃ z, h 200 ((i + 3)).toNat = z := ⟨_, rfl⟩
  refine fz_taldV (v := a5) kLc38 rfl ⟨by decide, by decide⟩ (by omega) (by omega) e6 ?_
  refine fz_callV (d' := 3) (M' := mX10_row) (As := [fz_i a1, fz_i a3, fz_i a5]) (st := []) kLc38 rfl rfl vX10_row rfl rfl rfl rfl (Nat.le_of_ble_eq_true rfl) (Nat.le_of_ble_eq_true rfl) (by decide) (sX10_row h hI a1 a3 a5 ) (fun H7 r8 q9 o10 => ?_)
  obtain ⟨hI11, hf12, y16, rfl, f13, f14, f15⟩ := q9
  clear o10
  have hf17 := fz_fr_tr hf hf12 (fz_su_all rfl)
  have hXd18 : fz_Xd H7 := fz_Xd_eq (funext fun s => hf12 80 s rfl) hXd
  have hXh19 : fz_Xh H7 := fz_Xh_eq (funext fun s => hf12 83 s rfl) hXh
  have hXw20 : fz_Xw H7 := fz_Xw_eq (hf12 53 19 rfl) (funext fun s => hf12 66 s rfl) (funext fun s => hf12 67 s rfl) (funext fun s => hf12 68 s rfl) (funext fun s => hf12 69 s rfl) hXw
  have hRK21 : fz_RK H7 := fz_RK_eq (funext fun s => hf12 45 s rfl) (funext fun s => hf12 81 s rfl) hRK
  have hRR22 : fz_RR H7 := fz_RR_eq (hf12 44 3 rfl) (hf12 53 46 rfl) (funext fun s => hf12 46 s rfl) (funext fun s => hf12 82 s rfl) hRR
  have hRT23 : fz_RT H7 := fz_RT_eq (funext fun s => hf12 41 s rfl) (funext fun s => hf12 42 s rfl) (hf12 1 7 rfl) hRT
  have hRE24 : fz_RE H7 := fz_RE_eq (funext fun s => hf12 5 s rfl) (funext fun s => hf12 6 s rfl) (hf12 1 8 rfl) (hf12 1 7 rfl) hRE
  have hX25 : fz_Xc H7 := fz_Xc_fr hf12 rfl hX
  have t26 : H7 53 10 = h 53 10 := hf12 53 10 rfl
  have t27 : H7 53 41 = h 53 41 := hf12 53 41 rfl
  have t28 : H7 53 42 = h 53 42 := hf12 53 42 rfl
  have t29 : H7 9 5 = h 9 5 := hf12 9 5 rfl
  have t30 : H7 53 10 = h 53 10 := hf12 53 10 rfl
  have t31 : H7 44 2 = h 44 2 := hf12 44 2 rfl
  have t32 : H7 53 44 = h 53 44 := hf12 53 44 rfl
  have t33 : H7 20 2 = h 20 2 := hf12 20 2 rfl
  have t34 : H7 53 16 = h 53 16 := hf12 53 16 rfl
  have t35 : H7 1 7 = h 1 7 := hf12 1 7 rfl
  have t36 : H7 53 0 = h 53 0 := hf12 53 0 rfl
  have t37 : H7 1 8 = h 1 8 := hf12 1 8 rfl
  have t38 : H7 53 2 = h 53 2 := hf12 53 2 rfl
  refine fz_pop rfl kLc38 rfl ?_
  refine fz_aload_n kLc38 rfl rfl ?_
  refine fz_aload_n kLc38 rfl rfl ?_
  refine fz_iload_n kLc38 rfl rfl ?_
  refine fz_iconst ⟨by decide, by decide⟩ kLc38 rfl ?_
  refine fz_iaddN kLc38 rfl (by omega) ?_
  refine fz_taldV (v := a1) kLc38 rfl ⟨by decide, by decide⟩ (by omega) (by rw [hf17 200 _ rfl]; omega) ((hf17 200 _ rfl).trans e2) ?_
  refine fz_aload_n kLc38 rfl rfl ?_
  refine fz_iload_n kLc38 rfl rfl ?_
  refine fz_iconst ⟨by decide, by decide⟩ kLc38 rfl ?_
  refine fz_iaddN kLc38 rfl (by omega) ?_
  refine fz_taldV (v := a3) kLc38 rfl ⟨by decide, by decide⟩ (by omega) (by rw [hf17 200 _ rfl]; omega) ((hf17 200 _ rfl).trans e4) ?_
  refine fz_aload_n kLc38 rfl rfl ?_
  refine fz_iload_n kLc38 rfl rfl ?_
  refine fz_iconst ⟨by decide, by decide⟩ kLc38 rfl ?_
  refine fz_iaddN kLc38 rfl (by omega) ?_
  refine fz_taldV (v := a5) kLc38 rfl ⟨by decide, by decide⟩ (by omega) (by rw [hf17 200 _ rfl]; omega) ((hf17 200 _ rfl).trans e6) ?_
  refine fz_callV (d' := 2) (M' := mX11_row) (As := [fz_i a1, fz_i a3, fz_i a5]) (st := []) kLc38 rfl rfl vX11_row rfl rfl rfl rfl (Nat.le_of_ble_eq_true rfl) (Nat.le_of_ble_eq_true rfl) (by decide) (sX11_row H7 hI11 a1 a3 a5 hXh19) (fun H39 r40 q41 o42 => ?_)
  obtain ⟨hI43, hf44, hXh45, y49, rfl, f46, f47, f48⟩ := q41
  clear o42
  have hf50 := fz_fr_tr hf17 hf44 (fz_su_all rfl)
  have hXd51 : fz_Xd H39 := fz_Xd_eq (funext fun s => hf44 80 s rfl) hXd18
  have hXw52 : fz_Xw H39 := fz_Xw_eq (hf44 53 19 rfl) (funext fun s => hf44 66 s rfl) (funext fun s => hf44 67 s rfl) (funext fun s => hf44 68 s rfl) (funext fun s => hf44 69 s rfl) hXw20
  have hRK53 : fz_RK H39 := fz_RK_eq (funext fun s => hf44 45 s rfl) (funext fun s => hf44 81 s rfl) hRK21
  have hRR54 : fz_RR H39 := fz_RR_eq (hf44 44 3 rfl) (hf44 53 46 rfl) (funext fun s => hf44 46 s rfl) (funext fun s => hf44 82 s rfl) hRR22
  have hRT55 : fz_RT H39 := fz_RT_eq (funext fun s => hf44 41 s rfl) (funext fun s => hf44 42 s rfl) (hf44 1 7 rfl) hRT23
  have hRE56 : fz_RE H39 := fz_RE_eq (funext fun s => hf44 5 s rfl) (funext fun s => hf44 6 s rfl) (hf44 1 8 rfl) (hf44 1 7 rfl) hRE24
  have hX57 : fz_Xc H39 := fz_Xc_fr hf44 rfl hX25
  have t58 : H39 53 10 = H7 53 10 := hf44 53 10 rfl
  have t59 : H39 53 41 = H7 53 41 := hf44 53 41 rfl
  have t60 : H39 53 42 = H7 53 42 := hf44 53 42 rfl
  have t61 : H39 9 5 = H7 9 5 := hf44 9 5 rfl
  have t62 : H39 53 10 = H7 53 10 := hf44 53 10 rfl
  have t63 : H39 44 2 = H7 44 2 := hf44 44 2 rfl
  have t64 : H39 53 44 = H7 53 44 := hf44 53 44 rfl
  have t65 : H39 20 2 = H7 20 2 := hf44 20 2 rfl
  have t66 : H39 53 16 = H7 53 16 := hf44 53 16 rfl
  have t67 : H39 1 7 = H7 1 7 := hf44 1 7 rfl
  have t68 : H39 53 0 = H7 53 0 := hf44 53 0 rfl
  have t69 : H39 1 8 = H7 1 8 := hf44 1 8 rfl
  have t70 : H39 53 2 = H7 53 2 := hf44 53 2 rfl
  refine fz_pop rfl kLc38 rfl ?_
  refine fz_goto (tgt := 1816) kLc38 rfl (by decide) ?_
  have hRS71 : fz_RS H39 := fz_RS_row hRS f15 f48
  have hRP73 : fz_RP H39 := fz_RP_row hRP f15 f48
  exact K H39 ⟨hI43, hX57, hXd51, hXh45, hXw52, by omega, by omega, by omega, by omega, by omega, by omega, by omega, hRS71, hRP73, hRK53, hRR54, hRT55, hRE56⟩ (funext fun s => hf50 200 s rfl)
def mLc39 : fz_M := (yL_law, code, 4, (some .boolean), [(1591, .aload_n 1, 1, 0, 0, 0), (1592, .aload_n 0, 1, 0, 0, 0), (1593, .iload_n 3, 1, 0, 0, 0), (1594, .iconst 1, 1, 0, 0, 0), (1595, .iadd, 1, 0, 0, 0), (1596, .iaload, 1, 0, 0, 0), (1597, .aload_n 0, 1, 0, 0, 0), (1598, .iload_n 3, 1, 0, 0, 0), (1599, .iconst 2, 1, 0, 0, 0), (1600, .iadd, 1, 0, 0, 0), (1601, .iaload, 1, 0, 0, 0), (1602, .aload_n 0, 1, 0, 0, 0), (1603, .iload_n 3, 1, 0, 0, 0), (1604, .iconst 3, 1, 0, 0, 0), (1605, .iadd, 1, 0, 0, 0), (1606, .iaload, 1, 0, 0, 0), (1607, .i2l, 1, 0, 0, 0), (1608, .bipush 32, 2, 0, 0, 0), (1610, .lshl, 1, 0, 0, 0), (1611, .aload_n 0, 1, 0, 0, 0), (1612, .iload_n 3, 1, 0, 0, 0), (1613, .iconst 4, 1, 0, 0, 0), (1614, .iadd, 1, 0, 0, 0), (1615, .iaload, 1, 0, 0, 0), (1616, .i2l, 1, 0, 0, 0), (1617, .ldc2_w 175, 3, 7203, 0, 0), (1620, .land, 1, 0, 0, 0), (1621, .lor, 1, 0, 0, 0), (1622, .invokevirtual 177, 3, 5036, 62, 0), (1625, .aload_n 2, 1, 0, 0, 0), (1626, .aload_n 0, 1, 0, 0, 0), (1627, .iload_n 3, 1, 0, 0, 0), (1628, .iconst 1, 1, 0, 0, 0), (1629, .iadd, 1, 0, 0, 0), (1630, .iaload, 1, 0, 0, 0), (1631, .aload_n 0, 1, 0, 0, 0), (1632, .iload_n 3, 1, 0, 0, 0), (1633, .iconst 2, 1, 0, 0, 0), (1634, .iadd, 1, 0, 0, 0), (1635, .iaload, 1, 0, 0, 0), (1636, .aload_n 0, 1, 0, 0, 0), (1637, .iload_n 3, 1, 0, 0, 0), (1638, .iconst 3, 1, 0, 0, 0), (1639, .iadd, 1, 0, 0, 0), (1640, .iaload, 1, 0, 0, 0), (1641, .i2l, 1, 0, 0, 0), (1642, .bipush 32, 2, 0, 0, 0), (1644, .lshl, 1, 0, 0, 0), (1645, .aload_n 0, 1, 0, 0, 0), (1646, .iload_n 3, 1, 0, 0, 0), (1647, .iconst 4, 1, 0, 0, 0), (1648, .iadd, 1, 0, 0, 0), (1649, .iaload, 1, 0, 0, 0), (1650, .i2l, 1, 0, 0, 0), (1651, .ldc2_w 175, 3, 7203, 0, 0), (1654, .land, 1, 0, 0, 0), (1655, .lor, 1, 0, 0, 0), (1656, .invokevirtual 181, 3, 7176, 161, 0), (1659, .if_icmp .eq 157, 3, 0, 0, 0), (1662, .iconst 0, 1, 0, 0, 0), (1663, .ireturn, 1, 0, 0, 0)])
set_option maxRecDepth 100000 in
theorem kLc39 : fz_okM mLc39 = true := by decide +kernel
set_option maxHeartbeats 1000000 in
set_option maxRecDepth 100000 in
theorem lc39 (h : fz_H) (hI : fz_Iv h) (hX : fz_Xc h) (hXd : fz_Xd h) (hXh : fz_Xh h) (hXw : fz_Xw h) (hv1 : h 53 10 ≤ 10) (hv2 : h 53 42 ≤ h 53 41) (hr0 : h 9 5 = h 53 10) (hr1 : h 44 2 = h 53 44) (hr2 : h 20 2 = h 53 16) (hr3 : h 1 7 = h 53 0) (hr4 : h 1 8 = h 53 2) (hRS : fz_RS h) (hRP : fz_RP h) (hRK : fz_RK h) (hRR : fz_RR h) (hRT : fz_RT h) (hRE : fz_RE h) (i : Int) (hi : 0 ≤ i ∧ i + 6 ≤ h 200 100000 ∧ h 200 100000 ≤ 3072) {Q : fz_H → Option fz_V → Prop} (K : ∀ H : fz_H, fz_Gd H → H 200 = h 200 → fz_R 47 mLe 1816 [(3, fz_i i), (0, fz_r 200), (1, fz_r 0), (2, fz_r 53)] [] H Q) : fz_R 47 mLc39 1591 [(3, fz_i i), (0, fz_r 200), (1, fz_r 0), (2, fz_r 53)] [] h Q := by
  have hf : fz_fr fz_all h h := fz_fr_rf
  refine fz_aload_n kLc39 rfl rfl ?_
  refine fz_aload_n kLc39 rfl rfl ?_
  refine fz_iload_n kLc39 rfl rfl ?_
  refine fz_iconst ⟨by decide, by decide⟩ kLc39 rfl ?_
  refine fz_iaddN kLc39 rfl (by omega) ?_
  obtain ⟨a1, e2⟩ : ∃ z, h 200 ((i + 1)).toNat = z := ⟨_, rfl⟩
  refine fz_taldV (v := a1) kLc39 rfl ⟨by decide, by decide⟩ (by omega) (by omega) e2 ?_
  refine fz_aload_n kLc39 rfl rfl ?_
  refine fz_iload_n kLc39 rfl rfl ?_
  refine fz_iconst ⟨by decide, by decide⟩ kLc39 rfl ?_
  refine fz_iaddN kLc39 rfl (by omega) ?_
  obtain ⟨a3, e4⟩ : ∃ z, h 200 ((i + 2)).toNat = z := ⟨_, rfl⟩
  refine fz_taldV (v := a3) kLc39 rfl ⟨by decide, by decide⟩ (by omega) (by omega) e4 ?_
  refine fz_aload_n kLc39 rfl rfl ?_
  refine fz_iload_n kLc39 rfl rfl ?_
  refine fz_iconst ⟨by decide, by decide⟩ kLc39 rfl ?_
  refine fz_iaddN kLc39 rfl (by omega) ?_
  obtain ⟨a5, e6⟩ : ∃ z, h 200 ((i + 3)).toNat = z := ⟨_, rfl⟩
  refine fz_taldV (v := a5) kLc39 rfl ⟨by decide, by decide⟩ (by omega) (by omega) e6 ?_
  refine fz_i2l kLc39 rfl ?_
  refine fz_bipush ⟨by decide, by decide⟩ kLc39 rfl ?_
  refine fz_lshl kLc39 rfl ?_
  refine fz_aload_n kLc39 rfl rfl ?_
  refine fz_iload_n kLc39 rfl rfl ?_
  refine fz_iconst ⟨by decide, by decide⟩ kLc39 rfl ?_
  refine fz_iaddN kLc39 rfl (by omega) ?_
  obtain ⟨a7, e8⟩ : ∃ z, h 200 ((i + 4)).toNat = z := ⟨_, rfl⟩
  refine fz_taldV (v := a7) kLc39 rfl ⟨by decide, by decide⟩ (by omega) (by omega) e8 ?_
  refine fz_i2l kLc39 rfl ?_
  refine fz_ldc2 (x := 4294967295) kLc39 rfl rfl rfl ?_
  refine fz_land kLc39 rfl ?_
  refine fz_lor kLc39 rfl ?_
  refine fz_callV (d' := 3) (M' := mX10_put) (As := [fz_i a1, fz_i a3, fz_l (fz_orl (fz_shll a5 32) (fz_andl a7 4294967295))]) (st := []) kLc39 rfl rfl vX10_put rfl rfl rfl rfl (Nat.le_of_ble_eq_true rfl) (Nat.le_of_ble_eq_true rfl) (by decide) (sX10_put h hI a1 a3 (fz_orl (fz_shll a5 32) (fz_andl a7 4294967295)) ) (fun H9 r10 q11 o12 => ?_)
  obtain ⟨hI13, hf14, y18, rfl, f15, f16, f17⟩ := q11
  clear o12
  have hf19 := fz_fr_tr hf hf14 (fz_su_all rfl)
  have hXd20 : fz_Xd H9 := fz_Xd_eq (funext fun s => hf14 80 s rfl) hXd
  have hXh21 : fz_Xh H9 := fz_Xh_eq (funext fun s => hf14 83 s rfl) hXh
  have hXw22 : fz_Xw H9 := fz_Xw_eq (hf14 53 19 rfl) (funext fun s => hf14 66 s rfl) (funext fun s => hf14 67 s rfl) (funext fun s => hf14 68 s rfl) (funext fun s => hf14 69 s rfl) hXw
  have hRS23 : fz_RS H9 := fz_RS_eq (funext fun s => hf14 48 s rfl) (funext fun s => hf14 49 s rfl) (funext fun s => hf14 50 s rfl) (funext fun s => hf14 51 s rfl) (funext fun s => hf14 83 s rfl) (funext fun s => hf14 84 s rfl) (hf14 44 2 rfl) hRS
  have hRK24 : fz_RK H9 := fz_RK_eq (funext fun s => hf14 45 s rfl) (funext fun s => hf14 81 s rfl) hRK
  have hRR25 : fz_RR H9 := fz_RR_eq (hf14 44 3 rfl) (hf14 53 46 rfl) (funext fun s => hf14 46 s rfl) (funext fun s => hf14 82 s rfl) hRR
  have hRT26 : fz_RT H9 := fz_RT_eq (funext fun s => hf14 41 s rfl) (funext fun s => hf14 42 s rfl) (hf14 1 7 rfl) hRT
  have hRE27 : fz_RE H9 := fz_RE_eq (funext fun s => hf14 5 s rfl) (funext fun s => hf14 6 s rfl) (hf14 1 8 rfl) (hf14 1 7 rfl) hRE
  have hX28 : fz_Xc H9 := fz_Xc_fr hf14 rfl hX
  have t29 : H9 53 10 = h 53 10 := hf14 53 10 rfl
  have t30 : H9 53 41 = h 53 41 := hf14 53 41 rfl
  have t31 : H9 53 42 = h 53 42 := hf14 53 42 rfl
  have t32 : H9 9 5 = h 9 5 := hf14 9 5 rfl
  have t33 : H9 53 10 = h 53 10 := hf14 53 10 rfl
  have t34 : H9 44 2 = h 44 2 := hf14 44 2 rfl
  have t35 : H9 53 44 = h 53 44 := hf14 53 44 rfl
  have t36 : H9 20 2 = h 20 2 := hf14 20 2 rfl
  have t37 : H9 53 16 = h 53 16 := hf14 53 16 rfl
  have t38 : H9 1 7 = h 1 7 := hf14 1 7 rfl
  have t39 : H9 53 0 = h 53 0 := hf14 53 0 rfl
  have t40 : H9 1 8 = h 1 8 := hf14 1 8 rfl
  have t41 : H9 53 2 = h 53 2 := hf14 53 2 rfl
  refine fz_aload_n kLc39 rfl rfl ?_
  refine fz_aload_n kLc39 rfl rfl ?_
  refine fz_iload_n kLc39 rfl rfl ?_
  refine fz_iconst ⟨by decide, by decide⟩ kLc39 rfl ?_
  refine fz_iaddN kLc39 rfl (by omega) ?_
  refine fz_taldV (v := a1) kLc39 rfl ⟨by decide, by decide⟩ (by omega) (by rw [hf19 200 _ rfl]; omega) ((hf19 200 _ rfl).trans e2) ?_
  refine fz_aload_n kLc39 rfl rfl ?_
  refine fz_iload_n kLc39 rfl rfl ?_
  refine fz_iconst ⟨by decide, by decide⟩ kLc39 rfl ?_
  refine fz_iaddN kLc39 rfl (by omega) ?_
  refine fz_taldV (v := a3) kLc39 rfl ⟨by decide, by decide⟩ (by omega) (by rw [hf19 200 _ rfl]; omega) ((hf19 200 _ rfl).trans e4) ?_
  refine fz_aload_n kLc39 rfl rfl ?_
  refine fz_iload_n kLc39 rfl rfl ?_
  refine fz_iconst ⟨by decide, by decide⟩ kLc39 rfl ?_
  refine fz_iaddN kLc39 rfl (by omega) ?_
  refine fz_taldV (v := a5) kLc39 rfl ⟨by decide, by decide⟩ (by omega) (by rw [hf19 200 _ rfl]; omega) ((hf19 200 _ rfl).trans e6) ?_
  refine fz_i2l kLc39 rfl ?_
  refine fz_bipush ⟨by decide, by decide⟩ kLc39 rfl ?_
  refine fz_lshl kLc39 rfl ?_
  refine fz_aload_n kLc39 rfl rfl ?_
  refine fz_iload_n kLc39 rfl rfl ?_
  refine fz_iconst ⟨by decide, by decide⟩ kLc39 rfl ?_
  refine fz_iaddN kLc39 rfl (by omega) ?_
  refine fz_taldV (v := a7) kLc39 rfl ⟨by decide, by decide⟩ (by omega) (by rw [hf19 200 _ rfl]; omega) ((hf19 200 _ rfl).trans e8) ?_
  refine fz_i2l kLc39 rfl ?_
  refine fz_ldc2 (x := 4294967295) kLc39 rfl rfl rfl ?_
  refine fz_land kLc39 rfl ?_
  refine fz_lor kLc39 rfl ?_
  refine fz_callV (d' := 2) (M' := mX11_put) (As := [fz_i a1, fz_i a3, fz_l (fz_orl (fz_shll a5 32) (fz_andl a7 4294967295))]) (st := [fz_i y18]) kLc39 rfl rfl vX11_put rfl rfl rfl rfl (Nat.le_of_ble_eq_true rfl) (Nat.le_of_ble_eq_true rfl) (by decide) (sX11_put H9 hI13 a1 a3 (fz_orl (fz_shll a5 32) (fz_andl a7 4294967295)) ) (fun H42 r43 q44 o45 => ?_)
  obtain ⟨hI46, hf47, y51, rfl, f48, f49, f50⟩ := q44
  clear o45
  have hf52 := fz_fr_tr hf19 hf47 (fz_su_all rfl)
  have hXd53 : fz_Xd H42 := fz_Xd_eq (funext fun s => hf47 80 s rfl) hXd20
  have hXh54 : fz_Xh H42 := fz_Xh_eq (funext fun s => hf47 83 s rfl) hXh21
  have hXw55 : fz_Xw H42 := fz_Xw_eq (hf47 53 19 rfl) (funext fun s => hf47 66 s rfl) (funext fun s => hf47 67 s rfl) (funext fun s => hf47 68 s rfl) (funext fun s => hf47 69 s rfl) hXw22
  have hRS56 : fz_RS H42 := fz_RS_eq (funext fun s => hf47 48 s rfl) (funext fun s => hf47 49 s rfl) (funext fun s => hf47 50 s rfl) (funext fun s => hf47 51 s rfl) (funext fun s => hf47 83 s rfl) (funext fun s => hf47 84 s rfl) (hf47 44 2 rfl) hRS23
  have hRK57 : fz_RK H42 := fz_RK_eq (funext fun s => hf47 45 s rfl) (funext fun s => hf47 81 s rfl) hRK24
  have hRR58 : fz_RR H42 := fz_RR_eq (hf47 44 3 rfl) (hf47 53 46 rfl) (funext fun s => hf47 46 s rfl) (funext fun s => hf47 82 s rfl) hRR25
  have hRT59 : fz_RT H42 := fz_RT_eq (funext fun s => hf47 41 s rfl) (funext fun s => hf47 42 s rfl) (hf47 1 7 rfl) hRT26
  have hRE60 : fz_RE H42 := fz_RE_eq (funext fun s => hf47 5 s rfl) (funext fun s => hf47 6 s rfl) (hf47 1 8 rfl) (hf47 1 7 rfl) hRE27
  have hX61 : fz_Xc H42 := fz_Xc_fr hf47 rfl hX28
  have t62 : H42 53 10 = H9 53 10 := hf47 53 10 rfl
  have t63 : H42 53 41 = H9 53 41 := hf47 53 41 rfl
  have t64 : H42 53 42 = H9 53 42 := hf47 53 42 rfl
  have t65 : H42 9 5 = H9 9 5 := hf47 9 5 rfl
  have t66 : H42 53 10 = H9 53 10 := hf47 53 10 rfl
  have t67 : H42 44 2 = H9 44 2 := hf47 44 2 rfl
  have t68 : H42 53 44 = H9 53 44 := hf47 53 44 rfl
  have t69 : H42 20 2 = H9 20 2 := hf47 20 2 rfl
  have t70 : H42 53 16 = H9 53 16 := hf47 53 16 rfl
  have t71 : H42 1 7 = H9 1 7 := hf47 1 7 rfl
  have t72 : H42 53 0 = H9 53 0 := hf47 53 0 rfl
  have t73 : H42 1 8 = H9 1 8 := hf47 1 8 rfl
  have t74 : H42 53 2 = H9 53 2 := hf47 53 2 rfl
  have k75 : 0 ≤ a1 ∧ a1 ≤ 5 → _ := fun z => fz_RS_i hRS z
  have k76 : H9 83 a1.toNat = h 83 a1.toNat := hf14 83 _ rfl
  have k77 : H9 84 a1.toNat = h 84 a1.toNat := hf14 84 _ rfl
  refine fz_icmp_eq (tgt := 1816) kLc39 rfl (by decide) (fun c78 => ?_) (fun c78 => ?_)
  · have hRP79 : fz_RP H42 := fz_RP_put hRP hRS f17 f50 (funext fun s => hf14 83 s rfl) (funext fun s => hf14 84 s rfl)
    exact K H42 ⟨hI46, hX61, hXd53, hXh54, hXw55, by omega, by omega, by omega, by omega, by omega, by omega, by omega, hRS56, hRP79, hRK57, hRR58, hRT59, hRE60⟩ (funext fun s => hf52 200 s rfl)
  · refine fz_iconst ⟨by decide, by decide⟩ kLc39 rfl ?_
    exfalso; omega
def mLc40 : fz_M := (yL_law, code, 4, (some .boolean), [(1664, .aload_n 1, 1, 0, 0, 0), (1665, .aload_n 0, 1, 0, 0, 0), (1666, .iload_n 3, 1, 0, 0, 0), (1667, .iconst 1, 1, 0, 0, 0), (1668, .iadd, 1, 0, 0, 0), (1669, .iaload, 1, 0, 0, 0), (1670, .aload_n 0, 1, 0, 0, 0), (1671, .iload_n 3, 1, 0, 0, 0), (1672, .iconst 2, 1, 0, 0, 0), (1673, .iadd, 1, 0, 0, 0), (1674, .iaload, 1, 0, 0, 0), (1675, .invokevirtual 182, 3, 5052, 29, 0), (1678, .pop2, 1, 0, 0, 0), (1679, .aload_n 2, 1, 0, 0, 0), (1680, .aload_n 0, 1, 0, 0, 0), (1681, .iload_n 3, 1, 0, 0, 0), (1682, .iconst 1, 1, 0, 0, 0), (1683, .iadd, 1, 0, 0, 0), (1684, .iaload, 1, 0, 0, 0), (1685, .aload_n 0, 1, 0, 0, 0), (1686, .iload_n 3, 1, 0, 0, 0), (1687, .iconst 2, 1, 0, 0, 0), (1688, .iadd, 1, 0, 0, 0), (1689, .iaload, 1, 0, 0, 0), (1690, .invokevirtual 186, 3, 7187, 98, 0), (1693, .pop2, 1, 0, 0, 0), (1694, .goto 122, 3, 0, 0, 0)])
set_option maxRecDepth 100000 in
theorem kLc40 : fz_okM mLc40 = true := by decide +kernel
set_option maxHeartbeats 1000000 in
set_option maxRecDepth 100000 in
theorem lc40 (h : fz_H) (hI : fz_Iv h) (hX : fz_Xc h) (hXd : fz_Xd h) (hXh : fz_Xh h) (hXw : fz_Xw h) (hv1 : h 53 10 ≤ 10) (hv2 : h 53 42 ≤ h 53 41) (hr0 : h 9 5 = h 53 10) (hr1 : h 44 2 = h 53 44) (hr2 : h 20 2 = h 53 16) (hr3 : h 1 7 = h 53 0) (hr4 : h 1 8 = h 53 2) (hRS : fz_RS h) (hRP : fz_RP h) (hRK : fz_RK h) (hRR : fz_RR h) (hRT : fz_RT h) (hRE : fz_RE h) (i : Int) (hi : 0 ≤ i ∧ i + 6 ≤ h 200 100000 ∧ h 200 100000 ≤ 3072) {Q : fz_H → Option fz_V → Prop} (K : ∀ H : fz_H, fz_Gd H → H 200 = h 200 → fz_R 47 mLe 1816 [(3, fz_i i), (0, fz_r 200), (1, fz_r 0), (2, fz_r 53)] [] H Q) : fz_R 47 mLc40 1664 [(3, fz_i i), (0, fz_r 200), (1, fz_r 0), (2, fz_r 53)] [] h Q := by
  have hf : fz_fr fz_all h h := fz_fr_rf
  refine fz_aload_n kLc40 rfl rfl ?_
  refine fz_aload_n kLc40 rfl rfl ?_
  refine fz_iload_n kLc40 rfl rfl ?_
  refine fz_iconst ⟨by decide, by decide⟩ kLc40 rfl ?_
  refine fz_iaddN kLc40 rfl (by omega) ?_
  obtain ⟨a1, e2⟩ : ∃ z, h 200 ((i + 1)).toNat = z := ⟨_, rfl⟩
  refine fz_taldV (v := a1) kLc40 rfl ⟨by decide, by decide⟩ (by omega) (by omega) e2 ?_
  refine fz_aload_n kLc40 rfl rfl ?_
  refine fz_iload_n kLc40 rfl rfl ?_
  refine fz_iconst ⟨by decide, by decide⟩ kLc40 rfl ?_
  refine fz_iaddN kLc40 rfl (by omega) ?_
  obtain ⟨a3, e4⟩ : ∃ z, h 200 ((i + 2)).toNat = z := ⟨_, rfl⟩
  refine fz_taldV (v := a3) kLc40 rfl ⟨by decide, by decide⟩ (by omega) (by omega) e4 ?_
  refine fz_callV (d' := 3) (M' := mX10_element) (As := [fz_i a1, fz_i a3]) (st := []) kLc40 rfl rfl vX10_element rfl rfl rfl rfl (Nat.le_of_ble_eq_true rfl) (Nat.le_of_ble_eq_true rfl) (by decide) (sX10_element h hI a1 a3 ) (fun H5 r6 q7 o8 => ?_)
  obtain ⟨e9, y12, rfl, f10, f11⟩ := q7
  subst H5
  clear o8
  refine fz_pop2 kLc40 rfl ?_
  refine fz_aload_n kLc40 rfl rfl ?_
  refine fz_aload_n kLc40 rfl rfl ?_
  refine fz_iload_n kLc40 rfl rfl ?_
  refine fz_iconst ⟨by decide, by decide⟩ kLc40 rfl ?_
  refine fz_iaddN kLc40 rfl (by omega) ?_
  refine fz_taldV (v := a1) kLc40 rfl ⟨by decide, by decide⟩ (by omega) (by omega) e2 ?_
  refine fz_aload_n kLc40 rfl rfl ?_
  refine fz_iload_n kLc40 rfl rfl ?_
  refine fz_iconst ⟨by decide, by decide⟩ kLc40 rfl ?_
  refine fz_iaddN kLc40 rfl (by omega) ?_
  refine fz_taldV (v := a3) kLc40 rfl ⟨by decide, by decide⟩ (by omega) (by omega) e4 ?_
  refine fz_callV (d' := 2) (M' := mX11_element) (As := [fz_i a1, fz_i a3]) (st := []) kLc40 rfl rfl vX11_element rfl rfl rfl rfl (Nat.le_of_ble_eq_true rfl) (Nat.le_of_ble_eq_true rfl) (by decide) (sX11_element h hI a1 a3 ) (fun H13 r14 q15 o16 => ?_)
  obtain ⟨e17, y20, rfl, f18, f19⟩ := q15
  subst H13
  clear o16
  refine fz_pop2 kLc40 rfl ?_
  refine fz_goto (tgt := 1816) kLc40 rfl (by decide) ?_
  exact K h ⟨hI, hX, hXd, hXh, hXw, by omega, by omega, by omega, by omega, by omega, by omega, by omega, hRS, hRP, hRK, hRR, hRT, hRE⟩ rfl
def mLc41 : fz_M := (yL_law, code, 4, (some .boolean), [(1697, .aload_n 1, 1, 0, 0, 0), (1698, .aload_n 0, 1, 0, 0, 0), (1699, .iload_n 3, 1, 0, 0, 0), (1700, .iconst 1, 1, 0, 0, 0), (1701, .iadd, 1, 0, 0, 0), (1702, .iaload, 1, 0, 0, 0), (1703, .aload_n 0, 1, 0, 0, 0), (1704, .iload_n 3, 1, 0, 0, 0), (1705, .iconst 2, 1, 0, 0, 0), (1706, .iadd, 1, 0, 0, 0), (1707, .iaload, 1, 0, 0, 0), (1708, .aload_n 0, 1, 0, 0, 0), (1709, .iload_n 3, 1, 0, 0, 0), (1710, .iconst 3, 1, 0, 0, 0), (1711, .iadd, 1, 0, 0, 0), (1712, .iaload, 1, 0, 0, 0), (1713, .aload_n 0, 1, 0, 0, 0), (1714, .iload_n 3, 1, 0, 0, 0), (1715, .iconst 4, 1, 0, 0, 0), (1716, .iadd, 1, 0, 0, 0), (1717, .iaload, 1, 0, 0, 0), (1718, .aload_n 0, 1, 0, 0, 0), (1719, .iload_n 3, 1, 0, 0, 0), (1720, .iconst 5, 1, 0, 0, 0), (1721, .iadd, 1, 0, 0, 0), (1722, .iaload, 1, 0, 0, 0), (1723, .invokevirtual 187, 3, 5056, 71, 0), (1726, .pop, 1, 0, 0, 0), (1727, .aload_n 2, 1, 0, 0, 0), (1728, .aload_n 0, 1, 0, 0, 0), (1729, .iload_n 3, 1, 0, 0, 0), (1730, .iconst 1, 1, 0, 0, 0), (1731, .iadd, 1, 0, 0, 0), (1732, .iaload, 1, 0, 0, 0), (1733, .aload_n 0, 1, 0, 0, 0), (1734, .iload_n 3, 1, 0, 0, 0), (1735, .iconst 2, 1, 0, 0, 0), (1736, .iadd, 1, 0, 0, 0), (1737, .iaload, 1, 0, 0, 0), (1738, .aload_n 0, 1, 0, 0, 0), (1739, .iload_n 3, 1, 0, 0, 0), (1740, .iconst 3, 1, 0, 0, 0), (1741, .iadd, 1, 0, 0, 0), (1742, .iaload, 1, 0, 0, 0), (1743, .aload_n 0, 1, 0, 0, 0), (1744, .iload_n 3, 1, 0, 0, 0), (1745, .iconst 4, 1, 0, 0, 0), (1746, .iadd, 1, 0, 0, 0), (1747, .iaload, 1, 0, 0, 0), (1748, .aload_n 0, 1, 0, 0, 0), (1749, .iload_n 3, 1, 0, 0, 0), (1750, .iconst 5, 1, 0, 0, 0), (1751, .iadd, 1, 0, 0, 0), (1752, .iaload, 1, 0, 0, 0), (1753, .invokevirtual 191, 3, 7191, 173, 0), (1756, .pop, 1, 0, 0, 0), (1757, .goto 59, 3, 0, 0, 0)])
set_option maxRecDepth 100000 in
theorem kLc41 : fz_okM mLc41 = true := by decide +kernel
set_option maxHeartbeats 1000000 in
set_option maxRecDepth 100000 in
theorem lc41 (h : fz_H) (hI : fz_Iv h) (hX : fz_Xc h) (hXd : fz_Xd h) (hXh : fz_Xh h) (hXw : fz_Xw h) (hv1 : h 53 10 ≤ 10) (hv2 : h 53 42 ≤ h 53 41) (hr0 : h 9 5 = h 53 10) (hr1 : h 44 2 = h 53 44) (hr2 : h 20 2 = h 53 16) (hr3 : h 1 7 = h 53 0) (hr4 : h 1 8 = h 53 2) (hRS : fz_RS h) (hRP : fz_RP h) (hRK : fz_RK h) (hRR : fz_RR h) (hRT : fz_RT h) (hRE : fz_RE h) (i : Int) (hi : 0 ≤ i ∧ i + 6 ≤ h 200 100000 ∧ h 200 100000 ≤ 3072) {Q : fz_H → Option fz_V → Prop} (K : ∀ H : fz_H, fz_Gd H → H 200 = h 200 → fz_R 47 mLe 1816 [(3, fz_i i), (0, fz_r 200), (1, fz_r 0), (2, fz_r 53)] [] H Q) : fz_R 47 mLc41 1697 [(3, fz_i i), (0, fz_r 200), (1, fz_r 0), (2, fz_r 53)] [] h Q := by
  have hf : fz_fr fz_all h h := fz_fr_rf
  refine fz_aload_n kLc41 rfl rfl ?_
  refine fz_aload_n kLc41 rfl rfl ?_
  refine fz_iload_n kLc41 rfl rfl ?_
  refine fz_iconst ⟨by decide, by decide⟩ kLc41 rfl ?_
  refine fz_iaddN kLc41 rfl (by omega) ?_
  obtain ⟨a1, e2⟩ : ∃ z, h 200 ((i + 1)).toNat = z := ⟨_, rfl⟩
  refine fz_taldV (v := a1) kLc41 rfl ⟨by decide, by decide⟩ (by omega) (by omega) e2 ?_
  refine fz_aload_n kLc41 rfl rfl ?_
  refine fz_iload_n kLc41 rfl rfl ?_
  refine fz_iconst ⟨by decide, by decide⟩ kLc41 rfl ?_
  refine fz_iaddN kLc41 rfl (by omega) ?_
  obtain ⟨a3, e4⟩ : ∃ z, h 200 ((i + 2)).toNat = z := ⟨_, rfl⟩
  refine fz_taldV (v := a3) kLc41 rfl ⟨by decide, by decide⟩ (by omega) (by omega) e4 ?_
  refine fz_aload_n kLc41 rfl rfl ?_
  refine fz_iload_n kLc41 rfl rfl ?_
  refine fz_iconst ⟨by decide, by decide⟩ kLc41 rfl ?_
  refine fz_iaddN kLc41 rfl (by omega) ?_
  obtain ⟨a5, e6⟩ : ∃ z, h 200 ((i + 3)).toNat = z := ⟨_, rfl⟩
  refine fz_taldV (v := a5) kLc41 rfl ⟨by decide, by decide⟩ (by omega) (by omega) e6 ?_
  refine fz_aload_n kLc41 rfl rfl ?_
  refine fz_iload_n kLc41 rfl rfl ?_
  refine fz_iconst ⟨by decide, by decide⟩ kLc41 rfl ?_
  refine fz_iaddN kLc41 rfl (by omega) ?_
  obtain ⟨a7, e8⟩ : ∃ z, h 200 ((i + 4)).toNat = z := ⟨_, rfl⟩
  refine fz_taldV (v := a7) kLc41 rfl ⟨by decide, by decide⟩ (by omega) (by omega) e8 ?_
  refine fz_aload_n kLc41 rfl rfl ?_
  refine fz_iload_n kLc41 rfl rfl ?_
  refine fz_iconst ⟨by decide, by decide⟩ kLc41 rfl ?_
  refine fz_iaddN kLc41 rfl (by omega) ?_
  obtain ⟨a9, e10⟩ : ∃ z, h 200 ((i + 5)).toNat = z := ⟨_, rfl⟩
  refine fz_taldV (v := a9) kLc41 rfl ⟨by decide, by decide⟩ (by omega) (by omega) e10 ?_
  refine fz_callV (d' := 2) (M' := mX10_shift) (As := [fz_i a1, fz_i a3, fz_i a5, fz_i a7, fz_i a9]) (st := []) kLc41 rfl rfl vX10_shift rfl rfl rfl rfl (Nat.le_of_ble_eq_true rfl) (Nat.le_of_ble_eq_true rfl) (by decide) (sX10_shift h hI a1 a3 a5 a7 a9 ) (fun H11 r12 q13 o14 => ?_)
  obtain ⟨hI15, hf16, y20, rfl, f17, f18, f19⟩ := q13
  clear o14
  have hf21 := fz_fr_tr hf hf16 (fz_su_all rfl)
  have hXd22 : fz_Xd H11 := fz_Xd_eq (funext fun s => hf16 80 s rfl) hXd
  have hXh23 : fz_Xh H11 := fz_Xh_eq (funext fun s => hf16 83 s rfl) hXh
  have hXw24 : fz_Xw H11 := fz_Xw_eq (hf16 53 19 rfl) (funext fun s => hf16 66 s rfl) (funext fun s => hf16 67 s rfl) (funext fun s => hf16 68 s rfl) (funext fun s => hf16 69 s rfl) hXw
  have hRS25 : fz_RS H11 := fz_RS_eq (funext fun s => hf16 48 s rfl) (funext fun s => hf16 49 s rfl) (funext fun s => hf16 50 s rfl) (funext fun s => hf16 51 s rfl) (funext fun s => hf16 83 s rfl) (funext fun s => hf16 84 s rfl) (hf16 44 2 rfl) hRS
  have hRK26 : fz_RK H11 := fz_RK_eq (funext fun s => hf16 45 s rfl) (funext fun s => hf16 81 s rfl) hRK
  have hRR27 : fz_RR H11 := fz_RR_eq (hf16 44 3 rfl) (hf16 53 46 rfl) (funext fun s => hf16 46 s rfl) (funext fun s => hf16 82 s rfl) hRR
  have hRT28 : fz_RT H11 := fz_RT_eq (funext fun s => hf16 41 s rfl) (funext fun s => hf16 42 s rfl) (hf16 1 7 rfl) hRT
  have hRE29 : fz_RE H11 := fz_RE_eq (funext fun s => hf16 5 s rfl) (funext fun s => hf16 6 s rfl) (hf16 1 8 rfl) (hf16 1 7 rfl) hRE
  have hX30 : fz_Xc H11 := fz_Xc_fr hf16 rfl hX
  have t31 : H11 53 10 = h 53 10 := hf16 53 10 rfl
  have t32 : H11 53 41 = h 53 41 := hf16 53 41 rfl
  have t33 : H11 53 42 = h 53 42 := hf16 53 42 rfl
  have t34 : H11 9 5 = h 9 5 := hf16 9 5 rfl
  have t35 : H11 53 10 = h 53 10 := hf16 53 10 rfl
  have t36 : H11 44 2 = h 44 2 := hf16 44 2 rfl
  have t37 : H11 53 44 = h 53 44 := hf16 53 44 rfl
  have t38 : H11 20 2 = h 20 2 := hf16 20 2 rfl
  have t39 : H11 53 16 = h 53 16 := hf16 53 16 rfl
  have t40 : H11 1 7 = h 1 7 := hf16 1 7 rfl
  have t41 : H11 53 0 = h 53 0 := hf16 53 0 rfl
  have t42 : H11 1 8 = h 1 8 := hf16 1 8 rfl
  have t43 : H11 53 2 = h 53 2 := hf16 53 2 rfl
  refine fz_pop rfl kLc41 rfl ?_
  refine fz_aload_n kLc41 rfl rfl ?_
  refine fz_aload_n kLc41 rfl rfl ?_
  refine fz_iload_n kLc41 rfl rfl ?_
  refine fz_iconst ⟨by decide, by decide⟩ kLc41 rfl ?_
  refine fz_iaddN kLc41 rfl (by omega) ?_
  refine fz_taldV (v := a1) kLc41 rfl ⟨by decide, by decide⟩ (by omega) (by rw [hf21 200 _ rfl]; omega) ((hf21 200 _ rfl).trans e2) ?_
  refine fz_aload_n kLc41 rfl rfl ?_
  refine fz_iload_n kLc41 rfl rfl ?_
  refine fz_iconst ⟨by decide, by decide⟩ kLc41 rfl ?_
  refine fz_iaddN kLc41 rfl (by omega) ?_
  refine fz_taldV (v := a3) kLc41 rfl ⟨by decide, by decide⟩ (by omega) (by rw [hf21 200 _ rfl]; omega) ((hf21 200 _ rfl).trans e4) ?_
  refine fz_aload_n kLc41 rfl rfl ?_
  refine fz_iload_n kLc41 rfl rfl ?_
  refine fz_iconst ⟨by decide, by decide⟩ kLc41 rfl ?_
  refine fz_iaddN kLc41 rfl (by omega) ?_
  refine fz_taldV (v := a5) kLc41 rfl ⟨by decide, by decide⟩ (by omega) (by rw [hf21 200 _ rfl]; omega) ((hf21 200 _ rfl).trans e6) ?_
  refine fz_aload_n kLc41 rfl rfl ?_
  refine fz_iload_n kLc41 rfl rfl ?_
  refine fz_iconst ⟨by decide, by decide⟩ kLc41 rfl ?_
  refine fz_iaddN kLc41 rfl (by omega) ?_
  refine fz_taldV (v := a7) kLc41 rfl ⟨by decide, by decide⟩ (by omega) (by rw [hf21 200 _ rfl]; omega) ((hf21 200 _ rfl).trans e8) ?_
  refine fz_aload_n kLc41 rfl rfl ?_
  refine fz_iload_n kLc41 rfl rfl ?_
  refine fz_iconst ⟨by decide, by decide⟩ kLc41 rfl ?_
  refine fz_iaddN kLc41 rfl (by omega) ?_
  refine fz_taldV (v := a9) kLc41 rfl ⟨by decide, by decide⟩ (by omega) (by rw [hf21 200 _ rfl]; omega) ((hf21 200 _ rfl).trans e10) ?_
  refine fz_callV (d' := 2) (M' := mX11_shift) (As := [fz_i a1, fz_i a3, fz_i a5, fz_i a7, fz_i a9]) (st := []) kLc41 rfl rfl vX11_shift rfl rfl rfl rfl (Nat.le_of_ble_eq_true rfl) (Nat.le_of_ble_eq_true rfl) (by decide) (sX11_shift H11 hI15 a1 a3 a5 a7 a9 ) (fun H44 r45 q46 o47 => ?_)
  obtain ⟨hI48, hf49, y53, rfl, f50, f51, f52⟩ := q46
  clear o47
  have hf54 := fz_fr_tr hf21 hf49 (fz_su_all rfl)
  have hXd55 : fz_Xd H44 := fz_Xd_eq (funext fun s => hf49 80 s rfl) hXd22
  have hXh56 : fz_Xh H44 := fz_Xh_eq (funext fun s => hf49 83 s rfl) hXh23
  have hXw57 : fz_Xw H44 := fz_Xw_eq (hf49 53 19 rfl) (funext fun s => hf49 66 s rfl) (funext fun s => hf49 67 s rfl) (funext fun s => hf49 68 s rfl) (funext fun s => hf49 69 s rfl) hXw24
  have hRS58 : fz_RS H44 := fz_RS_eq (funext fun s => hf49 48 s rfl) (funext fun s => hf49 49 s rfl) (funext fun s => hf49 50 s rfl) (funext fun s => hf49 51 s rfl) (funext fun s => hf49 83 s rfl) (funext fun s => hf49 84 s rfl) (hf49 44 2 rfl) hRS25
  have hRK59 : fz_RK H44 := fz_RK_eq (funext fun s => hf49 45 s rfl) (funext fun s => hf49 81 s rfl) hRK26
  have hRR60 : fz_RR H44 := fz_RR_eq (hf49 44 3 rfl) (hf49 53 46 rfl) (funext fun s => hf49 46 s rfl) (funext fun s => hf49 82 s rfl) hRR27
  have hRT61 : fz_RT H44 := fz_RT_eq (funext fun s => hf49 41 s rfl) (funext fun s => hf49 42 s rfl) (hf49 1 7 rfl) hRT28
  have hRE62 : fz_RE H44 := fz_RE_eq (funext fun s => hf49 5 s rfl) (funext fun s => hf49 6 s rfl) (hf49 1 8 rfl) (hf49 1 7 rfl) hRE29
  have hX63 : fz_Xc H44 := fz_Xc_fr hf49 rfl hX30
  have t64 : H44 53 10 = H11 53 10 := hf49 53 10 rfl
  have t65 : H44 53 41 = H11 53 41 := hf49 53 41 rfl
  have t66 : H44 53 42 = H11 53 42 := hf49 53 42 rfl
  have t67 : H44 9 5 = H11 9 5 := hf49 9 5 rfl
  have t68 : H44 53 10 = H11 53 10 := hf49 53 10 rfl
  have t69 : H44 44 2 = H11 44 2 := hf49 44 2 rfl
  have t70 : H44 53 44 = H11 53 44 := hf49 53 44 rfl
  have t71 : H44 20 2 = H11 20 2 := hf49 20 2 rfl
  have t72 : H44 53 16 = H11 53 16 := hf49 53 16 rfl
  have t73 : H44 1 7 = H11 1 7 := hf49 1 7 rfl
  have t74 : H44 53 0 = H11 53 0 := hf49 53 0 rfl
  have t75 : H44 1 8 = H11 1 8 := hf49 1 8 rfl
  have t76 : H44 53 2 = H11 53 2 := hf49 53 2 rfl
  refine fz_pop rfl kLc41 rfl ?_
  refine fz_goto (tgt := 1816) kLc41 rfl (by decide) ?_
  have hRP77 : fz_RP H44 := fz_RP_shift hRP hRS f19 f52 (funext fun s => hf16 83 s rfl) (funext fun s => hf16 84 s rfl)
  exact K H44 ⟨hI48, hX63, hXd55, hXh56, hXw57, by omega, by omega, by omega, by omega, by omega, by omega, by omega, hRS58, hRP77, hRK59, hRR60, hRT61, hRE62⟩ (funext fun s => hf54 200 s rfl)
def mLc42 : fz_M := (yL_law, code, 4, (some .boolean), [(1760, .aload_n 1, 1, 0, 0, 0), (1761, .aload_n 0, 1, 0, 0, 0), (1762, .iload_n 3, 1, 0, 0, 0), (1763, .iconst 1, 1, 0, 0, 0), (1764, .iadd, 1, 0, 0, 0), (1765, .iaload, 1, 0, 0, 0), (1766, .aload_n 0, 1, 0, 0, 0), (1767, .iload_n 3, 1, 0, 0, 0), (1768, .iconst 2, 1, 0, 0, 0), (1769, .iadd, 1, 0, 0, 0), (1770, .iaload, 1, 0, 0, 0), (1771, .invokevirtual 192, 3, 5065, 72, 0), (1774, .pop, 1, 0, 0, 0), (1775, .aload_n 2, 1, 0, 0, 0), (1776, .aload_n 0, 1, 0, 0, 0), (1777, .iload_n 3, 1, 0, 0, 0), (1778, .iconst 1, 1, 0, 0, 0), (1779, .iadd, 1, 0, 0, 0), (1780, .iaload, 1, 0, 0, 0), (1781, .aload_n 0, 1, 0, 0, 0), (1782, .iload_n 3, 1, 0, 0, 0), (1783, .iconst 2, 1, 0, 0, 0), (1784, .iadd, 1, 0, 0, 0), (1785, .iaload, 1, 0, 0, 0), (1786, .invokevirtual 195, 3, 7195, 175, 0), (1789, .pop, 1, 0, 0, 0), (1790, .goto 26, 3, 0, 0, 0)])
set_option maxRecDepth 100000 in
theorem kLc42 : fz_okM mLc42 = true := by decide +kernel
set_option maxHeartbeats 1000000 in
set_option maxRecDepth 100000 in
theorem lc42 (h : fz_H) (hI : fz_Iv h) (hX : fz_Xc h) (hXd : fz_Xd h) (hXh : fz_Xh h) (hXw : fz_Xw h) (hv1 : h 53 10 ≤ 10) (hv2 : h 53 42 ≤ h 53 41) (hr0 : h 9 5 = h 53 10) (hr1 : h 44 2 = h 53 44) (hr2 : h 20 2 = h 53 16) (hr3 : h 1 7 = h 53 0) (hr4 : h 1 8 = h 53 2) (hRS : fz_RS h) (hRP : fz_RP h) (hRK : fz_RK h) (hRR : fz_RR h) (hRT : fz_RT h) (hRE : fz_RE h) (i : Int) (hi : 0 ≤ i ∧ i + 6 ≤ h 200 100000 ∧ h 200 100000 ≤ 3072) {Q : fz_H → Option fz_V → Prop} (K : ∀ H : fz_H, fz_Gd H → H 200 = h 200 → fz_R 47 mLe 1816 [(3, fz_i i), (0, fz_r 200), (1, fz_r 0), (2, fz_r 53)] [] H Q) : fz_R 47 mLc42 1760 [(3, fz_i i), (0, fz_r 200), (1, fz_r 0), (2, fz_r 53)] [] h Q := by
  have hf : fz_fr fz_all h h := fz_fr_rf
  refine fz_aload_n kLc42 rfl rfl ?_
  refine fz_aload_n kLc42 rfl rfl ?_
  refine fz_iload_n kLc42 rfl rfl ?_
  refine fz_iconst ⟨by decide, by decide⟩ kLc42 rfl ?_
  refine fz_iaddN kLc42 rfl (by omega) ?_
  obtain ⟨a1, e2⟩ : ∃ z, h 200 ((i + 1)).toNat = z := ⟨_, rfl⟩
  refine fz_taldV (v := a1) kLc42 rfl ⟨by decide, by decide⟩ (by omega) (by omega) e2 ?_
  refine fz_aload_n kLc42 rfl rfl ?_
  refine fz_iload_n kLc42 rfl rfl ?_
  refine fz_iconst ⟨by decide, by decide⟩ kLc42 rfl ?_
  refine fz_iaddN kLc42 rfl (by omega) ?_
  obtain ⟨a3, e4⟩ : ∃ z, h 200 ((i + 2)).toNat = z := ⟨_, rfl⟩
  refine fz_taldV (v := a3) kLc42 rfl ⟨by decide, by decide⟩ (by omega) (by omega) e4 ?_
  have b5 : 0 ≤ h 44 2 ∧ h 44 2 ≤ 50 := hI.1 44 _
  refine fz_callV (d' := 2) (M' := mX10_taken) (As := [fz_i a1, fz_i a3]) (st := []) kLc42 rfl rfl vX10_taken rfl rfl rfl rfl (Nat.le_of_ble_eq_true rfl) (Nat.le_of_ble_eq_true rfl) (by decide) (sX10_taken h hI a1 a3 ) (fun H6 r7 q8 o9 => ?_)
  obtain ⟨e10, y13, rfl, f11, f12⟩ := q8
  subst H6
  clear o9
  refine fz_pop rfl kLc42 rfl ?_
  refine fz_aload_n kLc42 rfl rfl ?_
  refine fz_aload_n kLc42 rfl rfl ?_
  refine fz_iload_n kLc42 rfl rfl ?_
  refine fz_iconst ⟨by decide, by decide⟩ kLc42 rfl ?_
  refine fz_iaddN kLc42 rfl (by omega) ?_
  refine fz_taldV (v := a1) kLc42 rfl ⟨by decide, by decide⟩ (by omega) (by omega) e2 ?_
  refine fz_aload_n kLc42 rfl rfl ?_
  refine fz_iload_n kLc42 rfl rfl ?_
  refine fz_iconst ⟨by decide, by decide⟩ kLc42 rfl ?_
  refine fz_iaddN kLc42 rfl (by omega) ?_
  refine fz_taldV (v := a3) kLc42 rfl ⟨by decide, by decide⟩ (by omega) (by omega) e4 ?_
  refine fz_callV (d' := 2) (M' := mX11_taken) (As := [fz_i a1, fz_i a3]) (st := []) kLc42 rfl rfl vX11_taken rfl rfl rfl rfl (Nat.le_of_ble_eq_true rfl) (Nat.le_of_ble_eq_true rfl) (by decide) (sX11_taken_x h hI a1 a3 hXh) (fun H14 r15 q16 o17 => ?_)
  obtain ⟨e18, y21, rfl, f19, f20⟩ := q16
  subst H14
  clear o17
  refine fz_pop rfl kLc42 rfl ?_
  refine fz_goto (tgt := 1816) kLc42 rfl (by decide) ?_
  exact K h ⟨hI, hX, hXd, hXh, hXw, by omega, by omega, by omega, by omega, by omega, by omega, by omega, hRS, hRP, hRK, hRR, hRT, hRE⟩ rfl
def mLc43 : fz_M := (yL_law, code, 4, (some .boolean), [(1793, .aload_n 1, 1, 0, 0, 0), (1794, .aload_n 0, 1, 0, 0, 0), (1795, .iload_n 3, 1, 0, 0, 0), (1796, .iconst 1, 1, 0, 0, 0), (1797, .iadd, 1, 0, 0, 0), (1798, .iaload, 1, 0, 0, 0), (1799, .invokevirtual 196, 3, 5077, 23, 0), (1802, .pop, 1, 0, 0, 0), (1803, .aload_n 2, 1, 0, 0, 0), (1804, .aload_n 0, 1, 0, 0, 0), (1805, .iload_n 3, 1, 0, 0, 0), (1806, .iconst 1, 1, 0, 0, 0), (1807, .iadd, 1, 0, 0, 0), (1808, .iaload, 1, 0, 0, 0), (1809, .invokevirtual 199, 3, 7199, 91, 0), (1812, .pop, 1, 0, 0, 0), (1813, .goto 3, 3, 0, 0, 0)])
set_option maxRecDepth 100000 in
theorem kLc43 : fz_okM mLc43 = true := by decide +kernel
set_option maxHeartbeats 1000000 in
set_option maxRecDepth 100000 in
theorem lc43 (h : fz_H) (hI : fz_Iv h) (hX : fz_Xc h) (hXd : fz_Xd h) (hXh : fz_Xh h) (hXw : fz_Xw h) (hv1 : h 53 10 ≤ 10) (hv2 : h 53 42 ≤ h 53 41) (hr0 : h 9 5 = h 53 10) (hr1 : h 44 2 = h 53 44) (hr2 : h 20 2 = h 53 16) (hr3 : h 1 7 = h 53 0) (hr4 : h 1 8 = h 53 2) (hRS : fz_RS h) (hRP : fz_RP h) (hRK : fz_RK h) (hRR : fz_RR h) (hRT : fz_RT h) (hRE : fz_RE h) (i : Int) (hi : 0 ≤ i ∧ i + 6 ≤ h 200 100000 ∧ h 200 100000 ≤ 3072) {Q : fz_H → Option fz_V → Prop} (K : ∀ H : fz_H, fz_Gd H → H 200 = h 200 → fz_R 47 mLe 1816 [(3, fz_i i), (0, fz_r 200), (1, fz_r 0), (2, fz_r 53)] [] H Q) : fz_R 47 mLc43 1793 [(3, fz_i i), (0, fz_r 200), (1, fz_r 0), (2, fz_r 53)] [] h Q := by
  have hf : fz_fr fz_all h h := fz_fr_rf
  refine fz_aload_n kLc43 rfl rfl ?_
  refine fz_aload_n kLc43 rfl rfl ?_
  refine fz_iload_n kLc43 rfl rfl ?_
  refine fz_iconst ⟨by decide, by decide⟩ kLc43 rfl ?_
  refine fz_iaddN kLc43 rfl (by omega) ?_
  obtain ⟨a1, e2⟩ : ∃ z, h 200 ((i + 1)).toNat = z := ⟨_, rfl⟩
  refine fz_taldV (v := a1) kLc43 rfl ⟨by decide, by decide⟩ (by omega) (by omega) e2 ?_
  refine fz_callV (d' := 0) (M' := mX10_count) (As := [fz_i a1]) (st := []) kLc43 rfl rfl vX10_count rfl rfl rfl rfl (Nat.le_of_ble_eq_true rfl) (Nat.le_of_ble_eq_true rfl) (by decide) (sX10_count h hI a1 ) (fun H3 r4 q5 o6 => ?_)
  obtain ⟨e7, y9, rfl, f8⟩ := q5
  subst H3
  clear o6
  refine fz_pop rfl kLc43 rfl ?_
  refine fz_aload_n kLc43 rfl rfl ?_
  refine fz_aload_n kLc43 rfl rfl ?_
  refine fz_iload_n kLc43 rfl rfl ?_
  refine fz_iconst ⟨by decide, by decide⟩ kLc43 rfl ?_
  refine fz_iaddN kLc43 rfl (by omega) ?_
  refine fz_taldV (v := a1) kLc43 rfl ⟨by decide, by decide⟩ (by omega) (by omega) e2 ?_
  refine fz_callV (d' := 0) (M' := mX11_count) (As := [fz_i a1]) (st := []) kLc43 rfl rfl vX11_count rfl rfl rfl rfl (Nat.le_of_ble_eq_true rfl) (Nat.le_of_ble_eq_true rfl) (by decide) (sX11_count h hI a1 ) (fun H10 r11 q12 o13 => ?_)
  obtain ⟨e14, y16, rfl, f15⟩ := q12
  subst H10
  clear o13
  refine fz_pop rfl kLc43 rfl ?_
  refine fz_goto (tgt := 1816) kLc43 rfl (by decide) ?_
  exact K h ⟨hI, hX, hXd, hXh, hXw, by omega, by omega, by omega, by omega, by omega, by omega, by omega, hRS, hRP, hRK, hRR, hRT, hRE⟩ rfl
