/-! ===== the law, case by case ===== -/
theorem fz_qC_le {h h' : fz_H} {s i n r : Int} (c : fz_qC h h' s i n r) : h 9 5 ≤ h' 9 5 := by
  rcases c with ⟨c0, c1, c2⟩ | ⟨c0, c1, c2⟩ | ⟨c0, c1, c2, c3⟩ | ⟨c0, c1, c2, c3, c4⟩
  · have := c1.1; omega
  · omega
  · omega
  · omega
def fz_all : List (Nat × Nat) := [(0, 99999), (1, 99999), (2, 99999), (3, 99999), (4, 99999), (5, 99999), (6, 99999), (7, 99999), (8, 99999), (9, 99999), (10, 99999), (11, 99999), (12, 99999), (13, 99999), (14, 99999), (15, 99999), (16, 99999), (17, 99999), (18, 99999), (19, 99999), (20, 99999), (21, 99999), (22, 99999), (23, 99999), (24, 99999), (25, 99999), (26, 99999), (27, 99999), (28, 99999), (29, 99999), (30, 99999), (31, 99999), (32, 99999), (33, 99999), (34, 99999), (35, 99999), (36, 99999), (37, 99999), (38, 99999), (39, 99999), (40, 99999), (41, 99999), (42, 99999), (43, 99999), (44, 99999), (45, 99999), (46, 99999), (47, 99999), (48, 99999), (49, 99999), (50, 99999), (51, 99999), (52, 99999), (53, 99999), (54, 99999), (55, 99999), (56, 99999), (57, 99999), (58, 99999), (59, 99999), (60, 99999), (61, 99999), (62, 99999), (63, 99999), (64, 99999), (65, 99999), (66, 99999), (67, 99999), (68, 99999), (69, 99999), (70, 99999), (71, 99999), (72, 99999), (73, 99999), (74, 99999), (75, 99999), (76, 99999), (77, 99999), (78, 99999), (79, 99999), (80, 99999), (81, 99999), (82, 99999), (83, 99999), (84, 99999), (85, 99999), (86, 99999), (87, 99999), (88, 99999), (89, 99999), (90, 99999)]
/-- what holds between two calls -/
def fz_Gd (h : fz_H) : Prop := fz_Iv h ∧ fz_Xc h ∧ fz_Xd h ∧ fz_Xh h ∧ fz_Xw h ∧ h 53 10 ≤ 10 ∧ h 53 42 ≤ h 53 41 ∧ h 9 5 = h 53 10 ∧ h 44 2 = h 53 44 ∧ h 20 2 = h 53 16 ∧ h 1 7 = h 53 0 ∧ h 1 8 = h 53 2 ∧ fz_RS h ∧ fz_RP h ∧ fz_RK h ∧ fz_RR h ∧ fz_RT h ∧ fz_RE h ∧ fz_R2 h ∧ fz_R3 h ∧ fz_R4 h ∧ fz_R28 h ∧ fz_R5 h ∧ fz_R6 h ∧ fz_RG h ∧ fz_RL h ∧ fz_RC h ∧ fz_RJ h ∧ fz_RW h ∧ fz_RV h ∧ fz_RM h ∧ fz_RP2 h ∧ fz_RA h ∧ fz_RU h ∧ fz_RD h
theorem fz_su_all {S : List (Nat × Nat)} (h : S.all (fun q => Nat.blt q.1 91) = true) : fz_su S fz_all = true := by
  have key : ∀ n, n < 91 → (n, 99999) ∈ fz_all := by decide +kernel
  refine List.all_eq_true.mpr (fun q hq => List.any_eq_true.mpr ⟨_, key q.1 (by have h1 := List.all_eq_true.mp h q hq; exact Nat.le_of_ble_eq_true h1), ?_⟩)
  simp
theorem fz_sw {y : MethodName} {c : ByteArray} {n : Nat} {r : Option FieldType} {L L' : List fz_I} {d pc : Nat} {ls : List (Nat × fz_V)} {st : List fz_V} {h : fz_H} {Q : fz_H → Option fz_V → Prop} (k : fz_R d (y, c, n, r, L') pc ls st h Q) : fz_R d (y, c, n, r, L) pc ls st h Q := k
def mLe : fz_M := (yL_law, code, 4, (some .boolean), [(1817, .iinc 3 6, 3, 0, 0, 0), (1820, .goto (-1802), 3, 0, 0, 0), (1823, .iconst 1, 1, 0, 0, 0), (1824, .ireturn, 1, 0, 0, 0)])
set_option maxRecDepth 100000 in
theorem kLe : fz_okM mLe = true := fz_okM_in (by decide +kernel) (by decide +kernel)
def mLc0 : fz_M := (yL_law, code, 4, (some .boolean), [(224, .aload_n 1, 1, 0, 0, 0), (225, .aload_n 0, 1, 0, 0, 0), (226, .iload_n 3, 1, 0, 0, 0), (227, .iconst 1, 1, 0, 0, 0), (228, .iadd, 1, 0, 0, 0), (229, .iaload, 1, 0, 0, 0), (230, .invokevirtual 13, 3, 2142, 73, 0), (233, .pop, 1, 0, 0, 0), (234, .aload_n 2, 1, 0, 0, 0), (235, .aload_n 0, 1, 0, 0, 0), (236, .iload_n 3, 1, 0, 0, 0), (237, .iconst 1, 1, 0, 0, 0), (238, .iadd, 1, 0, 0, 0), (239, .iaload, 1, 0, 0, 0), (240, .invokevirtual 17, 3, 6022, 177, 0), (243, .pop, 1, 0, 0, 0), (244, .goto 1573, 3, 0, 0, 0)])
set_option maxRecDepth 100000 in
theorem kLc0 : fz_okM mLc0 = true := fz_okM_in (by decide +kernel) (by decide +kernel)
set_option maxHeartbeats 1000000 in
set_option maxRecDepth 100000 in
theorem lc0 (h : fz_H) (hI : fz_Iv h) (hX : fz_Xc h) (hXd : fz_Xd h) (hXh : fz_Xh h) (hXw : fz_Xw h) (hv1 : h 53 10 ≤ 10) (hv2 : h 53 42 ≤ h 53 41) (hr0 : h 9 5 = h 53 10) (hr1 : h 44 2 = h 53 44) (hr2 : h 20 2 = h 53 16) (hr3 : h 1 7 = h 53 0) (hr4 : h 1 8 = h 53 2) (hRS : fz_RS h) (hRP : fz_RP h) (hRK : fz_RK h) (hRR : fz_RR h) (hRT : fz_RT h) (hRE : fz_RE h) (hR2 : fz_R2 h) (hR3 : fz_R3 h) (hR4 : fz_R4 h) (hR28 : fz_R28 h) (hR5 : fz_R5 h) (hR6 : fz_R6 h) (hRG : fz_RG h) (hRL : fz_RL h) (hRC : fz_RC h) (hRJ : fz_RJ h) (hRW : fz_RW h) (hRV : fz_RV h) (hRM : fz_RM h) (hRP2 : fz_RP2 h) (hRA : fz_RA h) (hRU : fz_RU h) (hRD : fz_RD h) (i : Int) (hi : 0 ≤ i ∧ i + 6 ≤ h 200 100000 ∧ h 200 100000 ≤ 3072) {Q : fz_H → Option fz_V → Prop} (K : ∀ H : fz_H, fz_Gd H → H 200 = h 200 → fz_R 47 mLe 1817 [(3, fz_i i), (0, fz_r 200), (1, fz_r 0), (2, fz_r 53)] [] H Q) : fz_R 47 mLc0 224 [(3, fz_i i), (0, fz_r 200), (1, fz_r 0), (2, fz_r 53)] [] h Q := by
  have hf : fz_fr fz_all h h := fz_fr_rf
  refine fz_aload_n kLc0 rfl rfl ?_
  refine fz_aload_n kLc0 rfl rfl ?_
  refine fz_iload_n kLc0 rfl rfl ?_
  refine fz_iconst ⟨by decide, by decide⟩ kLc0 rfl ?_
  refine fz_iaddN kLc0 rfl (by omega) ?_
  obtain ⟨a1, e2⟩ : ∃ z, h 200 ((i + 1)).toNat = z := ⟨_, rfl⟩
  refine fz_taldV (v := a1) kLc0 rfl ⟨by decide, by decide⟩ (by omega) (by omega) e2 ?_
  have b3 : 0 ≤ h 1 7 ∧ h 1 7 ≤ 8 := hI.1 1 _
  refine fz_callV (d' := 4) (M' := mX10_town) (As := [fz_i a1]) (st := []) kLc0 rfl rfl vX10_town rfl rfl rfl rfl (Nat.le_of_ble_eq_true rfl) (Nat.le_of_ble_eq_true rfl) (by decide) (sX10_town h hI a1 hRE hRV) (fun H4 r5 q6 o7 => ?_)
  obtain ⟨hI8, hf9, hRE10, hRV11, y15, rfl, f12, f13, f14⟩ := q6
  clear o7
  have hf16 := fz_fr_tr hf hf9 (fz_su_all rfl)
  have hXd17 : fz_Xd H4 := fz_Xd_eq (funext fun s => hf9 80 s rfl) hXd
  have hXh18 : fz_Xh H4 := fz_Xh_eq (funext fun s => hf9 83 s rfl) hXh
  have hXw19 : fz_Xw H4 := fz_Xw_eq (hf9 53 19 rfl) (funext fun s => hf9 66 s rfl) (funext fun s => hf9 67 s rfl) (funext fun s => hf9 68 s rfl) (funext fun s => hf9 69 s rfl) hXw
  have hRS20 : fz_RS H4 := fz_RS_eq (funext fun s => hf9 48 s rfl) (funext fun s => hf9 49 s rfl) (funext fun s => hf9 50 s rfl) (funext fun s => hf9 51 s rfl) (funext fun s => hf9 83 s rfl) (funext fun s => hf9 84 s rfl) (hf9 44 2 rfl) hRS
  have hRP21 : fz_RP H4 := fz_RP_eq (funext fun s => hf9 52 s rfl) (funext fun s => hf9 85 s rfl) hRP
  have hRK22 : fz_RK H4 := fz_RK_eq (funext fun s => hf9 45 s rfl) (funext fun s => hf9 81 s rfl) hRK
  have hRR23 : fz_RR H4 := fz_RR_eq (hf9 44 3 rfl) (hf9 53 46 rfl) (funext fun s => hf9 46 s rfl) (funext fun s => hf9 82 s rfl) hRR
  have hR324 : fz_R3 H4 := fz_R3_eq (funext fun s => hf9 3 s rfl) (funext fun s => hf9 57 s rfl) hR3
  have hR425 : fz_R4 H4 := fz_R4_eq (funext fun s => hf9 4 s rfl) (funext fun s => hf9 58 s rfl) hR4
  have hR2826 : fz_R28 H4 := fz_R28_eq (funext fun s => hf9 28 s rfl) (funext fun s => hf9 59 s rfl) hR28
  have hR527 : fz_R5 H4 := fz_R5_eq (funext fun s => hf9 5 s rfl) (funext fun s => hf9 55 s rfl) hR5
  have hR628 : fz_R6 H4 := fz_R6_eq (funext fun s => hf9 6 s rfl) (funext fun s => hf9 56 s rfl) hR6
  have hRG29 : fz_RG H4 := fz_RG_eq (hf9 27 8 rfl) (hf9 27 9 rfl) (hf9 53 8 rfl) (hf9 53 9 rfl) hRG
  have hRL30 : fz_RL H4 := fz_RL_eq (funext fun s => hf9 11 s rfl) (funext fun s => hf9 12 s rfl) (funext fun s => hf9 13 s rfl) (funext fun s => hf9 14 s rfl) (funext fun s => hf9 61 s rfl) (funext fun s => hf9 62 s rfl) (funext fun s => hf9 63 s rfl) (funext fun s => hf9 64 s rfl) (hf9 9 5 rfl) hRL
  have hRJ31 : fz_RJ H4 := fz_RJ_eq (hf9 40 1 rfl) (hf9 53 34 rfl) (funext fun s => hf9 41 s rfl) (funext fun s => hf9 76 s rfl) (hf9 40 6 rfl) (hf9 53 37 rfl) (funext fun s => hf9 42 s rfl) (funext fun s => hf9 78 s rfl) (hf9 43 0 rfl) (hf9 53 38 rfl) hRJ
  have hRW32 : fz_RW H4 := fz_RW_eq (funext fun s => hf9 10 s rfl) (funext fun s => hf9 60 s rfl) (hf9 9 5 rfl) hRW
  have hRM33 : fz_RM H4 := fz_RM_eq (funext fun s => hf9 55 s rfl) (funext fun s => hf9 56 s rfl) (hf9 53 0 rfl) (hf9 53 2 rfl) hRM
  have hRA34 : fl_RA H4 := fl_RA_eq (funext fun s => hf9 26 s rfl) (funext fun s => hf9 65 s rfl) (hf9 20 2 rfl) hRA
  have hRU35 : fl_RU H4 := fl_RU_eq (hf9 15 4 rfl) (funext fun s => hf9 16 s rfl) (funext fun s => hf9 17 s rfl) (hf9 53 18 rfl) (hf9 53 19 rfl) (funext fun s => hf9 66 s rfl) (funext fun s => hf9 67 s rfl) (funext fun s => hf9 68 s rfl) (funext fun s => hf9 69 s rfl) hRU
  have hRD36 : fl_RD H4 := fl_RD_eq (hf9 40 2 rfl) (hf9 40 3 rfl) (hf9 40 4 rfl) (hf9 40 5 rfl) (funext fun s => hf9 77 s rfl) (hf9 43 1 rfl) (hf9 43 2 rfl) (hf9 43 3 rfl) (hf9 43 4 rfl) (funext fun s => hf9 79 s rfl) hRD
  have hX37 : fz_Xc H4 := fz_Xc_fr hf9 rfl hX
  have t38 : H4 53 10 = h 53 10 := hf9 53 10 rfl
  have t39 : H4 53 41 = h 53 41 := hf9 53 41 rfl
  have t40 : H4 53 42 = h 53 42 := hf9 53 42 rfl
  have t41 : H4 9 5 = h 9 5 := hf9 9 5 rfl
  have t42 : H4 53 10 = h 53 10 := hf9 53 10 rfl
  have t43 : H4 44 2 = h 44 2 := hf9 44 2 rfl
  have t44 : H4 53 44 = h 53 44 := hf9 53 44 rfl
  have t45 : H4 20 2 = h 20 2 := hf9 20 2 rfl
  have t46 : H4 53 16 = h 53 16 := hf9 53 16 rfl
  have t47 : H4 53 0 = h 53 0 := hf9 53 0 rfl
  have t48 : H4 1 8 = h 1 8 := hf9 1 8 rfl
  have t49 : H4 53 2 = h 53 2 := hf9 53 2 rfl
  refine fz_pop rfl kLc0 rfl ?_
  refine fz_aload_n kLc0 rfl rfl ?_
  refine fz_aload_n kLc0 rfl rfl ?_
  refine fz_iload_n kLc0 rfl rfl ?_
  refine fz_iconst ⟨by decide, by decide⟩ kLc0 rfl ?_
  refine fz_iaddN kLc0 rfl (by omega) ?_
  refine fz_taldV (v := a1) kLc0 rfl ⟨by decide, by decide⟩ (by omega) (by rw [hf16 200 _ rfl]; omega) ((hf16 200 _ rfl).trans e2) ?_
  have b50 : 0 ≤ H4 53 0 ∧ H4 53 0 ≤ 8 := hI8.1 53 _
  refine fz_callV (d' := 1) (M' := mX11_town) (As := [fz_i a1]) (st := []) kLc0 rfl rfl vX11_town rfl rfl rfl rfl (Nat.le_of_ble_eq_true rfl) (Nat.le_of_ble_eq_true rfl) (by decide) (sX11_town H4 hI8 a1 ) (fun H51 r52 q53 o54 => ?_)
  obtain ⟨hI55, hf56, y60, rfl, f57, f58, f59⟩ := q53
  clear o54
  have hf61 := fz_fr_tr hf16 hf56 (fz_su_all rfl)
  have hXd62 : fz_Xd H51 := fz_Xd_eq (funext fun s => hf56 80 s rfl) hXd17
  have hXh63 : fz_Xh H51 := fz_Xh_eq (funext fun s => hf56 83 s rfl) hXh18
  have hXw64 : fz_Xw H51 := fz_Xw_eq (hf56 53 19 rfl) (funext fun s => hf56 66 s rfl) (funext fun s => hf56 67 s rfl) (funext fun s => hf56 68 s rfl) (funext fun s => hf56 69 s rfl) hXw19
  have hRS65 : fz_RS H51 := fz_RS_eq (funext fun s => hf56 48 s rfl) (funext fun s => hf56 49 s rfl) (funext fun s => hf56 50 s rfl) (funext fun s => hf56 51 s rfl) (funext fun s => hf56 83 s rfl) (funext fun s => hf56 84 s rfl) (hf56 44 2 rfl) hRS20
  have hRP66 : fz_RP H51 := fz_RP_eq (funext fun s => hf56 52 s rfl) (funext fun s => hf56 85 s rfl) hRP21
  have hRK67 : fz_RK H51 := fz_RK_eq (funext fun s => hf56 45 s rfl) (funext fun s => hf56 81 s rfl) hRK22
  have hRR68 : fz_RR H51 := fz_RR_eq (hf56 44 3 rfl) (hf56 53 46 rfl) (funext fun s => hf56 46 s rfl) (funext fun s => hf56 82 s rfl) hRR23
  have hRE69 : fz_RE H51 := fz_RE_eq (funext fun s => hf56 5 s rfl) (funext fun s => hf56 6 s rfl) (hf56 1 8 rfl) (hf56 1 7 rfl) hRE10
  have hR370 : fz_R3 H51 := fz_R3_eq (funext fun s => hf56 3 s rfl) (funext fun s => hf56 57 s rfl) hR324
  have hR471 : fz_R4 H51 := fz_R4_eq (funext fun s => hf56 4 s rfl) (funext fun s => hf56 58 s rfl) hR425
  have hR2872 : fz_R28 H51 := fz_R28_eq (funext fun s => hf56 28 s rfl) (funext fun s => hf56 59 s rfl) hR2826
  have hR573 : fz_R5 H51 := fz_R5_eq (funext fun s => hf56 5 s rfl) (funext fun s => hf56 55 s rfl) hR527
  have hR674 : fz_R6 H51 := fz_R6_eq (funext fun s => hf56 6 s rfl) (funext fun s => hf56 56 s rfl) hR628
  have hRG75 : fz_RG H51 := fz_RG_eq (hf56 27 8 rfl) (hf56 27 9 rfl) (hf56 53 8 rfl) (hf56 53 9 rfl) hRG29
  have hRL76 : fz_RL H51 := fz_RL_eq (funext fun s => hf56 11 s rfl) (funext fun s => hf56 12 s rfl) (funext fun s => hf56 13 s rfl) (funext fun s => hf56 14 s rfl) (funext fun s => hf56 61 s rfl) (funext fun s => hf56 62 s rfl) (funext fun s => hf56 63 s rfl) (funext fun s => hf56 64 s rfl) (hf56 9 5 rfl) hRL30
  have hRJ77 : fz_RJ H51 := fz_RJ_eq (hf56 40 1 rfl) (hf56 53 34 rfl) (funext fun s => hf56 41 s rfl) (funext fun s => hf56 76 s rfl) (hf56 40 6 rfl) (hf56 53 37 rfl) (funext fun s => hf56 42 s rfl) (funext fun s => hf56 78 s rfl) (hf56 43 0 rfl) (hf56 53 38 rfl) hRJ31
  have hRW78 : fz_RW H51 := fz_RW_eq (funext fun s => hf56 10 s rfl) (funext fun s => hf56 60 s rfl) (hf56 9 5 rfl) hRW32
  have hRV79 : fz_RV H51 := fz_RV_eq (funext fun s => hf56 7 s rfl) (funext fun s => hf56 8 s rfl) (funext fun s => hf56 3 s rfl) (funext fun s => hf56 4 s rfl) (funext fun s => hf56 5 s rfl) (funext fun s => hf56 6 s rfl) (hf56 1 7 rfl) (hf56 1 8 rfl) hRV11
  have hRA80 : fl_RA H51 := fl_RA_eq (funext fun s => hf56 26 s rfl) (funext fun s => hf56 65 s rfl) (hf56 20 2 rfl) hRA34
  have hRU81 : fl_RU H51 := fl_RU_eq (hf56 15 4 rfl) (funext fun s => hf56 16 s rfl) (funext fun s => hf56 17 s rfl) (hf56 53 18 rfl) (hf56 53 19 rfl) (funext fun s => hf56 66 s rfl) (funext fun s => hf56 67 s rfl) (funext fun s => hf56 68 s rfl) (funext fun s => hf56 69 s rfl) hRU35
  have hRD82 : fl_RD H51 := fl_RD_eq (hf56 40 2 rfl) (hf56 40 3 rfl) (hf56 40 4 rfl) (hf56 40 5 rfl) (funext fun s => hf56 77 s rfl) (hf56 43 1 rfl) (hf56 43 2 rfl) (hf56 43 3 rfl) (hf56 43 4 rfl) (funext fun s => hf56 79 s rfl) hRD36
  have hX83 : fz_Xc H51 := fz_Xc_fr hf56 rfl hX37
  have t84 : H51 53 10 = H4 53 10 := hf56 53 10 rfl
  have t85 : H51 53 41 = H4 53 41 := hf56 53 41 rfl
  have t86 : H51 53 42 = H4 53 42 := hf56 53 42 rfl
  have t87 : H51 9 5 = H4 9 5 := hf56 9 5 rfl
  have t88 : H51 53 10 = H4 53 10 := hf56 53 10 rfl
  have t89 : H51 44 2 = H4 44 2 := hf56 44 2 rfl
  have t90 : H51 53 44 = H4 53 44 := hf56 53 44 rfl
  have t91 : H51 20 2 = H4 20 2 := hf56 20 2 rfl
  have t92 : H51 53 16 = H4 53 16 := hf56 53 16 rfl
  have t93 : H51 1 7 = H4 1 7 := hf56 1 7 rfl
  have t94 : H51 1 8 = H4 1 8 := hf56 1 8 rfl
  have t95 : H51 53 2 = H4 53 2 := hf56 53 2 rfl
  refine fz_pop rfl kLc0 rfl ?_
  refine fz_goto (tgt := 1817) kLc0 rfl (by decide) ?_
  have hRT96 : fz_RT H51 := fz_RT_t (funext fun s => (hf56 41 s rfl).trans (hf9 41 s rfl)) (funext fun s => (hf56 42 s rfl).trans (hf9 42 s rfl)) (by omega) hRT
  have hRE98 : fz_RE H51 := fz_RE_t (funext fun s => (hf56 5 s rfl).trans (hf9 5 s rfl)) (funext fun s => (hf56 6 s rfl).trans (hf9 6 s rfl)) ((hf56 1 8 rfl).trans (hf9 1 8 rfl)) (by omega) hRE
  have hR2100 : fz_R2 H51 := fz_R2_town hR2 f14 f59 (by omega) (funext fun s => hf9 54 s rfl) (funext fun s => hf56 2 s rfl)
  have hRC102 : fz_RC H51 := fz_RC_t ((hf56 35 4 rfl).trans (hf9 35 4 rfl)) ((hf56 35 5 rfl).trans (hf9 35 5 rfl)) ((hf56 53 41 rfl).trans (hf9 53 41 rfl)) ((hf56 53 42 rfl).trans (hf9 53 42 rfl)) (funext fun s => (hf56 36 s rfl).trans (hf9 36 s rfl)) (funext fun s => (hf56 37 s rfl).trans (hf9 37 s rfl)) (funext fun s => (hf56 38 s rfl).trans (hf9 38 s rfl)) (funext fun s => (hf56 39 s rfl).trans (hf9 39 s rfl)) (funext fun s => (hf56 80 s rfl).trans (hf9 80 s rfl)) (by omega) (by omega) (by omega) hRC
  have hRM104 : fz_RM H51 := fz_RM_of hRE98 hR573 hR674 (by omega) (by omega)
  have hRP2106 : fz_RP2 H51 := fz_RP2_t (funext fun s => (hf56 11 s rfl).trans (hf9 11 s rfl)) (by omega) (by omega) hRP2
  exact K H51 ⟨hI55, hX83, hXd62, hXh63, hXw64, (by rw [((hf56 53 10 rfl).trans (hf9 53 10 rfl))]; exact hv1), (by rw [((hf56 53 42 rfl).trans (hf9 53 42 rfl)), ((hf56 53 41 rfl).trans (hf9 53 41 rfl))]; exact hv2), (((hf56 9 5 rfl).trans (hf9 9 5 rfl)).trans (hr0.trans ((hf56 53 10 rfl).trans (hf9 53 10 rfl)).symm)), (((hf56 44 2 rfl).trans (hf9 44 2 rfl)).trans (hr1.trans ((hf56 53 44 rfl).trans (hf9 53 44 rfl)).symm)), (((hf56 20 2 rfl).trans (hf9 20 2 rfl)).trans (hr2.trans ((hf56 53 16 rfl).trans (hf9 53 16 rfl)).symm)), by omega, (((hf56 1 8 rfl).trans (hf9 1 8 rfl)).trans (hr4.trans ((hf56 53 2 rfl).trans (hf9 53 2 rfl)).symm)), hRS65, hRP66, hRK67, hRR68, hRT96, hRE98, hR2100, hR370, hR471, hR2872, hR573, hR674, hRG75, hRL76, hRC102, hRJ77, hRW78, hRV79, hRM104, hRP2106, hRA80, hRU81, hRD82⟩ (funext fun s => hf61 200 s rfl)
def mLc1 : fz_M := (yL_law, code, 4, (some .boolean), [(247, .aload_n 1, 1, 0, 0, 0), (248, .aload_n 0, 1, 0, 0, 0), (249, .iload_n 3, 1, 0, 0, 0), (250, .iconst 1, 1, 0, 0, 0), (251, .iadd, 1, 0, 0, 0), (252, .iaload, 1, 0, 0, 0), (253, .aload_n 0, 1, 0, 0, 0), (254, .iload_n 3, 1, 0, 0, 0), (255, .iconst 2, 1, 0, 0, 0), (256, .iadd, 1, 0, 0, 0), (257, .iaload, 1, 0, 0, 0), (258, .invokevirtual 18, 3, 2173, 67, 0), (261, .pop, 1, 0, 0, 0), (262, .aload_n 2, 1, 0, 0, 0), (263, .aload_n 0, 1, 0, 0, 0), (264, .iload_n 3, 1, 0, 0, 0), (265, .iconst 1, 1, 0, 0, 0), (266, .iadd, 1, 0, 0, 0), (267, .iaload, 1, 0, 0, 0), (268, .aload_n 0, 1, 0, 0, 0), (269, .iload_n 3, 1, 0, 0, 0), (270, .iconst 2, 1, 0, 0, 0), (271, .iadd, 1, 0, 0, 0), (272, .iaload, 1, 0, 0, 0), (273, .invokevirtual 22, 3, 6033, 166, 0), (276, .pop, 1, 0, 0, 0), (277, .goto 1540, 3, 0, 0, 0)])
set_option maxRecDepth 100000 in
theorem kLc1 : fz_okM mLc1 = true := fz_okM_in (by decide +kernel) (by decide +kernel)
set_option maxHeartbeats 1000000 in
set_option maxRecDepth 100000 in
theorem lc1 (h : fz_H) (hI : fz_Iv h) (hX : fz_Xc h) (hXd : fz_Xd h) (hXh : fz_Xh h) (hXw : fz_Xw h) (hv1 : h 53 10 ≤ 10) (hv2 : h 53 42 ≤ h 53 41) (hr0 : h 9 5 = h 53 10) (hr1 : h 44 2 = h 53 44) (hr2 : h 20 2 = h 53 16) (hr3 : h 1 7 = h 53 0) (hr4 : h 1 8 = h 53 2) (hRS : fz_RS h) (hRP : fz_RP h) (hRK : fz_RK h) (hRR : fz_RR h) (hRT : fz_RT h) (hRE : fz_RE h) (hR2 : fz_R2 h) (hR3 : fz_R3 h) (hR4 : fz_R4 h) (hR28 : fz_R28 h) (hR5 : fz_R5 h) (hR6 : fz_R6 h) (hRG : fz_RG h) (hRL : fz_RL h) (hRC : fz_RC h) (hRJ : fz_RJ h) (hRW : fz_RW h) (hRV : fz_RV h) (hRM : fz_RM h) (hRP2 : fz_RP2 h) (hRA : fz_RA h) (hRU : fz_RU h) (hRD : fz_RD h) (i : Int) (hi : 0 ≤ i ∧ i + 6 ≤ h 200 100000 ∧ h 200 100000 ≤ 3072) {Q : fz_H → Option fz_V → Prop} (K : ∀ H : fz_H, fz_Gd H → H 200 = h 200 → fz_R 47 mLe 1817 [(3, fz_i i), (0, fz_r 200), (1, fz_r 0), (2, fz_r 53)] [] H Q) : fz_R 47 mLc1 247 [(3, fz_i i), (0, fz_r 200), (1, fz_r 0), (2, fz_r 53)] [] h Q := by
  have hf : fz_fr fz_all h h := fz_fr_rf
  refine fz_aload_n kLc1 rfl rfl ?_
  refine fz_aload_n kLc1 rfl rfl ?_
  refine fz_iload_n kLc1 rfl rfl ?_
  refine fz_iconst ⟨by decide, by decide⟩ kLc1 rfl ?_
  refine fz_iaddN kLc1 rfl (by omega) ?_
  obtain ⟨a1, e2⟩ : ∃ z, h 200 ((i + 1)).toNat = z := ⟨_, rfl⟩
  refine fz_taldV (v := a1) kLc1 rfl ⟨by decide, by decide⟩ (by omega) (by omega) e2 ?_
  refine fz_aload_n kLc1 rfl rfl ?_
  refine fz_iload_n kLc1 rfl rfl ?_
  refine fz_iconst ⟨by decide, by decide⟩ kLc1 rfl ?_
  refine fz_iaddN kLc1 rfl (by omega) ?_
  obtain ⟨a3, e4⟩ : ∃ z, h 200 ((i + 2)).toNat = z := ⟨_, rfl⟩
  refine fz_taldV (v := a3) kLc1 rfl ⟨by decide, by decide⟩ (by omega) (by omega) e4 ?_
  have b5 : 0 ≤ h 1 7 ∧ h 1 7 ≤ 8 := hI.1 1 _
  have b6 : 0 ≤ h 1 8 ∧ h 1 8 ≤ 12 := hI.1 1 _
  refine fz_callV (d' := 4) (M' := mX10_road) (As := [fz_i a1, fz_i a3]) (st := []) kLc1 rfl rfl vX10_road rfl rfl rfl rfl (Nat.le_of_ble_eq_true rfl) (Nat.le_of_ble_eq_true rfl) (by decide) (sX10_road h hI a1 a3 hRE hRV) (fun H7 r8 q9 o10 => ?_)
  obtain ⟨hI11, hf12, hRE13, hRV14, y18, rfl, f15, f16, f17⟩ := q9
  clear o10
  have hf19 := fz_fr_tr hf hf12 (fz_su_all rfl)
  have hXd20 : fz_Xd H7 := fz_Xd_eq (funext fun s => hf12 80 s rfl) hXd
  have hXh21 : fz_Xh H7 := fz_Xh_eq (funext fun s => hf12 83 s rfl) hXh
  have hXw22 : fz_Xw H7 := fz_Xw_eq (hf12 53 19 rfl) (funext fun s => hf12 66 s rfl) (funext fun s => hf12 67 s rfl) (funext fun s => hf12 68 s rfl) (funext fun s => hf12 69 s rfl) hXw
  have hRS23 : fz_RS H7 := fz_RS_eq (funext fun s => hf12 48 s rfl) (funext fun s => hf12 49 s rfl) (funext fun s => hf12 50 s rfl) (funext fun s => hf12 51 s rfl) (funext fun s => hf12 83 s rfl) (funext fun s => hf12 84 s rfl) (hf12 44 2 rfl) hRS
  have hRP24 : fz_RP H7 := fz_RP_eq (funext fun s => hf12 52 s rfl) (funext fun s => hf12 85 s rfl) hRP
  have hRK25 : fz_RK H7 := fz_RK_eq (funext fun s => hf12 45 s rfl) (funext fun s => hf12 81 s rfl) hRK
  have hRR26 : fz_RR H7 := fz_RR_eq (hf12 44 3 rfl) (hf12 53 46 rfl) (funext fun s => hf12 46 s rfl) (funext fun s => hf12 82 s rfl) hRR
  have hRT27 : fz_RT H7 := fz_RT_eq (funext fun s => hf12 41 s rfl) (funext fun s => hf12 42 s rfl) (hf12 1 7 rfl) hRT
  have hR228 : fz_R2 H7 := fz_R2_eq (funext fun s => hf12 2 s rfl) (funext fun s => hf12 54 s rfl) hR2
  have hR2829 : fz_R28 H7 := fz_R28_eq (funext fun s => hf12 28 s rfl) (funext fun s => hf12 59 s rfl) hR28
  have hRG30 : fz_RG H7 := fz_RG_eq (hf12 27 8 rfl) (hf12 27 9 rfl) (hf12 53 8 rfl) (hf12 53 9 rfl) hRG
  have hRL31 : fz_RL H7 := fz_RL_eq (funext fun s => hf12 11 s rfl) (funext fun s => hf12 12 s rfl) (funext fun s => hf12 13 s rfl) (funext fun s => hf12 14 s rfl) (funext fun s => hf12 61 s rfl) (funext fun s => hf12 62 s rfl) (funext fun s => hf12 63 s rfl) (funext fun s => hf12 64 s rfl) (hf12 9 5 rfl) hRL
  have hRJ32 : fz_RJ H7 := fz_RJ_eq (hf12 40 1 rfl) (hf12 53 34 rfl) (funext fun s => hf12 41 s rfl) (funext fun s => hf12 76 s rfl) (hf12 40 6 rfl) (hf12 53 37 rfl) (funext fun s => hf12 42 s rfl) (funext fun s => hf12 78 s rfl) (hf12 43 0 rfl) (hf12 53 38 rfl) hRJ
  have hRW33 : fz_RW H7 := fz_RW_eq (funext fun s => hf12 10 s rfl) (funext fun s => hf12 60 s rfl) (hf12 9 5 rfl) hRW
  have hRM34 : fz_RM H7 := fz_RM_eq (funext fun s => hf12 55 s rfl) (funext fun s => hf12 56 s rfl) (hf12 53 0 rfl) (hf12 53 2 rfl) hRM
  have hRP235 : fz_RP2 H7 := fz_RP2_eq (funext fun s => hf12 11 s rfl) (hf12 9 5 rfl) (hf12 1 7 rfl) hRP2
  have hRA36 : fl_RA H7 := fl_RA_eq (funext fun s => hf12 26 s rfl) (funext fun s => hf12 65 s rfl) (hf12 20 2 rfl) hRA
  have hRU37 : fl_RU H7 := fl_RU_eq (hf12 15 4 rfl) (funext fun s => hf12 16 s rfl) (funext fun s => hf12 17 s rfl) (hf12 53 18 rfl) (hf12 53 19 rfl) (funext fun s => hf12 66 s rfl) (funext fun s => hf12 67 s rfl) (funext fun s => hf12 68 s rfl) (funext fun s => hf12 69 s rfl) hRU
  have hRD38 : fl_RD H7 := fl_RD_eq (hf12 40 2 rfl) (hf12 40 3 rfl) (hf12 40 4 rfl) (hf12 40 5 rfl) (funext fun s => hf12 77 s rfl) (hf12 43 1 rfl) (hf12 43 2 rfl) (hf12 43 3 rfl) (hf12 43 4 rfl) (funext fun s => hf12 79 s rfl) hRD
  have hX39 : fz_Xc H7 := fz_Xc_fr hf12 rfl hX
  have t40 : H7 53 10 = h 53 10 := hf12 53 10 rfl
  have t41 : H7 53 41 = h 53 41 := hf12 53 41 rfl
  have t42 : H7 53 42 = h 53 42 := hf12 53 42 rfl
  have t43 : H7 9 5 = h 9 5 := hf12 9 5 rfl
  have t44 : H7 53 10 = h 53 10 := hf12 53 10 rfl
  have t45 : H7 44 2 = h 44 2 := hf12 44 2 rfl
  have t46 : H7 53 44 = h 53 44 := hf12 53 44 rfl
  have t47 : H7 20 2 = h 20 2 := hf12 20 2 rfl
  have t48 : H7 53 16 = h 53 16 := hf12 53 16 rfl
  have t49 : H7 1 7 = h 1 7 := hf12 1 7 rfl
  have t50 : H7 53 0 = h 53 0 := hf12 53 0 rfl
  have t51 : H7 53 2 = h 53 2 := hf12 53 2 rfl
  refine fz_pop rfl kLc1 rfl ?_
  refine fz_aload_n kLc1 rfl rfl ?_
  refine fz_aload_n kLc1 rfl rfl ?_
  refine fz_iload_n kLc1 rfl rfl ?_
  refine fz_iconst ⟨by decide, by decide⟩ kLc1 rfl ?_
  refine fz_iaddN kLc1 rfl (by omega) ?_
  refine fz_taldV (v := a1) kLc1 rfl ⟨by decide, by decide⟩ (by omega) (by rw [hf19 200 _ rfl]; omega) ((hf19 200 _ rfl).trans e2) ?_
  refine fz_aload_n kLc1 rfl rfl ?_
  refine fz_iload_n kLc1 rfl rfl ?_
  refine fz_iconst ⟨by decide, by decide⟩ kLc1 rfl ?_
  refine fz_iaddN kLc1 rfl (by omega) ?_
  refine fz_taldV (v := a3) kLc1 rfl ⟨by decide, by decide⟩ (by omega) (by rw [hf19 200 _ rfl]; omega) ((hf19 200 _ rfl).trans e4) ?_
  have b52 : 0 ≤ H7 53 0 ∧ H7 53 0 ≤ 8 := hI11.1 53 _
  have b53 : 0 ≤ H7 53 2 ∧ H7 53 2 ≤ 12 := hI11.1 53 _
  refine fz_callV (d' := 3) (M' := mX11_road) (As := [fz_i a1, fz_i a3]) (st := []) kLc1 rfl rfl vX11_road rfl rfl rfl rfl (Nat.le_of_ble_eq_true rfl) (Nat.le_of_ble_eq_true rfl) (by decide) (sX11_road H7 hI11 a1 a3 ) (fun H54 r55 q56 o57 => ?_)
  obtain ⟨hI58, hf59, y63, rfl, f60, f61, f62⟩ := q56
  clear o57
  have hf64 := fz_fr_tr hf19 hf59 (fz_su_all rfl)
  have hXd65 : fz_Xd H54 := fz_Xd_eq (funext fun s => hf59 80 s rfl) hXd20
  have hXh66 : fz_Xh H54 := fz_Xh_eq (funext fun s => hf59 83 s rfl) hXh21
  have hXw67 : fz_Xw H54 := fz_Xw_eq (hf59 53 19 rfl) (funext fun s => hf59 66 s rfl) (funext fun s => hf59 67 s rfl) (funext fun s => hf59 68 s rfl) (funext fun s => hf59 69 s rfl) hXw22
  have hRS68 : fz_RS H54 := fz_RS_eq (funext fun s => hf59 48 s rfl) (funext fun s => hf59 49 s rfl) (funext fun s => hf59 50 s rfl) (funext fun s => hf59 51 s rfl) (funext fun s => hf59 83 s rfl) (funext fun s => hf59 84 s rfl) (hf59 44 2 rfl) hRS23
  have hRP69 : fz_RP H54 := fz_RP_eq (funext fun s => hf59 52 s rfl) (funext fun s => hf59 85 s rfl) hRP24
  have hRK70 : fz_RK H54 := fz_RK_eq (funext fun s => hf59 45 s rfl) (funext fun s => hf59 81 s rfl) hRK25
  have hRR71 : fz_RR H54 := fz_RR_eq (hf59 44 3 rfl) (hf59 53 46 rfl) (funext fun s => hf59 46 s rfl) (funext fun s => hf59 82 s rfl) hRR26
  have hRT72 : fz_RT H54 := fz_RT_eq (funext fun s => hf59 41 s rfl) (funext fun s => hf59 42 s rfl) (hf59 1 7 rfl) hRT27
  have hRE73 : fz_RE H54 := fz_RE_eq (funext fun s => hf59 5 s rfl) (funext fun s => hf59 6 s rfl) (hf59 1 8 rfl) (hf59 1 7 rfl) hRE13
  have hR274 : fz_R2 H54 := fz_R2_eq (funext fun s => hf59 2 s rfl) (funext fun s => hf59 54 s rfl) hR228
  have hR2875 : fz_R28 H54 := fz_R28_eq (funext fun s => hf59 28 s rfl) (funext fun s => hf59 59 s rfl) hR2829
  have hRG76 : fz_RG H54 := fz_RG_eq (hf59 27 8 rfl) (hf59 27 9 rfl) (hf59 53 8 rfl) (hf59 53 9 rfl) hRG30
  have hRL77 : fz_RL H54 := fz_RL_eq (funext fun s => hf59 11 s rfl) (funext fun s => hf59 12 s rfl) (funext fun s => hf59 13 s rfl) (funext fun s => hf59 14 s rfl) (funext fun s => hf59 61 s rfl) (funext fun s => hf59 62 s rfl) (funext fun s => hf59 63 s rfl) (funext fun s => hf59 64 s rfl) (hf59 9 5 rfl) hRL31
  have hRJ78 : fz_RJ H54 := fz_RJ_eq (hf59 40 1 rfl) (hf59 53 34 rfl) (funext fun s => hf59 41 s rfl) (funext fun s => hf59 76 s rfl) (hf59 40 6 rfl) (hf59 53 37 rfl) (funext fun s => hf59 42 s rfl) (funext fun s => hf59 78 s rfl) (hf59 43 0 rfl) (hf59 53 38 rfl) hRJ32
  have hRW79 : fz_RW H54 := fz_RW_eq (funext fun s => hf59 10 s rfl) (funext fun s => hf59 60 s rfl) (hf59 9 5 rfl) hRW33
  have hRV80 : fz_RV H54 := fz_RV_eq (funext fun s => hf59 7 s rfl) (funext fun s => hf59 8 s rfl) (funext fun s => hf59 3 s rfl) (funext fun s => hf59 4 s rfl) (funext fun s => hf59 5 s rfl) (funext fun s => hf59 6 s rfl) (hf59 1 7 rfl) (hf59 1 8 rfl) hRV14
  have hRP281 : fz_RP2 H54 := fz_RP2_eq (funext fun s => hf59 11 s rfl) (hf59 9 5 rfl) (hf59 1 7 rfl) hRP235
  have hRA82 : fl_RA H54 := fl_RA_eq (funext fun s => hf59 26 s rfl) (funext fun s => hf59 65 s rfl) (hf59 20 2 rfl) hRA36
  have hRU83 : fl_RU H54 := fl_RU_eq (hf59 15 4 rfl) (funext fun s => hf59 16 s rfl) (funext fun s => hf59 17 s rfl) (hf59 53 18 rfl) (hf59 53 19 rfl) (funext fun s => hf59 66 s rfl) (funext fun s => hf59 67 s rfl) (funext fun s => hf59 68 s rfl) (funext fun s => hf59 69 s rfl) hRU37
  have hRD84 : fl_RD H54 := fl_RD_eq (hf59 40 2 rfl) (hf59 40 3 rfl) (hf59 40 4 rfl) (hf59 40 5 rfl) (funext fun s => hf59 77 s rfl) (hf59 43 1 rfl) (hf59 43 2 rfl) (hf59 43 3 rfl) (hf59 43 4 rfl) (funext fun s => hf59 79 s rfl) hRD38
  have hX85 : fz_Xc H54 := fz_Xc_fr hf59 rfl hX39
  have t86 : H54 53 10 = H7 53 10 := hf59 53 10 rfl
  have t87 : H54 53 41 = H7 53 41 := hf59 53 41 rfl
  have t88 : H54 53 42 = H7 53 42 := hf59 53 42 rfl
  have t89 : H54 9 5 = H7 9 5 := hf59 9 5 rfl
  have t90 : H54 53 10 = H7 53 10 := hf59 53 10 rfl
  have t91 : H54 44 2 = H7 44 2 := hf59 44 2 rfl
  have t92 : H54 53 44 = H7 53 44 := hf59 53 44 rfl
  have t93 : H54 20 2 = H7 20 2 := hf59 20 2 rfl
  have t94 : H54 53 16 = H7 53 16 := hf59 53 16 rfl
  have t95 : H54 1 7 = H7 1 7 := hf59 1 7 rfl
  have t96 : H54 53 0 = H7 53 0 := hf59 53 0 rfl
  have t97 : H54 1 8 = H7 1 8 := hf59 1 8 rfl
  refine fz_pop rfl kLc1 rfl ?_
  refine fz_goto (tgt := 1817) kLc1 rfl (by decide) ?_
  have k98 := fz_R_road hR5 hR6 hR3 hR4 f17 f62 (by omega) (by omega) (funext fun s => hf12 55 s rfl) (funext fun s => hf12 56 s rfl) (funext fun s => hf12 57 s rfl) (funext fun s => hf12 58 s rfl) (funext fun s => hf59 5 s rfl) (funext fun s => hf59 6 s rfl) (funext fun s => hf59 3 s rfl) (funext fun s => hf59 4 s rfl)
  have hR5100 : fz_R5 H54 := k98.1
  have hR6102 : fz_R6 H54 := k98.2.1
  have hR3104 : fz_R3 H54 := k98.2.2.1
  have hR4106 : fz_R4 H54 := k98.2.2.2
  have hRC108 : fz_RC H54 := fz_RC_t ((hf59 35 4 rfl).trans (hf12 35 4 rfl)) ((hf59 35 5 rfl).trans (hf12 35 5 rfl)) ((hf59 53 41 rfl).trans (hf12 53 41 rfl)) ((hf59 53 42 rfl).trans (hf12 53 42 rfl)) (funext fun s => (hf59 36 s rfl).trans (hf12 36 s rfl)) (funext fun s => (hf59 37 s rfl).trans (hf12 37 s rfl)) (funext fun s => (hf59 38 s rfl).trans (hf12 38 s rfl)) (funext fun s => (hf59 39 s rfl).trans (hf12 39 s rfl)) (funext fun s => (hf59 80 s rfl).trans (hf12 80 s rfl)) (by omega) (by omega) (by omega) hRC
  have hRM110 : fz_RM H54 := fz_RM_of hRE73 hR5100 hR6102 (by omega) (by omega)
  exact K H54 ⟨hI58, hX85, hXd65, hXh66, hXw67, (by rw [((hf59 53 10 rfl).trans (hf12 53 10 rfl))]; exact hv1), (by rw [((hf59 53 42 rfl).trans (hf12 53 42 rfl)), ((hf59 53 41 rfl).trans (hf12 53 41 rfl))]; exact hv2), (((hf59 9 5 rfl).trans (hf12 9 5 rfl)).trans (hr0.trans ((hf59 53 10 rfl).trans (hf12 53 10 rfl)).symm)), (((hf59 44 2 rfl).trans (hf12 44 2 rfl)).trans (hr1.trans ((hf59 53 44 rfl).trans (hf12 53 44 rfl)).symm)), (((hf59 20 2 rfl).trans (hf12 20 2 rfl)).trans (hr2.trans ((hf59 53 16 rfl).trans (hf12 53 16 rfl)).symm)), (((hf59 1 7 rfl).trans (hf12 1 7 rfl)).trans (hr3.trans ((hf59 53 0 rfl).trans (hf12 53 0 rfl)).symm)), by omega, hRS68, hRP69, hRK70, hRR71, hRT72, hRE73, hR274, hR3104, hR4106, hR2875, hR5100, hR6102, hRG76, hRL77, hRC108, hRJ78, hRW79, hRV80, hRM110, hRP281, hRA82, hRU83, hRD84⟩ (funext fun s => hf64 200 s rfl)
def mLc2 : fz_M := (yL_law, code, 4, (some .boolean), [(280, .aload_n 1, 1, 0, 0, 0), (281, .aload_n 0, 1, 0, 0, 0), (282, .iload_n 3, 1, 0, 0, 0), (283, .iconst 1, 1, 0, 0, 0), (284, .iadd, 1, 0, 0, 0), (285, .iaload, 1, 0, 0, 0), (286, .aload_n 0, 1, 0, 0, 0), (287, .iload_n 3, 1, 0, 0, 0), (288, .iconst 2, 1, 0, 0, 0), (289, .iadd, 1, 0, 0, 0), (290, .iaload, 1, 0, 0, 0), (291, .aload_n 0, 1, 0, 0, 0), (292, .iload_n 3, 1, 0, 0, 0), (293, .iconst 3, 1, 0, 0, 0), (294, .iadd, 1, 0, 0, 0), (295, .iaload, 1, 0, 0, 0), (296, .invokevirtual 23, 3, 2189, 25, 0), (299, .pop, 1, 0, 0, 0), (300, .aload_n 2, 1, 0, 0, 0), (301, .aload_n 0, 1, 0, 0, 0), (302, .iload_n 3, 1, 0, 0, 0), (303, .iconst 1, 1, 0, 0, 0), (304, .iadd, 1, 0, 0, 0), (305, .iaload, 1, 0, 0, 0), (306, .aload_n 0, 1, 0, 0, 0), (307, .iload_n 3, 1, 0, 0, 0), (308, .iconst 2, 1, 0, 0, 0), (309, .iadd, 1, 0, 0, 0), (310, .iaload, 1, 0, 0, 0), (311, .aload_n 0, 1, 0, 0, 0), (312, .iload_n 3, 1, 0, 0, 0), (313, .iconst 3, 1, 0, 0, 0), (314, .iadd, 1, 0, 0, 0), (315, .iaload, 1, 0, 0, 0), (316, .invokevirtual 27, 3, 6045, 93, 0), (319, .pop, 1, 0, 0, 0), (320, .goto 1497, 3, 0, 0, 0)])
set_option maxRecDepth 100000 in
theorem kLc2 : fz_okM mLc2 = true := fz_okM_in (by decide +kernel) (by decide +kernel)
set_option maxHeartbeats 1000000 in
set_option maxRecDepth 100000 in
theorem lc2 (h : fz_H) (hI : fz_Iv h) (hX : fz_Xc h) (hXd : fz_Xd h) (hXh : fz_Xh h) (hXw : fz_Xw h) (hv1 : h 53 10 ≤ 10) (hv2 : h 53 42 ≤ h 53 41) (hr0 : h 9 5 = h 53 10) (hr1 : h 44 2 = h 53 44) (hr2 : h 20 2 = h 53 16) (hr3 : h 1 7 = h 53 0) (hr4 : h 1 8 = h 53 2) (hRS : fz_RS h) (hRP : fz_RP h) (hRK : fz_RK h) (hRR : fz_RR h) (hRT : fz_RT h) (hRE : fz_RE h) (hR2 : fz_R2 h) (hR3 : fz_R3 h) (hR4 : fz_R4 h) (hR28 : fz_R28 h) (hR5 : fz_R5 h) (hR6 : fz_R6 h) (hRG : fz_RG h) (hRL : fz_RL h) (hRC : fz_RC h) (hRJ : fz_RJ h) (hRW : fz_RW h) (hRV : fz_RV h) (hRM : fz_RM h) (hRP2 : fz_RP2 h) (hRA : fz_RA h) (hRU : fz_RU h) (hRD : fz_RD h) (i : Int) (hi : 0 ≤ i ∧ i + 6 ≤ h 200 100000 ∧ h 200 100000 ≤ 3072) {Q : fz_H → Option fz_V → Prop} (K : ∀ H : fz_H, fz_Gd H → H 200 = h 200 → fz_R 47 mLe 1817 [(3, fz_i i), (0, fz_r 200), (1, fz_r 0), (2, fz_r 53)] [] H Q) : fz_R 47 mLc2 280 [(3, fz_i i), (0, fz_r 200), (1, fz_r 0), (2, fz_r 53)] [] h Q := by
  have hf : fz_fr fz_all h h := fz_fr_rf
  refine fz_aload_n kLc2 rfl rfl ?_
  refine fz_aload_n kLc2 rfl rfl ?_
  refine fz_iload_n kLc2 rfl rfl ?_
  refine fz_iconst ⟨by decide, by decide⟩ kLc2 rfl ?_
  refine fz_iaddN kLc2 rfl (by omega) ?_
  obtain ⟨a1, e2⟩ : ∃ z, h 200 ((i + 1)).toNat = z := ⟨_, rfl⟩
  refine fz_taldV (v := a1) kLc2 rfl ⟨by decide, by decide⟩ (by omega) (by omega) e2 ?_
  refine fz_aload_n kLc2 rfl rfl ?_
  refine fz_iload_n kLc2 rfl rfl ?_
  refine fz_iconst ⟨by decide, by decide⟩ kLc2 rfl ?_
  refine fz_iaddN kLc2 rfl (by omega) ?_
  obtain ⟨a3, e4⟩ : ∃ z, h 200 ((i + 2)).toNat = z := ⟨_, rfl⟩
  refine fz_taldV (v := a3) kLc2 rfl ⟨by decide, by decide⟩ (by omega) (by omega) e4 ?_
  refine fz_aload_n kLc2 rfl rfl ?_
  refine fz_iload_n kLc2 rfl rfl ?_
  refine fz_iconst ⟨by decide, by decide⟩ kLc2 rfl ?_
  refine fz_iaddN kLc2 rfl (by omega) ?_
  obtain ⟨a5, e6⟩ : ∃ z, h 200 ((i + 3)).toNat = z := ⟨_, rfl⟩
  refine fz_taldV (v := a5) kLc2 rfl ⟨by decide, by decide⟩ (by omega) (by omega) e6 ?_
  have b7 : 0 ≤ h 1 7 ∧ h 1 7 ≤ 8 := hI.1 1 _
  have b8 : 0 ≤ h 9 5 ∧ h 9 5 ≤ 10 := hI.1 9 _
  refine fz_callV (d' := 2) (M' := mX10_deed) (As := [fz_i a1, fz_i a3, fz_i a5]) (st := []) kLc2 rfl rfl vX10_deed rfl rfl rfl rfl (Nat.le_of_ble_eq_true rfl) (Nat.le_of_ble_eq_true rfl) (by decide) (sX10_deed h hI a1 a3 a5 ) (fun H9 r10 q11 o12 => ?_)
  obtain ⟨hI13, hf14, y18, rfl, f15, f16, f17⟩ := q11
  clear o12
  have hf19 := fz_fr_tr hf hf14 (fz_su_all rfl)
  have hXd20 : fz_Xd H9 := fz_Xd_eq (funext fun s => hf14 80 s rfl) hXd
  have hXh21 : fz_Xh H9 := fz_Xh_eq (funext fun s => hf14 83 s rfl) hXh
  have hXw22 : fz_Xw H9 := fz_Xw_eq (hf14 53 19 rfl) (funext fun s => hf14 66 s rfl) (funext fun s => hf14 67 s rfl) (funext fun s => hf14 68 s rfl) (funext fun s => hf14 69 s rfl) hXw
  have hRS23 : fz_RS H9 := fz_RS_eq (funext fun s => hf14 48 s rfl) (funext fun s => hf14 49 s rfl) (funext fun s => hf14 50 s rfl) (funext fun s => hf14 51 s rfl) (funext fun s => hf14 83 s rfl) (funext fun s => hf14 84 s rfl) (hf14 44 2 rfl) hRS
  have hRP24 : fz_RP H9 := fz_RP_eq (funext fun s => hf14 52 s rfl) (funext fun s => hf14 85 s rfl) hRP
  have hRK25 : fz_RK H9 := fz_RK_eq (funext fun s => hf14 45 s rfl) (funext fun s => hf14 81 s rfl) hRK
  have hRR26 : fz_RR H9 := fz_RR_eq (hf14 44 3 rfl) (hf14 53 46 rfl) (funext fun s => hf14 46 s rfl) (funext fun s => hf14 82 s rfl) hRR
  have hRT27 : fz_RT H9 := fz_RT_eq (funext fun s => hf14 41 s rfl) (funext fun s => hf14 42 s rfl) (hf14 1 7 rfl) hRT
  have hRE28 : fz_RE H9 := fz_RE_eq (funext fun s => hf14 5 s rfl) (funext fun s => hf14 6 s rfl) (hf14 1 8 rfl) (hf14 1 7 rfl) hRE
  have hR229 : fz_R2 H9 := fz_R2_eq (funext fun s => hf14 2 s rfl) (funext fun s => hf14 54 s rfl) hR2
  have hR330 : fz_R3 H9 := fz_R3_eq (funext fun s => hf14 3 s rfl) (funext fun s => hf14 57 s rfl) hR3
  have hR431 : fz_R4 H9 := fz_R4_eq (funext fun s => hf14 4 s rfl) (funext fun s => hf14 58 s rfl) hR4
  have hR2832 : fz_R28 H9 := fz_R28_eq (funext fun s => hf14 28 s rfl) (funext fun s => hf14 59 s rfl) hR28
  have hR533 : fz_R5 H9 := fz_R5_eq (funext fun s => hf14 5 s rfl) (funext fun s => hf14 55 s rfl) hR5
  have hR634 : fz_R6 H9 := fz_R6_eq (funext fun s => hf14 6 s rfl) (funext fun s => hf14 56 s rfl) hR6
  have hRG35 : fz_RG H9 := fz_RG_eq (hf14 27 8 rfl) (hf14 27 9 rfl) (hf14 53 8 rfl) (hf14 53 9 rfl) hRG
  have hRJ36 : fz_RJ H9 := fz_RJ_eq (hf14 40 1 rfl) (hf14 53 34 rfl) (funext fun s => hf14 41 s rfl) (funext fun s => hf14 76 s rfl) (hf14 40 6 rfl) (hf14 53 37 rfl) (funext fun s => hf14 42 s rfl) (funext fun s => hf14 78 s rfl) (hf14 43 0 rfl) (hf14 53 38 rfl) hRJ
  have hRV37 : fz_RV H9 := fz_RV_eq (funext fun s => hf14 7 s rfl) (funext fun s => hf14 8 s rfl) (funext fun s => hf14 3 s rfl) (funext fun s => hf14 4 s rfl) (funext fun s => hf14 5 s rfl) (funext fun s => hf14 6 s rfl) (hf14 1 7 rfl) (hf14 1 8 rfl) hRV
  have hRM38 : fz_RM H9 := fz_RM_eq (funext fun s => hf14 55 s rfl) (funext fun s => hf14 56 s rfl) (hf14 53 0 rfl) (hf14 53 2 rfl) hRM
  have hRA39 : fl_RA H9 := fl_RA_eq (funext fun s => hf14 26 s rfl) (funext fun s => hf14 65 s rfl) (hf14 20 2 rfl) hRA
  have hRU40 : fl_RU H9 := fl_RU_eq (hf14 15 4 rfl) (funext fun s => hf14 16 s rfl) (funext fun s => hf14 17 s rfl) (hf14 53 18 rfl) (hf14 53 19 rfl) (funext fun s => hf14 66 s rfl) (funext fun s => hf14 67 s rfl) (funext fun s => hf14 68 s rfl) (funext fun s => hf14 69 s rfl) hRU
  have hRD41 : fl_RD H9 := fl_RD_eq (hf14 40 2 rfl) (hf14 40 3 rfl) (hf14 40 4 rfl) (hf14 40 5 rfl) (funext fun s => hf14 77 s rfl) (hf14 43 1 rfl) (hf14 43 2 rfl) (hf14 43 3 rfl) (hf14 43 4 rfl) (funext fun s => hf14 79 s rfl) hRD
  have hX42 : fz_Xc H9 := fz_Xc_fr hf14 rfl hX
  have t43 : H9 53 10 = h 53 10 := hf14 53 10 rfl
  have t44 : H9 53 41 = h 53 41 := hf14 53 41 rfl
  have t45 : H9 53 42 = h 53 42 := hf14 53 42 rfl
  have t46 : H9 53 10 = h 53 10 := hf14 53 10 rfl
  have t47 : H9 44 2 = h 44 2 := hf14 44 2 rfl
  have t48 : H9 53 44 = h 53 44 := hf14 53 44 rfl
  have t49 : H9 20 2 = h 20 2 := hf14 20 2 rfl
  have t50 : H9 53 16 = h 53 16 := hf14 53 16 rfl
  have t51 : H9 1 7 = h 1 7 := hf14 1 7 rfl
  have t52 : H9 53 0 = h 53 0 := hf14 53 0 rfl
  have t53 : H9 1 8 = h 1 8 := hf14 1 8 rfl
  have t54 : H9 53 2 = h 53 2 := hf14 53 2 rfl
  refine fz_pop rfl kLc2 rfl ?_
  refine fz_aload_n kLc2 rfl rfl ?_
  refine fz_aload_n kLc2 rfl rfl ?_
  refine fz_iload_n kLc2 rfl rfl ?_
  refine fz_iconst ⟨by decide, by decide⟩ kLc2 rfl ?_
  refine fz_iaddN kLc2 rfl (by omega) ?_
  refine fz_taldV (v := a1) kLc2 rfl ⟨by decide, by decide⟩ (by omega) (by rw [hf19 200 _ rfl]; omega) ((hf19 200 _ rfl).trans e2) ?_
  refine fz_aload_n kLc2 rfl rfl ?_
  refine fz_iload_n kLc2 rfl rfl ?_
  refine fz_iconst ⟨by decide, by decide⟩ kLc2 rfl ?_
  refine fz_iaddN kLc2 rfl (by omega) ?_
  refine fz_taldV (v := a3) kLc2 rfl ⟨by decide, by decide⟩ (by omega) (by rw [hf19 200 _ rfl]; omega) ((hf19 200 _ rfl).trans e4) ?_
  refine fz_aload_n kLc2 rfl rfl ?_
  refine fz_iload_n kLc2 rfl rfl ?_
  refine fz_iconst ⟨by decide, by decide⟩ kLc2 rfl ?_
  refine fz_iaddN kLc2 rfl (by omega) ?_
  refine fz_taldV (v := a5) kLc2 rfl ⟨by decide, by decide⟩ (by omega) (by rw [hf19 200 _ rfl]; omega) ((hf19 200 _ rfl).trans e6) ?_
  have b55 : 0 ≤ H9 53 10 ∧ H9 53 10 ≤ 11 := hI13.1 53 _
  have b56 : 0 ≤ H9 53 0 ∧ H9 53 0 ≤ 8 := hI13.1 53 _
  refine fz_callV (d' := 3) (M' := mX11_deed) (As := [fz_i a1, fz_i a3, fz_i a5]) (st := []) kLc2 rfl rfl vX11_deed rfl rfl rfl rfl (Nat.le_of_ble_eq_true rfl) (Nat.le_of_ble_eq_true rfl) (by decide) (sX11_deed H9 hI13 a1 a3 a5 (by omega)) (fun H57 r58 q59 o60 => ?_)
  obtain ⟨hI61, hf62, y67, rfl, f63, f64, f65, f66⟩ := q59
  clear o60
  have hf68 := fz_fr_tr hf19 hf62 (fz_su_all rfl)
  have hXd69 : fz_Xd H57 := fz_Xd_eq (funext fun s => hf62 80 s rfl) hXd20
  have hXh70 : fz_Xh H57 := fz_Xh_eq (funext fun s => hf62 83 s rfl) hXh21
  have hXw71 : fz_Xw H57 := fz_Xw_eq (hf62 53 19 rfl) (funext fun s => hf62 66 s rfl) (funext fun s => hf62 67 s rfl) (funext fun s => hf62 68 s rfl) (funext fun s => hf62 69 s rfl) hXw22
  have hRS72 : fz_RS H57 := fz_RS_eq (funext fun s => hf62 48 s rfl) (funext fun s => hf62 49 s rfl) (funext fun s => hf62 50 s rfl) (funext fun s => hf62 51 s rfl) (funext fun s => hf62 83 s rfl) (funext fun s => hf62 84 s rfl) (hf62 44 2 rfl) hRS23
  have hRP73 : fz_RP H57 := fz_RP_eq (funext fun s => hf62 52 s rfl) (funext fun s => hf62 85 s rfl) hRP24
  have hRK74 : fz_RK H57 := fz_RK_eq (funext fun s => hf62 45 s rfl) (funext fun s => hf62 81 s rfl) hRK25
  have hRR75 : fz_RR H57 := fz_RR_eq (hf62 44 3 rfl) (hf62 53 46 rfl) (funext fun s => hf62 46 s rfl) (funext fun s => hf62 82 s rfl) hRR26
  have hRT76 : fz_RT H57 := fz_RT_eq (funext fun s => hf62 41 s rfl) (funext fun s => hf62 42 s rfl) (hf62 1 7 rfl) hRT27
  have hRE77 : fz_RE H57 := fz_RE_eq (funext fun s => hf62 5 s rfl) (funext fun s => hf62 6 s rfl) (hf62 1 8 rfl) (hf62 1 7 rfl) hRE28
  have hR278 : fz_R2 H57 := fz_R2_eq (funext fun s => hf62 2 s rfl) (funext fun s => hf62 54 s rfl) hR229
  have hR379 : fz_R3 H57 := fz_R3_eq (funext fun s => hf62 3 s rfl) (funext fun s => hf62 57 s rfl) hR330
  have hR480 : fz_R4 H57 := fz_R4_eq (funext fun s => hf62 4 s rfl) (funext fun s => hf62 58 s rfl) hR431
  have hR2881 : fz_R28 H57 := fz_R28_eq (funext fun s => hf62 28 s rfl) (funext fun s => hf62 59 s rfl) hR2832
  have hR582 : fz_R5 H57 := fz_R5_eq (funext fun s => hf62 5 s rfl) (funext fun s => hf62 55 s rfl) hR533
  have hR683 : fz_R6 H57 := fz_R6_eq (funext fun s => hf62 6 s rfl) (funext fun s => hf62 56 s rfl) hR634
  have hRG84 : fz_RG H57 := fz_RG_eq (hf62 27 8 rfl) (hf62 27 9 rfl) (hf62 53 8 rfl) (hf62 53 9 rfl) hRG35
  have hRJ85 : fz_RJ H57 := fz_RJ_eq (hf62 40 1 rfl) (hf62 53 34 rfl) (funext fun s => hf62 41 s rfl) (funext fun s => hf62 76 s rfl) (hf62 40 6 rfl) (hf62 53 37 rfl) (funext fun s => hf62 42 s rfl) (funext fun s => hf62 78 s rfl) (hf62 43 0 rfl) (hf62 53 38 rfl) hRJ36
  have hRV86 : fz_RV H57 := fz_RV_eq (funext fun s => hf62 7 s rfl) (funext fun s => hf62 8 s rfl) (funext fun s => hf62 3 s rfl) (funext fun s => hf62 4 s rfl) (funext fun s => hf62 5 s rfl) (funext fun s => hf62 6 s rfl) (hf62 1 7 rfl) (hf62 1 8 rfl) hRV37
  have hRM87 : fz_RM H57 := fz_RM_eq (funext fun s => hf62 55 s rfl) (funext fun s => hf62 56 s rfl) (hf62 53 0 rfl) (hf62 53 2 rfl) hRM38
  have hRA88 : fl_RA H57 := fl_RA_eq (funext fun s => hf62 26 s rfl) (funext fun s => hf62 65 s rfl) (hf62 20 2 rfl) hRA39
  have hRU89 : fl_RU H57 := fl_RU_eq (hf62 15 4 rfl) (funext fun s => hf62 16 s rfl) (funext fun s => hf62 17 s rfl) (hf62 53 18 rfl) (hf62 53 19 rfl) (funext fun s => hf62 66 s rfl) (funext fun s => hf62 67 s rfl) (funext fun s => hf62 68 s rfl) (funext fun s => hf62 69 s rfl) hRU40
  have hRD90 : fl_RD H57 := fl_RD_eq (hf62 40 2 rfl) (hf62 40 3 rfl) (hf62 40 4 rfl) (hf62 40 5 rfl) (funext fun s => hf62 77 s rfl) (hf62 43 1 rfl) (hf62 43 2 rfl) (hf62 43 3 rfl) (hf62 43 4 rfl) (funext fun s => hf62 79 s rfl) hRD41
  have hX91 : fz_Xc H57 := fz_Xc_fr hf62 rfl hX42
  have t92 : H57 53 41 = H9 53 41 := hf62 53 41 rfl
  have t93 : H57 53 42 = H9 53 42 := hf62 53 42 rfl
  have t94 : H57 9 5 = H9 9 5 := hf62 9 5 rfl
  have t95 : H57 44 2 = H9 44 2 := hf62 44 2 rfl
  have t96 : H57 53 44 = H9 53 44 := hf62 53 44 rfl
  have t97 : H57 20 2 = H9 20 2 := hf62 20 2 rfl
  have t98 : H57 53 16 = H9 53 16 := hf62 53 16 rfl
  have t99 : H57 1 7 = H9 1 7 := hf62 1 7 rfl
  have t100 : H57 53 0 = H9 53 0 := hf62 53 0 rfl
  have t101 : H57 1 8 = H9 1 8 := hf62 1 8 rfl
  have t102 : H57 53 2 = H9 53 2 := hf62 53 2 rfl
  refine fz_pop rfl kLc2 rfl ?_
  refine fz_goto (tgt := 1817) kLc2 rfl (by decide) ?_
  have hRL103 : fz_RL H57 := fz_RL_ap hRL f17 f66 (by omega) ⟨(funext fun s => hf14 61 s rfl), (funext fun s => hf14 62 s rfl), (funext fun s => hf14 63 s rfl), (funext fun s => hf14 64 s rfl)⟩ ⟨(funext fun s => hf62 11 s rfl), (funext fun s => hf62 12 s rfl), (funext fun s => hf62 13 s rfl), (funext fun s => hf62 14 s rfl)⟩ (by omega) (by omega) (show 0 ≤ h 9 5 from (hI.1 9 _).1) (fun _ _ _ => rfl)
  have hRW105 : fz_RW H57 := fz_RW_ap hRW f17 f66 (by omega) (funext fun s => hf14 60 s rfl) (funext fun s => hf62 10 s rfl) (by omega) (by omega) (show 0 ≤ h 9 5 from (hI.1 9 _).1) (fun _ _ _ => rfl)
  have hRC107 : fz_RC H57 := fz_RC_t ((hf62 35 4 rfl).trans (hf14 35 4 rfl)) ((hf62 35 5 rfl).trans (hf14 35 5 rfl)) ((hf62 53 41 rfl).trans (hf14 53 41 rfl)) ((hf62 53 42 rfl).trans (hf14 53 42 rfl)) (funext fun s => (hf62 36 s rfl).trans (hf14 36 s rfl)) (funext fun s => (hf62 37 s rfl).trans (hf14 37 s rfl)) (funext fun s => (hf62 38 s rfl).trans (hf14 38 s rfl)) (funext fun s => (hf62 39 s rfl).trans (hf14 39 s rfl)) (funext fun s => (hf62 80 s rfl).trans (hf14 80 s rfl)) (by omega) (by omega) (by omega) hRC
  have hRP2109 : fz_RP2 H57 := fz_RP2_ap hRP2 f17 (funext fun s => hf62 11 s rfl) (by omega) (by omega) (show 0 ≤ h 9 5 from (hI.1 9 _).1) (fun k a b => (show a3 / 1000 < h 1 7 by omega))
  exact K H57 ⟨hI61, hX91, hXd69, hXh70, hXw71, by omega, (by rw [((hf62 53 42 rfl).trans (hf14 53 42 rfl)), ((hf62 53 41 rfl).trans (hf14 53 41 rfl))]; exact hv2), by omega, (((hf62 44 2 rfl).trans (hf14 44 2 rfl)).trans (hr1.trans ((hf62 53 44 rfl).trans (hf14 53 44 rfl)).symm)), (((hf62 20 2 rfl).trans (hf14 20 2 rfl)).trans (hr2.trans ((hf62 53 16 rfl).trans (hf14 53 16 rfl)).symm)), (((hf62 1 7 rfl).trans (hf14 1 7 rfl)).trans (hr3.trans ((hf62 53 0 rfl).trans (hf14 53 0 rfl)).symm)), (((hf62 1 8 rfl).trans (hf14 1 8 rfl)).trans (hr4.trans ((hf62 53 2 rfl).trans (hf14 53 2 rfl)).symm)), hRS72, hRP73, hRK74, hRR75, hRT76, hRE77, hR278, hR379, hR480, hR2881, hR582, hR683, hRG84, hRL103, hRC107, hRJ85, hRW105, hRV86, hRM87, hRP2109, hRA88, hRU89, hRD90⟩ (funext fun s => hf68 200 s rfl)
def mLc3 : fz_M := (yL_law, code, 4, (some .boolean), [(323, .aload_n 1, 1, 0, 0, 0), (324, .aload_n 0, 1, 0, 0, 0), (325, .iload_n 3, 1, 0, 0, 0), (326, .iconst 1, 1, 0, 0, 0), (327, .iadd, 1, 0, 0, 0), (328, .iaload, 1, 0, 0, 0), (329, .aload_n 0, 1, 0, 0, 0), (330, .iload_n 3, 1, 0, 0, 0), (331, .iconst 2, 1, 0, 0, 0), (332, .iadd, 1, 0, 0, 0), (333, .iaload, 1, 0, 0, 0), (334, .aload_n 0, 1, 0, 0, 0), (335, .iload_n 3, 1, 0, 0, 0), (336, .iconst 3, 1, 0, 0, 0), (337, .iadd, 1, 0, 0, 0), (338, .iaload, 1, 0, 0, 0), (339, .invokevirtual 28, 3, 2217, 26, 0), (342, .pop, 1, 0, 0, 0), (343, .aload_n 2, 1, 0, 0, 0), (344, .aload_n 0, 1, 0, 0, 0), (345, .iload_n 3, 1, 0, 0, 0), (346, .iconst 1, 1, 0, 0, 0), (347, .iadd, 1, 0, 0, 0), (348, .iaload, 1, 0, 0, 0), (349, .aload_n 0, 1, 0, 0, 0), (350, .iload_n 3, 1, 0, 0, 0), (351, .iconst 2, 1, 0, 0, 0), (352, .iadd, 1, 0, 0, 0), (353, .iaload, 1, 0, 0, 0), (354, .aload_n 0, 1, 0, 0, 0), (355, .iload_n 3, 1, 0, 0, 0), (356, .iconst 3, 1, 0, 0, 0), (357, .iadd, 1, 0, 0, 0), (358, .iaload, 1, 0, 0, 0), (359, .invokevirtual 31, 3, 6066, 94, 0), (362, .pop, 1, 0, 0, 0), (363, .goto 1454, 3, 0, 0, 0)])
set_option maxRecDepth 100000 in
theorem kLc3 : fz_okM mLc3 = true := fz_okM_in (by decide +kernel) (by decide +kernel)
set_option maxHeartbeats 1000000 in
set_option maxRecDepth 100000 in
theorem lc3 (h : fz_H) (hI : fz_Iv h) (hX : fz_Xc h) (hXd : fz_Xd h) (hXh : fz_Xh h) (hXw : fz_Xw h) (hv1 : h 53 10 ≤ 10) (hv2 : h 53 42 ≤ h 53 41) (hr0 : h 9 5 = h 53 10) (hr1 : h 44 2 = h 53 44) (hr2 : h 20 2 = h 53 16) (hr3 : h 1 7 = h 53 0) (hr4 : h 1 8 = h 53 2) (hRS : fz_RS h) (hRP : fz_RP h) (hRK : fz_RK h) (hRR : fz_RR h) (hRT : fz_RT h) (hRE : fz_RE h) (hR2 : fz_R2 h) (hR3 : fz_R3 h) (hR4 : fz_R4 h) (hR28 : fz_R28 h) (hR5 : fz_R5 h) (hR6 : fz_R6 h) (hRG : fz_RG h) (hRL : fz_RL h) (hRC : fz_RC h) (hRJ : fz_RJ h) (hRW : fz_RW h) (hRV : fz_RV h) (hRM : fz_RM h) (hRP2 : fz_RP2 h) (hRA : fz_RA h) (hRU : fz_RU h) (hRD : fz_RD h) (i : Int) (hi : 0 ≤ i ∧ i + 6 ≤ h 200 100000 ∧ h 200 100000 ≤ 3072) {Q : fz_H → Option fz_V → Prop} (K : ∀ H : fz_H, fz_Gd H → H 200 = h 200 → fz_R 47 mLe 1817 [(3, fz_i i), (0, fz_r 200), (1, fz_r 0), (2, fz_r 53)] [] H Q) : fz_R 47 mLc3 323 [(3, fz_i i), (0, fz_r 200), (1, fz_r 0), (2, fz_r 53)] [] h Q := by
  have hf : fz_fr fz_all h h := fz_fr_rf
  refine fz_aload_n kLc3 rfl rfl ?_
  refine fz_aload_n kLc3 rfl rfl ?_
  refine fz_iload_n kLc3 rfl rfl ?_
  refine fz_iconst ⟨by decide, by decide⟩ kLc3 rfl ?_
  refine fz_iaddN kLc3 rfl (by omega) ?_
  obtain ⟨a1, e2⟩ : ∃ z, h 200 ((i + 1)).toNat = z := ⟨_, rfl⟩
  refine fz_taldV (v := a1) kLc3 rfl ⟨by decide, by decide⟩ (by omega) (by omega) e2 ?_
  refine fz_aload_n kLc3 rfl rfl ?_
  refine fz_iload_n kLc3 rfl rfl ?_
  refine fz_iconst ⟨by decide, by decide⟩ kLc3 rfl ?_
  refine fz_iaddN kLc3 rfl (by omega) ?_
  obtain ⟨a3, e4⟩ : ∃ z, h 200 ((i + 2)).toNat = z := ⟨_, rfl⟩
  refine fz_taldV (v := a3) kLc3 rfl ⟨by decide, by decide⟩ (by omega) (by omega) e4 ?_
  refine fz_aload_n kLc3 rfl rfl ?_
  refine fz_iload_n kLc3 rfl rfl ?_
  refine fz_iconst ⟨by decide, by decide⟩ kLc3 rfl ?_
  refine fz_iaddN kLc3 rfl (by omega) ?_
  obtain ⟨a5, e6⟩ : ∃ z, h 200 ((i + 3)).toNat = z := ⟨_, rfl⟩
  refine fz_taldV (v := a5) kLc3 rfl ⟨by decide, by decide⟩ (by omega) (by omega) e6 ?_
  have b7 : 0 ≤ h 9 5 ∧ h 9 5 ≤ 10 := hI.1 9 _
  refine fz_callV (d' := 3) (M' := mX10_deeds) (As := [fz_i a1, fz_i a3, fz_i a5]) (st := []) kLc3 rfl rfl vX10_deeds rfl rfl rfl rfl (Nat.le_of_ble_eq_true rfl) (Nat.le_of_ble_eq_true rfl) (by decide) (sX10_deeds h hI a1 a3 a5 ) (fun H8 r9 q10 o11 => ?_)
  obtain ⟨hI12, hf13, y17, rfl, f14, f15, f16⟩ := q10
  clear o11
  have hf18 := fz_fr_tr hf hf13 (fz_su_all rfl)
  have hXd19 : fz_Xd H8 := fz_Xd_eq (funext fun s => hf13 80 s rfl) hXd
  have hXh20 : fz_Xh H8 := fz_Xh_eq (funext fun s => hf13 83 s rfl) hXh
  have hXw21 : fz_Xw H8 := fz_Xw_eq (hf13 53 19 rfl) (funext fun s => hf13 66 s rfl) (funext fun s => hf13 67 s rfl) (funext fun s => hf13 68 s rfl) (funext fun s => hf13 69 s rfl) hXw
  have hRS22 : fz_RS H8 := fz_RS_eq (funext fun s => hf13 48 s rfl) (funext fun s => hf13 49 s rfl) (funext fun s => hf13 50 s rfl) (funext fun s => hf13 51 s rfl) (funext fun s => hf13 83 s rfl) (funext fun s => hf13 84 s rfl) (hf13 44 2 rfl) hRS
  have hRP23 : fz_RP H8 := fz_RP_eq (funext fun s => hf13 52 s rfl) (funext fun s => hf13 85 s rfl) hRP
  have hRK24 : fz_RK H8 := fz_RK_eq (funext fun s => hf13 45 s rfl) (funext fun s => hf13 81 s rfl) hRK
  have hRR25 : fz_RR H8 := fz_RR_eq (hf13 44 3 rfl) (hf13 53 46 rfl) (funext fun s => hf13 46 s rfl) (funext fun s => hf13 82 s rfl) hRR
  have hRT26 : fz_RT H8 := fz_RT_eq (funext fun s => hf13 41 s rfl) (funext fun s => hf13 42 s rfl) (hf13 1 7 rfl) hRT
  have hRE27 : fz_RE H8 := fz_RE_eq (funext fun s => hf13 5 s rfl) (funext fun s => hf13 6 s rfl) (hf13 1 8 rfl) (hf13 1 7 rfl) hRE
  have hR228 : fz_R2 H8 := fz_R2_eq (funext fun s => hf13 2 s rfl) (funext fun s => hf13 54 s rfl) hR2
  have hR329 : fz_R3 H8 := fz_R3_eq (funext fun s => hf13 3 s rfl) (funext fun s => hf13 57 s rfl) hR3
  have hR430 : fz_R4 H8 := fz_R4_eq (funext fun s => hf13 4 s rfl) (funext fun s => hf13 58 s rfl) hR4
  have hR2831 : fz_R28 H8 := fz_R28_eq (funext fun s => hf13 28 s rfl) (funext fun s => hf13 59 s rfl) hR28
  have hR532 : fz_R5 H8 := fz_R5_eq (funext fun s => hf13 5 s rfl) (funext fun s => hf13 55 s rfl) hR5
  have hR633 : fz_R6 H8 := fz_R6_eq (funext fun s => hf13 6 s rfl) (funext fun s => hf13 56 s rfl) hR6
  have hRG34 : fz_RG H8 := fz_RG_eq (hf13 27 8 rfl) (hf13 27 9 rfl) (hf13 53 8 rfl) (hf13 53 9 rfl) hRG
  have hRJ35 : fz_RJ H8 := fz_RJ_eq (hf13 40 1 rfl) (hf13 53 34 rfl) (funext fun s => hf13 41 s rfl) (funext fun s => hf13 76 s rfl) (hf13 40 6 rfl) (hf13 53 37 rfl) (funext fun s => hf13 42 s rfl) (funext fun s => hf13 78 s rfl) (hf13 43 0 rfl) (hf13 53 38 rfl) hRJ
  have hRV36 : fz_RV H8 := fz_RV_eq (funext fun s => hf13 7 s rfl) (funext fun s => hf13 8 s rfl) (funext fun s => hf13 3 s rfl) (funext fun s => hf13 4 s rfl) (funext fun s => hf13 5 s rfl) (funext fun s => hf13 6 s rfl) (hf13 1 7 rfl) (hf13 1 8 rfl) hRV
  have hRM37 : fz_RM H8 := fz_RM_eq (funext fun s => hf13 55 s rfl) (funext fun s => hf13 56 s rfl) (hf13 53 0 rfl) (hf13 53 2 rfl) hRM
  have hRA38 : fl_RA H8 := fl_RA_eq (funext fun s => hf13 26 s rfl) (funext fun s => hf13 65 s rfl) (hf13 20 2 rfl) hRA
  have hRU39 : fl_RU H8 := fl_RU_eq (hf13 15 4 rfl) (funext fun s => hf13 16 s rfl) (funext fun s => hf13 17 s rfl) (hf13 53 18 rfl) (hf13 53 19 rfl) (funext fun s => hf13 66 s rfl) (funext fun s => hf13 67 s rfl) (funext fun s => hf13 68 s rfl) (funext fun s => hf13 69 s rfl) hRU
  have hRD40 : fl_RD H8 := fl_RD_eq (hf13 40 2 rfl) (hf13 40 3 rfl) (hf13 40 4 rfl) (hf13 40 5 rfl) (funext fun s => hf13 77 s rfl) (hf13 43 1 rfl) (hf13 43 2 rfl) (hf13 43 3 rfl) (hf13 43 4 rfl) (funext fun s => hf13 79 s rfl) hRD
  have hX41 : fz_Xc H8 := fz_Xc_fr hf13 rfl hX
  have t42 : H8 53 10 = h 53 10 := hf13 53 10 rfl
  have t43 : H8 53 41 = h 53 41 := hf13 53 41 rfl
  have t44 : H8 53 42 = h 53 42 := hf13 53 42 rfl
  have t45 : H8 53 10 = h 53 10 := hf13 53 10 rfl
  have t46 : H8 44 2 = h 44 2 := hf13 44 2 rfl
  have t47 : H8 53 44 = h 53 44 := hf13 53 44 rfl
  have t48 : H8 20 2 = h 20 2 := hf13 20 2 rfl
  have t49 : H8 53 16 = h 53 16 := hf13 53 16 rfl
  have t50 : H8 1 7 = h 1 7 := hf13 1 7 rfl
  have t51 : H8 53 0 = h 53 0 := hf13 53 0 rfl
  have t52 : H8 1 8 = h 1 8 := hf13 1 8 rfl
  have t53 : H8 53 2 = h 53 2 := hf13 53 2 rfl
  refine fz_pop rfl kLc3 rfl ?_
  refine fz_aload_n kLc3 rfl rfl ?_
  refine fz_aload_n kLc3 rfl rfl ?_
  refine fz_iload_n kLc3 rfl rfl ?_
  refine fz_iconst ⟨by decide, by decide⟩ kLc3 rfl ?_
  refine fz_iaddN kLc3 rfl (by omega) ?_
  refine fz_taldV (v := a1) kLc3 rfl ⟨by decide, by decide⟩ (by omega) (by rw [hf18 200 _ rfl]; omega) ((hf18 200 _ rfl).trans e2) ?_
  refine fz_aload_n kLc3 rfl rfl ?_
  refine fz_iload_n kLc3 rfl rfl ?_
  refine fz_iconst ⟨by decide, by decide⟩ kLc3 rfl ?_
  refine fz_iaddN kLc3 rfl (by omega) ?_
  refine fz_taldV (v := a3) kLc3 rfl ⟨by decide, by decide⟩ (by omega) (by rw [hf18 200 _ rfl]; omega) ((hf18 200 _ rfl).trans e4) ?_
  refine fz_aload_n kLc3 rfl rfl ?_
  refine fz_iload_n kLc3 rfl rfl ?_
  refine fz_iconst ⟨by decide, by decide⟩ kLc3 rfl ?_
  refine fz_iaddN kLc3 rfl (by omega) ?_
  refine fz_taldV (v := a5) kLc3 rfl ⟨by decide, by decide⟩ (by omega) (by rw [hf18 200 _ rfl]; omega) ((hf18 200 _ rfl).trans e6) ?_
  have b54 : 0 ≤ H8 53 10 ∧ H8 53 10 ≤ 11 := hI12.1 53 _
  refine fz_callV (d' := 2) (M' := mX11_deeds) (As := [fz_i a1, fz_i a3, fz_i a5]) (st := []) kLc3 rfl rfl vX11_deeds rfl rfl rfl rfl (Nat.le_of_ble_eq_true rfl) (Nat.le_of_ble_eq_true rfl) (by decide) (sX11_deeds H8 hI12 a1 a3 a5 (by omega)) (fun H55 r56 q57 o58 => ?_)
  obtain ⟨hI59, hf60, y65, rfl, f61, f62, f63, f64⟩ := q57
  clear o58
  have hf66 := fz_fr_tr hf18 hf60 (fz_su_all rfl)
  have hXd67 : fz_Xd H55 := fz_Xd_eq (funext fun s => hf60 80 s rfl) hXd19
  have hXh68 : fz_Xh H55 := fz_Xh_eq (funext fun s => hf60 83 s rfl) hXh20
  have hXw69 : fz_Xw H55 := fz_Xw_eq (hf60 53 19 rfl) (funext fun s => hf60 66 s rfl) (funext fun s => hf60 67 s rfl) (funext fun s => hf60 68 s rfl) (funext fun s => hf60 69 s rfl) hXw21
  have hRS70 : fz_RS H55 := fz_RS_eq (funext fun s => hf60 48 s rfl) (funext fun s => hf60 49 s rfl) (funext fun s => hf60 50 s rfl) (funext fun s => hf60 51 s rfl) (funext fun s => hf60 83 s rfl) (funext fun s => hf60 84 s rfl) (hf60 44 2 rfl) hRS22
  have hRP71 : fz_RP H55 := fz_RP_eq (funext fun s => hf60 52 s rfl) (funext fun s => hf60 85 s rfl) hRP23
  have hRK72 : fz_RK H55 := fz_RK_eq (funext fun s => hf60 45 s rfl) (funext fun s => hf60 81 s rfl) hRK24
  have hRR73 : fz_RR H55 := fz_RR_eq (hf60 44 3 rfl) (hf60 53 46 rfl) (funext fun s => hf60 46 s rfl) (funext fun s => hf60 82 s rfl) hRR25
  have hRT74 : fz_RT H55 := fz_RT_eq (funext fun s => hf60 41 s rfl) (funext fun s => hf60 42 s rfl) (hf60 1 7 rfl) hRT26
  have hRE75 : fz_RE H55 := fz_RE_eq (funext fun s => hf60 5 s rfl) (funext fun s => hf60 6 s rfl) (hf60 1 8 rfl) (hf60 1 7 rfl) hRE27
  have hR276 : fz_R2 H55 := fz_R2_eq (funext fun s => hf60 2 s rfl) (funext fun s => hf60 54 s rfl) hR228
  have hR377 : fz_R3 H55 := fz_R3_eq (funext fun s => hf60 3 s rfl) (funext fun s => hf60 57 s rfl) hR329
  have hR478 : fz_R4 H55 := fz_R4_eq (funext fun s => hf60 4 s rfl) (funext fun s => hf60 58 s rfl) hR430
  have hR2879 : fz_R28 H55 := fz_R28_eq (funext fun s => hf60 28 s rfl) (funext fun s => hf60 59 s rfl) hR2831
  have hR580 : fz_R5 H55 := fz_R5_eq (funext fun s => hf60 5 s rfl) (funext fun s => hf60 55 s rfl) hR532
  have hR681 : fz_R6 H55 := fz_R6_eq (funext fun s => hf60 6 s rfl) (funext fun s => hf60 56 s rfl) hR633
  have hRG82 : fz_RG H55 := fz_RG_eq (hf60 27 8 rfl) (hf60 27 9 rfl) (hf60 53 8 rfl) (hf60 53 9 rfl) hRG34
  have hRJ83 : fz_RJ H55 := fz_RJ_eq (hf60 40 1 rfl) (hf60 53 34 rfl) (funext fun s => hf60 41 s rfl) (funext fun s => hf60 76 s rfl) (hf60 40 6 rfl) (hf60 53 37 rfl) (funext fun s => hf60 42 s rfl) (funext fun s => hf60 78 s rfl) (hf60 43 0 rfl) (hf60 53 38 rfl) hRJ35
  have hRV84 : fz_RV H55 := fz_RV_eq (funext fun s => hf60 7 s rfl) (funext fun s => hf60 8 s rfl) (funext fun s => hf60 3 s rfl) (funext fun s => hf60 4 s rfl) (funext fun s => hf60 5 s rfl) (funext fun s => hf60 6 s rfl) (hf60 1 7 rfl) (hf60 1 8 rfl) hRV36
  have hRM85 : fz_RM H55 := fz_RM_eq (funext fun s => hf60 55 s rfl) (funext fun s => hf60 56 s rfl) (hf60 53 0 rfl) (hf60 53 2 rfl) hRM37
  have hRA86 : fl_RA H55 := fl_RA_eq (funext fun s => hf60 26 s rfl) (funext fun s => hf60 65 s rfl) (hf60 20 2 rfl) hRA38
  have hRU87 : fl_RU H55 := fl_RU_eq (hf60 15 4 rfl) (funext fun s => hf60 16 s rfl) (funext fun s => hf60 17 s rfl) (hf60 53 18 rfl) (hf60 53 19 rfl) (funext fun s => hf60 66 s rfl) (funext fun s => hf60 67 s rfl) (funext fun s => hf60 68 s rfl) (funext fun s => hf60 69 s rfl) hRU39
  have hRD88 : fl_RD H55 := fl_RD_eq (hf60 40 2 rfl) (hf60 40 3 rfl) (hf60 40 4 rfl) (hf60 40 5 rfl) (funext fun s => hf60 77 s rfl) (hf60 43 1 rfl) (hf60 43 2 rfl) (hf60 43 3 rfl) (hf60 43 4 rfl) (funext fun s => hf60 79 s rfl) hRD40
  have hX89 : fz_Xc H55 := fz_Xc_fr hf60 rfl hX41
  have t90 : H55 53 41 = H8 53 41 := hf60 53 41 rfl
  have t91 : H55 53 42 = H8 53 42 := hf60 53 42 rfl
  have t92 : H55 9 5 = H8 9 5 := hf60 9 5 rfl
  have t93 : H55 44 2 = H8 44 2 := hf60 44 2 rfl
  have t94 : H55 53 44 = H8 53 44 := hf60 53 44 rfl
  have t95 : H55 20 2 = H8 20 2 := hf60 20 2 rfl
  have t96 : H55 53 16 = H8 53 16 := hf60 53 16 rfl
  have t97 : H55 1 7 = H8 1 7 := hf60 1 7 rfl
  have t98 : H55 53 0 = H8 53 0 := hf60 53 0 rfl
  have t99 : H55 1 8 = H8 1 8 := hf60 1 8 rfl
  have t100 : H55 53 2 = H8 53 2 := hf60 53 2 rfl
  refine fz_pop rfl kLc3 rfl ?_
  refine fz_goto (tgt := 1817) kLc3 rfl (by decide) ?_
  have k101 := fz_q_eq hRS hRP f15 f63 (by omega) (by omega) (funext fun s => hf13 83 s rfl) (funext fun s => hf13 84 s rfl) (funext fun s => hf13 85 s rfl)
  have k102 := fz_qC_le f15
  have hRL103 : fz_RL H55 := fz_RL_ap hRL f16 f64 (by omega) ⟨(funext fun s => hf13 61 s rfl), (funext fun s => hf13 62 s rfl), (funext fun s => hf13 63 s rfl), (funext fun s => hf13 64 s rfl)⟩ ⟨(funext fun s => hf60 11 s rfl), (funext fun s => hf60 12 s rfl), (funext fun s => hf60 13 s rfl), (funext fun s => hf60 14 s rfl)⟩ (by omega) (by omega) (show 0 ≤ h 9 5 from (hI.1 9 _).1) (fun _ _ _ => fz_row5_eq (show h 52 = H8 85 from Eq.trans hRP (funext fun s => hf13 85 s rfl).symm))
  have hRW105 : fz_RW H55 := fz_RW_ap hRW f16 f64 (by omega) (funext fun s => hf13 60 s rfl) (funext fun s => hf60 10 s rfl) (by omega) (by omega) (show 0 ≤ h 9 5 from (hI.1 9 _).1) (fun _ _ _ => fz_row5_eq (show h 52 = H8 85 from Eq.trans hRP (funext fun s => hf13 85 s rfl).symm))
  have hRC107 : fz_RC H55 := fz_RC_t ((hf60 35 4 rfl).trans (hf13 35 4 rfl)) ((hf60 35 5 rfl).trans (hf13 35 5 rfl)) ((hf60 53 41 rfl).trans (hf13 53 41 rfl)) ((hf60 53 42 rfl).trans (hf13 53 42 rfl)) (funext fun s => (hf60 36 s rfl).trans (hf13 36 s rfl)) (funext fun s => (hf60 37 s rfl).trans (hf13 37 s rfl)) (funext fun s => (hf60 38 s rfl).trans (hf13 38 s rfl)) (funext fun s => (hf60 39 s rfl).trans (hf13 39 s rfl)) (funext fun s => (hf60 80 s rfl).trans (hf13 80 s rfl)) (by omega) (by omega) (by omega) hRC
  have hRP2109 : fz_RP2 H55 := fz_RP2_ap hRP2 f16 (funext fun s => hf60 11 s rfl) (by omega) (by omega) (show 0 ≤ h 9 5 from (hI.1 9 _).1) (fz_qC_tw f15)
  exact K H55 ⟨hI59, hX89, hXd67, hXh68, hXw69, by omega, (by rw [((hf60 53 42 rfl).trans (hf13 53 42 rfl)), ((hf60 53 41 rfl).trans (hf13 53 41 rfl))]; exact hv2), by omega, (((hf60 44 2 rfl).trans (hf13 44 2 rfl)).trans (hr1.trans ((hf60 53 44 rfl).trans (hf13 53 44 rfl)).symm)), (((hf60 20 2 rfl).trans (hf13 20 2 rfl)).trans (hr2.trans ((hf60 53 16 rfl).trans (hf13 53 16 rfl)).symm)), (((hf60 1 7 rfl).trans (hf13 1 7 rfl)).trans (hr3.trans ((hf60 53 0 rfl).trans (hf13 53 0 rfl)).symm)), (((hf60 1 8 rfl).trans (hf13 1 8 rfl)).trans (hr4.trans ((hf60 53 2 rfl).trans (hf13 53 2 rfl)).symm)), hRS70, hRP71, hRK72, hRR73, hRT74, hRE75, hR276, hR377, hR478, hR2879, hR580, hR681, hRG82, hRL103, hRC107, hRJ83, hRW105, hRV84, hRM85, hRP2109, hRA86, hRU87, hRD88⟩ (funext fun s => hf66 200 s rfl)
def mLc4 : fz_M := (yL_law, code, 4, (some .boolean), [(366, .aload_n 1, 1, 0, 0, 0), (367, .aload_n 0, 1, 0, 0, 0), (368, .iload_n 3, 1, 0, 0, 0), (369, .iconst 1, 1, 0, 0, 0), (370, .iadd, 1, 0, 0, 0), (371, .iaload, 1, 0, 0, 0), (372, .aload_n 0, 1, 0, 0, 0), (373, .iload_n 3, 1, 0, 0, 0), (374, .iconst 2, 1, 0, 0, 0), (375, .iadd, 1, 0, 0, 0), (376, .iaload, 1, 0, 0, 0), (377, .aload_n 0, 1, 0, 0, 0), (378, .iload_n 3, 1, 0, 0, 0), (379, .iconst 3, 1, 0, 0, 0), (380, .iadd, 1, 0, 0, 0), (381, .iaload, 1, 0, 0, 0), (382, .invokevirtual 32, 3, 3013, 56, 0), (385, .pop, 1, 0, 0, 0), (386, .aload_n 2, 1, 0, 0, 0), (387, .aload_n 0, 1, 0, 0, 0), (388, .iload_n 3, 1, 0, 0, 0), (389, .iconst 1, 1, 0, 0, 0), (390, .iadd, 1, 0, 0, 0), (391, .iaload, 1, 0, 0, 0), (392, .aload_n 0, 1, 0, 0, 0), (393, .iload_n 3, 1, 0, 0, 0), (394, .iconst 2, 1, 0, 0, 0), (395, .iadd, 1, 0, 0, 0), (396, .iaload, 1, 0, 0, 0), (397, .aload_n 0, 1, 0, 0, 0), (398, .iload_n 3, 1, 0, 0, 0), (399, .iconst 3, 1, 0, 0, 0), (400, .iadd, 1, 0, 0, 0), (401, .iaload, 1, 0, 0, 0), (402, .invokevirtual 35, 3, 6077, 152, 0), (405, .pop, 1, 0, 0, 0), (406, .goto 1411, 3, 0, 0, 0)])
set_option maxRecDepth 100000 in
theorem kLc4 : fz_okM mLc4 = true := fz_okM_in (by decide +kernel) (by decide +kernel)
set_option maxHeartbeats 1000000 in
set_option maxRecDepth 100000 in
theorem lc4 (h : fz_H) (hI : fz_Iv h) (hX : fz_Xc h) (hXd : fz_Xd h) (hXh : fz_Xh h) (hXw : fz_Xw h) (hv1 : h 53 10 ≤ 10) (hv2 : h 53 42 ≤ h 53 41) (hr0 : h 9 5 = h 53 10) (hr1 : h 44 2 = h 53 44) (hr2 : h 20 2 = h 53 16) (hr3 : h 1 7 = h 53 0) (hr4 : h 1 8 = h 53 2) (hRS : fz_RS h) (hRP : fz_RP h) (hRK : fz_RK h) (hRR : fz_RR h) (hRT : fz_RT h) (hRE : fz_RE h) (hR2 : fz_R2 h) (hR3 : fz_R3 h) (hR4 : fz_R4 h) (hR28 : fz_R28 h) (hR5 : fz_R5 h) (hR6 : fz_R6 h) (hRG : fz_RG h) (hRL : fz_RL h) (hRC : fz_RC h) (hRJ : fz_RJ h) (hRW : fz_RW h) (hRV : fz_RV h) (hRM : fz_RM h) (hRP2 : fz_RP2 h) (hRA : fz_RA h) (hRU : fz_RU h) (hRD : fz_RD h) (i : Int) (hi : 0 ≤ i ∧ i + 6 ≤ h 200 100000 ∧ h 200 100000 ≤ 3072) {Q : fz_H → Option fz_V → Prop} (K : ∀ H : fz_H, fz_Gd H → H 200 = h 200 → fz_R 47 mLe 1817 [(3, fz_i i), (0, fz_r 200), (1, fz_r 0), (2, fz_r 53)] [] H Q) : fz_R 47 mLc4 366 [(3, fz_i i), (0, fz_r 200), (1, fz_r 0), (2, fz_r 53)] [] h Q := by
  have hf : fz_fr fz_all h h := fz_fr_rf
  refine fz_aload_n kLc4 rfl rfl ?_
  refine fz_aload_n kLc4 rfl rfl ?_
  refine fz_iload_n kLc4 rfl rfl ?_
  refine fz_iconst ⟨by decide, by decide⟩ kLc4 rfl ?_
  refine fz_iaddN kLc4 rfl (by omega) ?_
  obtain ⟨a1, e2⟩ : ∃ z, h 200 ((i + 1)).toNat = z := ⟨_, rfl⟩
  refine fz_taldV (v := a1) kLc4 rfl ⟨by decide, by decide⟩ (by omega) (by omega) e2 ?_
  refine fz_aload_n kLc4 rfl rfl ?_
  refine fz_iload_n kLc4 rfl rfl ?_
  refine fz_iconst ⟨by decide, by decide⟩ kLc4 rfl ?_
  refine fz_iaddN kLc4 rfl (by omega) ?_
  obtain ⟨a3, e4⟩ : ∃ z, h 200 ((i + 2)).toNat = z := ⟨_, rfl⟩
  refine fz_taldV (v := a3) kLc4 rfl ⟨by decide, by decide⟩ (by omega) (by omega) e4 ?_
  refine fz_aload_n kLc4 rfl rfl ?_
  refine fz_iload_n kLc4 rfl rfl ?_
  refine fz_iconst ⟨by decide, by decide⟩ kLc4 rfl ?_
  refine fz_iaddN kLc4 rfl (by omega) ?_
  obtain ⟨a5, e6⟩ : ∃ z, h 200 ((i + 3)).toNat = z := ⟨_, rfl⟩
  refine fz_taldV (v := a5) kLc4 rfl ⟨by decide, by decide⟩ (by omega) (by omega) e6 ?_
  refine fz_callV (d' := 4) (M' := mX10_mend) (As := [fz_i a1, fz_i a3, fz_i a5]) (st := []) kLc4 rfl rfl vX10_mend rfl rfl rfl rfl (Nat.le_of_ble_eq_true rfl) (Nat.le_of_ble_eq_true rfl) (by decide) (sX10_mend h hI a1 a3 a5 (hX) hRE hRV) (fun H7 r8 q9 o10 => ?_)
  obtain ⟨hI11, hf12, hX13, hRE14, hRV15, y18, rfl, f16, f17⟩ := q9
  clear o10
  have hf19 := fz_fr_tr hf hf12 (fz_su_all rfl)
  have hXd20 : fz_Xd H7 := fz_Xd_eq (funext fun s => hf12 80 s rfl) hXd
  have hXh21 : fz_Xh H7 := fz_Xh_eq (funext fun s => hf12 83 s rfl) hXh
  have hXw22 : fz_Xw H7 := fz_Xw_eq (hf12 53 19 rfl) (funext fun s => hf12 66 s rfl) (funext fun s => hf12 67 s rfl) (funext fun s => hf12 68 s rfl) (funext fun s => hf12 69 s rfl) hXw
  have hRS23 : fz_RS H7 := fz_RS_eq (funext fun s => hf12 48 s rfl) (funext fun s => hf12 49 s rfl) (funext fun s => hf12 50 s rfl) (funext fun s => hf12 51 s rfl) (funext fun s => hf12 83 s rfl) (funext fun s => hf12 84 s rfl) (hf12 44 2 rfl) hRS
  have hRP24 : fz_RP H7 := fz_RP_eq (funext fun s => hf12 52 s rfl) (funext fun s => hf12 85 s rfl) hRP
  have hRK25 : fz_RK H7 := fz_RK_eq (funext fun s => hf12 45 s rfl) (funext fun s => hf12 81 s rfl) hRK
  have hRR26 : fz_RR H7 := fz_RR_eq (hf12 44 3 rfl) (hf12 53 46 rfl) (funext fun s => hf12 46 s rfl) (funext fun s => hf12 82 s rfl) hRR
  have hRT27 : fz_RT H7 := fz_RT_eq (funext fun s => hf12 41 s rfl) (funext fun s => hf12 42 s rfl) (hf12 1 7 rfl) hRT
  have hR528 : fz_R5 H7 := fz_R5_eq (funext fun s => hf12 5 s rfl) (funext fun s => hf12 55 s rfl) hR5
  have hR629 : fz_R6 H7 := fz_R6_eq (funext fun s => hf12 6 s rfl) (funext fun s => hf12 56 s rfl) hR6
  have hRJ30 : fz_RJ H7 := fz_RJ_eq (hf12 40 1 rfl) (hf12 53 34 rfl) (funext fun s => hf12 41 s rfl) (funext fun s => hf12 76 s rfl) (hf12 40 6 rfl) (hf12 53 37 rfl) (funext fun s => hf12 42 s rfl) (funext fun s => hf12 78 s rfl) (hf12 43 0 rfl) (hf12 53 38 rfl) hRJ
  have hRW31 : fz_RW H7 := fz_RW_eq (funext fun s => hf12 10 s rfl) (funext fun s => hf12 60 s rfl) (hf12 9 5 rfl) hRW
  have hRM32 : fz_RM H7 := fz_RM_eq (funext fun s => hf12 55 s rfl) (funext fun s => hf12 56 s rfl) (hf12 53 0 rfl) (hf12 53 2 rfl) hRM
  have hRP233 : fz_RP2 H7 := fz_RP2_eq (funext fun s => hf12 11 s rfl) (hf12 9 5 rfl) (hf12 1 7 rfl) hRP2
  have hRA34 : fl_RA H7 := fl_RA_eq (funext fun s => hf12 26 s rfl) (funext fun s => hf12 65 s rfl) (hf12 20 2 rfl) hRA
  have hRU35 : fl_RU H7 := fl_RU_eq (hf12 15 4 rfl) (funext fun s => hf12 16 s rfl) (funext fun s => hf12 17 s rfl) (hf12 53 18 rfl) (hf12 53 19 rfl) (funext fun s => hf12 66 s rfl) (funext fun s => hf12 67 s rfl) (funext fun s => hf12 68 s rfl) (funext fun s => hf12 69 s rfl) hRU
  have hRD36 : fl_RD H7 := fl_RD_eq (hf12 40 2 rfl) (hf12 40 3 rfl) (hf12 40 4 rfl) (hf12 40 5 rfl) (funext fun s => hf12 77 s rfl) (hf12 43 1 rfl) (hf12 43 2 rfl) (hf12 43 3 rfl) (hf12 43 4 rfl) (funext fun s => hf12 79 s rfl) hRD
  have t37 : H7 53 10 = h 53 10 := hf12 53 10 rfl
  have t38 : H7 53 41 = h 53 41 := hf12 53 41 rfl
  have t39 : H7 53 42 = h 53 42 := hf12 53 42 rfl
  have t40 : H7 9 5 = h 9 5 := hf12 9 5 rfl
  have t41 : H7 53 10 = h 53 10 := hf12 53 10 rfl
  have t42 : H7 44 2 = h 44 2 := hf12 44 2 rfl
  have t43 : H7 53 44 = h 53 44 := hf12 53 44 rfl
  have t44 : H7 20 2 = h 20 2 := hf12 20 2 rfl
  have t45 : H7 53 16 = h 53 16 := hf12 53 16 rfl
  have t46 : H7 1 7 = h 1 7 := hf12 1 7 rfl
  have t47 : H7 53 0 = h 53 0 := hf12 53 0 rfl
  have t48 : H7 1 8 = h 1 8 := hf12 1 8 rfl
  have t49 : H7 53 2 = h 53 2 := hf12 53 2 rfl
  refine fz_pop rfl kLc4 rfl ?_
  refine fz_aload_n kLc4 rfl rfl ?_
  refine fz_aload_n kLc4 rfl rfl ?_
  refine fz_iload_n kLc4 rfl rfl ?_
  refine fz_iconst ⟨by decide, by decide⟩ kLc4 rfl ?_
  refine fz_iaddN kLc4 rfl (by omega) ?_
  refine fz_taldV (v := a1) kLc4 rfl ⟨by decide, by decide⟩ (by omega) (by rw [hf19 200 _ rfl]; omega) ((hf19 200 _ rfl).trans e2) ?_
  refine fz_aload_n kLc4 rfl rfl ?_
  refine fz_iload_n kLc4 rfl rfl ?_
  refine fz_iconst ⟨by decide, by decide⟩ kLc4 rfl ?_
  refine fz_iaddN kLc4 rfl (by omega) ?_
  refine fz_taldV (v := a3) kLc4 rfl ⟨by decide, by decide⟩ (by omega) (by rw [hf19 200 _ rfl]; omega) ((hf19 200 _ rfl).trans e4) ?_
  refine fz_aload_n kLc4 rfl rfl ?_
  refine fz_iload_n kLc4 rfl rfl ?_
  refine fz_iconst ⟨by decide, by decide⟩ kLc4 rfl ?_
  refine fz_iaddN kLc4 rfl (by omega) ?_
  refine fz_taldV (v := a5) kLc4 rfl ⟨by decide, by decide⟩ (by omega) (by rw [hf19 200 _ rfl]; omega) ((hf19 200 _ rfl).trans e6) ?_
  have b50 : 0 ≤ H7 53 42 ∧ H7 53 42 ≤ 40 := hI11.1 53 _
  have b51 : 0 ≤ H7 53 41 ∧ H7 53 41 ≤ 40 := hI11.1 53 _
  refine fz_callV (d' := 3) (M' := mX11_mend) (As := [fz_i a1, fz_i a3, fz_i a5]) (st := []) kLc4 rfl rfl vX11_mend rfl rfl rfl rfl (Nat.le_of_ble_eq_true rfl) (Nat.le_of_ble_eq_true rfl) (by decide) (sX11_mend H7 hI11 a1 a3 a5 hXd20 (by omega)) (fun H52 r53 q54 o55 => ?_)
  obtain ⟨hI56, hf57, hXd58, y62, rfl, f59, f60, f61⟩ := q54
  clear o55
  have hf63 := fz_fr_tr hf19 hf57 (fz_su_all rfl)
  have hXh64 : fz_Xh H52 := fz_Xh_eq (funext fun s => hf57 83 s rfl) hXh21
  have hXw65 : fz_Xw H52 := fz_Xw_eq (hf57 53 19 rfl) (funext fun s => hf57 66 s rfl) (funext fun s => hf57 67 s rfl) (funext fun s => hf57 68 s rfl) (funext fun s => hf57 69 s rfl) hXw22
  have hRS66 : fz_RS H52 := fz_RS_eq (funext fun s => hf57 48 s rfl) (funext fun s => hf57 49 s rfl) (funext fun s => hf57 50 s rfl) (funext fun s => hf57 51 s rfl) (funext fun s => hf57 83 s rfl) (funext fun s => hf57 84 s rfl) (hf57 44 2 rfl) hRS23
  have hRP67 : fz_RP H52 := fz_RP_eq (funext fun s => hf57 52 s rfl) (funext fun s => hf57 85 s rfl) hRP24
  have hRK68 : fz_RK H52 := fz_RK_eq (funext fun s => hf57 45 s rfl) (funext fun s => hf57 81 s rfl) hRK25
  have hRR69 : fz_RR H52 := fz_RR_eq (hf57 44 3 rfl) (hf57 53 46 rfl) (funext fun s => hf57 46 s rfl) (funext fun s => hf57 82 s rfl) hRR26
  have hRT70 : fz_RT H52 := fz_RT_eq (funext fun s => hf57 41 s rfl) (funext fun s => hf57 42 s rfl) (hf57 1 7 rfl) hRT27
  have hRE71 : fz_RE H52 := fz_RE_eq (funext fun s => hf57 5 s rfl) (funext fun s => hf57 6 s rfl) (hf57 1 8 rfl) (hf57 1 7 rfl) hRE14
  have hR572 : fz_R5 H52 := fz_R5_eq (funext fun s => hf57 5 s rfl) (funext fun s => hf57 55 s rfl) hR528
  have hR673 : fz_R6 H52 := fz_R6_eq (funext fun s => hf57 6 s rfl) (funext fun s => hf57 56 s rfl) hR629
  have hRJ74 : fz_RJ H52 := fz_RJ_eq (hf57 40 1 rfl) (hf57 53 34 rfl) (funext fun s => hf57 41 s rfl) (funext fun s => hf57 76 s rfl) (hf57 40 6 rfl) (hf57 53 37 rfl) (funext fun s => hf57 42 s rfl) (funext fun s => hf57 78 s rfl) (hf57 43 0 rfl) (hf57 53 38 rfl) hRJ30
  have hRW75 : fz_RW H52 := fz_RW_eq (funext fun s => hf57 10 s rfl) (funext fun s => hf57 60 s rfl) (hf57 9 5 rfl) hRW31
  have hRV76 : fz_RV H52 := fz_RV_eq (funext fun s => hf57 7 s rfl) (funext fun s => hf57 8 s rfl) (funext fun s => hf57 3 s rfl) (funext fun s => hf57 4 s rfl) (funext fun s => hf57 5 s rfl) (funext fun s => hf57 6 s rfl) (hf57 1 7 rfl) (hf57 1 8 rfl) hRV15
  have hRM77 : fz_RM H52 := fz_RM_eq (funext fun s => hf57 55 s rfl) (funext fun s => hf57 56 s rfl) (hf57 53 0 rfl) (hf57 53 2 rfl) hRM32
  have hRP278 : fz_RP2 H52 := fz_RP2_eq (funext fun s => hf57 11 s rfl) (hf57 9 5 rfl) (hf57 1 7 rfl) hRP233
  have hRA79 : fl_RA H52 := fl_RA_eq (funext fun s => hf57 26 s rfl) (funext fun s => hf57 65 s rfl) (hf57 20 2 rfl) hRA34
  have hRU80 : fl_RU H52 := fl_RU_eq (hf57 15 4 rfl) (funext fun s => hf57 16 s rfl) (funext fun s => hf57 17 s rfl) (hf57 53 18 rfl) (hf57 53 19 rfl) (funext fun s => hf57 66 s rfl) (funext fun s => hf57 67 s rfl) (funext fun s => hf57 68 s rfl) (funext fun s => hf57 69 s rfl) hRU35
  have hRD81 : fl_RD H52 := fl_RD_eq (hf57 40 2 rfl) (hf57 40 3 rfl) (hf57 40 4 rfl) (hf57 40 5 rfl) (funext fun s => hf57 77 s rfl) (hf57 43 1 rfl) (hf57 43 2 rfl) (hf57 43 3 rfl) (hf57 43 4 rfl) (funext fun s => hf57 79 s rfl) hRD36
  have hX82 : fz_Xc H52 := fz_Xc_fr hf57 rfl hX13
  have t83 : H52 53 10 = H7 53 10 := hf57 53 10 rfl
  have t84 : H52 9 5 = H7 9 5 := hf57 9 5 rfl
  have t85 : H52 53 10 = H7 53 10 := hf57 53 10 rfl
  have t86 : H52 44 2 = H7 44 2 := hf57 44 2 rfl
  have t87 : H52 53 44 = H7 53 44 := hf57 53 44 rfl
  have t88 : H52 20 2 = H7 20 2 := hf57 20 2 rfl
  have t89 : H52 53 16 = H7 53 16 := hf57 53 16 rfl
  have t90 : H52 1 7 = H7 1 7 := hf57 1 7 rfl
  have t91 : H52 53 0 = H7 53 0 := hf57 53 0 rfl
  have t92 : H52 1 8 = H7 1 8 := hf57 1 8 rfl
  have t93 : H52 53 2 = H7 53 2 := hf57 53 2 rfl
  refine fz_pop rfl kLc4 rfl ?_
  refine fz_goto (tgt := 1817) kLc4 rfl (by decide) ?_
  have k94 := fz_mend_rel hI hRC hR2 hR3 hR4 hR28 hRG hRL hr3 hr4 hr0 (hI.1 53 _).2 (hI.1 53 _).2 hv1 f17 f61 (fz_fr_lo hf12 rfl)
  have hR296 : fz_R2 H52 := k94.2.1
  have hR398 : fz_R3 H52 := k94.2.2.1
  have hR4100 : fz_R4 H52 := k94.2.2.2.1
  have hR28102 : fz_R28 H52 := k94.2.2.2.2.1
  have hRG104 : fz_RG H52 := k94.2.2.2.2.2.1
  have hRL106 : fz_RL H52 := k94.2.2.2.2.2.2.1
  have hRC108 : fz_RC H52 := k94.2.2.2.2.2.2.2
  exact K H52 ⟨hI56, hX82, hXd58, hXh64, hXw65, (by rw [((hf57 53 10 rfl).trans (hf12 53 10 rfl))]; exact hv1), by omega, (((hf57 9 5 rfl).trans (hf12 9 5 rfl)).trans (hr0.trans ((hf57 53 10 rfl).trans (hf12 53 10 rfl)).symm)), (((hf57 44 2 rfl).trans (hf12 44 2 rfl)).trans (hr1.trans ((hf57 53 44 rfl).trans (hf12 53 44 rfl)).symm)), (((hf57 20 2 rfl).trans (hf12 20 2 rfl)).trans (hr2.trans ((hf57 53 16 rfl).trans (hf12 53 16 rfl)).symm)), (((hf57 1 7 rfl).trans (hf12 1 7 rfl)).trans (hr3.trans ((hf57 53 0 rfl).trans (hf12 53 0 rfl)).symm)), (((hf57 1 8 rfl).trans (hf12 1 8 rfl)).trans (hr4.trans ((hf57 53 2 rfl).trans (hf12 53 2 rfl)).symm)), hRS66, hRP67, hRK68, hRR69, hRT70, hRE71, hR296, hR398, hR4100, hR28102, hR572, hR673, hRG104, hRL106, hRC108, hRJ74, hRW75, hRV76, hRM77, hRP278, hRA79, hRU80, hRD81⟩ (funext fun s => hf63 200 s rfl)
def mLc5 : fz_M := (yL_law, code, 4, (some .boolean), [(409, .aload_n 1, 1, 0, 0, 0), (410, .aload_n 0, 1, 0, 0, 0), (411, .iload_n 3, 1, 0, 0, 0), (412, .iconst 1, 1, 0, 0, 0), (413, .iadd, 1, 0, 0, 0), (414, .iaload, 1, 0, 0, 0), (415, .aload_n 0, 1, 0, 0, 0), (416, .iload_n 3, 1, 0, 0, 0), (417, .iconst 2, 1, 0, 0, 0), (418, .iadd, 1, 0, 0, 0), (419, .iaload, 1, 0, 0, 0), (420, .invokevirtual 36, 3, 3054, 61, 0), (423, .pop, 1, 0, 0, 0), (424, .aload_n 2, 1, 0, 0, 0), (425, .aload_n 0, 1, 0, 0, 0), (426, .iload_n 3, 1, 0, 0, 0), (427, .iconst 1, 1, 0, 0, 0), (428, .iadd, 1, 0, 0, 0), (429, .iaload, 1, 0, 0, 0), (430, .aload_n 0, 1, 0, 0, 0), (431, .iload_n 3, 1, 0, 0, 0), (432, .iconst 2, 1, 0, 0, 0), (433, .iadd, 1, 0, 0, 0), (434, .iaload, 1, 0, 0, 0), (435, .invokevirtual 39, 3, 6105, 160, 0), (438, .pop, 1, 0, 0, 0), (439, .goto 1378, 3, 0, 0, 0)])
set_option maxRecDepth 100000 in
theorem kLc5 : fz_okM mLc5 = true := fz_okM_in (by decide +kernel) (by decide +kernel)
set_option maxHeartbeats 1000000 in
set_option maxRecDepth 100000 in
theorem lc5 (h : fz_H) (hI : fz_Iv h) (hX : fz_Xc h) (hXd : fz_Xd h) (hXh : fz_Xh h) (hXw : fz_Xw h) (hv1 : h 53 10 ≤ 10) (hv2 : h 53 42 ≤ h 53 41) (hr0 : h 9 5 = h 53 10) (hr1 : h 44 2 = h 53 44) (hr2 : h 20 2 = h 53 16) (hr3 : h 1 7 = h 53 0) (hr4 : h 1 8 = h 53 2) (hRS : fz_RS h) (hRP : fz_RP h) (hRK : fz_RK h) (hRR : fz_RR h) (hRT : fz_RT h) (hRE : fz_RE h) (hR2 : fz_R2 h) (hR3 : fz_R3 h) (hR4 : fz_R4 h) (hR28 : fz_R28 h) (hR5 : fz_R5 h) (hR6 : fz_R6 h) (hRG : fz_RG h) (hRL : fz_RL h) (hRC : fz_RC h) (hRJ : fz_RJ h) (hRW : fz_RW h) (hRV : fz_RV h) (hRM : fz_RM h) (hRP2 : fz_RP2 h) (hRA : fz_RA h) (hRU : fz_RU h) (hRD : fz_RD h) (i : Int) (hi : 0 ≤ i ∧ i + 6 ≤ h 200 100000 ∧ h 200 100000 ≤ 3072) {Q : fz_H → Option fz_V → Prop} (K : ∀ H : fz_H, fz_Gd H → H 200 = h 200 → fz_R 47 mLe 1817 [(3, fz_i i), (0, fz_r 200), (1, fz_r 0), (2, fz_r 53)] [] H Q) : fz_R 47 mLc5 409 [(3, fz_i i), (0, fz_r 200), (1, fz_r 0), (2, fz_r 53)] [] h Q := by
  have hf : fz_fr fz_all h h := fz_fr_rf
  refine fz_aload_n kLc5 rfl rfl ?_
  refine fz_aload_n kLc5 rfl rfl ?_
  refine fz_iload_n kLc5 rfl rfl ?_
  refine fz_iconst ⟨by decide, by decide⟩ kLc5 rfl ?_
  refine fz_iaddN kLc5 rfl (by omega) ?_
  obtain ⟨a1, e2⟩ : ∃ z, h 200 ((i + 1)).toNat = z := ⟨_, rfl⟩
  refine fz_taldV (v := a1) kLc5 rfl ⟨by decide, by decide⟩ (by omega) (by omega) e2 ?_
  refine fz_aload_n kLc5 rfl rfl ?_
  refine fz_iload_n kLc5 rfl rfl ?_
  refine fz_iconst ⟨by decide, by decide⟩ kLc5 rfl ?_
  refine fz_iaddN kLc5 rfl (by omega) ?_
  obtain ⟨a3, e4⟩ : ∃ z, h 200 ((i + 2)).toNat = z := ⟨_, rfl⟩
  refine fz_taldV (v := a3) kLc5 rfl ⟨by decide, by decide⟩ (by omega) (by omega) e4 ?_
  refine fz_callV (d' := 3) (M' := mX10_of) (As := [fz_i a1, fz_i a3]) (st := []) kLc5 rfl rfl vX10_of rfl rfl rfl rfl (Nat.le_of_ble_eq_true rfl) (Nat.le_of_ble_eq_true rfl) (by decide) (sX10_of h hI a1 a3 ) (fun H5 r6 q7 o8 => ?_)
  obtain ⟨e9, y12, rfl, f10, f11⟩ := q7
  subst H5
  clear o8
  refine fz_pop rfl kLc5 rfl ?_
  refine fz_aload_n kLc5 rfl rfl ?_
  refine fz_aload_n kLc5 rfl rfl ?_
  refine fz_iload_n kLc5 rfl rfl ?_
  refine fz_iconst ⟨by decide, by decide⟩ kLc5 rfl ?_
  refine fz_iaddN kLc5 rfl (by omega) ?_
  refine fz_taldV (v := a1) kLc5 rfl ⟨by decide, by decide⟩ (by omega) (by omega) e2 ?_
  refine fz_aload_n kLc5 rfl rfl ?_
  refine fz_iload_n kLc5 rfl rfl ?_
  refine fz_iconst ⟨by decide, by decide⟩ kLc5 rfl ?_
  refine fz_iaddN kLc5 rfl (by omega) ?_
  refine fz_taldV (v := a3) kLc5 rfl ⟨by decide, by decide⟩ (by omega) (by omega) e4 ?_
  refine fz_callV (d' := 3) (M' := mX11_of) (As := [fz_i a1, fz_i a3]) (st := []) kLc5 rfl rfl vX11_of rfl rfl rfl rfl (Nat.le_of_ble_eq_true rfl) (Nat.le_of_ble_eq_true rfl) (by decide) (sX11_of h hI a1 a3 ) (fun H13 r14 q15 o16 => ?_)
  obtain ⟨e17, y20, rfl, f18, f19⟩ := q15
  subst H13
  clear o16
  refine fz_pop rfl kLc5 rfl ?_
  refine fz_goto (tgt := 1817) kLc5 rfl (by decide) ?_
  exact K h ⟨hI, hX, hXd, hXh, hXw, hv1, hv2, hr0, hr1, hr2, hr3, hr4, hRS, hRP, hRK, hRR, hRT, hRE, hR2, hR3, hR4, hR28, hR5, hR6, hRG, hRL, hRC, hRJ, hRW, hRV, hRM, hRP2, hRA, hRU, hRD⟩ rfl
def mLc6 : fz_M := (yL_law, code, 4, (some .boolean), [(442, .aload_n 1, 1, 0, 0, 0), (443, .aload_n 0, 1, 0, 0, 0), (444, .iload_n 3, 1, 0, 0, 0), (445, .iconst 1, 1, 0, 0, 0), (446, .iadd, 1, 0, 0, 0), (447, .iaload, 1, 0, 0, 0), (448, .invokevirtual 40, 3, 3058, 31, 0), (451, .pop, 1, 0, 0, 0), (452, .aload_n 2, 1, 0, 0, 0), (453, .aload_n 0, 1, 0, 0, 0), (454, .iload_n 3, 1, 0, 0, 0), (455, .iconst 1, 1, 0, 0, 0), (456, .iadd, 1, 0, 0, 0), (457, .iaload, 1, 0, 0, 0), (458, .invokevirtual 43, 3, 6117, 100, 0), (461, .pop, 1, 0, 0, 0), (462, .goto 1355, 3, 0, 0, 0)])
set_option maxRecDepth 100000 in
theorem kLc6 : fz_okM mLc6 = true := fz_okM_in (by decide +kernel) (by decide +kernel)
set_option maxHeartbeats 1000000 in
set_option maxRecDepth 100000 in
theorem lc6 (h : fz_H) (hI : fz_Iv h) (hX : fz_Xc h) (hXd : fz_Xd h) (hXh : fz_Xh h) (hXw : fz_Xw h) (hv1 : h 53 10 ≤ 10) (hv2 : h 53 42 ≤ h 53 41) (hr0 : h 9 5 = h 53 10) (hr1 : h 44 2 = h 53 44) (hr2 : h 20 2 = h 53 16) (hr3 : h 1 7 = h 53 0) (hr4 : h 1 8 = h 53 2) (hRS : fz_RS h) (hRP : fz_RP h) (hRK : fz_RK h) (hRR : fz_RR h) (hRT : fz_RT h) (hRE : fz_RE h) (hR2 : fz_R2 h) (hR3 : fz_R3 h) (hR4 : fz_R4 h) (hR28 : fz_R28 h) (hR5 : fz_R5 h) (hR6 : fz_R6 h) (hRG : fz_RG h) (hRL : fz_RL h) (hRC : fz_RC h) (hRJ : fz_RJ h) (hRW : fz_RW h) (hRV : fz_RV h) (hRM : fz_RM h) (hRP2 : fz_RP2 h) (hRA : fz_RA h) (hRU : fz_RU h) (hRD : fz_RD h) (i : Int) (hi : 0 ≤ i ∧ i + 6 ≤ h 200 100000 ∧ h 200 100000 ≤ 3072) {Q : fz_H → Option fz_V → Prop} (K : ∀ H : fz_H, fz_Gd H → H 200 = h 200 → fz_R 47 mLe 1817 [(3, fz_i i), (0, fz_r 200), (1, fz_r 0), (2, fz_r 53)] [] H Q) : fz_R 47 mLc6 442 [(3, fz_i i), (0, fz_r 200), (1, fz_r 0), (2, fz_r 53)] [] h Q := by
  have hf : fz_fr fz_all h h := fz_fr_rf
  refine fz_aload_n kLc6 rfl rfl ?_
  refine fz_aload_n kLc6 rfl rfl ?_
  refine fz_iload_n kLc6 rfl rfl ?_
  refine fz_iconst ⟨by decide, by decide⟩ kLc6 rfl ?_
  refine fz_iaddN kLc6 rfl (by omega) ?_
  obtain ⟨a1, e2⟩ : ∃ z, h 200 ((i + 1)).toNat = z := ⟨_, rfl⟩
  refine fz_taldV (v := a1) kLc6 rfl ⟨by decide, by decide⟩ (by omega) (by omega) e2 ?_
  have b3 : 0 ≤ h 20 2 ∧ h 20 2 ≤ 120 := hI.1 20 _
  refine fz_callV (d' := 1) (M' := mX10_feed) (As := [fz_i a1]) (st := []) kLc6 rfl rfl vX10_feed rfl rfl rfl rfl (Nat.le_of_ble_eq_true rfl) (Nat.le_of_ble_eq_true rfl) (by decide) (sX10_feed h hI a1 ) (fun H4 r5 q6 o7 => ?_)
  obtain ⟨hI8, hf9, y13, rfl, f10, f11, f12⟩ := q6
  clear o7
  have hf14 := fz_fr_tr hf hf9 (fz_su_all rfl)
  have hXd15 : fz_Xd H4 := fz_Xd_eq (funext fun s => hf9 80 s rfl) hXd
  have hXh16 : fz_Xh H4 := fz_Xh_eq (funext fun s => hf9 83 s rfl) hXh
  have hXw17 : fz_Xw H4 := fz_Xw_eq (hf9 53 19 rfl) (funext fun s => hf9 66 s rfl) (funext fun s => hf9 67 s rfl) (funext fun s => hf9 68 s rfl) (funext fun s => hf9 69 s rfl) hXw
  have hRS18 : fz_RS H4 := fz_RS_eq (funext fun s => hf9 48 s rfl) (funext fun s => hf9 49 s rfl) (funext fun s => hf9 50 s rfl) (funext fun s => hf9 51 s rfl) (funext fun s => hf9 83 s rfl) (funext fun s => hf9 84 s rfl) (hf9 44 2 rfl) hRS
  have hRP19 : fz_RP H4 := fz_RP_eq (funext fun s => hf9 52 s rfl) (funext fun s => hf9 85 s rfl) hRP
  have hRK20 : fz_RK H4 := fz_RK_eq (funext fun s => hf9 45 s rfl) (funext fun s => hf9 81 s rfl) hRK
  have hRR21 : fz_RR H4 := fz_RR_eq (hf9 44 3 rfl) (hf9 53 46 rfl) (funext fun s => hf9 46 s rfl) (funext fun s => hf9 82 s rfl) hRR
  have hRT22 : fz_RT H4 := fz_RT_eq (funext fun s => hf9 41 s rfl) (funext fun s => hf9 42 s rfl) (hf9 1 7 rfl) hRT
  have hRE23 : fz_RE H4 := fz_RE_eq (funext fun s => hf9 5 s rfl) (funext fun s => hf9 6 s rfl) (hf9 1 8 rfl) (hf9 1 7 rfl) hRE
  have hR224 : fz_R2 H4 := fz_R2_eq (funext fun s => hf9 2 s rfl) (funext fun s => hf9 54 s rfl) hR2
  have hR325 : fz_R3 H4 := fz_R3_eq (funext fun s => hf9 3 s rfl) (funext fun s => hf9 57 s rfl) hR3
  have hR426 : fz_R4 H4 := fz_R4_eq (funext fun s => hf9 4 s rfl) (funext fun s => hf9 58 s rfl) hR4
  have hR2827 : fz_R28 H4 := fz_R28_eq (funext fun s => hf9 28 s rfl) (funext fun s => hf9 59 s rfl) hR28
  have hR528 : fz_R5 H4 := fz_R5_eq (funext fun s => hf9 5 s rfl) (funext fun s => hf9 55 s rfl) hR5
  have hR629 : fz_R6 H4 := fz_R6_eq (funext fun s => hf9 6 s rfl) (funext fun s => hf9 56 s rfl) hR6
  have hRG30 : fz_RG H4 := fz_RG_eq (hf9 27 8 rfl) (hf9 27 9 rfl) (hf9 53 8 rfl) (hf9 53 9 rfl) hRG
  have hRL31 : fz_RL H4 := fz_RL_eq (funext fun s => hf9 11 s rfl) (funext fun s => hf9 12 s rfl) (funext fun s => hf9 13 s rfl) (funext fun s => hf9 14 s rfl) (funext fun s => hf9 61 s rfl) (funext fun s => hf9 62 s rfl) (funext fun s => hf9 63 s rfl) (funext fun s => hf9 64 s rfl) (hf9 9 5 rfl) hRL
  have hRC32 : fz_RC H4 := fz_RC_eq (hf9 35 4 rfl) (hf9 35 5 rfl) (hf9 53 41 rfl) (hf9 53 42 rfl) (funext fun s => hf9 36 s rfl) (funext fun s => hf9 37 s rfl) (funext fun s => hf9 38 s rfl) (funext fun s => hf9 39 s rfl) (funext fun s => hf9 80 s rfl) (hf9 1 7 rfl) (hf9 1 8 rfl) (hf9 9 5 rfl) hRC
  have hRJ33 : fz_RJ H4 := fz_RJ_eq (hf9 40 1 rfl) (hf9 53 34 rfl) (funext fun s => hf9 41 s rfl) (funext fun s => hf9 76 s rfl) (hf9 40 6 rfl) (hf9 53 37 rfl) (funext fun s => hf9 42 s rfl) (funext fun s => hf9 78 s rfl) (hf9 43 0 rfl) (hf9 53 38 rfl) hRJ
  have hRW34 : fz_RW H4 := fz_RW_eq (funext fun s => hf9 10 s rfl) (funext fun s => hf9 60 s rfl) (hf9 9 5 rfl) hRW
  have hRV35 : fz_RV H4 := fz_RV_eq (funext fun s => hf9 7 s rfl) (funext fun s => hf9 8 s rfl) (funext fun s => hf9 3 s rfl) (funext fun s => hf9 4 s rfl) (funext fun s => hf9 5 s rfl) (funext fun s => hf9 6 s rfl) (hf9 1 7 rfl) (hf9 1 8 rfl) hRV
  have hRM36 : fz_RM H4 := fz_RM_eq (funext fun s => hf9 55 s rfl) (funext fun s => hf9 56 s rfl) (hf9 53 0 rfl) (hf9 53 2 rfl) hRM
  have hRP237 : fz_RP2 H4 := fz_RP2_eq (funext fun s => hf9 11 s rfl) (hf9 9 5 rfl) (hf9 1 7 rfl) hRP2
  have hRU38 : fl_RU H4 := fl_RU_eq (hf9 15 4 rfl) (funext fun s => hf9 16 s rfl) (funext fun s => hf9 17 s rfl) (hf9 53 18 rfl) (hf9 53 19 rfl) (funext fun s => hf9 66 s rfl) (funext fun s => hf9 67 s rfl) (funext fun s => hf9 68 s rfl) (funext fun s => hf9 69 s rfl) hRU
  have hRD39 : fl_RD H4 := fl_RD_eq (hf9 40 2 rfl) (hf9 40 3 rfl) (hf9 40 4 rfl) (hf9 40 5 rfl) (funext fun s => hf9 77 s rfl) (hf9 43 1 rfl) (hf9 43 2 rfl) (hf9 43 3 rfl) (hf9 43 4 rfl) (funext fun s => hf9 79 s rfl) hRD
  have hX40 : fz_Xc H4 := fz_Xc_fr hf9 rfl hX
  have t41 : H4 53 10 = h 53 10 := hf9 53 10 rfl
  have t42 : H4 53 41 = h 53 41 := hf9 53 41 rfl
  have t43 : H4 53 42 = h 53 42 := hf9 53 42 rfl
  have t44 : H4 9 5 = h 9 5 := hf9 9 5 rfl
  have t45 : H4 53 10 = h 53 10 := hf9 53 10 rfl
  have t46 : H4 44 2 = h 44 2 := hf9 44 2 rfl
  have t47 : H4 53 44 = h 53 44 := hf9 53 44 rfl
  have t48 : H4 53 16 = h 53 16 := hf9 53 16 rfl
  have t49 : H4 1 7 = h 1 7 := hf9 1 7 rfl
  have t50 : H4 53 0 = h 53 0 := hf9 53 0 rfl
  have t51 : H4 1 8 = h 1 8 := hf9 1 8 rfl
  have t52 : H4 53 2 = h 53 2 := hf9 53 2 rfl
  refine fz_pop rfl kLc6 rfl ?_
  refine fz_aload_n kLc6 rfl rfl ?_
  refine fz_aload_n kLc6 rfl rfl ?_
  refine fz_iload_n kLc6 rfl rfl ?_
  refine fz_iconst ⟨by decide, by decide⟩ kLc6 rfl ?_
  refine fz_iaddN kLc6 rfl (by omega) ?_
  refine fz_taldV (v := a1) kLc6 rfl ⟨by decide, by decide⟩ (by omega) (by rw [hf14 200 _ rfl]; omega) ((hf14 200 _ rfl).trans e2) ?_
  have b53 : 0 ≤ H4 53 16 ∧ H4 53 16 ≤ 120 := hI8.1 53 _
  refine fz_callV (d' := 1) (M' := mX11_feed) (As := [fz_i a1]) (st := []) kLc6 rfl rfl vX11_feed rfl rfl rfl rfl (Nat.le_of_ble_eq_true rfl) (Nat.le_of_ble_eq_true rfl) (by decide) (sX11_feed H4 hI8 a1 ) (fun H54 r55 q56 o57 => ?_)
  obtain ⟨hI58, hf59, y63, rfl, f60, f61, f62⟩ := q56
  clear o57
  have hf64 := fz_fr_tr hf14 hf59 (fz_su_all rfl)
  have hXd65 : fz_Xd H54 := fz_Xd_eq (funext fun s => hf59 80 s rfl) hXd15
  have hXh66 : fz_Xh H54 := fz_Xh_eq (funext fun s => hf59 83 s rfl) hXh16
  have hXw67 : fz_Xw H54 := fz_Xw_eq (hf59 53 19 rfl) (funext fun s => hf59 66 s rfl) (funext fun s => hf59 67 s rfl) (funext fun s => hf59 68 s rfl) (funext fun s => hf59 69 s rfl) hXw17
  have hRS68 : fz_RS H54 := fz_RS_eq (funext fun s => hf59 48 s rfl) (funext fun s => hf59 49 s rfl) (funext fun s => hf59 50 s rfl) (funext fun s => hf59 51 s rfl) (funext fun s => hf59 83 s rfl) (funext fun s => hf59 84 s rfl) (hf59 44 2 rfl) hRS18
  have hRP69 : fz_RP H54 := fz_RP_eq (funext fun s => hf59 52 s rfl) (funext fun s => hf59 85 s rfl) hRP19
  have hRK70 : fz_RK H54 := fz_RK_eq (funext fun s => hf59 45 s rfl) (funext fun s => hf59 81 s rfl) hRK20
  have hRR71 : fz_RR H54 := fz_RR_eq (hf59 44 3 rfl) (hf59 53 46 rfl) (funext fun s => hf59 46 s rfl) (funext fun s => hf59 82 s rfl) hRR21
  have hRT72 : fz_RT H54 := fz_RT_eq (funext fun s => hf59 41 s rfl) (funext fun s => hf59 42 s rfl) (hf59 1 7 rfl) hRT22
  have hRE73 : fz_RE H54 := fz_RE_eq (funext fun s => hf59 5 s rfl) (funext fun s => hf59 6 s rfl) (hf59 1 8 rfl) (hf59 1 7 rfl) hRE23
  have hR274 : fz_R2 H54 := fz_R2_eq (funext fun s => hf59 2 s rfl) (funext fun s => hf59 54 s rfl) hR224
  have hR375 : fz_R3 H54 := fz_R3_eq (funext fun s => hf59 3 s rfl) (funext fun s => hf59 57 s rfl) hR325
  have hR476 : fz_R4 H54 := fz_R4_eq (funext fun s => hf59 4 s rfl) (funext fun s => hf59 58 s rfl) hR426
  have hR2877 : fz_R28 H54 := fz_R28_eq (funext fun s => hf59 28 s rfl) (funext fun s => hf59 59 s rfl) hR2827
  have hR578 : fz_R5 H54 := fz_R5_eq (funext fun s => hf59 5 s rfl) (funext fun s => hf59 55 s rfl) hR528
  have hR679 : fz_R6 H54 := fz_R6_eq (funext fun s => hf59 6 s rfl) (funext fun s => hf59 56 s rfl) hR629
  have hRG80 : fz_RG H54 := fz_RG_eq (hf59 27 8 rfl) (hf59 27 9 rfl) (hf59 53 8 rfl) (hf59 53 9 rfl) hRG30
  have hRL81 : fz_RL H54 := fz_RL_eq (funext fun s => hf59 11 s rfl) (funext fun s => hf59 12 s rfl) (funext fun s => hf59 13 s rfl) (funext fun s => hf59 14 s rfl) (funext fun s => hf59 61 s rfl) (funext fun s => hf59 62 s rfl) (funext fun s => hf59 63 s rfl) (funext fun s => hf59 64 s rfl) (hf59 9 5 rfl) hRL31
  have hRC82 : fz_RC H54 := fz_RC_eq (hf59 35 4 rfl) (hf59 35 5 rfl) (hf59 53 41 rfl) (hf59 53 42 rfl) (funext fun s => hf59 36 s rfl) (funext fun s => hf59 37 s rfl) (funext fun s => hf59 38 s rfl) (funext fun s => hf59 39 s rfl) (funext fun s => hf59 80 s rfl) (hf59 1 7 rfl) (hf59 1 8 rfl) (hf59 9 5 rfl) hRC32
  have hRJ83 : fz_RJ H54 := fz_RJ_eq (hf59 40 1 rfl) (hf59 53 34 rfl) (funext fun s => hf59 41 s rfl) (funext fun s => hf59 76 s rfl) (hf59 40 6 rfl) (hf59 53 37 rfl) (funext fun s => hf59 42 s rfl) (funext fun s => hf59 78 s rfl) (hf59 43 0 rfl) (hf59 53 38 rfl) hRJ33
  have hRW84 : fz_RW H54 := fz_RW_eq (funext fun s => hf59 10 s rfl) (funext fun s => hf59 60 s rfl) (hf59 9 5 rfl) hRW34
  have hRV85 : fz_RV H54 := fz_RV_eq (funext fun s => hf59 7 s rfl) (funext fun s => hf59 8 s rfl) (funext fun s => hf59 3 s rfl) (funext fun s => hf59 4 s rfl) (funext fun s => hf59 5 s rfl) (funext fun s => hf59 6 s rfl) (hf59 1 7 rfl) (hf59 1 8 rfl) hRV35
  have hRM86 : fz_RM H54 := fz_RM_eq (funext fun s => hf59 55 s rfl) (funext fun s => hf59 56 s rfl) (hf59 53 0 rfl) (hf59 53 2 rfl) hRM36
  have hRP287 : fz_RP2 H54 := fz_RP2_eq (funext fun s => hf59 11 s rfl) (hf59 9 5 rfl) (hf59 1 7 rfl) hRP237
  have hRU88 : fl_RU H54 := fl_RU_eq (hf59 15 4 rfl) (funext fun s => hf59 16 s rfl) (funext fun s => hf59 17 s rfl) (hf59 53 18 rfl) (hf59 53 19 rfl) (funext fun s => hf59 66 s rfl) (funext fun s => hf59 67 s rfl) (funext fun s => hf59 68 s rfl) (funext fun s => hf59 69 s rfl) hRU38
  have hRD89 : fl_RD H54 := fl_RD_eq (hf59 40 2 rfl) (hf59 40 3 rfl) (hf59 40 4 rfl) (hf59 40 5 rfl) (funext fun s => hf59 77 s rfl) (hf59 43 1 rfl) (hf59 43 2 rfl) (hf59 43 3 rfl) (hf59 43 4 rfl) (funext fun s => hf59 79 s rfl) hRD39
  have hX90 : fz_Xc H54 := fz_Xc_fr hf59 rfl hX40
  have t91 : H54 53 10 = H4 53 10 := hf59 53 10 rfl
  have t92 : H54 53 41 = H4 53 41 := hf59 53 41 rfl
  have t93 : H54 53 42 = H4 53 42 := hf59 53 42 rfl
  have t94 : H54 9 5 = H4 9 5 := hf59 9 5 rfl
  have t95 : H54 53 10 = H4 53 10 := hf59 53 10 rfl
  have t96 : H54 44 2 = H4 44 2 := hf59 44 2 rfl
  have t97 : H54 53 44 = H4 53 44 := hf59 53 44 rfl
  have t98 : H54 20 2 = H4 20 2 := hf59 20 2 rfl
  have t99 : H54 1 7 = H4 1 7 := hf59 1 7 rfl
  have t100 : H54 53 0 = H4 53 0 := hf59 53 0 rfl
  have t101 : H54 1 8 = H4 1 8 := hf59 1 8 rfl
  have t102 : H54 53 2 = H4 53 2 := hf59 53 2 rfl
  refine fz_pop rfl kLc6 rfl ?_
  refine fz_goto (tgt := 1817) kLc6 rfl (by decide) ?_
  have hRA103 : fl_RA H54 := fl_RA_fd hRA hr2 (show 0 ≤ h 20 2 from (hI.1 20 2).1) f12 f62 (hf9 53 16 rfl) (funext fun s => hf9 65 s rfl) (funext fun s => hf59 26 s rfl) (hf59 20 2 rfl) (by omega)
  exact K H54 ⟨hI58, hX90, hXd65, hXh66, hXw67, (by rw [((hf59 53 10 rfl).trans (hf9 53 10 rfl))]; exact hv1), (by rw [((hf59 53 42 rfl).trans (hf9 53 42 rfl)), ((hf59 53 41 rfl).trans (hf9 53 41 rfl))]; exact hv2), (((hf59 9 5 rfl).trans (hf9 9 5 rfl)).trans (hr0.trans ((hf59 53 10 rfl).trans (hf9 53 10 rfl)).symm)), (((hf59 44 2 rfl).trans (hf9 44 2 rfl)).trans (hr1.trans ((hf59 53 44 rfl).trans (hf9 53 44 rfl)).symm)), by omega, (((hf59 1 7 rfl).trans (hf9 1 7 rfl)).trans (hr3.trans ((hf59 53 0 rfl).trans (hf9 53 0 rfl)).symm)), (((hf59 1 8 rfl).trans (hf9 1 8 rfl)).trans (hr4.trans ((hf59 53 2 rfl).trans (hf9 53 2 rfl)).symm)), hRS68, hRP69, hRK70, hRR71, hRT72, hRE73, hR274, hR375, hR476, hR2877, hR578, hR679, hRG80, hRL81, hRC82, hRJ83, hRW84, hRV85, hRM86, hRP287, hRA103, hRU88, hRD89⟩ (funext fun s => hf64 200 s rfl)
def mLc7 : fz_M := (yL_law, code, 4, (some .boolean), [(465, .aload_n 1, 1, 0, 0, 0), (466, .invokevirtual 44, 3, 3066, 53, 0), (469, .pop, 1, 0, 0, 0), (470, .aload_n 2, 1, 0, 0, 0), (471, .invokevirtual 48, 3, 6121, 145, 0), (474, .pop, 1, 0, 0, 0), (475, .goto 1342, 3, 0, 0, 0)])
set_option maxRecDepth 100000 in
theorem kLc7 : fz_okM mLc7 = true := fz_okM_in (by decide +kernel) (by decide +kernel)
set_option maxHeartbeats 1000000 in
set_option maxRecDepth 100000 in
theorem lc7 (h : fz_H) (hI : fz_Iv h) (hX : fz_Xc h) (hXd : fz_Xd h) (hXh : fz_Xh h) (hXw : fz_Xw h) (hv1 : h 53 10 ≤ 10) (hv2 : h 53 42 ≤ h 53 41) (hr0 : h 9 5 = h 53 10) (hr1 : h 44 2 = h 53 44) (hr2 : h 20 2 = h 53 16) (hr3 : h 1 7 = h 53 0) (hr4 : h 1 8 = h 53 2) (hRS : fz_RS h) (hRP : fz_RP h) (hRK : fz_RK h) (hRR : fz_RR h) (hRT : fz_RT h) (hRE : fz_RE h) (hR2 : fz_R2 h) (hR3 : fz_R3 h) (hR4 : fz_R4 h) (hR28 : fz_R28 h) (hR5 : fz_R5 h) (hR6 : fz_R6 h) (hRG : fz_RG h) (hRL : fz_RL h) (hRC : fz_RC h) (hRJ : fz_RJ h) (hRW : fz_RW h) (hRV : fz_RV h) (hRM : fz_RM h) (hRP2 : fz_RP2 h) (hRA : fz_RA h) (hRU : fz_RU h) (hRD : fz_RD h) (i : Int) (hi : 0 ≤ i ∧ i + 6 ≤ h 200 100000 ∧ h 200 100000 ≤ 3072) {Q : fz_H → Option fz_V → Prop} (K : ∀ H : fz_H, fz_Gd H → H 200 = h 200 → fz_R 47 mLe 1817 [(3, fz_i i), (0, fz_r 200), (1, fz_r 0), (2, fz_r 53)] [] H Q) : fz_R 47 mLc7 465 [(3, fz_i i), (0, fz_r 200), (1, fz_r 0), (2, fz_r 53)] [] h Q := by
  have hf : fz_fr fz_all h h := fz_fr_rf
  refine fz_aload_n kLc7 rfl rfl ?_
  refine fz_callV (d' := 46) (M' := mX10_law) (As := []) (st := []) kLc7 rfl rfl vX10_law rfl rfl rfl rfl (Nat.le_of_ble_eq_true rfl) (Nat.le_of_ble_eq_true rfl) (by decide) (sX10_law h hI  ) (fun H1 r2 q3 o4 => ?_)
  obtain ⟨hI5, hf6, y10, rfl, f7, f8, f9⟩ := q3
  clear o4
  have hf11 := fz_fr_tr hf hf6 (fz_su_all rfl)
  have hXd12 : fz_Xd H1 := fz_Xd_eq (funext fun s => hf6 80 s rfl) hXd
  have hXh13 : fz_Xh H1 := fz_Xh_eq (funext fun s => hf6 83 s rfl) hXh
  have hXw14 : fz_Xw H1 := fz_Xw_eq (hf6 53 19 rfl) (funext fun s => hf6 66 s rfl) (funext fun s => hf6 67 s rfl) (funext fun s => hf6 68 s rfl) (funext fun s => hf6 69 s rfl) hXw
  have hRS15 : fz_RS H1 := fz_RS_eq (funext fun s => hf6 48 s rfl) (funext fun s => hf6 49 s rfl) (funext fun s => hf6 50 s rfl) (funext fun s => hf6 51 s rfl) (funext fun s => hf6 83 s rfl) (funext fun s => hf6 84 s rfl) (hf6 44 2 rfl) hRS
  have hRP16 : fz_RP H1 := fz_RP_eq (funext fun s => hf6 52 s rfl) (funext fun s => hf6 85 s rfl) hRP
  have hRK17 : fz_RK H1 := fz_RK_eq (funext fun s => hf6 45 s rfl) (funext fun s => hf6 81 s rfl) hRK
  have hRR18 : fz_RR H1 := fz_RR_eq (hf6 44 3 rfl) (hf6 53 46 rfl) (funext fun s => hf6 46 s rfl) (funext fun s => hf6 82 s rfl) hRR
  have hRT19 : fz_RT H1 := fz_RT_eq (funext fun s => hf6 41 s rfl) (funext fun s => hf6 42 s rfl) (hf6 1 7 rfl) hRT
  have hRE20 : fz_RE H1 := fz_RE_eq (funext fun s => hf6 5 s rfl) (funext fun s => hf6 6 s rfl) (hf6 1 8 rfl) (hf6 1 7 rfl) hRE
  have hR221 : fz_R2 H1 := fz_R2_eq (funext fun s => hf6 2 s rfl) (funext fun s => hf6 54 s rfl) hR2
  have hR322 : fz_R3 H1 := fz_R3_eq (funext fun s => hf6 3 s rfl) (funext fun s => hf6 57 s rfl) hR3
  have hR423 : fz_R4 H1 := fz_R4_eq (funext fun s => hf6 4 s rfl) (funext fun s => hf6 58 s rfl) hR4
  have hR2824 : fz_R28 H1 := fz_R28_eq (funext fun s => hf6 28 s rfl) (funext fun s => hf6 59 s rfl) hR28
  have hR525 : fz_R5 H1 := fz_R5_eq (funext fun s => hf6 5 s rfl) (funext fun s => hf6 55 s rfl) hR5
  have hR626 : fz_R6 H1 := fz_R6_eq (funext fun s => hf6 6 s rfl) (funext fun s => hf6 56 s rfl) hR6
  have hRG27 : fz_RG H1 := fz_RG_eq (hf6 27 8 rfl) (hf6 27 9 rfl) (hf6 53 8 rfl) (hf6 53 9 rfl) hRG
  have hRL28 : fz_RL H1 := fz_RL_eq (funext fun s => hf6 11 s rfl) (funext fun s => hf6 12 s rfl) (funext fun s => hf6 13 s rfl) (funext fun s => hf6 14 s rfl) (funext fun s => hf6 61 s rfl) (funext fun s => hf6 62 s rfl) (funext fun s => hf6 63 s rfl) (funext fun s => hf6 64 s rfl) (hf6 9 5 rfl) hRL
  have hRC29 : fz_RC H1 := fz_RC_eq (hf6 35 4 rfl) (hf6 35 5 rfl) (hf6 53 41 rfl) (hf6 53 42 rfl) (funext fun s => hf6 36 s rfl) (funext fun s => hf6 37 s rfl) (funext fun s => hf6 38 s rfl) (funext fun s => hf6 39 s rfl) (funext fun s => hf6 80 s rfl) (hf6 1 7 rfl) (hf6 1 8 rfl) (hf6 9 5 rfl) hRC
  have hRJ30 : fz_RJ H1 := fz_RJ_eq (hf6 40 1 rfl) (hf6 53 34 rfl) (funext fun s => hf6 41 s rfl) (funext fun s => hf6 76 s rfl) (hf6 40 6 rfl) (hf6 53 37 rfl) (funext fun s => hf6 42 s rfl) (funext fun s => hf6 78 s rfl) (hf6 43 0 rfl) (hf6 53 38 rfl) hRJ
  have hRW31 : fz_RW H1 := fz_RW_eq (funext fun s => hf6 10 s rfl) (funext fun s => hf6 60 s rfl) (hf6 9 5 rfl) hRW
  have hRV32 : fz_RV H1 := fz_RV_eq (funext fun s => hf6 7 s rfl) (funext fun s => hf6 8 s rfl) (funext fun s => hf6 3 s rfl) (funext fun s => hf6 4 s rfl) (funext fun s => hf6 5 s rfl) (funext fun s => hf6 6 s rfl) (hf6 1 7 rfl) (hf6 1 8 rfl) hRV
  have hRM33 : fz_RM H1 := fz_RM_eq (funext fun s => hf6 55 s rfl) (funext fun s => hf6 56 s rfl) (hf6 53 0 rfl) (hf6 53 2 rfl) hRM
  have hRP234 : fz_RP2 H1 := fz_RP2_eq (funext fun s => hf6 11 s rfl) (hf6 9 5 rfl) (hf6 1 7 rfl) hRP2
  have hRD35 : fl_RD H1 := fl_RD_eq (hf6 40 2 rfl) (hf6 40 3 rfl) (hf6 40 4 rfl) (hf6 40 5 rfl) (funext fun s => hf6 77 s rfl) (hf6 43 1 rfl) (hf6 43 2 rfl) (hf6 43 3 rfl) (hf6 43 4 rfl) (funext fun s => hf6 79 s rfl) hRD
  have hX36 : fz_Xc H1 := fz_Xc_fr hf6 rfl hX
  have t37 : H1 53 10 = h 53 10 := hf6 53 10 rfl
  have t38 : H1 53 41 = h 53 41 := hf6 53 41 rfl
  have t39 : H1 53 42 = h 53 42 := hf6 53 42 rfl
  have t40 : H1 9 5 = h 9 5 := hf6 9 5 rfl
  have t41 : H1 53 10 = h 53 10 := hf6 53 10 rfl
  have t42 : H1 44 2 = h 44 2 := hf6 44 2 rfl
  have t43 : H1 53 44 = h 53 44 := hf6 53 44 rfl
  have t44 : H1 53 16 = h 53 16 := hf6 53 16 rfl
  have t45 : H1 1 7 = h 1 7 := hf6 1 7 rfl
  have t46 : H1 53 0 = h 53 0 := hf6 53 0 rfl
  have t47 : H1 1 8 = h 1 8 := hf6 1 8 rfl
  have t48 : H1 53 2 = h 53 2 := hf6 53 2 rfl
  refine fz_pop rfl kLc7 rfl ?_
  refine fz_aload_n kLc7 rfl rfl ?_
  refine fz_callV (d' := 45) (M' := mX11_law) (As := []) (st := []) kLc7 rfl rfl vX11_law rfl rfl rfl rfl (Nat.le_of_ble_eq_true rfl) (Nat.le_of_ble_eq_true rfl) (by decide) (sX11_law H1 hI5  hXw14) (fun H49 r50 q51 o52 => ?_)
  obtain ⟨hI53, hf54, hXw55, y59, rfl, f56, f57, f58⟩ := q51
  clear o52
  have hf60 := fz_fr_tr hf11 hf54 (fz_su_all rfl)
  have k61 : H49 20 2 = 0 := (hf54 20 2 rfl).trans f8
  have hXd62 : fz_Xd H49 := fz_Xd_eq (funext fun s => hf54 80 s rfl) hXd12
  have hXh63 : fz_Xh H49 := fz_Xh_eq (funext fun s => hf54 83 s rfl) hXh13
  have hRS64 : fz_RS H49 := fz_RS_eq (funext fun s => hf54 48 s rfl) (funext fun s => hf54 49 s rfl) (funext fun s => hf54 50 s rfl) (funext fun s => hf54 51 s rfl) (funext fun s => hf54 83 s rfl) (funext fun s => hf54 84 s rfl) (hf54 44 2 rfl) hRS15
  have hRP65 : fz_RP H49 := fz_RP_eq (funext fun s => hf54 52 s rfl) (funext fun s => hf54 85 s rfl) hRP16
  have hRK66 : fz_RK H49 := fz_RK_eq (funext fun s => hf54 45 s rfl) (funext fun s => hf54 81 s rfl) hRK17
  have hRR67 : fz_RR H49 := fz_RR_eq (hf54 44 3 rfl) (hf54 53 46 rfl) (funext fun s => hf54 46 s rfl) (funext fun s => hf54 82 s rfl) hRR18
  have hRT68 : fz_RT H49 := fz_RT_eq (funext fun s => hf54 41 s rfl) (funext fun s => hf54 42 s rfl) (hf54 1 7 rfl) hRT19
  have hRE69 : fz_RE H49 := fz_RE_eq (funext fun s => hf54 5 s rfl) (funext fun s => hf54 6 s rfl) (hf54 1 8 rfl) (hf54 1 7 rfl) hRE20
  have hR270 : fz_R2 H49 := fz_R2_eq (funext fun s => hf54 2 s rfl) (funext fun s => hf54 54 s rfl) hR221
  have hR371 : fz_R3 H49 := fz_R3_eq (funext fun s => hf54 3 s rfl) (funext fun s => hf54 57 s rfl) hR322
  have hR472 : fz_R4 H49 := fz_R4_eq (funext fun s => hf54 4 s rfl) (funext fun s => hf54 58 s rfl) hR423
  have hR2873 : fz_R28 H49 := fz_R28_eq (funext fun s => hf54 28 s rfl) (funext fun s => hf54 59 s rfl) hR2824
  have hR574 : fz_R5 H49 := fz_R5_eq (funext fun s => hf54 5 s rfl) (funext fun s => hf54 55 s rfl) hR525
  have hR675 : fz_R6 H49 := fz_R6_eq (funext fun s => hf54 6 s rfl) (funext fun s => hf54 56 s rfl) hR626
  have hRG76 : fz_RG H49 := fz_RG_eq (hf54 27 8 rfl) (hf54 27 9 rfl) (hf54 53 8 rfl) (hf54 53 9 rfl) hRG27
  have hRL77 : fz_RL H49 := fz_RL_eq (funext fun s => hf54 11 s rfl) (funext fun s => hf54 12 s rfl) (funext fun s => hf54 13 s rfl) (funext fun s => hf54 14 s rfl) (funext fun s => hf54 61 s rfl) (funext fun s => hf54 62 s rfl) (funext fun s => hf54 63 s rfl) (funext fun s => hf54 64 s rfl) (hf54 9 5 rfl) hRL28
  have hRC78 : fz_RC H49 := fz_RC_eq (hf54 35 4 rfl) (hf54 35 5 rfl) (hf54 53 41 rfl) (hf54 53 42 rfl) (funext fun s => hf54 36 s rfl) (funext fun s => hf54 37 s rfl) (funext fun s => hf54 38 s rfl) (funext fun s => hf54 39 s rfl) (funext fun s => hf54 80 s rfl) (hf54 1 7 rfl) (hf54 1 8 rfl) (hf54 9 5 rfl) hRC29
  have hRJ79 : fz_RJ H49 := fz_RJ_eq (hf54 40 1 rfl) (hf54 53 34 rfl) (funext fun s => hf54 41 s rfl) (funext fun s => hf54 76 s rfl) (hf54 40 6 rfl) (hf54 53 37 rfl) (funext fun s => hf54 42 s rfl) (funext fun s => hf54 78 s rfl) (hf54 43 0 rfl) (hf54 53 38 rfl) hRJ30
  have hRW80 : fz_RW H49 := fz_RW_eq (funext fun s => hf54 10 s rfl) (funext fun s => hf54 60 s rfl) (hf54 9 5 rfl) hRW31
  have hRV81 : fz_RV H49 := fz_RV_eq (funext fun s => hf54 7 s rfl) (funext fun s => hf54 8 s rfl) (funext fun s => hf54 3 s rfl) (funext fun s => hf54 4 s rfl) (funext fun s => hf54 5 s rfl) (funext fun s => hf54 6 s rfl) (hf54 1 7 rfl) (hf54 1 8 rfl) hRV32
  have hRM82 : fz_RM H49 := fz_RM_eq (funext fun s => hf54 55 s rfl) (funext fun s => hf54 56 s rfl) (hf54 53 0 rfl) (hf54 53 2 rfl) hRM33
  have hRP283 : fz_RP2 H49 := fz_RP2_eq (funext fun s => hf54 11 s rfl) (hf54 9 5 rfl) (hf54 1 7 rfl) hRP234
  have hRD84 : fl_RD H49 := fl_RD_eq (hf54 40 2 rfl) (hf54 40 3 rfl) (hf54 40 4 rfl) (hf54 40 5 rfl) (funext fun s => hf54 77 s rfl) (hf54 43 1 rfl) (hf54 43 2 rfl) (hf54 43 3 rfl) (hf54 43 4 rfl) (funext fun s => hf54 79 s rfl) hRD35
  have hX85 : fz_Xc H49 := fz_Xc_fr hf54 rfl hX36
  have t86 : H49 53 10 = H1 53 10 := hf54 53 10 rfl
  have t87 : H49 53 41 = H1 53 41 := hf54 53 41 rfl
  have t88 : H49 53 42 = H1 53 42 := hf54 53 42 rfl
  have t89 : H49 9 5 = H1 9 5 := hf54 9 5 rfl
  have t90 : H49 53 10 = H1 53 10 := hf54 53 10 rfl
  have t91 : H49 44 2 = H1 44 2 := hf54 44 2 rfl
  have t92 : H49 53 44 = H1 53 44 := hf54 53 44 rfl
  have t93 : H49 20 2 = H1 20 2 := hf54 20 2 rfl
  have t94 : H49 1 7 = H1 1 7 := hf54 1 7 rfl
  have t95 : H49 53 0 = H1 53 0 := hf54 53 0 rfl
  have t96 : H49 1 8 = H1 1 8 := hf54 1 8 rfl
  have t97 : H49 53 2 = H1 53 2 := hf54 53 2 rfl
  refine fz_pop rfl kLc7 rfl ?_
  refine fz_goto (tgt := 1817) kLc7 rfl (by decide) ?_
  have hRA98 : fl_RA H49 := fl_RA_0 (by omega)
  have hRU100 : fl_RU H49 := fl_law_RU hRU hRA hr2 (funext fun s => hf6 65 s rfl) (hf6 53 16 rfl) f9 f58 (hf54 15 4 rfl) (funext fun s => hf54 16 s rfl) (funext fun s => hf54 17 s rfl) (hf6 53 18 rfl) (hf6 53 19 rfl) (funext fun s => hf6 66 s rfl) (funext fun s => hf6 67 s rfl) (funext fun s => hf6 68 s rfl) (funext fun s => hf6 69 s rfl) (hI53.1 15 _).2 (hI.1 20 2).1
  exact K H49 ⟨hI53, hX85, hXd62, hXh63, hXw55, (by rw [((hf54 53 10 rfl).trans (hf6 53 10 rfl))]; exact hv1), (by rw [((hf54 53 42 rfl).trans (hf6 53 42 rfl)), ((hf54 53 41 rfl).trans (hf6 53 41 rfl))]; exact hv2), (((hf54 9 5 rfl).trans (hf6 9 5 rfl)).trans (hr0.trans ((hf54 53 10 rfl).trans (hf6 53 10 rfl)).symm)), (((hf54 44 2 rfl).trans (hf6 44 2 rfl)).trans (hr1.trans ((hf54 53 44 rfl).trans (hf6 53 44 rfl)).symm)), by omega, (((hf54 1 7 rfl).trans (hf6 1 7 rfl)).trans (hr3.trans ((hf54 53 0 rfl).trans (hf6 53 0 rfl)).symm)), (((hf54 1 8 rfl).trans (hf6 1 8 rfl)).trans (hr4.trans ((hf54 53 2 rfl).trans (hf6 53 2 rfl)).symm)), hRS64, hRP65, hRK66, hRR67, hRT68, hRE69, hR270, hR371, hR472, hR2873, hR574, hR675, hRG76, hRL77, hRC78, hRJ79, hRW80, hRV81, hRM82, hRP283, hRA98, hRU100, hRD84⟩ (funext fun s => hf60 200 s rfl)
def mLc8 : fz_M := (yL_law, code, 4, (some .boolean), [(478, .aload_n 1, 1, 0, 0, 0), (479, .aload_n 0, 1, 0, 0, 0), (480, .iload_n 3, 1, 0, 0, 0), (481, .iconst 1, 1, 0, 0, 0), (482, .iadd, 1, 0, 0, 0), (483, .iaload, 1, 0, 0, 0), (484, .aload_n 0, 1, 0, 0, 0), (485, .iload_n 3, 1, 0, 0, 0), (486, .iconst 2, 1, 0, 0, 0), (487, .iadd, 1, 0, 0, 0), (488, .iaload, 1, 0, 0, 0), (489, .invokevirtual 49, 3, 3146, 78, 0), (492, .pop, 1, 0, 0, 0), (493, .aload_n 2, 1, 0, 0, 0), (494, .aload_n 0, 1, 0, 0, 0), (495, .iload_n 3, 1, 0, 0, 0), (496, .iconst 1, 1, 0, 0, 0), (497, .iadd, 1, 0, 0, 0), (498, .iaload, 1, 0, 0, 0), (499, .aload_n 0, 1, 0, 0, 0), (500, .iload_n 3, 1, 0, 0, 0), (501, .iconst 2, 1, 0, 0, 0), (502, .iadd, 1, 0, 0, 0), (503, .iaload, 1, 0, 0, 0), (504, .invokevirtual 52, 3, 6172, 182, 0), (507, .pop, 1, 0, 0, 0), (508, .goto 1309, 3, 0, 0, 0)])
set_option maxRecDepth 100000 in
theorem kLc8 : fz_okM mLc8 = true := fz_okM_in (by decide +kernel) (by decide +kernel)
set_option maxHeartbeats 1000000 in
set_option maxRecDepth 100000 in
theorem lc8 (h : fz_H) (hI : fz_Iv h) (hX : fz_Xc h) (hXd : fz_Xd h) (hXh : fz_Xh h) (hXw : fz_Xw h) (hv1 : h 53 10 ≤ 10) (hv2 : h 53 42 ≤ h 53 41) (hr0 : h 9 5 = h 53 10) (hr1 : h 44 2 = h 53 44) (hr2 : h 20 2 = h 53 16) (hr3 : h 1 7 = h 53 0) (hr4 : h 1 8 = h 53 2) (hRS : fz_RS h) (hRP : fz_RP h) (hRK : fz_RK h) (hRR : fz_RR h) (hRT : fz_RT h) (hRE : fz_RE h) (hR2 : fz_R2 h) (hR3 : fz_R3 h) (hR4 : fz_R4 h) (hR28 : fz_R28 h) (hR5 : fz_R5 h) (hR6 : fz_R6 h) (hRG : fz_RG h) (hRL : fz_RL h) (hRC : fz_RC h) (hRJ : fz_RJ h) (hRW : fz_RW h) (hRV : fz_RV h) (hRM : fz_RM h) (hRP2 : fz_RP2 h) (hRA : fz_RA h) (hRU : fz_RU h) (hRD : fz_RD h) (i : Int) (hi : 0 ≤ i ∧ i + 6 ≤ h 200 100000 ∧ h 200 100000 ≤ 3072) {Q : fz_H → Option fz_V → Prop} (K : ∀ H : fz_H, fz_Gd H → H 200 = h 200 → fz_R 47 mLe 1817 [(3, fz_i i), (0, fz_r 200), (1, fz_r 0), (2, fz_r 53)] [] H Q) : fz_R 47 mLc8 478 [(3, fz_i i), (0, fz_r 200), (1, fz_r 0), (2, fz_r 53)] [] h Q := by
  have hf : fz_fr fz_all h h := fz_fr_rf
  refine fz_aload_n kLc8 rfl rfl ?_
  refine fz_aload_n kLc8 rfl rfl ?_
  refine fz_iload_n kLc8 rfl rfl ?_
  refine fz_iconst ⟨by decide, by decide⟩ kLc8 rfl ?_
  refine fz_iaddN kLc8 rfl (by omega) ?_
  obtain ⟨a1, e2⟩ : ∃ z, h 200 ((i + 1)).toNat = z := ⟨_, rfl⟩
  refine fz_taldV (v := a1) kLc8 rfl ⟨by decide, by decide⟩ (by omega) (by omega) e2 ?_
  refine fz_aload_n kLc8 rfl rfl ?_
  refine fz_iload_n kLc8 rfl rfl ?_
  refine fz_iconst ⟨by decide, by decide⟩ kLc8 rfl ?_
  refine fz_iaddN kLc8 rfl (by omega) ?_
  obtain ⟨a3, e4⟩ : ∃ z, h 200 ((i + 2)).toNat = z := ⟨_, rfl⟩
  refine fz_taldV (v := a3) kLc8 rfl ⟨by decide, by decide⟩ (by omega) (by omega) e4 ?_
  refine fz_callV (d' := 2) (M' := mX10_way) (As := [fz_i a1, fz_i a3]) (st := []) kLc8 rfl rfl vX10_way rfl rfl rfl rfl (Nat.le_of_ble_eq_true rfl) (Nat.le_of_ble_eq_true rfl) (by decide) (sX10_way h hI a1 a3 ) (fun H5 r6 q7 o8 => ?_)
  obtain ⟨e9, y12, rfl, f10, f11⟩ := q7
  subst H5
  clear o8
  refine fz_pop rfl kLc8 rfl ?_
  refine fz_aload_n kLc8 rfl rfl ?_
  refine fz_aload_n kLc8 rfl rfl ?_
  refine fz_iload_n kLc8 rfl rfl ?_
  refine fz_iconst ⟨by decide, by decide⟩ kLc8 rfl ?_
  refine fz_iaddN kLc8 rfl (by omega) ?_
  refine fz_taldV (v := a1) kLc8 rfl ⟨by decide, by decide⟩ (by omega) (by omega) e2 ?_
  refine fz_aload_n kLc8 rfl rfl ?_
  refine fz_iload_n kLc8 rfl rfl ?_
  refine fz_iconst ⟨by decide, by decide⟩ kLc8 rfl ?_
  refine fz_iaddN kLc8 rfl (by omega) ?_
  refine fz_taldV (v := a3) kLc8 rfl ⟨by decide, by decide⟩ (by omega) (by omega) e4 ?_
  refine fz_callV (d' := 3) (M' := mX11_way) (As := [fz_i a1, fz_i a3]) (st := []) kLc8 rfl rfl vX11_way rfl rfl rfl rfl (Nat.le_of_ble_eq_true rfl) (Nat.le_of_ble_eq_true rfl) (by decide) (sX11_way h hI a1 a3 hRM) (fun H13 r14 q15 o16 => ?_)
  obtain ⟨hI17, hf18, hRM19, y22, rfl, f20, f21⟩ := q15
  clear o16
  have hf23 := fz_fr_tr hf hf18 (fz_su_all rfl)
  have hXd24 : fz_Xd H13 := fz_Xd_eq (funext fun s => hf18 80 s rfl) hXd
  have hXh25 : fz_Xh H13 := fz_Xh_eq (funext fun s => hf18 83 s rfl) hXh
  have hXw26 : fz_Xw H13 := fz_Xw_eq (hf18 53 19 rfl) (funext fun s => hf18 66 s rfl) (funext fun s => hf18 67 s rfl) (funext fun s => hf18 68 s rfl) (funext fun s => hf18 69 s rfl) hXw
  have hRS27 : fz_RS H13 := fz_RS_eq (funext fun s => hf18 48 s rfl) (funext fun s => hf18 49 s rfl) (funext fun s => hf18 50 s rfl) (funext fun s => hf18 51 s rfl) (funext fun s => hf18 83 s rfl) (funext fun s => hf18 84 s rfl) (hf18 44 2 rfl) hRS
  have hRP28 : fz_RP H13 := fz_RP_eq (funext fun s => hf18 52 s rfl) (funext fun s => hf18 85 s rfl) hRP
  have hRK29 : fz_RK H13 := fz_RK_eq (funext fun s => hf18 45 s rfl) (funext fun s => hf18 81 s rfl) hRK
  have hRR30 : fz_RR H13 := fz_RR_eq (hf18 44 3 rfl) (hf18 53 46 rfl) (funext fun s => hf18 46 s rfl) (funext fun s => hf18 82 s rfl) hRR
  have hRT31 : fz_RT H13 := fz_RT_eq (funext fun s => hf18 41 s rfl) (funext fun s => hf18 42 s rfl) (hf18 1 7 rfl) hRT
  have hRE32 : fz_RE H13 := fz_RE_eq (funext fun s => hf18 5 s rfl) (funext fun s => hf18 6 s rfl) (hf18 1 8 rfl) (hf18 1 7 rfl) hRE
  have hR233 : fz_R2 H13 := fz_R2_eq (funext fun s => hf18 2 s rfl) (funext fun s => hf18 54 s rfl) hR2
  have hR334 : fz_R3 H13 := fz_R3_eq (funext fun s => hf18 3 s rfl) (funext fun s => hf18 57 s rfl) hR3
  have hR435 : fz_R4 H13 := fz_R4_eq (funext fun s => hf18 4 s rfl) (funext fun s => hf18 58 s rfl) hR4
  have hR2836 : fz_R28 H13 := fz_R28_eq (funext fun s => hf18 28 s rfl) (funext fun s => hf18 59 s rfl) hR28
  have hR537 : fz_R5 H13 := fz_R5_eq (funext fun s => hf18 5 s rfl) (funext fun s => hf18 55 s rfl) hR5
  have hR638 : fz_R6 H13 := fz_R6_eq (funext fun s => hf18 6 s rfl) (funext fun s => hf18 56 s rfl) hR6
  have hRG39 : fz_RG H13 := fz_RG_eq (hf18 27 8 rfl) (hf18 27 9 rfl) (hf18 53 8 rfl) (hf18 53 9 rfl) hRG
  have hRL40 : fz_RL H13 := fz_RL_eq (funext fun s => hf18 11 s rfl) (funext fun s => hf18 12 s rfl) (funext fun s => hf18 13 s rfl) (funext fun s => hf18 14 s rfl) (funext fun s => hf18 61 s rfl) (funext fun s => hf18 62 s rfl) (funext fun s => hf18 63 s rfl) (funext fun s => hf18 64 s rfl) (hf18 9 5 rfl) hRL
  have hRC41 : fz_RC H13 := fz_RC_eq (hf18 35 4 rfl) (hf18 35 5 rfl) (hf18 53 41 rfl) (hf18 53 42 rfl) (funext fun s => hf18 36 s rfl) (funext fun s => hf18 37 s rfl) (funext fun s => hf18 38 s rfl) (funext fun s => hf18 39 s rfl) (funext fun s => hf18 80 s rfl) (hf18 1 7 rfl) (hf18 1 8 rfl) (hf18 9 5 rfl) hRC
  have hRJ42 : fz_RJ H13 := fz_RJ_eq (hf18 40 1 rfl) (hf18 53 34 rfl) (funext fun s => hf18 41 s rfl) (funext fun s => hf18 76 s rfl) (hf18 40 6 rfl) (hf18 53 37 rfl) (funext fun s => hf18 42 s rfl) (funext fun s => hf18 78 s rfl) (hf18 43 0 rfl) (hf18 53 38 rfl) hRJ
  have hRW43 : fz_RW H13 := fz_RW_eq (funext fun s => hf18 10 s rfl) (funext fun s => hf18 60 s rfl) (hf18 9 5 rfl) hRW
  have hRV44 : fz_RV H13 := fz_RV_eq (funext fun s => hf18 7 s rfl) (funext fun s => hf18 8 s rfl) (funext fun s => hf18 3 s rfl) (funext fun s => hf18 4 s rfl) (funext fun s => hf18 5 s rfl) (funext fun s => hf18 6 s rfl) (hf18 1 7 rfl) (hf18 1 8 rfl) hRV
  have hRP245 : fz_RP2 H13 := fz_RP2_eq (funext fun s => hf18 11 s rfl) (hf18 9 5 rfl) (hf18 1 7 rfl) hRP2
  have hRA46 : fl_RA H13 := fl_RA_eq (funext fun s => hf18 26 s rfl) (funext fun s => hf18 65 s rfl) (hf18 20 2 rfl) hRA
  have hRU47 : fl_RU H13 := fl_RU_eq (hf18 15 4 rfl) (funext fun s => hf18 16 s rfl) (funext fun s => hf18 17 s rfl) (hf18 53 18 rfl) (hf18 53 19 rfl) (funext fun s => hf18 66 s rfl) (funext fun s => hf18 67 s rfl) (funext fun s => hf18 68 s rfl) (funext fun s => hf18 69 s rfl) hRU
  have hRD48 : fl_RD H13 := fl_RD_eq (hf18 40 2 rfl) (hf18 40 3 rfl) (hf18 40 4 rfl) (hf18 40 5 rfl) (funext fun s => hf18 77 s rfl) (hf18 43 1 rfl) (hf18 43 2 rfl) (hf18 43 3 rfl) (hf18 43 4 rfl) (funext fun s => hf18 79 s rfl) hRD
  have hX49 : fz_Xc H13 := fz_Xc_fr hf18 rfl hX
  have t50 : H13 53 10 = h 53 10 := hf18 53 10 rfl
  have t51 : H13 53 41 = h 53 41 := hf18 53 41 rfl
  have t52 : H13 53 42 = h 53 42 := hf18 53 42 rfl
  have t53 : H13 9 5 = h 9 5 := hf18 9 5 rfl
  have t54 : H13 53 10 = h 53 10 := hf18 53 10 rfl
  have t55 : H13 44 2 = h 44 2 := hf18 44 2 rfl
  have t56 : H13 53 44 = h 53 44 := hf18 53 44 rfl
  have t57 : H13 20 2 = h 20 2 := hf18 20 2 rfl
  have t58 : H13 53 16 = h 53 16 := hf18 53 16 rfl
  have t59 : H13 1 7 = h 1 7 := hf18 1 7 rfl
  have t60 : H13 53 0 = h 53 0 := hf18 53 0 rfl
  have t61 : H13 1 8 = h 1 8 := hf18 1 8 rfl
  have t62 : H13 53 2 = h 53 2 := hf18 53 2 rfl
  refine fz_pop rfl kLc8 rfl ?_
  refine fz_goto (tgt := 1817) kLc8 rfl (by decide) ?_
  exact K H13 ⟨hI17, hX49, hXd24, hXh25, hXw26, (by rw [(hf18 53 10 rfl)]; exact hv1), (by rw [(hf18 53 42 rfl), (hf18 53 41 rfl)]; exact hv2), ((hf18 9 5 rfl).trans (hr0.trans (hf18 53 10 rfl).symm)), ((hf18 44 2 rfl).trans (hr1.trans (hf18 53 44 rfl).symm)), ((hf18 20 2 rfl).trans (hr2.trans (hf18 53 16 rfl).symm)), ((hf18 1 7 rfl).trans (hr3.trans (hf18 53 0 rfl).symm)), ((hf18 1 8 rfl).trans (hr4.trans (hf18 53 2 rfl).symm)), hRS27, hRP28, hRK29, hRR30, hRT31, hRE32, hR233, hR334, hR435, hR2836, hR537, hR638, hRG39, hRL40, hRC41, hRJ42, hRW43, hRV44, hRM19, hRP245, hRA46, hRU47, hRD48⟩ (funext fun s => hf23 200 s rfl)
def mLc9 : fz_M := (yL_law, code, 4, (some .boolean), [(511, .aload_n 1, 1, 0, 0, 0), (512, .aload_n 0, 1, 0, 0, 0), (513, .iload_n 3, 1, 0, 0, 0), (514, .iconst 1, 1, 0, 0, 0), (515, .iadd, 1, 0, 0, 0), (516, .iaload, 1, 0, 0, 0), (517, .aload_n 0, 1, 0, 0, 0), (518, .iload_n 3, 1, 0, 0, 0), (519, .iconst 2, 1, 0, 0, 0), (520, .iadd, 1, 0, 0, 0), (521, .iaload, 1, 0, 0, 0), (522, .invokevirtual 53, 3, 3158, 37, 0), (525, .pop, 1, 0, 0, 0), (526, .aload_n 2, 1, 0, 0, 0), (527, .aload_n 0, 1, 0, 0, 0), (528, .iload_n 3, 1, 0, 0, 0), (529, .iconst 1, 1, 0, 0, 0), (530, .iadd, 1, 0, 0, 0), (531, .iaload, 1, 0, 0, 0), (532, .aload_n 0, 1, 0, 0, 0), (533, .iload_n 3, 1, 0, 0, 0), (534, .iconst 2, 1, 0, 0, 0), (535, .iadd, 1, 0, 0, 0), (536, .iaload, 1, 0, 0, 0), (537, .invokevirtual 56, 3, 6188, 109, 0), (540, .pop, 1, 0, 0, 0), (541, .goto 1276, 3, 0, 0, 0)])
set_option maxRecDepth 100000 in
theorem kLc9 : fz_okM mLc9 = true := fz_okM_in (by decide +kernel) (by decide +kernel)
set_option maxHeartbeats 1000000 in
set_option maxRecDepth 100000 in
theorem lc9 (h : fz_H) (hI : fz_Iv h) (hX : fz_Xc h) (hXd : fz_Xd h) (hXh : fz_Xh h) (hXw : fz_Xw h) (hv1 : h 53 10 ≤ 10) (hv2 : h 53 42 ≤ h 53 41) (hr0 : h 9 5 = h 53 10) (hr1 : h 44 2 = h 53 44) (hr2 : h 20 2 = h 53 16) (hr3 : h 1 7 = h 53 0) (hr4 : h 1 8 = h 53 2) (hRS : fz_RS h) (hRP : fz_RP h) (hRK : fz_RK h) (hRR : fz_RR h) (hRT : fz_RT h) (hRE : fz_RE h) (hR2 : fz_R2 h) (hR3 : fz_R3 h) (hR4 : fz_R4 h) (hR28 : fz_R28 h) (hR5 : fz_R5 h) (hR6 : fz_R6 h) (hRG : fz_RG h) (hRL : fz_RL h) (hRC : fz_RC h) (hRJ : fz_RJ h) (hRW : fz_RW h) (hRV : fz_RV h) (hRM : fz_RM h) (hRP2 : fz_RP2 h) (hRA : fz_RA h) (hRU : fz_RU h) (hRD : fz_RD h) (i : Int) (hi : 0 ≤ i ∧ i + 6 ≤ h 200 100000 ∧ h 200 100000 ≤ 3072) {Q : fz_H → Option fz_V → Prop} (K : ∀ H : fz_H, fz_Gd H → H 200 = h 200 → fz_R 47 mLe 1817 [(3, fz_i i), (0, fz_r 200), (1, fz_r 0), (2, fz_r 53)] [] H Q) : fz_R 47 mLc9 511 [(3, fz_i i), (0, fz_r 200), (1, fz_r 0), (2, fz_r 53)] [] h Q := by
  have hf : fz_fr fz_all h h := fz_fr_rf
  refine fz_aload_n kLc9 rfl rfl ?_
  refine fz_aload_n kLc9 rfl rfl ?_
  refine fz_iload_n kLc9 rfl rfl ?_
  refine fz_iconst ⟨by decide, by decide⟩ kLc9 rfl ?_
  refine fz_iaddN kLc9 rfl (by omega) ?_
  obtain ⟨a1, e2⟩ : ∃ z, h 200 ((i + 1)).toNat = z := ⟨_, rfl⟩
  refine fz_taldV (v := a1) kLc9 rfl ⟨by decide, by decide⟩ (by omega) (by omega) e2 ?_
  refine fz_aload_n kLc9 rfl rfl ?_
  refine fz_iload_n kLc9 rfl rfl ?_
  refine fz_iconst ⟨by decide, by decide⟩ kLc9 rfl ?_
  refine fz_iaddN kLc9 rfl (by omega) ?_
  obtain ⟨a3, e4⟩ : ∃ z, h 200 ((i + 2)).toNat = z := ⟨_, rfl⟩
  refine fz_taldV (v := a3) kLc9 rfl ⟨by decide, by decide⟩ (by omega) (by omega) e4 ?_
  have b5 : 0 ≤ h 9 5 ∧ h 9 5 ≤ 10 := hI.1 9 _
  have b6 : 0 ≤ h 1 7 ∧ h 1 7 ≤ 8 := hI.1 1 _
  refine fz_callV (d' := 2) (M' := mX10_heard) (As := [fz_i a1, fz_i a3]) (st := []) kLc9 rfl rfl vX10_heard rfl rfl rfl rfl (Nat.le_of_ble_eq_true rfl) (Nat.le_of_ble_eq_true rfl) (by decide) (sX10_heard h hI a1 a3 ) (fun H7 r8 q9 o10 => ?_)
  obtain ⟨e11, y14, rfl, f12, f13⟩ := q9
  subst H7
  clear o10
  refine fz_pop rfl kLc9 rfl ?_
  refine fz_aload_n kLc9 rfl rfl ?_
  refine fz_aload_n kLc9 rfl rfl ?_
  refine fz_iload_n kLc9 rfl rfl ?_
  refine fz_iconst ⟨by decide, by decide⟩ kLc9 rfl ?_
  refine fz_iaddN kLc9 rfl (by omega) ?_
  refine fz_taldV (v := a1) kLc9 rfl ⟨by decide, by decide⟩ (by omega) (by omega) e2 ?_
  refine fz_aload_n kLc9 rfl rfl ?_
  refine fz_iload_n kLc9 rfl rfl ?_
  refine fz_iconst ⟨by decide, by decide⟩ kLc9 rfl ?_
  refine fz_iaddN kLc9 rfl (by omega) ?_
  refine fz_taldV (v := a3) kLc9 rfl ⟨by decide, by decide⟩ (by omega) (by omega) e4 ?_
  have b15 : 0 ≤ h 53 10 ∧ h 53 10 ≤ 11 := hI.1 53 _
  have b16 : 0 ≤ h 53 0 ∧ h 53 0 ≤ 8 := hI.1 53 _
  refine fz_callV (d' := 3) (M' := mX11_heard) (As := [fz_i a1, fz_i a3]) (st := []) kLc9 rfl rfl vX11_heard rfl rfl rfl rfl (Nat.le_of_ble_eq_true rfl) (Nat.le_of_ble_eq_true rfl) (by decide) (sX11_heard h hI a1 a3 hRM) (fun H17 r18 q19 o20 => ?_)
  obtain ⟨hI21, hf22, hRM23, y26, rfl, f24, f25⟩ := q19
  clear o20
  have hf27 := fz_fr_tr hf hf22 (fz_su_all rfl)
  have hXd28 : fz_Xd H17 := fz_Xd_eq (funext fun s => hf22 80 s rfl) hXd
  have hXh29 : fz_Xh H17 := fz_Xh_eq (funext fun s => hf22 83 s rfl) hXh
  have hXw30 : fz_Xw H17 := fz_Xw_eq (hf22 53 19 rfl) (funext fun s => hf22 66 s rfl) (funext fun s => hf22 67 s rfl) (funext fun s => hf22 68 s rfl) (funext fun s => hf22 69 s rfl) hXw
  have hRS31 : fz_RS H17 := fz_RS_eq (funext fun s => hf22 48 s rfl) (funext fun s => hf22 49 s rfl) (funext fun s => hf22 50 s rfl) (funext fun s => hf22 51 s rfl) (funext fun s => hf22 83 s rfl) (funext fun s => hf22 84 s rfl) (hf22 44 2 rfl) hRS
  have hRP32 : fz_RP H17 := fz_RP_eq (funext fun s => hf22 52 s rfl) (funext fun s => hf22 85 s rfl) hRP
  have hRK33 : fz_RK H17 := fz_RK_eq (funext fun s => hf22 45 s rfl) (funext fun s => hf22 81 s rfl) hRK
  have hRR34 : fz_RR H17 := fz_RR_eq (hf22 44 3 rfl) (hf22 53 46 rfl) (funext fun s => hf22 46 s rfl) (funext fun s => hf22 82 s rfl) hRR
  have hRT35 : fz_RT H17 := fz_RT_eq (funext fun s => hf22 41 s rfl) (funext fun s => hf22 42 s rfl) (hf22 1 7 rfl) hRT
  have hRE36 : fz_RE H17 := fz_RE_eq (funext fun s => hf22 5 s rfl) (funext fun s => hf22 6 s rfl) (hf22 1 8 rfl) (hf22 1 7 rfl) hRE
  have hR237 : fz_R2 H17 := fz_R2_eq (funext fun s => hf22 2 s rfl) (funext fun s => hf22 54 s rfl) hR2
  have hR338 : fz_R3 H17 := fz_R3_eq (funext fun s => hf22 3 s rfl) (funext fun s => hf22 57 s rfl) hR3
  have hR439 : fz_R4 H17 := fz_R4_eq (funext fun s => hf22 4 s rfl) (funext fun s => hf22 58 s rfl) hR4
  have hR2840 : fz_R28 H17 := fz_R28_eq (funext fun s => hf22 28 s rfl) (funext fun s => hf22 59 s rfl) hR28
  have hR541 : fz_R5 H17 := fz_R5_eq (funext fun s => hf22 5 s rfl) (funext fun s => hf22 55 s rfl) hR5
  have hR642 : fz_R6 H17 := fz_R6_eq (funext fun s => hf22 6 s rfl) (funext fun s => hf22 56 s rfl) hR6
  have hRG43 : fz_RG H17 := fz_RG_eq (hf22 27 8 rfl) (hf22 27 9 rfl) (hf22 53 8 rfl) (hf22 53 9 rfl) hRG
  have hRL44 : fz_RL H17 := fz_RL_eq (funext fun s => hf22 11 s rfl) (funext fun s => hf22 12 s rfl) (funext fun s => hf22 13 s rfl) (funext fun s => hf22 14 s rfl) (funext fun s => hf22 61 s rfl) (funext fun s => hf22 62 s rfl) (funext fun s => hf22 63 s rfl) (funext fun s => hf22 64 s rfl) (hf22 9 5 rfl) hRL
  have hRC45 : fz_RC H17 := fz_RC_eq (hf22 35 4 rfl) (hf22 35 5 rfl) (hf22 53 41 rfl) (hf22 53 42 rfl) (funext fun s => hf22 36 s rfl) (funext fun s => hf22 37 s rfl) (funext fun s => hf22 38 s rfl) (funext fun s => hf22 39 s rfl) (funext fun s => hf22 80 s rfl) (hf22 1 7 rfl) (hf22 1 8 rfl) (hf22 9 5 rfl) hRC
  have hRJ46 : fz_RJ H17 := fz_RJ_eq (hf22 40 1 rfl) (hf22 53 34 rfl) (funext fun s => hf22 41 s rfl) (funext fun s => hf22 76 s rfl) (hf22 40 6 rfl) (hf22 53 37 rfl) (funext fun s => hf22 42 s rfl) (funext fun s => hf22 78 s rfl) (hf22 43 0 rfl) (hf22 53 38 rfl) hRJ
  have hRW47 : fz_RW H17 := fz_RW_eq (funext fun s => hf22 10 s rfl) (funext fun s => hf22 60 s rfl) (hf22 9 5 rfl) hRW
  have hRV48 : fz_RV H17 := fz_RV_eq (funext fun s => hf22 7 s rfl) (funext fun s => hf22 8 s rfl) (funext fun s => hf22 3 s rfl) (funext fun s => hf22 4 s rfl) (funext fun s => hf22 5 s rfl) (funext fun s => hf22 6 s rfl) (hf22 1 7 rfl) (hf22 1 8 rfl) hRV
  have hRP249 : fz_RP2 H17 := fz_RP2_eq (funext fun s => hf22 11 s rfl) (hf22 9 5 rfl) (hf22 1 7 rfl) hRP2
  have hRA50 : fl_RA H17 := fl_RA_eq (funext fun s => hf22 26 s rfl) (funext fun s => hf22 65 s rfl) (hf22 20 2 rfl) hRA
  have hRU51 : fl_RU H17 := fl_RU_eq (hf22 15 4 rfl) (funext fun s => hf22 16 s rfl) (funext fun s => hf22 17 s rfl) (hf22 53 18 rfl) (hf22 53 19 rfl) (funext fun s => hf22 66 s rfl) (funext fun s => hf22 67 s rfl) (funext fun s => hf22 68 s rfl) (funext fun s => hf22 69 s rfl) hRU
  have hRD52 : fl_RD H17 := fl_RD_eq (hf22 40 2 rfl) (hf22 40 3 rfl) (hf22 40 4 rfl) (hf22 40 5 rfl) (funext fun s => hf22 77 s rfl) (hf22 43 1 rfl) (hf22 43 2 rfl) (hf22 43 3 rfl) (hf22 43 4 rfl) (funext fun s => hf22 79 s rfl) hRD
  have hX53 : fz_Xc H17 := fz_Xc_fr hf22 rfl hX
  have t54 : H17 53 10 = h 53 10 := hf22 53 10 rfl
  have t55 : H17 53 41 = h 53 41 := hf22 53 41 rfl
  have t56 : H17 53 42 = h 53 42 := hf22 53 42 rfl
  have t57 : H17 9 5 = h 9 5 := hf22 9 5 rfl
  have t58 : H17 53 10 = h 53 10 := hf22 53 10 rfl
  have t59 : H17 44 2 = h 44 2 := hf22 44 2 rfl
  have t60 : H17 53 44 = h 53 44 := hf22 53 44 rfl
  have t61 : H17 20 2 = h 20 2 := hf22 20 2 rfl
  have t62 : H17 53 16 = h 53 16 := hf22 53 16 rfl
  have t63 : H17 1 7 = h 1 7 := hf22 1 7 rfl
  have t64 : H17 53 0 = h 53 0 := hf22 53 0 rfl
  have t65 : H17 1 8 = h 1 8 := hf22 1 8 rfl
  have t66 : H17 53 2 = h 53 2 := hf22 53 2 rfl
  refine fz_pop rfl kLc9 rfl ?_
  refine fz_goto (tgt := 1817) kLc9 rfl (by decide) ?_
  exact K H17 ⟨hI21, hX53, hXd28, hXh29, hXw30, (by rw [(hf22 53 10 rfl)]; exact hv1), (by rw [(hf22 53 42 rfl), (hf22 53 41 rfl)]; exact hv2), ((hf22 9 5 rfl).trans (hr0.trans (hf22 53 10 rfl).symm)), ((hf22 44 2 rfl).trans (hr1.trans (hf22 53 44 rfl).symm)), ((hf22 20 2 rfl).trans (hr2.trans (hf22 53 16 rfl).symm)), ((hf22 1 7 rfl).trans (hr3.trans (hf22 53 0 rfl).symm)), ((hf22 1 8 rfl).trans (hr4.trans (hf22 53 2 rfl).symm)), hRS31, hRP32, hRK33, hRR34, hRT35, hRE36, hR237, hR338, hR439, hR2840, hR541, hR642, hRG43, hRL44, hRC45, hRJ46, hRW47, hRV48, hRM23, hRP249, hRA50, hRU51, hRD52⟩ (funext fun s => hf27 200 s rfl)
def mLc10 : fz_M := (yL_law, code, 4, (some .boolean), [(544, .aload_n 1, 1, 0, 0, 0), (545, .aload_n 0, 1, 0, 0, 0), (546, .iload_n 3, 1, 0, 0, 0), (547, .iconst 1, 1, 0, 0, 0), (548, .iadd, 1, 0, 0, 0), (549, .iaload, 1, 0, 0, 0), (550, .aload_n 0, 1, 0, 0, 0), (551, .iload_n 3, 1, 0, 0, 0), (552, .iconst 2, 1, 0, 0, 0), (553, .iadd, 1, 0, 0, 0), (554, .iaload, 1, 0, 0, 0), (555, .invokevirtual 57, 3, 3167, 55, 0), (558, .pop, 1, 0, 0, 0), (559, .aload_n 2, 1, 0, 0, 0), (560, .aload_n 0, 1, 0, 0, 0), (561, .iload_n 3, 1, 0, 0, 0), (562, .iconst 1, 1, 0, 0, 0), (563, .iadd, 1, 0, 0, 0), (564, .iaload, 1, 0, 0, 0), (565, .aload_n 0, 1, 0, 0, 0), (566, .iload_n 3, 1, 0, 0, 0), (567, .iconst 2, 1, 0, 0, 0), (568, .iadd, 1, 0, 0, 0), (569, .iaload, 1, 0, 0, 0), (570, .invokevirtual 60, 3, 6196, 147, 0), (573, .pop, 1, 0, 0, 0), (574, .goto 1243, 3, 0, 0, 0)])
set_option maxRecDepth 100000 in
theorem kLc10 : fz_okM mLc10 = true := fz_okM_in (by decide +kernel) (by decide +kernel)
set_option maxHeartbeats 1000000 in
set_option maxRecDepth 100000 in
theorem lc10 (h : fz_H) (hI : fz_Iv h) (hX : fz_Xc h) (hXd : fz_Xd h) (hXh : fz_Xh h) (hXw : fz_Xw h) (hv1 : h 53 10 ≤ 10) (hv2 : h 53 42 ≤ h 53 41) (hr0 : h 9 5 = h 53 10) (hr1 : h 44 2 = h 53 44) (hr2 : h 20 2 = h 53 16) (hr3 : h 1 7 = h 53 0) (hr4 : h 1 8 = h 53 2) (hRS : fz_RS h) (hRP : fz_RP h) (hRK : fz_RK h) (hRR : fz_RR h) (hRT : fz_RT h) (hRE : fz_RE h) (hR2 : fz_R2 h) (hR3 : fz_R3 h) (hR4 : fz_R4 h) (hR28 : fz_R28 h) (hR5 : fz_R5 h) (hR6 : fz_R6 h) (hRG : fz_RG h) (hRL : fz_RL h) (hRC : fz_RC h) (hRJ : fz_RJ h) (hRW : fz_RW h) (hRV : fz_RV h) (hRM : fz_RM h) (hRP2 : fz_RP2 h) (hRA : fz_RA h) (hRU : fz_RU h) (hRD : fz_RD h) (i : Int) (hi : 0 ≤ i ∧ i + 6 ≤ h 200 100000 ∧ h 200 100000 ≤ 3072) {Q : fz_H → Option fz_V → Prop} (K : ∀ H : fz_H, fz_Gd H → H 200 = h 200 → fz_R 47 mLe 1817 [(3, fz_i i), (0, fz_r 200), (1, fz_r 0), (2, fz_r 53)] [] H Q) : fz_R 47 mLc10 544 [(3, fz_i i), (0, fz_r 200), (1, fz_r 0), (2, fz_r 53)] [] h Q := by
  have hf : fz_fr fz_all h h := fz_fr_rf
  refine fz_aload_n kLc10 rfl rfl ?_
  refine fz_aload_n kLc10 rfl rfl ?_
  refine fz_iload_n kLc10 rfl rfl ?_
  refine fz_iconst ⟨by decide, by decide⟩ kLc10 rfl ?_
  refine fz_iaddN kLc10 rfl (by omega) ?_
  obtain ⟨a1, e2⟩ : ∃ z, h 200 ((i + 1)).toNat = z := ⟨_, rfl⟩
  refine fz_taldV (v := a1) kLc10 rfl ⟨by decide, by decide⟩ (by omega) (by omega) e2 ?_
  refine fz_aload_n kLc10 rfl rfl ?_
  refine fz_iload_n kLc10 rfl rfl ?_
  refine fz_iconst ⟨by decide, by decide⟩ kLc10 rfl ?_
  refine fz_iaddN kLc10 rfl (by omega) ?_
  obtain ⟨a3, e4⟩ : ∃ z, h 200 ((i + 2)).toNat = z := ⟨_, rfl⟩
  refine fz_taldV (v := a3) kLc10 rfl ⟨by decide, by decide⟩ (by omega) (by omega) e4 ?_
  refine fz_callV (d' := 4) (M' := mX10_loud) (As := [fz_i a1, fz_i a3]) (st := []) kLc10 rfl rfl vX10_loud rfl rfl rfl rfl (Nat.le_of_ble_eq_true rfl) (Nat.le_of_ble_eq_true rfl) (by decide) (sX10_loud h hI a1 a3 ) (fun H5 r6 q7 o8 => ?_)
  obtain ⟨hI9, hf10, y13, rfl, f11, f12⟩ := q7
  clear o8
  have hf14 := fz_fr_tr hf hf10 (fz_su_all rfl)
  have hXd15 : fz_Xd H5 := fz_Xd_eq (funext fun s => hf10 80 s rfl) hXd
  have hXh16 : fz_Xh H5 := fz_Xh_eq (funext fun s => hf10 83 s rfl) hXh
  have hXw17 : fz_Xw H5 := fz_Xw_eq (hf10 53 19 rfl) (funext fun s => hf10 66 s rfl) (funext fun s => hf10 67 s rfl) (funext fun s => hf10 68 s rfl) (funext fun s => hf10 69 s rfl) hXw
  have hRS18 : fz_RS H5 := fz_RS_eq (funext fun s => hf10 48 s rfl) (funext fun s => hf10 49 s rfl) (funext fun s => hf10 50 s rfl) (funext fun s => hf10 51 s rfl) (funext fun s => hf10 83 s rfl) (funext fun s => hf10 84 s rfl) (hf10 44 2 rfl) hRS
  have hRP19 : fz_RP H5 := fz_RP_eq (funext fun s => hf10 52 s rfl) (funext fun s => hf10 85 s rfl) hRP
  have hRK20 : fz_RK H5 := fz_RK_eq (funext fun s => hf10 45 s rfl) (funext fun s => hf10 81 s rfl) hRK
  have hRR21 : fz_RR H5 := fz_RR_eq (hf10 44 3 rfl) (hf10 53 46 rfl) (funext fun s => hf10 46 s rfl) (funext fun s => hf10 82 s rfl) hRR
  have hRT22 : fz_RT H5 := fz_RT_eq (funext fun s => hf10 41 s rfl) (funext fun s => hf10 42 s rfl) (hf10 1 7 rfl) hRT
  have hRE23 : fz_RE H5 := fz_RE_eq (funext fun s => hf10 5 s rfl) (funext fun s => hf10 6 s rfl) (hf10 1 8 rfl) (hf10 1 7 rfl) hRE
  have hR224 : fz_R2 H5 := fz_R2_eq (funext fun s => hf10 2 s rfl) (funext fun s => hf10 54 s rfl) hR2
  have hR325 : fz_R3 H5 := fz_R3_eq (funext fun s => hf10 3 s rfl) (funext fun s => hf10 57 s rfl) hR3
  have hR426 : fz_R4 H5 := fz_R4_eq (funext fun s => hf10 4 s rfl) (funext fun s => hf10 58 s rfl) hR4
  have hR2827 : fz_R28 H5 := fz_R28_eq (funext fun s => hf10 28 s rfl) (funext fun s => hf10 59 s rfl) hR28
  have hR528 : fz_R5 H5 := fz_R5_eq (funext fun s => hf10 5 s rfl) (funext fun s => hf10 55 s rfl) hR5
  have hR629 : fz_R6 H5 := fz_R6_eq (funext fun s => hf10 6 s rfl) (funext fun s => hf10 56 s rfl) hR6
  have hRG30 : fz_RG H5 := fz_RG_eq (hf10 27 8 rfl) (hf10 27 9 rfl) (hf10 53 8 rfl) (hf10 53 9 rfl) hRG
  have hRL31 : fz_RL H5 := fz_RL_eq (funext fun s => hf10 11 s rfl) (funext fun s => hf10 12 s rfl) (funext fun s => hf10 13 s rfl) (funext fun s => hf10 14 s rfl) (funext fun s => hf10 61 s rfl) (funext fun s => hf10 62 s rfl) (funext fun s => hf10 63 s rfl) (funext fun s => hf10 64 s rfl) (hf10 9 5 rfl) hRL
  have hRC32 : fz_RC H5 := fz_RC_eq (hf10 35 4 rfl) (hf10 35 5 rfl) (hf10 53 41 rfl) (hf10 53 42 rfl) (funext fun s => hf10 36 s rfl) (funext fun s => hf10 37 s rfl) (funext fun s => hf10 38 s rfl) (funext fun s => hf10 39 s rfl) (funext fun s => hf10 80 s rfl) (hf10 1 7 rfl) (hf10 1 8 rfl) (hf10 9 5 rfl) hRC
  have hRJ33 : fz_RJ H5 := fz_RJ_eq (hf10 40 1 rfl) (hf10 53 34 rfl) (funext fun s => hf10 41 s rfl) (funext fun s => hf10 76 s rfl) (hf10 40 6 rfl) (hf10 53 37 rfl) (funext fun s => hf10 42 s rfl) (funext fun s => hf10 78 s rfl) (hf10 43 0 rfl) (hf10 53 38 rfl) hRJ
  have hRW34 : fz_RW H5 := fz_RW_eq (funext fun s => hf10 10 s rfl) (funext fun s => hf10 60 s rfl) (hf10 9 5 rfl) hRW
  have hRV35 : fz_RV H5 := fz_RV_eq (funext fun s => hf10 7 s rfl) (funext fun s => hf10 8 s rfl) (funext fun s => hf10 3 s rfl) (funext fun s => hf10 4 s rfl) (funext fun s => hf10 5 s rfl) (funext fun s => hf10 6 s rfl) (hf10 1 7 rfl) (hf10 1 8 rfl) hRV
  have hRM36 : fz_RM H5 := fz_RM_eq (funext fun s => hf10 55 s rfl) (funext fun s => hf10 56 s rfl) (hf10 53 0 rfl) (hf10 53 2 rfl) hRM
  have hRP237 : fz_RP2 H5 := fz_RP2_eq (funext fun s => hf10 11 s rfl) (hf10 9 5 rfl) (hf10 1 7 rfl) hRP2
  have hRA38 : fl_RA H5 := fl_RA_eq (funext fun s => hf10 26 s rfl) (funext fun s => hf10 65 s rfl) (hf10 20 2 rfl) hRA
  have hRU39 : fl_RU H5 := fl_RU_eq (hf10 15 4 rfl) (funext fun s => hf10 16 s rfl) (funext fun s => hf10 17 s rfl) (hf10 53 18 rfl) (hf10 53 19 rfl) (funext fun s => hf10 66 s rfl) (funext fun s => hf10 67 s rfl) (funext fun s => hf10 68 s rfl) (funext fun s => hf10 69 s rfl) hRU
  have hRD40 : fl_RD H5 := fl_RD_eq (hf10 40 2 rfl) (hf10 40 3 rfl) (hf10 40 4 rfl) (hf10 40 5 rfl) (funext fun s => hf10 77 s rfl) (hf10 43 1 rfl) (hf10 43 2 rfl) (hf10 43 3 rfl) (hf10 43 4 rfl) (funext fun s => hf10 79 s rfl) hRD
  have hX41 : fz_Xc H5 := fz_Xc_fr hf10 rfl hX
  have t42 : H5 53 10 = h 53 10 := hf10 53 10 rfl
  have t43 : H5 53 41 = h 53 41 := hf10 53 41 rfl
  have t44 : H5 53 42 = h 53 42 := hf10 53 42 rfl
  have t45 : H5 9 5 = h 9 5 := hf10 9 5 rfl
  have t46 : H5 53 10 = h 53 10 := hf10 53 10 rfl
  have t47 : H5 44 2 = h 44 2 := hf10 44 2 rfl
  have t48 : H5 53 44 = h 53 44 := hf10 53 44 rfl
  have t49 : H5 20 2 = h 20 2 := hf10 20 2 rfl
  have t50 : H5 53 16 = h 53 16 := hf10 53 16 rfl
  have t51 : H5 1 7 = h 1 7 := hf10 1 7 rfl
  have t52 : H5 53 0 = h 53 0 := hf10 53 0 rfl
  have t53 : H5 1 8 = h 1 8 := hf10 1 8 rfl
  have t54 : H5 53 2 = h 53 2 := hf10 53 2 rfl
  refine fz_pop rfl kLc10 rfl ?_
  refine fz_aload_n kLc10 rfl rfl ?_
  refine fz_aload_n kLc10 rfl rfl ?_
  refine fz_iload_n kLc10 rfl rfl ?_
  refine fz_iconst ⟨by decide, by decide⟩ kLc10 rfl ?_
  refine fz_iaddN kLc10 rfl (by omega) ?_
  refine fz_taldV (v := a1) kLc10 rfl ⟨by decide, by decide⟩ (by omega) (by rw [hf14 200 _ rfl]; omega) ((hf14 200 _ rfl).trans e2) ?_
  refine fz_aload_n kLc10 rfl rfl ?_
  refine fz_iload_n kLc10 rfl rfl ?_
  refine fz_iconst ⟨by decide, by decide⟩ kLc10 rfl ?_
  refine fz_iaddN kLc10 rfl (by omega) ?_
  refine fz_taldV (v := a3) kLc10 rfl ⟨by decide, by decide⟩ (by omega) (by rw [hf14 200 _ rfl]; omega) ((hf14 200 _ rfl).trans e4) ?_
  have hRPm55 : fl_RPm H5 := by first | exact fl_RPm_eq (funext fun s => hf10 61 s rfl) (hf10 53 10 rfl) (hf10 53 0 rfl) (fl_RPm_of hRL hRP2 hr3.symm hr0.symm) | exact fl_RPm_of hRL hRP2 hr3.symm hr0.symm
  refine fz_callV (d' := 3) (M' := mX11_loud) (As := [fz_i a1, fz_i a3]) (st := []) kLc10 rfl rfl vX11_loud rfl rfl rfl rfl (Nat.le_of_ble_eq_true rfl) (Nat.le_of_ble_eq_true rfl) (by decide) (sX11_loud H5 hI9 a1 a3 hXw17 hRM36 hRPm55) (fun H57 r58 q59 o60 => ?_)
  obtain ⟨hI61, hf62, hXw63, hRM64, hRPm65, y68, rfl, f66, f67⟩ := q59
  clear o60
  have hf69 := fz_fr_tr hf14 hf62 (fz_su_all rfl)
  have hXd70 : fz_Xd H57 := fz_Xd_eq (funext fun s => hf62 80 s rfl) hXd15
  have hXh71 : fz_Xh H57 := fz_Xh_eq (funext fun s => hf62 83 s rfl) hXh16
  have hRS72 : fz_RS H57 := fz_RS_eq (funext fun s => hf62 48 s rfl) (funext fun s => hf62 49 s rfl) (funext fun s => hf62 50 s rfl) (funext fun s => hf62 51 s rfl) (funext fun s => hf62 83 s rfl) (funext fun s => hf62 84 s rfl) (hf62 44 2 rfl) hRS18
  have hRP73 : fz_RP H57 := fz_RP_eq (funext fun s => hf62 52 s rfl) (funext fun s => hf62 85 s rfl) hRP19
  have hRK74 : fz_RK H57 := fz_RK_eq (funext fun s => hf62 45 s rfl) (funext fun s => hf62 81 s rfl) hRK20
  have hRR75 : fz_RR H57 := fz_RR_eq (hf62 44 3 rfl) (hf62 53 46 rfl) (funext fun s => hf62 46 s rfl) (funext fun s => hf62 82 s rfl) hRR21
  have hRT76 : fz_RT H57 := fz_RT_eq (funext fun s => hf62 41 s rfl) (funext fun s => hf62 42 s rfl) (hf62 1 7 rfl) hRT22
  have hRE77 : fz_RE H57 := fz_RE_eq (funext fun s => hf62 5 s rfl) (funext fun s => hf62 6 s rfl) (hf62 1 8 rfl) (hf62 1 7 rfl) hRE23
  have hR278 : fz_R2 H57 := fz_R2_eq (funext fun s => hf62 2 s rfl) (funext fun s => hf62 54 s rfl) hR224
  have hR379 : fz_R3 H57 := fz_R3_eq (funext fun s => hf62 3 s rfl) (funext fun s => hf62 57 s rfl) hR325
  have hR480 : fz_R4 H57 := fz_R4_eq (funext fun s => hf62 4 s rfl) (funext fun s => hf62 58 s rfl) hR426
  have hR2881 : fz_R28 H57 := fz_R28_eq (funext fun s => hf62 28 s rfl) (funext fun s => hf62 59 s rfl) hR2827
  have hR582 : fz_R5 H57 := fz_R5_eq (funext fun s => hf62 5 s rfl) (funext fun s => hf62 55 s rfl) hR528
  have hR683 : fz_R6 H57 := fz_R6_eq (funext fun s => hf62 6 s rfl) (funext fun s => hf62 56 s rfl) hR629
  have hRG84 : fz_RG H57 := fz_RG_eq (hf62 27 8 rfl) (hf62 27 9 rfl) (hf62 53 8 rfl) (hf62 53 9 rfl) hRG30
  have hRL85 : fz_RL H57 := fz_RL_eq (funext fun s => hf62 11 s rfl) (funext fun s => hf62 12 s rfl) (funext fun s => hf62 13 s rfl) (funext fun s => hf62 14 s rfl) (funext fun s => hf62 61 s rfl) (funext fun s => hf62 62 s rfl) (funext fun s => hf62 63 s rfl) (funext fun s => hf62 64 s rfl) (hf62 9 5 rfl) hRL31
  have hRC86 : fz_RC H57 := fz_RC_eq (hf62 35 4 rfl) (hf62 35 5 rfl) (hf62 53 41 rfl) (hf62 53 42 rfl) (funext fun s => hf62 36 s rfl) (funext fun s => hf62 37 s rfl) (funext fun s => hf62 38 s rfl) (funext fun s => hf62 39 s rfl) (funext fun s => hf62 80 s rfl) (hf62 1 7 rfl) (hf62 1 8 rfl) (hf62 9 5 rfl) hRC32
  have hRJ87 : fz_RJ H57 := fz_RJ_eq (hf62 40 1 rfl) (hf62 53 34 rfl) (funext fun s => hf62 41 s rfl) (funext fun s => hf62 76 s rfl) (hf62 40 6 rfl) (hf62 53 37 rfl) (funext fun s => hf62 42 s rfl) (funext fun s => hf62 78 s rfl) (hf62 43 0 rfl) (hf62 53 38 rfl) hRJ33
  have hRW88 : fz_RW H57 := fz_RW_eq (funext fun s => hf62 10 s rfl) (funext fun s => hf62 60 s rfl) (hf62 9 5 rfl) hRW34
  have hRV89 : fz_RV H57 := fz_RV_eq (funext fun s => hf62 7 s rfl) (funext fun s => hf62 8 s rfl) (funext fun s => hf62 3 s rfl) (funext fun s => hf62 4 s rfl) (funext fun s => hf62 5 s rfl) (funext fun s => hf62 6 s rfl) (hf62 1 7 rfl) (hf62 1 8 rfl) hRV35
  have hRP290 : fz_RP2 H57 := fz_RP2_eq (funext fun s => hf62 11 s rfl) (hf62 9 5 rfl) (hf62 1 7 rfl) hRP237
  have hRA91 : fl_RA H57 := fl_RA_eq (funext fun s => hf62 26 s rfl) (funext fun s => hf62 65 s rfl) (hf62 20 2 rfl) hRA38
  have hRU92 : fl_RU H57 := fl_RU_eq (hf62 15 4 rfl) (funext fun s => hf62 16 s rfl) (funext fun s => hf62 17 s rfl) (hf62 53 18 rfl) (hf62 53 19 rfl) (funext fun s => hf62 66 s rfl) (funext fun s => hf62 67 s rfl) (funext fun s => hf62 68 s rfl) (funext fun s => hf62 69 s rfl) hRU39
  have hRD93 : fl_RD H57 := fl_RD_eq (hf62 40 2 rfl) (hf62 40 3 rfl) (hf62 40 4 rfl) (hf62 40 5 rfl) (funext fun s => hf62 77 s rfl) (hf62 43 1 rfl) (hf62 43 2 rfl) (hf62 43 3 rfl) (hf62 43 4 rfl) (funext fun s => hf62 79 s rfl) hRD40
  have hX94 : fz_Xc H57 := fz_Xc_fr hf62 rfl hX41
  have t95 : H57 53 10 = H5 53 10 := hf62 53 10 rfl
  have t96 : H57 53 41 = H5 53 41 := hf62 53 41 rfl
  have t97 : H57 53 42 = H5 53 42 := hf62 53 42 rfl
  have t98 : H57 9 5 = H5 9 5 := hf62 9 5 rfl
  have t99 : H57 53 10 = H5 53 10 := hf62 53 10 rfl
  have t100 : H57 44 2 = H5 44 2 := hf62 44 2 rfl
  have t101 : H57 53 44 = H5 53 44 := hf62 53 44 rfl
  have t102 : H57 20 2 = H5 20 2 := hf62 20 2 rfl
  have t103 : H57 53 16 = H5 53 16 := hf62 53 16 rfl
  have t104 : H57 1 7 = H5 1 7 := hf62 1 7 rfl
  have t105 : H57 53 0 = H5 53 0 := hf62 53 0 rfl
  have t106 : H57 1 8 = H5 1 8 := hf62 1 8 rfl
  have t107 : H57 53 2 = H5 53 2 := hf62 53 2 rfl
  refine fz_pop rfl kLc10 rfl ?_
  refine fz_goto (tgt := 1817) kLc10 rfl (by decide) ?_
  exact K H57 ⟨hI61, hX94, hXd70, hXh71, hXw63, (by rw [((hf62 53 10 rfl).trans (hf10 53 10 rfl))]; exact hv1), (by rw [((hf62 53 42 rfl).trans (hf10 53 42 rfl)), ((hf62 53 41 rfl).trans (hf10 53 41 rfl))]; exact hv2), (((hf62 9 5 rfl).trans (hf10 9 5 rfl)).trans (hr0.trans ((hf62 53 10 rfl).trans (hf10 53 10 rfl)).symm)), (((hf62 44 2 rfl).trans (hf10 44 2 rfl)).trans (hr1.trans ((hf62 53 44 rfl).trans (hf10 53 44 rfl)).symm)), (((hf62 20 2 rfl).trans (hf10 20 2 rfl)).trans (hr2.trans ((hf62 53 16 rfl).trans (hf10 53 16 rfl)).symm)), (((hf62 1 7 rfl).trans (hf10 1 7 rfl)).trans (hr3.trans ((hf62 53 0 rfl).trans (hf10 53 0 rfl)).symm)), (((hf62 1 8 rfl).trans (hf10 1 8 rfl)).trans (hr4.trans ((hf62 53 2 rfl).trans (hf10 53 2 rfl)).symm)), hRS72, hRP73, hRK74, hRR75, hRT76, hRE77, hR278, hR379, hR480, hR2881, hR582, hR683, hRG84, hRL85, hRC86, hRJ87, hRW88, hRV89, hRM64, hRP290, hRA91, hRU92, hRD93⟩ (funext fun s => hf69 200 s rfl)
def mLc11 : fz_M := (yL_law, code, 4, (some .boolean), [(577, .aload_n 1, 1, 0, 0, 0), (578, .aload_n 0, 1, 0, 0, 0), (579, .iload_n 3, 1, 0, 0, 0), (580, .iconst 1, 1, 0, 0, 0), (581, .iadd, 1, 0, 0, 0), (582, .iaload, 1, 0, 0, 0), (583, .aload_n 0, 1, 0, 0, 0), (584, .iload_n 3, 1, 0, 0, 0), (585, .iconst 2, 1, 0, 0, 0), (586, .iadd, 1, 0, 0, 0), (587, .iaload, 1, 0, 0, 0), (588, .invokevirtual 61, 3, 3191, 70, 0), (591, .pop, 1, 0, 0, 0), (592, .aload_n 2, 1, 0, 0, 0), (593, .aload_n 0, 1, 0, 0, 0), (594, .iload_n 3, 1, 0, 0, 0), (595, .iconst 1, 1, 0, 0, 0), (596, .iadd, 1, 0, 0, 0), (597, .iaload, 1, 0, 0, 0), (598, .aload_n 0, 1, 0, 0, 0), (599, .iload_n 3, 1, 0, 0, 0), (600, .iconst 2, 1, 0, 0, 0), (601, .iadd, 1, 0, 0, 0), (602, .iaload, 1, 0, 0, 0), (603, .invokevirtual 64, 3, 6217, 170, 0), (606, .pop, 1, 0, 0, 0), (607, .goto 1210, 3, 0, 0, 0)])
set_option maxRecDepth 100000 in
theorem kLc11 : fz_okM mLc11 = true := fz_okM_in (by decide +kernel) (by decide +kernel)
set_option maxHeartbeats 1000000 in
set_option maxRecDepth 100000 in
theorem lc11 (h : fz_H) (hI : fz_Iv h) (hX : fz_Xc h) (hXd : fz_Xd h) (hXh : fz_Xh h) (hXw : fz_Xw h) (hv1 : h 53 10 ≤ 10) (hv2 : h 53 42 ≤ h 53 41) (hr0 : h 9 5 = h 53 10) (hr1 : h 44 2 = h 53 44) (hr2 : h 20 2 = h 53 16) (hr3 : h 1 7 = h 53 0) (hr4 : h 1 8 = h 53 2) (hRS : fz_RS h) (hRP : fz_RP h) (hRK : fz_RK h) (hRR : fz_RR h) (hRT : fz_RT h) (hRE : fz_RE h) (hR2 : fz_R2 h) (hR3 : fz_R3 h) (hR4 : fz_R4 h) (hR28 : fz_R28 h) (hR5 : fz_R5 h) (hR6 : fz_R6 h) (hRG : fz_RG h) (hRL : fz_RL h) (hRC : fz_RC h) (hRJ : fz_RJ h) (hRW : fz_RW h) (hRV : fz_RV h) (hRM : fz_RM h) (hRP2 : fz_RP2 h) (hRA : fz_RA h) (hRU : fz_RU h) (hRD : fz_RD h) (i : Int) (hi : 0 ≤ i ∧ i + 6 ≤ h 200 100000 ∧ h 200 100000 ≤ 3072) {Q : fz_H → Option fz_V → Prop} (K : ∀ H : fz_H, fz_Gd H → H 200 = h 200 → fz_R 47 mLe 1817 [(3, fz_i i), (0, fz_r 200), (1, fz_r 0), (2, fz_r 53)] [] H Q) : fz_R 47 mLc11 577 [(3, fz_i i), (0, fz_r 200), (1, fz_r 0), (2, fz_r 53)] [] h Q := by
  have hf : fz_fr fz_all h h := fz_fr_rf
  refine fz_aload_n kLc11 rfl rfl ?_
  refine fz_aload_n kLc11 rfl rfl ?_
  refine fz_iload_n kLc11 rfl rfl ?_
  refine fz_iconst ⟨by decide, by decide⟩ kLc11 rfl ?_
  refine fz_iaddN kLc11 rfl (by omega) ?_
  obtain ⟨a1, e2⟩ : ∃ z, h 200 ((i + 1)).toNat = z := ⟨_, rfl⟩
  refine fz_taldV (v := a1) kLc11 rfl ⟨by decide, by decide⟩ (by omega) (by omega) e2 ?_
  refine fz_aload_n kLc11 rfl rfl ?_
  refine fz_iload_n kLc11 rfl rfl ?_
  refine fz_iconst ⟨by decide, by decide⟩ kLc11 rfl ?_
  refine fz_iaddN kLc11 rfl (by omega) ?_
  obtain ⟨a3, e4⟩ : ∃ z, h 200 ((i + 2)).toNat = z := ⟨_, rfl⟩
  refine fz_taldV (v := a3) kLc11 rfl ⟨by decide, by decide⟩ (by omega) (by omega) e4 ?_
  refine fz_callV (d' := 5) (M' := mX10_said) (As := [fz_i a1, fz_i a3]) (st := []) kLc11 rfl rfl vX10_said rfl rfl rfl rfl (Nat.le_of_ble_eq_true rfl) (Nat.le_of_ble_eq_true rfl) (by decide) (sX10_said h hI a1 a3 ) (fun H5 r6 q7 o8 => ?_)
  obtain ⟨hI9, hf10, y13, rfl, f11, f12⟩ := q7
  clear o8
  have hf14 := fz_fr_tr hf hf10 (fz_su_all rfl)
  have hXd15 : fz_Xd H5 := fz_Xd_eq (funext fun s => hf10 80 s rfl) hXd
  have hXh16 : fz_Xh H5 := fz_Xh_eq (funext fun s => hf10 83 s rfl) hXh
  have hXw17 : fz_Xw H5 := fz_Xw_eq (hf10 53 19 rfl) (funext fun s => hf10 66 s rfl) (funext fun s => hf10 67 s rfl) (funext fun s => hf10 68 s rfl) (funext fun s => hf10 69 s rfl) hXw
  have hRS18 : fz_RS H5 := fz_RS_eq (funext fun s => hf10 48 s rfl) (funext fun s => hf10 49 s rfl) (funext fun s => hf10 50 s rfl) (funext fun s => hf10 51 s rfl) (funext fun s => hf10 83 s rfl) (funext fun s => hf10 84 s rfl) (hf10 44 2 rfl) hRS
  have hRP19 : fz_RP H5 := fz_RP_eq (funext fun s => hf10 52 s rfl) (funext fun s => hf10 85 s rfl) hRP
  have hRK20 : fz_RK H5 := fz_RK_eq (funext fun s => hf10 45 s rfl) (funext fun s => hf10 81 s rfl) hRK
  have hRR21 : fz_RR H5 := fz_RR_eq (hf10 44 3 rfl) (hf10 53 46 rfl) (funext fun s => hf10 46 s rfl) (funext fun s => hf10 82 s rfl) hRR
  have hRT22 : fz_RT H5 := fz_RT_eq (funext fun s => hf10 41 s rfl) (funext fun s => hf10 42 s rfl) (hf10 1 7 rfl) hRT
  have hRE23 : fz_RE H5 := fz_RE_eq (funext fun s => hf10 5 s rfl) (funext fun s => hf10 6 s rfl) (hf10 1 8 rfl) (hf10 1 7 rfl) hRE
  have hR224 : fz_R2 H5 := fz_R2_eq (funext fun s => hf10 2 s rfl) (funext fun s => hf10 54 s rfl) hR2
  have hR325 : fz_R3 H5 := fz_R3_eq (funext fun s => hf10 3 s rfl) (funext fun s => hf10 57 s rfl) hR3
  have hR426 : fz_R4 H5 := fz_R4_eq (funext fun s => hf10 4 s rfl) (funext fun s => hf10 58 s rfl) hR4
  have hR2827 : fz_R28 H5 := fz_R28_eq (funext fun s => hf10 28 s rfl) (funext fun s => hf10 59 s rfl) hR28
  have hR528 : fz_R5 H5 := fz_R5_eq (funext fun s => hf10 5 s rfl) (funext fun s => hf10 55 s rfl) hR5
  have hR629 : fz_R6 H5 := fz_R6_eq (funext fun s => hf10 6 s rfl) (funext fun s => hf10 56 s rfl) hR6
  have hRG30 : fz_RG H5 := fz_RG_eq (hf10 27 8 rfl) (hf10 27 9 rfl) (hf10 53 8 rfl) (hf10 53 9 rfl) hRG
  have hRL31 : fz_RL H5 := fz_RL_eq (funext fun s => hf10 11 s rfl) (funext fun s => hf10 12 s rfl) (funext fun s => hf10 13 s rfl) (funext fun s => hf10 14 s rfl) (funext fun s => hf10 61 s rfl) (funext fun s => hf10 62 s rfl) (funext fun s => hf10 63 s rfl) (funext fun s => hf10 64 s rfl) (hf10 9 5 rfl) hRL
  have hRC32 : fz_RC H5 := fz_RC_eq (hf10 35 4 rfl) (hf10 35 5 rfl) (hf10 53 41 rfl) (hf10 53 42 rfl) (funext fun s => hf10 36 s rfl) (funext fun s => hf10 37 s rfl) (funext fun s => hf10 38 s rfl) (funext fun s => hf10 39 s rfl) (funext fun s => hf10 80 s rfl) (hf10 1 7 rfl) (hf10 1 8 rfl) (hf10 9 5 rfl) hRC
  have hRJ33 : fz_RJ H5 := fz_RJ_eq (hf10 40 1 rfl) (hf10 53 34 rfl) (funext fun s => hf10 41 s rfl) (funext fun s => hf10 76 s rfl) (hf10 40 6 rfl) (hf10 53 37 rfl) (funext fun s => hf10 42 s rfl) (funext fun s => hf10 78 s rfl) (hf10 43 0 rfl) (hf10 53 38 rfl) hRJ
  have hRW34 : fz_RW H5 := fz_RW_eq (funext fun s => hf10 10 s rfl) (funext fun s => hf10 60 s rfl) (hf10 9 5 rfl) hRW
  have hRV35 : fz_RV H5 := fz_RV_eq (funext fun s => hf10 7 s rfl) (funext fun s => hf10 8 s rfl) (funext fun s => hf10 3 s rfl) (funext fun s => hf10 4 s rfl) (funext fun s => hf10 5 s rfl) (funext fun s => hf10 6 s rfl) (hf10 1 7 rfl) (hf10 1 8 rfl) hRV
  have hRM36 : fz_RM H5 := fz_RM_eq (funext fun s => hf10 55 s rfl) (funext fun s => hf10 56 s rfl) (hf10 53 0 rfl) (hf10 53 2 rfl) hRM
  have hRP237 : fz_RP2 H5 := fz_RP2_eq (funext fun s => hf10 11 s rfl) (hf10 9 5 rfl) (hf10 1 7 rfl) hRP2
  have hRA38 : fl_RA H5 := fl_RA_eq (funext fun s => hf10 26 s rfl) (funext fun s => hf10 65 s rfl) (hf10 20 2 rfl) hRA
  have hRU39 : fl_RU H5 := fl_RU_eq (hf10 15 4 rfl) (funext fun s => hf10 16 s rfl) (funext fun s => hf10 17 s rfl) (hf10 53 18 rfl) (hf10 53 19 rfl) (funext fun s => hf10 66 s rfl) (funext fun s => hf10 67 s rfl) (funext fun s => hf10 68 s rfl) (funext fun s => hf10 69 s rfl) hRU
  have hRD40 : fl_RD H5 := fl_RD_eq (hf10 40 2 rfl) (hf10 40 3 rfl) (hf10 40 4 rfl) (hf10 40 5 rfl) (funext fun s => hf10 77 s rfl) (hf10 43 1 rfl) (hf10 43 2 rfl) (hf10 43 3 rfl) (hf10 43 4 rfl) (funext fun s => hf10 79 s rfl) hRD
  have hX41 : fz_Xc H5 := fz_Xc_fr hf10 rfl hX
  have t42 : H5 53 10 = h 53 10 := hf10 53 10 rfl
  have t43 : H5 53 41 = h 53 41 := hf10 53 41 rfl
  have t44 : H5 53 42 = h 53 42 := hf10 53 42 rfl
  have t45 : H5 9 5 = h 9 5 := hf10 9 5 rfl
  have t46 : H5 53 10 = h 53 10 := hf10 53 10 rfl
  have t47 : H5 44 2 = h 44 2 := hf10 44 2 rfl
  have t48 : H5 53 44 = h 53 44 := hf10 53 44 rfl
  have t49 : H5 20 2 = h 20 2 := hf10 20 2 rfl
  have t50 : H5 53 16 = h 53 16 := hf10 53 16 rfl
  have t51 : H5 1 7 = h 1 7 := hf10 1 7 rfl
  have t52 : H5 53 0 = h 53 0 := hf10 53 0 rfl
  have t53 : H5 1 8 = h 1 8 := hf10 1 8 rfl
  have t54 : H5 53 2 = h 53 2 := hf10 53 2 rfl
  refine fz_pop rfl kLc11 rfl ?_
  refine fz_aload_n kLc11 rfl rfl ?_
  refine fz_aload_n kLc11 rfl rfl ?_
  refine fz_iload_n kLc11 rfl rfl ?_
  refine fz_iconst ⟨by decide, by decide⟩ kLc11 rfl ?_
  refine fz_iaddN kLc11 rfl (by omega) ?_
  refine fz_taldV (v := a1) kLc11 rfl ⟨by decide, by decide⟩ (by omega) (by rw [hf14 200 _ rfl]; omega) ((hf14 200 _ rfl).trans e2) ?_
  refine fz_aload_n kLc11 rfl rfl ?_
  refine fz_iload_n kLc11 rfl rfl ?_
  refine fz_iconst ⟨by decide, by decide⟩ kLc11 rfl ?_
  refine fz_iaddN kLc11 rfl (by omega) ?_
  refine fz_taldV (v := a3) kLc11 rfl ⟨by decide, by decide⟩ (by omega) (by rw [hf14 200 _ rfl]; omega) ((hf14 200 _ rfl).trans e4) ?_
  have hRPm55 : fl_RPm H5 := by first | exact fl_RPm_eq (funext fun s => hf10 61 s rfl) (hf10 53 10 rfl) (hf10 53 0 rfl) (fl_RPm_of hRL hRP2 hr3.symm hr0.symm) | exact fl_RPm_of hRL hRP2 hr3.symm hr0.symm
  refine fz_callV (d' := 4) (M' := mX11_said) (As := [fz_i a1, fz_i a3]) (st := []) kLc11 rfl rfl vX11_said rfl rfl rfl rfl (Nat.le_of_ble_eq_true rfl) (Nat.le_of_ble_eq_true rfl) (by decide) (sX11_said H5 hI9 a1 a3 hXw17 hRM36 hRPm55) (fun H57 r58 q59 o60 => ?_)
  obtain ⟨hI61, hf62, hXw63, hRM64, hRPm65, y68, rfl, f66, f67⟩ := q59
  clear o60
  have hf69 := fz_fr_tr hf14 hf62 (fz_su_all rfl)
  have hXd70 : fz_Xd H57 := fz_Xd_eq (funext fun s => hf62 80 s rfl) hXd15
  have hXh71 : fz_Xh H57 := fz_Xh_eq (funext fun s => hf62 83 s rfl) hXh16
  have hRS72 : fz_RS H57 := fz_RS_eq (funext fun s => hf62 48 s rfl) (funext fun s => hf62 49 s rfl) (funext fun s => hf62 50 s rfl) (funext fun s => hf62 51 s rfl) (funext fun s => hf62 83 s rfl) (funext fun s => hf62 84 s rfl) (hf62 44 2 rfl) hRS18
  have hRP73 : fz_RP H57 := fz_RP_eq (funext fun s => hf62 52 s rfl) (funext fun s => hf62 85 s rfl) hRP19
  have hRK74 : fz_RK H57 := fz_RK_eq (funext fun s => hf62 45 s rfl) (funext fun s => hf62 81 s rfl) hRK20
  have hRR75 : fz_RR H57 := fz_RR_eq (hf62 44 3 rfl) (hf62 53 46 rfl) (funext fun s => hf62 46 s rfl) (funext fun s => hf62 82 s rfl) hRR21
  have hRT76 : fz_RT H57 := fz_RT_eq (funext fun s => hf62 41 s rfl) (funext fun s => hf62 42 s rfl) (hf62 1 7 rfl) hRT22
  have hRE77 : fz_RE H57 := fz_RE_eq (funext fun s => hf62 5 s rfl) (funext fun s => hf62 6 s rfl) (hf62 1 8 rfl) (hf62 1 7 rfl) hRE23
  have hR278 : fz_R2 H57 := fz_R2_eq (funext fun s => hf62 2 s rfl) (funext fun s => hf62 54 s rfl) hR224
  have hR379 : fz_R3 H57 := fz_R3_eq (funext fun s => hf62 3 s rfl) (funext fun s => hf62 57 s rfl) hR325
  have hR480 : fz_R4 H57 := fz_R4_eq (funext fun s => hf62 4 s rfl) (funext fun s => hf62 58 s rfl) hR426
  have hR2881 : fz_R28 H57 := fz_R28_eq (funext fun s => hf62 28 s rfl) (funext fun s => hf62 59 s rfl) hR2827
  have hR582 : fz_R5 H57 := fz_R5_eq (funext fun s => hf62 5 s rfl) (funext fun s => hf62 55 s rfl) hR528
  have hR683 : fz_R6 H57 := fz_R6_eq (funext fun s => hf62 6 s rfl) (funext fun s => hf62 56 s rfl) hR629
  have hRG84 : fz_RG H57 := fz_RG_eq (hf62 27 8 rfl) (hf62 27 9 rfl) (hf62 53 8 rfl) (hf62 53 9 rfl) hRG30
  have hRL85 : fz_RL H57 := fz_RL_eq (funext fun s => hf62 11 s rfl) (funext fun s => hf62 12 s rfl) (funext fun s => hf62 13 s rfl) (funext fun s => hf62 14 s rfl) (funext fun s => hf62 61 s rfl) (funext fun s => hf62 62 s rfl) (funext fun s => hf62 63 s rfl) (funext fun s => hf62 64 s rfl) (hf62 9 5 rfl) hRL31
  have hRC86 : fz_RC H57 := fz_RC_eq (hf62 35 4 rfl) (hf62 35 5 rfl) (hf62 53 41 rfl) (hf62 53 42 rfl) (funext fun s => hf62 36 s rfl) (funext fun s => hf62 37 s rfl) (funext fun s => hf62 38 s rfl) (funext fun s => hf62 39 s rfl) (funext fun s => hf62 80 s rfl) (hf62 1 7 rfl) (hf62 1 8 rfl) (hf62 9 5 rfl) hRC32
  have hRJ87 : fz_RJ H57 := fz_RJ_eq (hf62 40 1 rfl) (hf62 53 34 rfl) (funext fun s => hf62 41 s rfl) (funext fun s => hf62 76 s rfl) (hf62 40 6 rfl) (hf62 53 37 rfl) (funext fun s => hf62 42 s rfl) (funext fun s => hf62 78 s rfl) (hf62 43 0 rfl) (hf62 53 38 rfl) hRJ33
  have hRW88 : fz_RW H57 := fz_RW_eq (funext fun s => hf62 10 s rfl) (funext fun s => hf62 60 s rfl) (hf62 9 5 rfl) hRW34
  have hRV89 : fz_RV H57 := fz_RV_eq (funext fun s => hf62 7 s rfl) (funext fun s => hf62 8 s rfl) (funext fun s => hf62 3 s rfl) (funext fun s => hf62 4 s rfl) (funext fun s => hf62 5 s rfl) (funext fun s => hf62 6 s rfl) (hf62 1 7 rfl) (hf62 1 8 rfl) hRV35
  have hRP290 : fz_RP2 H57 := fz_RP2_eq (funext fun s => hf62 11 s rfl) (hf62 9 5 rfl) (hf62 1 7 rfl) hRP237
  have hRA91 : fl_RA H57 := fl_RA_eq (funext fun s => hf62 26 s rfl) (funext fun s => hf62 65 s rfl) (hf62 20 2 rfl) hRA38
  have hRU92 : fl_RU H57 := fl_RU_eq (hf62 15 4 rfl) (funext fun s => hf62 16 s rfl) (funext fun s => hf62 17 s rfl) (hf62 53 18 rfl) (hf62 53 19 rfl) (funext fun s => hf62 66 s rfl) (funext fun s => hf62 67 s rfl) (funext fun s => hf62 68 s rfl) (funext fun s => hf62 69 s rfl) hRU39
  have hRD93 : fl_RD H57 := fl_RD_eq (hf62 40 2 rfl) (hf62 40 3 rfl) (hf62 40 4 rfl) (hf62 40 5 rfl) (funext fun s => hf62 77 s rfl) (hf62 43 1 rfl) (hf62 43 2 rfl) (hf62 43 3 rfl) (hf62 43 4 rfl) (funext fun s => hf62 79 s rfl) hRD40
  have hX94 : fz_Xc H57 := fz_Xc_fr hf62 rfl hX41
  have t95 : H57 53 10 = H5 53 10 := hf62 53 10 rfl
  have t96 : H57 53 41 = H5 53 41 := hf62 53 41 rfl
  have t97 : H57 53 42 = H5 53 42 := hf62 53 42 rfl
  have t98 : H57 9 5 = H5 9 5 := hf62 9 5 rfl
  have t99 : H57 53 10 = H5 53 10 := hf62 53 10 rfl
  have t100 : H57 44 2 = H5 44 2 := hf62 44 2 rfl
  have t101 : H57 53 44 = H5 53 44 := hf62 53 44 rfl
  have t102 : H57 20 2 = H5 20 2 := hf62 20 2 rfl
  have t103 : H57 53 16 = H5 53 16 := hf62 53 16 rfl
  have t104 : H57 1 7 = H5 1 7 := hf62 1 7 rfl
  have t105 : H57 53 0 = H5 53 0 := hf62 53 0 rfl
  have t106 : H57 1 8 = H5 1 8 := hf62 1 8 rfl
  have t107 : H57 53 2 = H5 53 2 := hf62 53 2 rfl
  refine fz_pop rfl kLc11 rfl ?_
  refine fz_goto (tgt := 1817) kLc11 rfl (by decide) ?_
  exact K H57 ⟨hI61, hX94, hXd70, hXh71, hXw63, (by rw [((hf62 53 10 rfl).trans (hf10 53 10 rfl))]; exact hv1), (by rw [((hf62 53 42 rfl).trans (hf10 53 42 rfl)), ((hf62 53 41 rfl).trans (hf10 53 41 rfl))]; exact hv2), (((hf62 9 5 rfl).trans (hf10 9 5 rfl)).trans (hr0.trans ((hf62 53 10 rfl).trans (hf10 53 10 rfl)).symm)), (((hf62 44 2 rfl).trans (hf10 44 2 rfl)).trans (hr1.trans ((hf62 53 44 rfl).trans (hf10 53 44 rfl)).symm)), (((hf62 20 2 rfl).trans (hf10 20 2 rfl)).trans (hr2.trans ((hf62 53 16 rfl).trans (hf10 53 16 rfl)).symm)), (((hf62 1 7 rfl).trans (hf10 1 7 rfl)).trans (hr3.trans ((hf62 53 0 rfl).trans (hf10 53 0 rfl)).symm)), (((hf62 1 8 rfl).trans (hf10 1 8 rfl)).trans (hr4.trans ((hf62 53 2 rfl).trans (hf10 53 2 rfl)).symm)), hRS72, hRP73, hRK74, hRR75, hRT76, hRE77, hR278, hR379, hR480, hR2881, hR582, hR683, hRG84, hRL85, hRC86, hRJ87, hRW88, hRV89, hRM64, hRP290, hRA91, hRU92, hRD93⟩ (funext fun s => hf69 200 s rfl)
def mLc12 : fz_M := (yL_law, code, 4, (some .boolean), [(610, .aload_n 1, 1, 0, 0, 0), (611, .aload_n 0, 1, 0, 0, 0), (612, .iload_n 3, 1, 0, 0, 0), (613, .iconst 1, 1, 0, 0, 0), (614, .iadd, 1, 0, 0, 0), (615, .iaload, 1, 0, 0, 0), (616, .aload_n 0, 1, 0, 0, 0), (617, .iload_n 3, 1, 0, 0, 0), (618, .iconst 2, 1, 0, 0, 0), (619, .iadd, 1, 0, 0, 0), (620, .iaload, 1, 0, 0, 0), (621, .aload_n 0, 1, 0, 0, 0), (622, .iload_n 3, 1, 0, 0, 0), (623, .iconst 3, 1, 0, 0, 0), (624, .iadd, 1, 0, 0, 0), (625, .iaload, 1, 0, 0, 0), (626, .invokevirtual 65, 3, 3201, 63, 0), (629, .pop, 1, 0, 0, 0), (630, .aload_n 2, 1, 0, 0, 0), (631, .aload_n 0, 1, 0, 0, 0), (632, .iload_n 3, 1, 0, 0, 0), (633, .iconst 1, 1, 0, 0, 0), (634, .iadd, 1, 0, 0, 0), (635, .iaload, 1, 0, 0, 0), (636, .aload_n 0, 1, 0, 0, 0), (637, .iload_n 3, 1, 0, 0, 0), (638, .iconst 2, 1, 0, 0, 0), (639, .iadd, 1, 0, 0, 0), (640, .iaload, 1, 0, 0, 0), (641, .aload_n 0, 1, 0, 0, 0), (642, .iload_n 3, 1, 0, 0, 0), (643, .iconst 3, 1, 0, 0, 0), (644, .iadd, 1, 0, 0, 0), (645, .iaload, 1, 0, 0, 0), (646, .invokevirtual 68, 3, 6229, 163, 0), (649, .pop, 1, 0, 0, 0), (650, .goto 1167, 3, 0, 0, 0)])
set_option maxRecDepth 100000 in
theorem kLc12 : fz_okM mLc12 = true := fz_okM_in (by decide +kernel) (by decide +kernel)
set_option maxHeartbeats 1000000 in
set_option maxRecDepth 100000 in
theorem lc12 (h : fz_H) (hI : fz_Iv h) (hX : fz_Xc h) (hXd : fz_Xd h) (hXh : fz_Xh h) (hXw : fz_Xw h) (hv1 : h 53 10 ≤ 10) (hv2 : h 53 42 ≤ h 53 41) (hr0 : h 9 5 = h 53 10) (hr1 : h 44 2 = h 53 44) (hr2 : h 20 2 = h 53 16) (hr3 : h 1 7 = h 53 0) (hr4 : h 1 8 = h 53 2) (hRS : fz_RS h) (hRP : fz_RP h) (hRK : fz_RK h) (hRR : fz_RR h) (hRT : fz_RT h) (hRE : fz_RE h) (hR2 : fz_R2 h) (hR3 : fz_R3 h) (hR4 : fz_R4 h) (hR28 : fz_R28 h) (hR5 : fz_R5 h) (hR6 : fz_R6 h) (hRG : fz_RG h) (hRL : fz_RL h) (hRC : fz_RC h) (hRJ : fz_RJ h) (hRW : fz_RW h) (hRV : fz_RV h) (hRM : fz_RM h) (hRP2 : fz_RP2 h) (hRA : fz_RA h) (hRU : fz_RU h) (hRD : fz_RD h) (i : Int) (hi : 0 ≤ i ∧ i + 6 ≤ h 200 100000 ∧ h 200 100000 ≤ 3072) {Q : fz_H → Option fz_V → Prop} (K : ∀ H : fz_H, fz_Gd H → H 200 = h 200 → fz_R 47 mLe 1817 [(3, fz_i i), (0, fz_r 200), (1, fz_r 0), (2, fz_r 53)] [] H Q) : fz_R 47 mLc12 610 [(3, fz_i i), (0, fz_r 200), (1, fz_r 0), (2, fz_r 53)] [] h Q := by
  have hf : fz_fr fz_all h h := fz_fr_rf
  refine fz_aload_n kLc12 rfl rfl ?_
  refine fz_aload_n kLc12 rfl rfl ?_
  refine fz_iload_n kLc12 rfl rfl ?_
  refine fz_iconst ⟨by decide, by decide⟩ kLc12 rfl ?_
  refine fz_iaddN kLc12 rfl (by omega) ?_
  obtain ⟨a1, e2⟩ : ∃ z, h 200 ((i + 1)).toNat = z := ⟨_, rfl⟩
  refine fz_taldV (v := a1) kLc12 rfl ⟨by decide, by decide⟩ (by omega) (by omega) e2 ?_
  refine fz_aload_n kLc12 rfl rfl ?_
  refine fz_iload_n kLc12 rfl rfl ?_
  refine fz_iconst ⟨by decide, by decide⟩ kLc12 rfl ?_
  refine fz_iaddN kLc12 rfl (by omega) ?_
  obtain ⟨a3, e4⟩ : ∃ z, h 200 ((i + 2)).toNat = z := ⟨_, rfl⟩
  refine fz_taldV (v := a3) kLc12 rfl ⟨by decide, by decide⟩ (by omega) (by omega) e4 ?_
  refine fz_aload_n kLc12 rfl rfl ?_
  refine fz_iload_n kLc12 rfl rfl ?_
  refine fz_iconst ⟨by decide, by decide⟩ kLc12 rfl ?_
  refine fz_iaddN kLc12 rfl (by omega) ?_
  obtain ⟨a5, e6⟩ : ∃ z, h 200 ((i + 3)).toNat = z := ⟨_, rfl⟩
  refine fz_taldV (v := a5) kLc12 rfl ⟨by decide, by decide⟩ (by omega) (by omega) e6 ?_
  refine fz_callV (d' := 5) (M' := mX10_received) (As := [fz_i a1, fz_i a3, fz_i a5]) (st := []) kLc12 rfl rfl vX10_received rfl rfl rfl rfl (Nat.le_of_ble_eq_true rfl) (Nat.le_of_ble_eq_true rfl) (by decide) (sX10_received h hI a1 a3 a5 ) (fun H7 r8 q9 o10 => ?_)
  obtain ⟨hI11, hf12, y15, rfl, f13, f14⟩ := q9
  clear o10
  have hf16 := fz_fr_tr hf hf12 (fz_su_all rfl)
  have hXd17 : fz_Xd H7 := fz_Xd_eq (funext fun s => hf12 80 s rfl) hXd
  have hXh18 : fz_Xh H7 := fz_Xh_eq (funext fun s => hf12 83 s rfl) hXh
  have hXw19 : fz_Xw H7 := fz_Xw_eq (hf12 53 19 rfl) (funext fun s => hf12 66 s rfl) (funext fun s => hf12 67 s rfl) (funext fun s => hf12 68 s rfl) (funext fun s => hf12 69 s rfl) hXw
  have hRS20 : fz_RS H7 := fz_RS_eq (funext fun s => hf12 48 s rfl) (funext fun s => hf12 49 s rfl) (funext fun s => hf12 50 s rfl) (funext fun s => hf12 51 s rfl) (funext fun s => hf12 83 s rfl) (funext fun s => hf12 84 s rfl) (hf12 44 2 rfl) hRS
  have hRP21 : fz_RP H7 := fz_RP_eq (funext fun s => hf12 52 s rfl) (funext fun s => hf12 85 s rfl) hRP
  have hRK22 : fz_RK H7 := fz_RK_eq (funext fun s => hf12 45 s rfl) (funext fun s => hf12 81 s rfl) hRK
  have hRR23 : fz_RR H7 := fz_RR_eq (hf12 44 3 rfl) (hf12 53 46 rfl) (funext fun s => hf12 46 s rfl) (funext fun s => hf12 82 s rfl) hRR
  have hRT24 : fz_RT H7 := fz_RT_eq (funext fun s => hf12 41 s rfl) (funext fun s => hf12 42 s rfl) (hf12 1 7 rfl) hRT
  have hRE25 : fz_RE H7 := fz_RE_eq (funext fun s => hf12 5 s rfl) (funext fun s => hf12 6 s rfl) (hf12 1 8 rfl) (hf12 1 7 rfl) hRE
  have hR226 : fz_R2 H7 := fz_R2_eq (funext fun s => hf12 2 s rfl) (funext fun s => hf12 54 s rfl) hR2
  have hR327 : fz_R3 H7 := fz_R3_eq (funext fun s => hf12 3 s rfl) (funext fun s => hf12 57 s rfl) hR3
  have hR428 : fz_R4 H7 := fz_R4_eq (funext fun s => hf12 4 s rfl) (funext fun s => hf12 58 s rfl) hR4
  have hR2829 : fz_R28 H7 := fz_R28_eq (funext fun s => hf12 28 s rfl) (funext fun s => hf12 59 s rfl) hR28
  have hR530 : fz_R5 H7 := fz_R5_eq (funext fun s => hf12 5 s rfl) (funext fun s => hf12 55 s rfl) hR5
  have hR631 : fz_R6 H7 := fz_R6_eq (funext fun s => hf12 6 s rfl) (funext fun s => hf12 56 s rfl) hR6
  have hRG32 : fz_RG H7 := fz_RG_eq (hf12 27 8 rfl) (hf12 27 9 rfl) (hf12 53 8 rfl) (hf12 53 9 rfl) hRG
  have hRL33 : fz_RL H7 := fz_RL_eq (funext fun s => hf12 11 s rfl) (funext fun s => hf12 12 s rfl) (funext fun s => hf12 13 s rfl) (funext fun s => hf12 14 s rfl) (funext fun s => hf12 61 s rfl) (funext fun s => hf12 62 s rfl) (funext fun s => hf12 63 s rfl) (funext fun s => hf12 64 s rfl) (hf12 9 5 rfl) hRL
  have hRC34 : fz_RC H7 := fz_RC_eq (hf12 35 4 rfl) (hf12 35 5 rfl) (hf12 53 41 rfl) (hf12 53 42 rfl) (funext fun s => hf12 36 s rfl) (funext fun s => hf12 37 s rfl) (funext fun s => hf12 38 s rfl) (funext fun s => hf12 39 s rfl) (funext fun s => hf12 80 s rfl) (hf12 1 7 rfl) (hf12 1 8 rfl) (hf12 9 5 rfl) hRC
  have hRJ35 : fz_RJ H7 := fz_RJ_eq (hf12 40 1 rfl) (hf12 53 34 rfl) (funext fun s => hf12 41 s rfl) (funext fun s => hf12 76 s rfl) (hf12 40 6 rfl) (hf12 53 37 rfl) (funext fun s => hf12 42 s rfl) (funext fun s => hf12 78 s rfl) (hf12 43 0 rfl) (hf12 53 38 rfl) hRJ
  have hRW36 : fz_RW H7 := fz_RW_eq (funext fun s => hf12 10 s rfl) (funext fun s => hf12 60 s rfl) (hf12 9 5 rfl) hRW
  have hRV37 : fz_RV H7 := fz_RV_eq (funext fun s => hf12 7 s rfl) (funext fun s => hf12 8 s rfl) (funext fun s => hf12 3 s rfl) (funext fun s => hf12 4 s rfl) (funext fun s => hf12 5 s rfl) (funext fun s => hf12 6 s rfl) (hf12 1 7 rfl) (hf12 1 8 rfl) hRV
  have hRM38 : fz_RM H7 := fz_RM_eq (funext fun s => hf12 55 s rfl) (funext fun s => hf12 56 s rfl) (hf12 53 0 rfl) (hf12 53 2 rfl) hRM
  have hRP239 : fz_RP2 H7 := fz_RP2_eq (funext fun s => hf12 11 s rfl) (hf12 9 5 rfl) (hf12 1 7 rfl) hRP2
  have hRA40 : fl_RA H7 := fl_RA_eq (funext fun s => hf12 26 s rfl) (funext fun s => hf12 65 s rfl) (hf12 20 2 rfl) hRA
  have hRU41 : fl_RU H7 := fl_RU_eq (hf12 15 4 rfl) (funext fun s => hf12 16 s rfl) (funext fun s => hf12 17 s rfl) (hf12 53 18 rfl) (hf12 53 19 rfl) (funext fun s => hf12 66 s rfl) (funext fun s => hf12 67 s rfl) (funext fun s => hf12 68 s rfl) (funext fun s => hf12 69 s rfl) hRU
  have hRD42 : fl_RD H7 := fl_RD_eq (hf12 40 2 rfl) (hf12 40 3 rfl) (hf12 40 4 rfl) (hf12 40 5 rfl) (funext fun s => hf12 77 s rfl) (hf12 43 1 rfl) (hf12 43 2 rfl) (hf12 43 3 rfl) (hf12 43 4 rfl) (funext fun s => hf12 79 s rfl) hRD
  have hX43 : fz_Xc H7 := fz_Xc_fr hf12 rfl hX
  have t44 : H7 53 10 = h 53 10 := hf12 53 10 rfl
  have t45 : H7 53 41 = h 53 41 := hf12 53 41 rfl
  have t46 : H7 53 42 = h 53 42 := hf12 53 42 rfl
  have t47 : H7 9 5 = h 9 5 := hf12 9 5 rfl
  have t48 : H7 53 10 = h 53 10 := hf12 53 10 rfl
  have t49 : H7 44 2 = h 44 2 := hf12 44 2 rfl
  have t50 : H7 53 44 = h 53 44 := hf12 53 44 rfl
  have t51 : H7 20 2 = h 20 2 := hf12 20 2 rfl
  have t52 : H7 53 16 = h 53 16 := hf12 53 16 rfl
  have t53 : H7 1 7 = h 1 7 := hf12 1 7 rfl
  have t54 : H7 53 0 = h 53 0 := hf12 53 0 rfl
  have t55 : H7 1 8 = h 1 8 := hf12 1 8 rfl
  have t56 : H7 53 2 = h 53 2 := hf12 53 2 rfl
  refine fz_pop rfl kLc12 rfl ?_
  refine fz_aload_n kLc12 rfl rfl ?_
  refine fz_aload_n kLc12 rfl rfl ?_
  refine fz_iload_n kLc12 rfl rfl ?_
  refine fz_iconst ⟨by decide, by decide⟩ kLc12 rfl ?_
  refine fz_iaddN kLc12 rfl (by omega) ?_
  refine fz_taldV (v := a1) kLc12 rfl ⟨by decide, by decide⟩ (by omega) (by rw [hf16 200 _ rfl]; omega) ((hf16 200 _ rfl).trans e2) ?_
  refine fz_aload_n kLc12 rfl rfl ?_
  refine fz_iload_n kLc12 rfl rfl ?_
  refine fz_iconst ⟨by decide, by decide⟩ kLc12 rfl ?_
  refine fz_iaddN kLc12 rfl (by omega) ?_
  refine fz_taldV (v := a3) kLc12 rfl ⟨by decide, by decide⟩ (by omega) (by rw [hf16 200 _ rfl]; omega) ((hf16 200 _ rfl).trans e4) ?_
  refine fz_aload_n kLc12 rfl rfl ?_
  refine fz_iload_n kLc12 rfl rfl ?_
  refine fz_iconst ⟨by decide, by decide⟩ kLc12 rfl ?_
  refine fz_iaddN kLc12 rfl (by omega) ?_
  refine fz_taldV (v := a5) kLc12 rfl ⟨by decide, by decide⟩ (by omega) (by rw [hf16 200 _ rfl]; omega) ((hf16 200 _ rfl).trans e6) ?_
  have hRPm57 : fl_RPm H7 := by first | exact fl_RPm_eq (funext fun s => hf12 61 s rfl) (hf12 53 10 rfl) (hf12 53 0 rfl) (fl_RPm_of hRL hRP2 hr3.symm hr0.symm) | exact fl_RPm_of hRL hRP2 hr3.symm hr0.symm
  refine fz_callV (d' := 5) (M' := mX11_received) (As := [fz_i a1, fz_i a3, fz_i a5]) (st := []) kLc12 rfl rfl vX11_received rfl rfl rfl rfl (Nat.le_of_ble_eq_true rfl) (Nat.le_of_ble_eq_true rfl) (by decide) (sX11_received H7 hI11 a1 a3 a5 hXw19 hRM38 hRPm57) (fun H59 r60 q61 o62 => ?_)
  obtain ⟨hI63, hf64, hXw65, hRM66, hRPm67, y70, rfl, f68, f69⟩ := q61
  clear o62
  have hf71 := fz_fr_tr hf16 hf64 (fz_su_all rfl)
  have hXd72 : fz_Xd H59 := fz_Xd_eq (funext fun s => hf64 80 s rfl) hXd17
  have hXh73 : fz_Xh H59 := fz_Xh_eq (funext fun s => hf64 83 s rfl) hXh18
  have hRS74 : fz_RS H59 := fz_RS_eq (funext fun s => hf64 48 s rfl) (funext fun s => hf64 49 s rfl) (funext fun s => hf64 50 s rfl) (funext fun s => hf64 51 s rfl) (funext fun s => hf64 83 s rfl) (funext fun s => hf64 84 s rfl) (hf64 44 2 rfl) hRS20
  have hRP75 : fz_RP H59 := fz_RP_eq (funext fun s => hf64 52 s rfl) (funext fun s => hf64 85 s rfl) hRP21
  have hRK76 : fz_RK H59 := fz_RK_eq (funext fun s => hf64 45 s rfl) (funext fun s => hf64 81 s rfl) hRK22
  have hRR77 : fz_RR H59 := fz_RR_eq (hf64 44 3 rfl) (hf64 53 46 rfl) (funext fun s => hf64 46 s rfl) (funext fun s => hf64 82 s rfl) hRR23
  have hRT78 : fz_RT H59 := fz_RT_eq (funext fun s => hf64 41 s rfl) (funext fun s => hf64 42 s rfl) (hf64 1 7 rfl) hRT24
  have hRE79 : fz_RE H59 := fz_RE_eq (funext fun s => hf64 5 s rfl) (funext fun s => hf64 6 s rfl) (hf64 1 8 rfl) (hf64 1 7 rfl) hRE25
  have hR280 : fz_R2 H59 := fz_R2_eq (funext fun s => hf64 2 s rfl) (funext fun s => hf64 54 s rfl) hR226
  have hR381 : fz_R3 H59 := fz_R3_eq (funext fun s => hf64 3 s rfl) (funext fun s => hf64 57 s rfl) hR327
  have hR482 : fz_R4 H59 := fz_R4_eq (funext fun s => hf64 4 s rfl) (funext fun s => hf64 58 s rfl) hR428
  have hR2883 : fz_R28 H59 := fz_R28_eq (funext fun s => hf64 28 s rfl) (funext fun s => hf64 59 s rfl) hR2829
  have hR584 : fz_R5 H59 := fz_R5_eq (funext fun s => hf64 5 s rfl) (funext fun s => hf64 55 s rfl) hR530
  have hR685 : fz_R6 H59 := fz_R6_eq (funext fun s => hf64 6 s rfl) (funext fun s => hf64 56 s rfl) hR631
  have hRG86 : fz_RG H59 := fz_RG_eq (hf64 27 8 rfl) (hf64 27 9 rfl) (hf64 53 8 rfl) (hf64 53 9 rfl) hRG32
  have hRL87 : fz_RL H59 := fz_RL_eq (funext fun s => hf64 11 s rfl) (funext fun s => hf64 12 s rfl) (funext fun s => hf64 13 s rfl) (funext fun s => hf64 14 s rfl) (funext fun s => hf64 61 s rfl) (funext fun s => hf64 62 s rfl) (funext fun s => hf64 63 s rfl) (funext fun s => hf64 64 s rfl) (hf64 9 5 rfl) hRL33
  have hRC88 : fz_RC H59 := fz_RC_eq (hf64 35 4 rfl) (hf64 35 5 rfl) (hf64 53 41 rfl) (hf64 53 42 rfl) (funext fun s => hf64 36 s rfl) (funext fun s => hf64 37 s rfl) (funext fun s => hf64 38 s rfl) (funext fun s => hf64 39 s rfl) (funext fun s => hf64 80 s rfl) (hf64 1 7 rfl) (hf64 1 8 rfl) (hf64 9 5 rfl) hRC34
  have hRJ89 : fz_RJ H59 := fz_RJ_eq (hf64 40 1 rfl) (hf64 53 34 rfl) (funext fun s => hf64 41 s rfl) (funext fun s => hf64 76 s rfl) (hf64 40 6 rfl) (hf64 53 37 rfl) (funext fun s => hf64 42 s rfl) (funext fun s => hf64 78 s rfl) (hf64 43 0 rfl) (hf64 53 38 rfl) hRJ35
  have hRW90 : fz_RW H59 := fz_RW_eq (funext fun s => hf64 10 s rfl) (funext fun s => hf64 60 s rfl) (hf64 9 5 rfl) hRW36
  have hRV91 : fz_RV H59 := fz_RV_eq (funext fun s => hf64 7 s rfl) (funext fun s => hf64 8 s rfl) (funext fun s => hf64 3 s rfl) (funext fun s => hf64 4 s rfl) (funext fun s => hf64 5 s rfl) (funext fun s => hf64 6 s rfl) (hf64 1 7 rfl) (hf64 1 8 rfl) hRV37
  have hRP292 : fz_RP2 H59 := fz_RP2_eq (funext fun s => hf64 11 s rfl) (hf64 9 5 rfl) (hf64 1 7 rfl) hRP239
  have hRA93 : fl_RA H59 := fl_RA_eq (funext fun s => hf64 26 s rfl) (funext fun s => hf64 65 s rfl) (hf64 20 2 rfl) hRA40
  have hRU94 : fl_RU H59 := fl_RU_eq (hf64 15 4 rfl) (funext fun s => hf64 16 s rfl) (funext fun s => hf64 17 s rfl) (hf64 53 18 rfl) (hf64 53 19 rfl) (funext fun s => hf64 66 s rfl) (funext fun s => hf64 67 s rfl) (funext fun s => hf64 68 s rfl) (funext fun s => hf64 69 s rfl) hRU41
  have hRD95 : fl_RD H59 := fl_RD_eq (hf64 40 2 rfl) (hf64 40 3 rfl) (hf64 40 4 rfl) (hf64 40 5 rfl) (funext fun s => hf64 77 s rfl) (hf64 43 1 rfl) (hf64 43 2 rfl) (hf64 43 3 rfl) (hf64 43 4 rfl) (funext fun s => hf64 79 s rfl) hRD42
  have hX96 : fz_Xc H59 := fz_Xc_fr hf64 rfl hX43
  have t97 : H59 53 10 = H7 53 10 := hf64 53 10 rfl
  have t98 : H59 53 41 = H7 53 41 := hf64 53 41 rfl
  have t99 : H59 53 42 = H7 53 42 := hf64 53 42 rfl
  have t100 : H59 9 5 = H7 9 5 := hf64 9 5 rfl
  have t101 : H59 53 10 = H7 53 10 := hf64 53 10 rfl
  have t102 : H59 44 2 = H7 44 2 := hf64 44 2 rfl
  have t103 : H59 53 44 = H7 53 44 := hf64 53 44 rfl
  have t104 : H59 20 2 = H7 20 2 := hf64 20 2 rfl
  have t105 : H59 53 16 = H7 53 16 := hf64 53 16 rfl
  have t106 : H59 1 7 = H7 1 7 := hf64 1 7 rfl
  have t107 : H59 53 0 = H7 53 0 := hf64 53 0 rfl
  have t108 : H59 1 8 = H7 1 8 := hf64 1 8 rfl
  have t109 : H59 53 2 = H7 53 2 := hf64 53 2 rfl
  refine fz_pop rfl kLc12 rfl ?_
  refine fz_goto (tgt := 1817) kLc12 rfl (by decide) ?_
  exact K H59 ⟨hI63, hX96, hXd72, hXh73, hXw65, (by rw [((hf64 53 10 rfl).trans (hf12 53 10 rfl))]; exact hv1), (by rw [((hf64 53 42 rfl).trans (hf12 53 42 rfl)), ((hf64 53 41 rfl).trans (hf12 53 41 rfl))]; exact hv2), (((hf64 9 5 rfl).trans (hf12 9 5 rfl)).trans (hr0.trans ((hf64 53 10 rfl).trans (hf12 53 10 rfl)).symm)), (((hf64 44 2 rfl).trans (hf12 44 2 rfl)).trans (hr1.trans ((hf64 53 44 rfl).trans (hf12 53 44 rfl)).symm)), (((hf64 20 2 rfl).trans (hf12 20 2 rfl)).trans (hr2.trans ((hf64 53 16 rfl).trans (hf12 53 16 rfl)).symm)), (((hf64 1 7 rfl).trans (hf12 1 7 rfl)).trans (hr3.trans ((hf64 53 0 rfl).trans (hf12 53 0 rfl)).symm)), (((hf64 1 8 rfl).trans (hf12 1 8 rfl)).trans (hr4.trans ((hf64 53 2 rfl).trans (hf12 53 2 rfl)).symm)), hRS74, hRP75, hRK76, hRR77, hRT78, hRE79, hR280, hR381, hR482, hR2883, hR584, hR685, hRG86, hRL87, hRC88, hRJ89, hRW90, hRV91, hRM66, hRP292, hRA93, hRU94, hRD95⟩ (funext fun s => hf71 200 s rfl)
def mLc13 : fz_M := (yL_law, code, 4, (some .boolean), [(653, .aload_n 1, 1, 0, 0, 0), (654, .aload_n 0, 1, 0, 0, 0), (655, .iload_n 3, 1, 0, 0, 0), (656, .iconst 1, 1, 0, 0, 0), (657, .iadd, 1, 0, 0, 0), (658, .iaload, 1, 0, 0, 0), (659, .aload_n 0, 1, 0, 0, 0), (660, .iload_n 3, 1, 0, 0, 0), (661, .iconst 2, 1, 0, 0, 0), (662, .iadd, 1, 0, 0, 0), (663, .iaload, 1, 0, 0, 0), (664, .aload_n 0, 1, 0, 0, 0), (665, .iload_n 3, 1, 0, 0, 0), (666, .iconst 3, 1, 0, 0, 0), (667, .iadd, 1, 0, 0, 0), (668, .iaload, 1, 0, 0, 0), (669, .invokevirtual 69, 3, 3234, 18, 0), (672, .pop, 1, 0, 0, 0), (673, .aload_n 2, 1, 0, 0, 0), (674, .aload_n 0, 1, 0, 0, 0), (675, .iload_n 3, 1, 0, 0, 0), (676, .iconst 1, 1, 0, 0, 0), (677, .iadd, 1, 0, 0, 0), (678, .iaload, 1, 0, 0, 0), (679, .aload_n 0, 1, 0, 0, 0), (680, .iload_n 3, 1, 0, 0, 0), (681, .iconst 2, 1, 0, 0, 0), (682, .iadd, 1, 0, 0, 0), (683, .iaload, 1, 0, 0, 0), (684, .aload_n 0, 1, 0, 0, 0), (685, .iload_n 3, 1, 0, 0, 0), (686, .iconst 3, 1, 0, 0, 0), (687, .iadd, 1, 0, 0, 0), (688, .iaload, 1, 0, 0, 0), (689, .invokevirtual 72, 3, 7009, 85, 0), (692, .pop, 1, 0, 0, 0), (693, .goto 1124, 3, 0, 0, 0)])
set_option maxRecDepth 100000 in
theorem kLc13 : fz_okM mLc13 = true := fz_okM_in (by decide +kernel) (by decide +kernel)
set_option maxHeartbeats 1000000 in
set_option maxRecDepth 100000 in
theorem lc13 (h : fz_H) (hI : fz_Iv h) (hX : fz_Xc h) (hXd : fz_Xd h) (hXh : fz_Xh h) (hXw : fz_Xw h) (hv1 : h 53 10 ≤ 10) (hv2 : h 53 42 ≤ h 53 41) (hr0 : h 9 5 = h 53 10) (hr1 : h 44 2 = h 53 44) (hr2 : h 20 2 = h 53 16) (hr3 : h 1 7 = h 53 0) (hr4 : h 1 8 = h 53 2) (hRS : fz_RS h) (hRP : fz_RP h) (hRK : fz_RK h) (hRR : fz_RR h) (hRT : fz_RT h) (hRE : fz_RE h) (hR2 : fz_R2 h) (hR3 : fz_R3 h) (hR4 : fz_R4 h) (hR28 : fz_R28 h) (hR5 : fz_R5 h) (hR6 : fz_R6 h) (hRG : fz_RG h) (hRL : fz_RL h) (hRC : fz_RC h) (hRJ : fz_RJ h) (hRW : fz_RW h) (hRV : fz_RV h) (hRM : fz_RM h) (hRP2 : fz_RP2 h) (hRA : fz_RA h) (hRU : fz_RU h) (hRD : fz_RD h) (i : Int) (hi : 0 ≤ i ∧ i + 6 ≤ h 200 100000 ∧ h 200 100000 ≤ 3072) {Q : fz_H → Option fz_V → Prop} (K : ∀ H : fz_H, fz_Gd H → H 200 = h 200 → fz_R 47 mLe 1817 [(3, fz_i i), (0, fz_r 200), (1, fz_r 0), (2, fz_r 53)] [] H Q) : fz_R 47 mLc13 653 [(3, fz_i i), (0, fz_r 200), (1, fz_r 0), (2, fz_r 53)] [] h Q := by
  have hf : fz_fr fz_all h h := fz_fr_rf
  refine fz_aload_n kLc13 rfl rfl ?_
  refine fz_aload_n kLc13 rfl rfl ?_
  refine fz_iload_n kLc13 rfl rfl ?_
  refine fz_iconst ⟨by decide, by decide⟩ kLc13 rfl ?_
  refine fz_iaddN kLc13 rfl (by omega) ?_
  obtain ⟨a1, e2⟩ : ∃ z, h 200 ((i + 1)).toNat = z := ⟨_, rfl⟩
  refine fz_taldV (v := a1) kLc13 rfl ⟨by decide, by decide⟩ (by omega) (by omega) e2 ?_
  refine fz_aload_n kLc13 rfl rfl ?_
  refine fz_iload_n kLc13 rfl rfl ?_
  refine fz_iconst ⟨by decide, by decide⟩ kLc13 rfl ?_
  refine fz_iaddN kLc13 rfl (by omega) ?_
  obtain ⟨a3, e4⟩ : ∃ z, h 200 ((i + 2)).toNat = z := ⟨_, rfl⟩
  refine fz_taldV (v := a3) kLc13 rfl ⟨by decide, by decide⟩ (by omega) (by omega) e4 ?_
  refine fz_aload_n kLc13 rfl rfl ?_
  refine fz_iload_n kLc13 rfl rfl ?_
  refine fz_iconst ⟨by decide, by decide⟩ kLc13 rfl ?_
  refine fz_iaddN kLc13 rfl (by omega) ?_
  obtain ⟨a5, e6⟩ : ∃ z, h 200 ((i + 3)).toNat = z := ⟨_, rfl⟩
  refine fz_taldV (v := a5) kLc13 rfl ⟨by decide, by decide⟩ (by omega) (by omega) e6 ?_
  refine fz_callV (d' := 6) (M' := mX10_atHour) (As := [fz_i a1, fz_i a3, fz_i a5]) (st := []) kLc13 rfl rfl vX10_atHour rfl rfl rfl rfl (Nat.le_of_ble_eq_true rfl) (Nat.le_of_ble_eq_true rfl) (by decide) (sX10_atHour h hI a1 a3 a5 ) (fun H7 r8 q9 o10 => ?_)
  obtain ⟨hI11, hf12, y15, rfl, f13, f14⟩ := q9
  clear o10
  have hf16 := fz_fr_tr hf hf12 (fz_su_all rfl)
  have hXd17 : fz_Xd H7 := fz_Xd_eq (funext fun s => hf12 80 s rfl) hXd
  have hXh18 : fz_Xh H7 := fz_Xh_eq (funext fun s => hf12 83 s rfl) hXh
  have hXw19 : fz_Xw H7 := fz_Xw_eq (hf12 53 19 rfl) (funext fun s => hf12 66 s rfl) (funext fun s => hf12 67 s rfl) (funext fun s => hf12 68 s rfl) (funext fun s => hf12 69 s rfl) hXw
  have hRS20 : fz_RS H7 := fz_RS_eq (funext fun s => hf12 48 s rfl) (funext fun s => hf12 49 s rfl) (funext fun s => hf12 50 s rfl) (funext fun s => hf12 51 s rfl) (funext fun s => hf12 83 s rfl) (funext fun s => hf12 84 s rfl) (hf12 44 2 rfl) hRS
  have hRP21 : fz_RP H7 := fz_RP_eq (funext fun s => hf12 52 s rfl) (funext fun s => hf12 85 s rfl) hRP
  have hRK22 : fz_RK H7 := fz_RK_eq (funext fun s => hf12 45 s rfl) (funext fun s => hf12 81 s rfl) hRK
  have hRR23 : fz_RR H7 := fz_RR_eq (hf12 44 3 rfl) (hf12 53 46 rfl) (funext fun s => hf12 46 s rfl) (funext fun s => hf12 82 s rfl) hRR
  have hRT24 : fz_RT H7 := fz_RT_eq (funext fun s => hf12 41 s rfl) (funext fun s => hf12 42 s rfl) (hf12 1 7 rfl) hRT
  have hRE25 : fz_RE H7 := fz_RE_eq (funext fun s => hf12 5 s rfl) (funext fun s => hf12 6 s rfl) (hf12 1 8 rfl) (hf12 1 7 rfl) hRE
  have hR226 : fz_R2 H7 := fz_R2_eq (funext fun s => hf12 2 s rfl) (funext fun s => hf12 54 s rfl) hR2
  have hR327 : fz_R3 H7 := fz_R3_eq (funext fun s => hf12 3 s rfl) (funext fun s => hf12 57 s rfl) hR3
  have hR428 : fz_R4 H7 := fz_R4_eq (funext fun s => hf12 4 s rfl) (funext fun s => hf12 58 s rfl) hR4
  have hR2829 : fz_R28 H7 := fz_R28_eq (funext fun s => hf12 28 s rfl) (funext fun s => hf12 59 s rfl) hR28
  have hR530 : fz_R5 H7 := fz_R5_eq (funext fun s => hf12 5 s rfl) (funext fun s => hf12 55 s rfl) hR5
  have hR631 : fz_R6 H7 := fz_R6_eq (funext fun s => hf12 6 s rfl) (funext fun s => hf12 56 s rfl) hR6
  have hRG32 : fz_RG H7 := fz_RG_eq (hf12 27 8 rfl) (hf12 27 9 rfl) (hf12 53 8 rfl) (hf12 53 9 rfl) hRG
  have hRL33 : fz_RL H7 := fz_RL_eq (funext fun s => hf12 11 s rfl) (funext fun s => hf12 12 s rfl) (funext fun s => hf12 13 s rfl) (funext fun s => hf12 14 s rfl) (funext fun s => hf12 61 s rfl) (funext fun s => hf12 62 s rfl) (funext fun s => hf12 63 s rfl) (funext fun s => hf12 64 s rfl) (hf12 9 5 rfl) hRL
  have hRC34 : fz_RC H7 := fz_RC_eq (hf12 35 4 rfl) (hf12 35 5 rfl) (hf12 53 41 rfl) (hf12 53 42 rfl) (funext fun s => hf12 36 s rfl) (funext fun s => hf12 37 s rfl) (funext fun s => hf12 38 s rfl) (funext fun s => hf12 39 s rfl) (funext fun s => hf12 80 s rfl) (hf12 1 7 rfl) (hf12 1 8 rfl) (hf12 9 5 rfl) hRC
  have hRJ35 : fz_RJ H7 := fz_RJ_eq (hf12 40 1 rfl) (hf12 53 34 rfl) (funext fun s => hf12 41 s rfl) (funext fun s => hf12 76 s rfl) (hf12 40 6 rfl) (hf12 53 37 rfl) (funext fun s => hf12 42 s rfl) (funext fun s => hf12 78 s rfl) (hf12 43 0 rfl) (hf12 53 38 rfl) hRJ
  have hRW36 : fz_RW H7 := fz_RW_eq (funext fun s => hf12 10 s rfl) (funext fun s => hf12 60 s rfl) (hf12 9 5 rfl) hRW
  have hRV37 : fz_RV H7 := fz_RV_eq (funext fun s => hf12 7 s rfl) (funext fun s => hf12 8 s rfl) (funext fun s => hf12 3 s rfl) (funext fun s => hf12 4 s rfl) (funext fun s => hf12 5 s rfl) (funext fun s => hf12 6 s rfl) (hf12 1 7 rfl) (hf12 1 8 rfl) hRV
  have hRM38 : fz_RM H7 := fz_RM_eq (funext fun s => hf12 55 s rfl) (funext fun s => hf12 56 s rfl) (hf12 53 0 rfl) (hf12 53 2 rfl) hRM
  have hRP239 : fz_RP2 H7 := fz_RP2_eq (funext fun s => hf12 11 s rfl) (hf12 9 5 rfl) (hf12 1 7 rfl) hRP2
  have hRA40 : fl_RA H7 := fl_RA_eq (funext fun s => hf12 26 s rfl) (funext fun s => hf12 65 s rfl) (hf12 20 2 rfl) hRA
  have hRU41 : fl_RU H7 := fl_RU_eq (hf12 15 4 rfl) (funext fun s => hf12 16 s rfl) (funext fun s => hf12 17 s rfl) (hf12 53 18 rfl) (hf12 53 19 rfl) (funext fun s => hf12 66 s rfl) (funext fun s => hf12 67 s rfl) (funext fun s => hf12 68 s rfl) (funext fun s => hf12 69 s rfl) hRU
  have hRD42 : fl_RD H7 := fl_RD_eq (hf12 40 2 rfl) (hf12 40 3 rfl) (hf12 40 4 rfl) (hf12 40 5 rfl) (funext fun s => hf12 77 s rfl) (hf12 43 1 rfl) (hf12 43 2 rfl) (hf12 43 3 rfl) (hf12 43 4 rfl) (funext fun s => hf12 79 s rfl) hRD
  have hX43 : fz_Xc H7 := fz_Xc_fr hf12 rfl hX
  have t44 : H7 53 10 = h 53 10 := hf12 53 10 rfl
  have t45 : H7 53 41 = h 53 41 := hf12 53 41 rfl
  have t46 : H7 53 42 = h 53 42 := hf12 53 42 rfl
  have t47 : H7 9 5 = h 9 5 := hf12 9 5 rfl
  have t48 : H7 53 10 = h 53 10 := hf12 53 10 rfl
  have t49 : H7 44 2 = h 44 2 := hf12 44 2 rfl
  have t50 : H7 53 44 = h 53 44 := hf12 53 44 rfl
  have t51 : H7 20 2 = h 20 2 := hf12 20 2 rfl
  have t52 : H7 53 16 = h 53 16 := hf12 53 16 rfl
  have t53 : H7 1 7 = h 1 7 := hf12 1 7 rfl
  have t54 : H7 53 0 = h 53 0 := hf12 53 0 rfl
  have t55 : H7 1 8 = h 1 8 := hf12 1 8 rfl
  have t56 : H7 53 2 = h 53 2 := hf12 53 2 rfl
  refine fz_pop rfl kLc13 rfl ?_
  refine fz_aload_n kLc13 rfl rfl ?_
  refine fz_aload_n kLc13 rfl rfl ?_
  refine fz_iload_n kLc13 rfl rfl ?_
  refine fz_iconst ⟨by decide, by decide⟩ kLc13 rfl ?_
  refine fz_iaddN kLc13 rfl (by omega) ?_
  refine fz_taldV (v := a1) kLc13 rfl ⟨by decide, by decide⟩ (by omega) (by rw [hf16 200 _ rfl]; omega) ((hf16 200 _ rfl).trans e2) ?_
  refine fz_aload_n kLc13 rfl rfl ?_
  refine fz_iload_n kLc13 rfl rfl ?_
  refine fz_iconst ⟨by decide, by decide⟩ kLc13 rfl ?_
  refine fz_iaddN kLc13 rfl (by omega) ?_
  refine fz_taldV (v := a3) kLc13 rfl ⟨by decide, by decide⟩ (by omega) (by rw [hf16 200 _ rfl]; omega) ((hf16 200 _ rfl).trans e4) ?_
  refine fz_aload_n kLc13 rfl rfl ?_
  refine fz_iload_n kLc13 rfl rfl ?_
  refine fz_iconst ⟨by decide, by decide⟩ kLc13 rfl ?_
  refine fz_iaddN kLc13 rfl (by omega) ?_
  refine fz_taldV (v := a5) kLc13 rfl ⟨by decide, by decide⟩ (by omega) (by rw [hf16 200 _ rfl]; omega) ((hf16 200 _ rfl).trans e6) ?_
  have hRPm57 : fl_RPm H7 := by first | exact fl_RPm_eq (funext fun s => hf12 61 s rfl) (hf12 53 10 rfl) (hf12 53 0 rfl) (fl_RPm_of hRL hRP2 hr3.symm hr0.symm) | exact fl_RPm_of hRL hRP2 hr3.symm hr0.symm
  refine fz_callV (d' := 5) (M' := mX11_atHour) (As := [fz_i a1, fz_i a3, fz_i a5]) (st := []) kLc13 rfl rfl vX11_atHour rfl rfl rfl rfl (Nat.le_of_ble_eq_true rfl) (Nat.le_of_ble_eq_true rfl) (by decide) (sX11_atHour H7 hI11 a1 a3 a5 hXw19 hRM38 hRPm57) (fun H59 r60 q61 o62 => ?_)
  obtain ⟨hI63, hf64, hXw65, hRM66, hRPm67, y70, rfl, f68, f69⟩ := q61
  clear o62
  have hf71 := fz_fr_tr hf16 hf64 (fz_su_all rfl)
  have hXd72 : fz_Xd H59 := fz_Xd_eq (funext fun s => hf64 80 s rfl) hXd17
  have hXh73 : fz_Xh H59 := fz_Xh_eq (funext fun s => hf64 83 s rfl) hXh18
  have hRS74 : fz_RS H59 := fz_RS_eq (funext fun s => hf64 48 s rfl) (funext fun s => hf64 49 s rfl) (funext fun s => hf64 50 s rfl) (funext fun s => hf64 51 s rfl) (funext fun s => hf64 83 s rfl) (funext fun s => hf64 84 s rfl) (hf64 44 2 rfl) hRS20
  have hRP75 : fz_RP H59 := fz_RP_eq (funext fun s => hf64 52 s rfl) (funext fun s => hf64 85 s rfl) hRP21
  have hRK76 : fz_RK H59 := fz_RK_eq (funext fun s => hf64 45 s rfl) (funext fun s => hf64 81 s rfl) hRK22
  have hRR77 : fz_RR H59 := fz_RR_eq (hf64 44 3 rfl) (hf64 53 46 rfl) (funext fun s => hf64 46 s rfl) (funext fun s => hf64 82 s rfl) hRR23
  have hRT78 : fz_RT H59 := fz_RT_eq (funext fun s => hf64 41 s rfl) (funext fun s => hf64 42 s rfl) (hf64 1 7 rfl) hRT24
  have hRE79 : fz_RE H59 := fz_RE_eq (funext fun s => hf64 5 s rfl) (funext fun s => hf64 6 s rfl) (hf64 1 8 rfl) (hf64 1 7 rfl) hRE25
  have hR280 : fz_R2 H59 := fz_R2_eq (funext fun s => hf64 2 s rfl) (funext fun s => hf64 54 s rfl) hR226
  have hR381 : fz_R3 H59 := fz_R3_eq (funext fun s => hf64 3 s rfl) (funext fun s => hf64 57 s rfl) hR327
  have hR482 : fz_R4 H59 := fz_R4_eq (funext fun s => hf64 4 s rfl) (funext fun s => hf64 58 s rfl) hR428
  have hR2883 : fz_R28 H59 := fz_R28_eq (funext fun s => hf64 28 s rfl) (funext fun s => hf64 59 s rfl) hR2829
  have hR584 : fz_R5 H59 := fz_R5_eq (funext fun s => hf64 5 s rfl) (funext fun s => hf64 55 s rfl) hR530
  have hR685 : fz_R6 H59 := fz_R6_eq (funext fun s => hf64 6 s rfl) (funext fun s => hf64 56 s rfl) hR631
  have hRG86 : fz_RG H59 := fz_RG_eq (hf64 27 8 rfl) (hf64 27 9 rfl) (hf64 53 8 rfl) (hf64 53 9 rfl) hRG32
  have hRL87 : fz_RL H59 := fz_RL_eq (funext fun s => hf64 11 s rfl) (funext fun s => hf64 12 s rfl) (funext fun s => hf64 13 s rfl) (funext fun s => hf64 14 s rfl) (funext fun s => hf64 61 s rfl) (funext fun s => hf64 62 s rfl) (funext fun s => hf64 63 s rfl) (funext fun s => hf64 64 s rfl) (hf64 9 5 rfl) hRL33
  have hRC88 : fz_RC H59 := fz_RC_eq (hf64 35 4 rfl) (hf64 35 5 rfl) (hf64 53 41 rfl) (hf64 53 42 rfl) (funext fun s => hf64 36 s rfl) (funext fun s => hf64 37 s rfl) (funext fun s => hf64 38 s rfl) (funext fun s => hf64 39 s rfl) (funext fun s => hf64 80 s rfl) (hf64 1 7 rfl) (hf64 1 8 rfl) (hf64 9 5 rfl) hRC34
  have hRJ89 : fz_RJ H59 := fz_RJ_eq (hf64 40 1 rfl) (hf64 53 34 rfl) (funext fun s => hf64 41 s rfl) (funext fun s => hf64 76 s rfl) (hf64 40 6 rfl) (hf64 53 37 rfl) (funext fun s => hf64 42 s rfl) (funext fun s => hf64 78 s rfl) (hf64 43 0 rfl) (hf64 53 38 rfl) hRJ35
  have hRW90 : fz_RW H59 := fz_RW_eq (funext fun s => hf64 10 s rfl) (funext fun s => hf64 60 s rfl) (hf64 9 5 rfl) hRW36
  have hRV91 : fz_RV H59 := fz_RV_eq (funext fun s => hf64 7 s rfl) (funext fun s => hf64 8 s rfl) (funext fun s => hf64 3 s rfl) (funext fun s => hf64 4 s rfl) (funext fun s => hf64 5 s rfl) (funext fun s => hf64 6 s rfl) (hf64 1 7 rfl) (hf64 1 8 rfl) hRV37
  have hRP292 : fz_RP2 H59 := fz_RP2_eq (funext fun s => hf64 11 s rfl) (hf64 9 5 rfl) (hf64 1 7 rfl) hRP239
  have hRA93 : fl_RA H59 := fl_RA_eq (funext fun s => hf64 26 s rfl) (funext fun s => hf64 65 s rfl) (hf64 20 2 rfl) hRA40
  have hRU94 : fl_RU H59 := fl_RU_eq (hf64 15 4 rfl) (funext fun s => hf64 16 s rfl) (funext fun s => hf64 17 s rfl) (hf64 53 18 rfl) (hf64 53 19 rfl) (funext fun s => hf64 66 s rfl) (funext fun s => hf64 67 s rfl) (funext fun s => hf64 68 s rfl) (funext fun s => hf64 69 s rfl) hRU41
  have hRD95 : fl_RD H59 := fl_RD_eq (hf64 40 2 rfl) (hf64 40 3 rfl) (hf64 40 4 rfl) (hf64 40 5 rfl) (funext fun s => hf64 77 s rfl) (hf64 43 1 rfl) (hf64 43 2 rfl) (hf64 43 3 rfl) (hf64 43 4 rfl) (funext fun s => hf64 79 s rfl) hRD42
  have hX96 : fz_Xc H59 := fz_Xc_fr hf64 rfl hX43
  have t97 : H59 53 10 = H7 53 10 := hf64 53 10 rfl
  have t98 : H59 53 41 = H7 53 41 := hf64 53 41 rfl
  have t99 : H59 53 42 = H7 53 42 := hf64 53 42 rfl
  have t100 : H59 9 5 = H7 9 5 := hf64 9 5 rfl
  have t101 : H59 53 10 = H7 53 10 := hf64 53 10 rfl
  have t102 : H59 44 2 = H7 44 2 := hf64 44 2 rfl
  have t103 : H59 53 44 = H7 53 44 := hf64 53 44 rfl
  have t104 : H59 20 2 = H7 20 2 := hf64 20 2 rfl
  have t105 : H59 53 16 = H7 53 16 := hf64 53 16 rfl
  have t106 : H59 1 7 = H7 1 7 := hf64 1 7 rfl
  have t107 : H59 53 0 = H7 53 0 := hf64 53 0 rfl
  have t108 : H59 1 8 = H7 1 8 := hf64 1 8 rfl
  have t109 : H59 53 2 = H7 53 2 := hf64 53 2 rfl
  refine fz_pop rfl kLc13 rfl ?_
  refine fz_goto (tgt := 1817) kLc13 rfl (by decide) ?_
  exact K H59 ⟨hI63, hX96, hXd72, hXh73, hXw65, (by rw [((hf64 53 10 rfl).trans (hf12 53 10 rfl))]; exact hv1), (by rw [((hf64 53 42 rfl).trans (hf12 53 42 rfl)), ((hf64 53 41 rfl).trans (hf12 53 41 rfl))]; exact hv2), (((hf64 9 5 rfl).trans (hf12 9 5 rfl)).trans (hr0.trans ((hf64 53 10 rfl).trans (hf12 53 10 rfl)).symm)), (((hf64 44 2 rfl).trans (hf12 44 2 rfl)).trans (hr1.trans ((hf64 53 44 rfl).trans (hf12 53 44 rfl)).symm)), (((hf64 20 2 rfl).trans (hf12 20 2 rfl)).trans (hr2.trans ((hf64 53 16 rfl).trans (hf12 53 16 rfl)).symm)), (((hf64 1 7 rfl).trans (hf12 1 7 rfl)).trans (hr3.trans ((hf64 53 0 rfl).trans (hf12 53 0 rfl)).symm)), (((hf64 1 8 rfl).trans (hf12 1 8 rfl)).trans (hr4.trans ((hf64 53 2 rfl).trans (hf12 53 2 rfl)).symm)), hRS74, hRP75, hRK76, hRR77, hRT78, hRE79, hR280, hR381, hR482, hR2883, hR584, hR685, hRG86, hRL87, hRC88, hRJ89, hRW90, hRV91, hRM66, hRP292, hRA93, hRU94, hRD95⟩ (funext fun s => hf71 200 s rfl)
def mLc14 : fz_M := (yL_law, code, 4, (some .boolean), [(696, .aload_n 1, 1, 0, 0, 0), (697, .aload_n 0, 1, 0, 0, 0), (698, .iload_n 3, 1, 0, 0, 0), (699, .iconst 1, 1, 0, 0, 0), (700, .iadd, 1, 0, 0, 0), (701, .iaload, 1, 0, 0, 0), (702, .aload_n 0, 1, 0, 0, 0), (703, .iload_n 3, 1, 0, 0, 0), (704, .iconst 2, 1, 0, 0, 0), (705, .iadd, 1, 0, 0, 0), (706, .iaload, 1, 0, 0, 0), (707, .aload_n 0, 1, 0, 0, 0), (708, .iload_n 3, 1, 0, 0, 0), (709, .iconst 3, 1, 0, 0, 0), (710, .iadd, 1, 0, 0, 0), (711, .iaload, 1, 0, 0, 0), (712, .invokevirtual 73, 3, 4006, 38, 0), (715, .pop, 1, 0, 0, 0), (716, .aload_n 2, 1, 0, 0, 0), (717, .aload_n 0, 1, 0, 0, 0), (718, .iload_n 3, 1, 0, 0, 0), (719, .iconst 1, 1, 0, 0, 0), (720, .iadd, 1, 0, 0, 0), (721, .iaload, 1, 0, 0, 0), (722, .aload_n 0, 1, 0, 0, 0), (723, .iload_n 3, 1, 0, 0, 0), (724, .iconst 2, 1, 0, 0, 0), (725, .iadd, 1, 0, 0, 0), (726, .iaload, 1, 0, 0, 0), (727, .aload_n 0, 1, 0, 0, 0), (728, .iload_n 3, 1, 0, 0, 0), (729, .iconst 3, 1, 0, 0, 0), (730, .iadd, 1, 0, 0, 0), (731, .iaload, 1, 0, 0, 0), (732, .invokevirtual 76, 3, 7013, 112, 0), (735, .pop, 1, 0, 0, 0), (736, .goto 1081, 3, 0, 0, 0)])
set_option maxRecDepth 100000 in
theorem kLc14 : fz_okM mLc14 = true := fz_okM_in (by decide +kernel) (by decide +kernel)
set_option maxHeartbeats 1000000 in
set_option maxRecDepth 100000 in
theorem lc14 (h : fz_H) (hI : fz_Iv h) (hX : fz_Xc h) (hXd : fz_Xd h) (hXh : fz_Xh h) (hXw : fz_Xw h) (hv1 : h 53 10 ≤ 10) (hv2 : h 53 42 ≤ h 53 41) (hr0 : h 9 5 = h 53 10) (hr1 : h 44 2 = h 53 44) (hr2 : h 20 2 = h 53 16) (hr3 : h 1 7 = h 53 0) (hr4 : h 1 8 = h 53 2) (hRS : fz_RS h) (hRP : fz_RP h) (hRK : fz_RK h) (hRR : fz_RR h) (hRT : fz_RT h) (hRE : fz_RE h) (hR2 : fz_R2 h) (hR3 : fz_R3 h) (hR4 : fz_R4 h) (hR28 : fz_R28 h) (hR5 : fz_R5 h) (hR6 : fz_R6 h) (hRG : fz_RG h) (hRL : fz_RL h) (hRC : fz_RC h) (hRJ : fz_RJ h) (hRW : fz_RW h) (hRV : fz_RV h) (hRM : fz_RM h) (hRP2 : fz_RP2 h) (hRA : fz_RA h) (hRU : fz_RU h) (hRD : fz_RD h) (i : Int) (hi : 0 ≤ i ∧ i + 6 ≤ h 200 100000 ∧ h 200 100000 ≤ 3072) {Q : fz_H → Option fz_V → Prop} (K : ∀ H : fz_H, fz_Gd H → H 200 = h 200 → fz_R 47 mLe 1817 [(3, fz_i i), (0, fz_r 200), (1, fz_r 0), (2, fz_r 53)] [] H Q) : fz_R 47 mLc14 696 [(3, fz_i i), (0, fz_r 200), (1, fz_r 0), (2, fz_r 53)] [] h Q := by
  have hf : fz_fr fz_all h h := fz_fr_rf
  refine fz_aload_n kLc14 rfl rfl ?_
  refine fz_aload_n kLc14 rfl rfl ?_
  refine fz_iload_n kLc14 rfl rfl ?_
  refine fz_iconst ⟨by decide, by decide⟩ kLc14 rfl ?_
  refine fz_iaddN kLc14 rfl (by omega) ?_
  obtain ⟨a1, e2⟩ : ∃ z, h 200 ((i + 1)).toNat = z := ⟨_, rfl⟩
  refine fz_taldV (v := a1) kLc14 rfl ⟨by decide, by decide⟩ (by omega) (by omega) e2 ?_
  refine fz_aload_n kLc14 rfl rfl ?_
  refine fz_iload_n kLc14 rfl rfl ?_
  refine fz_iconst ⟨by decide, by decide⟩ kLc14 rfl ?_
  refine fz_iaddN kLc14 rfl (by omega) ?_
  obtain ⟨a3, e4⟩ : ∃ z, h 200 ((i + 2)).toNat = z := ⟨_, rfl⟩
  refine fz_taldV (v := a3) kLc14 rfl ⟨by decide, by decide⟩ (by omega) (by omega) e4 ?_
  refine fz_aload_n kLc14 rfl rfl ?_
  refine fz_iload_n kLc14 rfl rfl ?_
  refine fz_iconst ⟨by decide, by decide⟩ kLc14 rfl ?_
  refine fz_iaddN kLc14 rfl (by omega) ?_
  obtain ⟨a5, e6⟩ : ∃ z, h 200 ((i + 3)).toNat = z := ⟨_, rfl⟩
  refine fz_taldV (v := a5) kLc14 rfl ⟨by decide, by decide⟩ (by omega) (by omega) e6 ?_
  refine fz_callV (d' := 6) (M' := mX10_home) (As := [fz_i a1, fz_i a3, fz_i a5]) (st := []) kLc14 rfl rfl vX10_home rfl rfl rfl rfl (Nat.le_of_ble_eq_true rfl) (Nat.le_of_ble_eq_true rfl) (by decide) (sX10_home h hI a1 a3 a5 ) (fun H7 r8 q9 o10 => ?_)
  obtain ⟨hI11, hf12, y15, rfl, f13, f14⟩ := q9
  clear o10
  have hf16 := fz_fr_tr hf hf12 (fz_su_all rfl)
  have hXd17 : fz_Xd H7 := fz_Xd_eq (funext fun s => hf12 80 s rfl) hXd
  have hXh18 : fz_Xh H7 := fz_Xh_eq (funext fun s => hf12 83 s rfl) hXh
  have hXw19 : fz_Xw H7 := fz_Xw_eq (hf12 53 19 rfl) (funext fun s => hf12 66 s rfl) (funext fun s => hf12 67 s rfl) (funext fun s => hf12 68 s rfl) (funext fun s => hf12 69 s rfl) hXw
  have hRS20 : fz_RS H7 := fz_RS_eq (funext fun s => hf12 48 s rfl) (funext fun s => hf12 49 s rfl) (funext fun s => hf12 50 s rfl) (funext fun s => hf12 51 s rfl) (funext fun s => hf12 83 s rfl) (funext fun s => hf12 84 s rfl) (hf12 44 2 rfl) hRS
  have hRP21 : fz_RP H7 := fz_RP_eq (funext fun s => hf12 52 s rfl) (funext fun s => hf12 85 s rfl) hRP
  have hRK22 : fz_RK H7 := fz_RK_eq (funext fun s => hf12 45 s rfl) (funext fun s => hf12 81 s rfl) hRK
  have hRR23 : fz_RR H7 := fz_RR_eq (hf12 44 3 rfl) (hf12 53 46 rfl) (funext fun s => hf12 46 s rfl) (funext fun s => hf12 82 s rfl) hRR
  have hRT24 : fz_RT H7 := fz_RT_eq (funext fun s => hf12 41 s rfl) (funext fun s => hf12 42 s rfl) (hf12 1 7 rfl) hRT
  have hRE25 : fz_RE H7 := fz_RE_eq (funext fun s => hf12 5 s rfl) (funext fun s => hf12 6 s rfl) (hf12 1 8 rfl) (hf12 1 7 rfl) hRE
  have hR226 : fz_R2 H7 := fz_R2_eq (funext fun s => hf12 2 s rfl) (funext fun s => hf12 54 s rfl) hR2
  have hR327 : fz_R3 H7 := fz_R3_eq (funext fun s => hf12 3 s rfl) (funext fun s => hf12 57 s rfl) hR3
  have hR428 : fz_R4 H7 := fz_R4_eq (funext fun s => hf12 4 s rfl) (funext fun s => hf12 58 s rfl) hR4
  have hR2829 : fz_R28 H7 := fz_R28_eq (funext fun s => hf12 28 s rfl) (funext fun s => hf12 59 s rfl) hR28
  have hR530 : fz_R5 H7 := fz_R5_eq (funext fun s => hf12 5 s rfl) (funext fun s => hf12 55 s rfl) hR5
  have hR631 : fz_R6 H7 := fz_R6_eq (funext fun s => hf12 6 s rfl) (funext fun s => hf12 56 s rfl) hR6
  have hRG32 : fz_RG H7 := fz_RG_eq (hf12 27 8 rfl) (hf12 27 9 rfl) (hf12 53 8 rfl) (hf12 53 9 rfl) hRG
  have hRL33 : fz_RL H7 := fz_RL_eq (funext fun s => hf12 11 s rfl) (funext fun s => hf12 12 s rfl) (funext fun s => hf12 13 s rfl) (funext fun s => hf12 14 s rfl) (funext fun s => hf12 61 s rfl) (funext fun s => hf12 62 s rfl) (funext fun s => hf12 63 s rfl) (funext fun s => hf12 64 s rfl) (hf12 9 5 rfl) hRL
  have hRC34 : fz_RC H7 := fz_RC_eq (hf12 35 4 rfl) (hf12 35 5 rfl) (hf12 53 41 rfl) (hf12 53 42 rfl) (funext fun s => hf12 36 s rfl) (funext fun s => hf12 37 s rfl) (funext fun s => hf12 38 s rfl) (funext fun s => hf12 39 s rfl) (funext fun s => hf12 80 s rfl) (hf12 1 7 rfl) (hf12 1 8 rfl) (hf12 9 5 rfl) hRC
  have hRJ35 : fz_RJ H7 := fz_RJ_eq (hf12 40 1 rfl) (hf12 53 34 rfl) (funext fun s => hf12 41 s rfl) (funext fun s => hf12 76 s rfl) (hf12 40 6 rfl) (hf12 53 37 rfl) (funext fun s => hf12 42 s rfl) (funext fun s => hf12 78 s rfl) (hf12 43 0 rfl) (hf12 53 38 rfl) hRJ
  have hRW36 : fz_RW H7 := fz_RW_eq (funext fun s => hf12 10 s rfl) (funext fun s => hf12 60 s rfl) (hf12 9 5 rfl) hRW
  have hRV37 : fz_RV H7 := fz_RV_eq (funext fun s => hf12 7 s rfl) (funext fun s => hf12 8 s rfl) (funext fun s => hf12 3 s rfl) (funext fun s => hf12 4 s rfl) (funext fun s => hf12 5 s rfl) (funext fun s => hf12 6 s rfl) (hf12 1 7 rfl) (hf12 1 8 rfl) hRV
  have hRM38 : fz_RM H7 := fz_RM_eq (funext fun s => hf12 55 s rfl) (funext fun s => hf12 56 s rfl) (hf12 53 0 rfl) (hf12 53 2 rfl) hRM
  have hRP239 : fz_RP2 H7 := fz_RP2_eq (funext fun s => hf12 11 s rfl) (hf12 9 5 rfl) (hf12 1 7 rfl) hRP2
  have hRA40 : fl_RA H7 := fl_RA_eq (funext fun s => hf12 26 s rfl) (funext fun s => hf12 65 s rfl) (hf12 20 2 rfl) hRA
  have hRU41 : fl_RU H7 := fl_RU_eq (hf12 15 4 rfl) (funext fun s => hf12 16 s rfl) (funext fun s => hf12 17 s rfl) (hf12 53 18 rfl) (hf12 53 19 rfl) (funext fun s => hf12 66 s rfl) (funext fun s => hf12 67 s rfl) (funext fun s => hf12 68 s rfl) (funext fun s => hf12 69 s rfl) hRU
  have hRD42 : fl_RD H7 := fl_RD_eq (hf12 40 2 rfl) (hf12 40 3 rfl) (hf12 40 4 rfl) (hf12 40 5 rfl) (funext fun s => hf12 77 s rfl) (hf12 43 1 rfl) (hf12 43 2 rfl) (hf12 43 3 rfl) (hf12 43 4 rfl) (funext fun s => hf12 79 s rfl) hRD
  have hX43 : fz_Xc H7 := fz_Xc_fr hf12 rfl hX
  have t44 : H7 53 10 = h 53 10 := hf12 53 10 rfl
  have t45 : H7 53 41 = h 53 41 := hf12 53 41 rfl
  have t46 : H7 53 42 = h 53 42 := hf12 53 42 rfl
  have t47 : H7 9 5 = h 9 5 := hf12 9 5 rfl
  have t48 : H7 53 10 = h 53 10 := hf12 53 10 rfl
  have t49 : H7 44 2 = h 44 2 := hf12 44 2 rfl
  have t50 : H7 53 44 = h 53 44 := hf12 53 44 rfl
  have t51 : H7 20 2 = h 20 2 := hf12 20 2 rfl
  have t52 : H7 53 16 = h 53 16 := hf12 53 16 rfl
  have t53 : H7 1 7 = h 1 7 := hf12 1 7 rfl
  have t54 : H7 53 0 = h 53 0 := hf12 53 0 rfl
  have t55 : H7 1 8 = h 1 8 := hf12 1 8 rfl
  have t56 : H7 53 2 = h 53 2 := hf12 53 2 rfl
  refine fz_pop rfl kLc14 rfl ?_
  refine fz_aload_n kLc14 rfl rfl ?_
  refine fz_aload_n kLc14 rfl rfl ?_
  refine fz_iload_n kLc14 rfl rfl ?_
  refine fz_iconst ⟨by decide, by decide⟩ kLc14 rfl ?_
  refine fz_iaddN kLc14 rfl (by omega) ?_
  refine fz_taldV (v := a1) kLc14 rfl ⟨by decide, by decide⟩ (by omega) (by rw [hf16 200 _ rfl]; omega) ((hf16 200 _ rfl).trans e2) ?_
  refine fz_aload_n kLc14 rfl rfl ?_
  refine fz_iload_n kLc14 rfl rfl ?_
  refine fz_iconst ⟨by decide, by decide⟩ kLc14 rfl ?_
  refine fz_iaddN kLc14 rfl (by omega) ?_
  refine fz_taldV (v := a3) kLc14 rfl ⟨by decide, by decide⟩ (by omega) (by rw [hf16 200 _ rfl]; omega) ((hf16 200 _ rfl).trans e4) ?_
  refine fz_aload_n kLc14 rfl rfl ?_
  refine fz_iload_n kLc14 rfl rfl ?_
  refine fz_iconst ⟨by decide, by decide⟩ kLc14 rfl ?_
  refine fz_iaddN kLc14 rfl (by omega) ?_
  refine fz_taldV (v := a5) kLc14 rfl ⟨by decide, by decide⟩ (by omega) (by rw [hf16 200 _ rfl]; omega) ((hf16 200 _ rfl).trans e6) ?_
  have hRPm57 : fl_RPm H7 := by first | exact fl_RPm_eq (funext fun s => hf12 61 s rfl) (hf12 53 10 rfl) (hf12 53 0 rfl) (fl_RPm_of hRL hRP2 hr3.symm hr0.symm) | exact fl_RPm_of hRL hRP2 hr3.symm hr0.symm
  refine fz_callV (d' := 5) (M' := mX11_home) (As := [fz_i a1, fz_i a3, fz_i a5]) (st := []) kLc14 rfl rfl vX11_home rfl rfl rfl rfl (Nat.le_of_ble_eq_true rfl) (Nat.le_of_ble_eq_true rfl) (by decide) (sX11_home H7 hI11 a1 a3 a5 hXw19 hRM38 hRPm57) (fun H59 r60 q61 o62 => ?_)
  obtain ⟨hI63, hf64, hXw65, hRM66, hRPm67, y70, rfl, f68, f69⟩ := q61
  clear o62
  have hf71 := fz_fr_tr hf16 hf64 (fz_su_all rfl)
  have hXd72 : fz_Xd H59 := fz_Xd_eq (funext fun s => hf64 80 s rfl) hXd17
  have hXh73 : fz_Xh H59 := fz_Xh_eq (funext fun s => hf64 83 s rfl) hXh18
  have hRS74 : fz_RS H59 := fz_RS_eq (funext fun s => hf64 48 s rfl) (funext fun s => hf64 49 s rfl) (funext fun s => hf64 50 s rfl) (funext fun s => hf64 51 s rfl) (funext fun s => hf64 83 s rfl) (funext fun s => hf64 84 s rfl) (hf64 44 2 rfl) hRS20
  have hRP75 : fz_RP H59 := fz_RP_eq (funext fun s => hf64 52 s rfl) (funext fun s => hf64 85 s rfl) hRP21
  have hRK76 : fz_RK H59 := fz_RK_eq (funext fun s => hf64 45 s rfl) (funext fun s => hf64 81 s rfl) hRK22
  have hRR77 : fz_RR H59 := fz_RR_eq (hf64 44 3 rfl) (hf64 53 46 rfl) (funext fun s => hf64 46 s rfl) (funext fun s => hf64 82 s rfl) hRR23
  have hRT78 : fz_RT H59 := fz_RT_eq (funext fun s => hf64 41 s rfl) (funext fun s => hf64 42 s rfl) (hf64 1 7 rfl) hRT24
  have hRE79 : fz_RE H59 := fz_RE_eq (funext fun s => hf64 5 s rfl) (funext fun s => hf64 6 s rfl) (hf64 1 8 rfl) (hf64 1 7 rfl) hRE25
  have hR280 : fz_R2 H59 := fz_R2_eq (funext fun s => hf64 2 s rfl) (funext fun s => hf64 54 s rfl) hR226
  have hR381 : fz_R3 H59 := fz_R3_eq (funext fun s => hf64 3 s rfl) (funext fun s => hf64 57 s rfl) hR327
  have hR482 : fz_R4 H59 := fz_R4_eq (funext fun s => hf64 4 s rfl) (funext fun s => hf64 58 s rfl) hR428
  have hR2883 : fz_R28 H59 := fz_R28_eq (funext fun s => hf64 28 s rfl) (funext fun s => hf64 59 s rfl) hR2829
  have hR584 : fz_R5 H59 := fz_R5_eq (funext fun s => hf64 5 s rfl) (funext fun s => hf64 55 s rfl) hR530
  have hR685 : fz_R6 H59 := fz_R6_eq (funext fun s => hf64 6 s rfl) (funext fun s => hf64 56 s rfl) hR631
  have hRG86 : fz_RG H59 := fz_RG_eq (hf64 27 8 rfl) (hf64 27 9 rfl) (hf64 53 8 rfl) (hf64 53 9 rfl) hRG32
  have hRL87 : fz_RL H59 := fz_RL_eq (funext fun s => hf64 11 s rfl) (funext fun s => hf64 12 s rfl) (funext fun s => hf64 13 s rfl) (funext fun s => hf64 14 s rfl) (funext fun s => hf64 61 s rfl) (funext fun s => hf64 62 s rfl) (funext fun s => hf64 63 s rfl) (funext fun s => hf64 64 s rfl) (hf64 9 5 rfl) hRL33
  have hRC88 : fz_RC H59 := fz_RC_eq (hf64 35 4 rfl) (hf64 35 5 rfl) (hf64 53 41 rfl) (hf64 53 42 rfl) (funext fun s => hf64 36 s rfl) (funext fun s => hf64 37 s rfl) (funext fun s => hf64 38 s rfl) (funext fun s => hf64 39 s rfl) (funext fun s => hf64 80 s rfl) (hf64 1 7 rfl) (hf64 1 8 rfl) (hf64 9 5 rfl) hRC34
  have hRJ89 : fz_RJ H59 := fz_RJ_eq (hf64 40 1 rfl) (hf64 53 34 rfl) (funext fun s => hf64 41 s rfl) (funext fun s => hf64 76 s rfl) (hf64 40 6 rfl) (hf64 53 37 rfl) (funext fun s => hf64 42 s rfl) (funext fun s => hf64 78 s rfl) (hf64 43 0 rfl) (hf64 53 38 rfl) hRJ35
  have hRW90 : fz_RW H59 := fz_RW_eq (funext fun s => hf64 10 s rfl) (funext fun s => hf64 60 s rfl) (hf64 9 5 rfl) hRW36
  have hRV91 : fz_RV H59 := fz_RV_eq (funext fun s => hf64 7 s rfl) (funext fun s => hf64 8 s rfl) (funext fun s => hf64 3 s rfl) (funext fun s => hf64 4 s rfl) (funext fun s => hf64 5 s rfl) (funext fun s => hf64 6 s rfl) (hf64 1 7 rfl) (hf64 1 8 rfl) hRV37
  have hRP292 : fz_RP2 H59 := fz_RP2_eq (funext fun s => hf64 11 s rfl) (hf64 9 5 rfl) (hf64 1 7 rfl) hRP239
  have hRA93 : fl_RA H59 := fl_RA_eq (funext fun s => hf64 26 s rfl) (funext fun s => hf64 65 s rfl) (hf64 20 2 rfl) hRA40
  have hRU94 : fl_RU H59 := fl_RU_eq (hf64 15 4 rfl) (funext fun s => hf64 16 s rfl) (funext fun s => hf64 17 s rfl) (hf64 53 18 rfl) (hf64 53 19 rfl) (funext fun s => hf64 66 s rfl) (funext fun s => hf64 67 s rfl) (funext fun s => hf64 68 s rfl) (funext fun s => hf64 69 s rfl) hRU41
  have hRD95 : fl_RD H59 := fl_RD_eq (hf64 40 2 rfl) (hf64 40 3 rfl) (hf64 40 4 rfl) (hf64 40 5 rfl) (funext fun s => hf64 77 s rfl) (hf64 43 1 rfl) (hf64 43 2 rfl) (hf64 43 3 rfl) (hf64 43 4 rfl) (funext fun s => hf64 79 s rfl) hRD42
  have hX96 : fz_Xc H59 := fz_Xc_fr hf64 rfl hX43
  have t97 : H59 53 10 = H7 53 10 := hf64 53 10 rfl
  have t98 : H59 53 41 = H7 53 41 := hf64 53 41 rfl
  have t99 : H59 53 42 = H7 53 42 := hf64 53 42 rfl
  have t100 : H59 9 5 = H7 9 5 := hf64 9 5 rfl
  have t101 : H59 53 10 = H7 53 10 := hf64 53 10 rfl
  have t102 : H59 44 2 = H7 44 2 := hf64 44 2 rfl
  have t103 : H59 53 44 = H7 53 44 := hf64 53 44 rfl
  have t104 : H59 20 2 = H7 20 2 := hf64 20 2 rfl
  have t105 : H59 53 16 = H7 53 16 := hf64 53 16 rfl
  have t106 : H59 1 7 = H7 1 7 := hf64 1 7 rfl
  have t107 : H59 53 0 = H7 53 0 := hf64 53 0 rfl
  have t108 : H59 1 8 = H7 1 8 := hf64 1 8 rfl
  have t109 : H59 53 2 = H7 53 2 := hf64 53 2 rfl
  refine fz_pop rfl kLc14 rfl ?_
  refine fz_goto (tgt := 1817) kLc14 rfl (by decide) ?_
  exact K H59 ⟨hI63, hX96, hXd72, hXh73, hXw65, (by rw [((hf64 53 10 rfl).trans (hf12 53 10 rfl))]; exact hv1), (by rw [((hf64 53 42 rfl).trans (hf12 53 42 rfl)), ((hf64 53 41 rfl).trans (hf12 53 41 rfl))]; exact hv2), (((hf64 9 5 rfl).trans (hf12 9 5 rfl)).trans (hr0.trans ((hf64 53 10 rfl).trans (hf12 53 10 rfl)).symm)), (((hf64 44 2 rfl).trans (hf12 44 2 rfl)).trans (hr1.trans ((hf64 53 44 rfl).trans (hf12 53 44 rfl)).symm)), (((hf64 20 2 rfl).trans (hf12 20 2 rfl)).trans (hr2.trans ((hf64 53 16 rfl).trans (hf12 53 16 rfl)).symm)), (((hf64 1 7 rfl).trans (hf12 1 7 rfl)).trans (hr3.trans ((hf64 53 0 rfl).trans (hf12 53 0 rfl)).symm)), (((hf64 1 8 rfl).trans (hf12 1 8 rfl)).trans (hr4.trans ((hf64 53 2 rfl).trans (hf12 53 2 rfl)).symm)), hRS74, hRP75, hRK76, hRR77, hRT78, hRE79, hR280, hR381, hR482, hR2883, hR584, hR685, hRG86, hRL87, hRC88, hRJ89, hRW90, hRV91, hRM66, hRP292, hRA93, hRU94, hRD95⟩ (funext fun s => hf71 200 s rfl)
def mLc15 : fz_M := (yL_law, code, 4, (some .boolean), [(739, .aload_n 1, 1, 0, 0, 0), (740, .aload_n 0, 1, 0, 0, 0), (741, .iload_n 3, 1, 0, 0, 0), (742, .iconst 1, 1, 0, 0, 0), (743, .iadd, 1, 0, 0, 0), (744, .iaload, 1, 0, 0, 0), (745, .aload_n 0, 1, 0, 0, 0), (746, .iload_n 3, 1, 0, 0, 0), (747, .iconst 2, 1, 0, 0, 0), (748, .iadd, 1, 0, 0, 0), (749, .iaload, 1, 0, 0, 0), (750, .aload_n 0, 1, 0, 0, 0), (751, .iload_n 3, 1, 0, 0, 0), (752, .iconst 3, 1, 0, 0, 0), (753, .iadd, 1, 0, 0, 0), (754, .iaload, 1, 0, 0, 0), (755, .invokevirtual 77, 3, 4014, 68, 0), (758, .pop, 1, 0, 0, 0), (759, .aload_n 2, 1, 0, 0, 0), (760, .aload_n 0, 1, 0, 0, 0), (761, .iload_n 3, 1, 0, 0, 0), (762, .iconst 1, 1, 0, 0, 0), (763, .iadd, 1, 0, 0, 0), (764, .iaload, 1, 0, 0, 0), (765, .aload_n 0, 1, 0, 0, 0), (766, .iload_n 3, 1, 0, 0, 0), (767, .iconst 2, 1, 0, 0, 0), (768, .iadd, 1, 0, 0, 0), (769, .iaload, 1, 0, 0, 0), (770, .aload_n 0, 1, 0, 0, 0), (771, .iload_n 3, 1, 0, 0, 0), (772, .iconst 3, 1, 0, 0, 0), (773, .iadd, 1, 0, 0, 0), (774, .iaload, 1, 0, 0, 0), (775, .invokevirtual 80, 3, 7021, 168, 0), (778, .pop, 1, 0, 0, 0), (779, .goto 1038, 3, 0, 0, 0)])
set_option maxRecDepth 100000 in
theorem kLc15 : fz_okM mLc15 = true := fz_okM_in (by decide +kernel) (by decide +kernel)
set_option maxHeartbeats 1000000 in
set_option maxRecDepth 100000 in
theorem lc15 (h : fz_H) (hI : fz_Iv h) (hX : fz_Xc h) (hXd : fz_Xd h) (hXh : fz_Xh h) (hXw : fz_Xw h) (hv1 : h 53 10 ≤ 10) (hv2 : h 53 42 ≤ h 53 41) (hr0 : h 9 5 = h 53 10) (hr1 : h 44 2 = h 53 44) (hr2 : h 20 2 = h 53 16) (hr3 : h 1 7 = h 53 0) (hr4 : h 1 8 = h 53 2) (hRS : fz_RS h) (hRP : fz_RP h) (hRK : fz_RK h) (hRR : fz_RR h) (hRT : fz_RT h) (hRE : fz_RE h) (hR2 : fz_R2 h) (hR3 : fz_R3 h) (hR4 : fz_R4 h) (hR28 : fz_R28 h) (hR5 : fz_R5 h) (hR6 : fz_R6 h) (hRG : fz_RG h) (hRL : fz_RL h) (hRC : fz_RC h) (hRJ : fz_RJ h) (hRW : fz_RW h) (hRV : fz_RV h) (hRM : fz_RM h) (hRP2 : fz_RP2 h) (hRA : fz_RA h) (hRU : fz_RU h) (hRD : fz_RD h) (i : Int) (hi : 0 ≤ i ∧ i + 6 ≤ h 200 100000 ∧ h 200 100000 ≤ 3072) {Q : fz_H → Option fz_V → Prop} (K : ∀ H : fz_H, fz_Gd H → H 200 = h 200 → fz_R 47 mLe 1817 [(3, fz_i i), (0, fz_r 200), (1, fz_r 0), (2, fz_r 53)] [] H Q) : fz_R 47 mLc15 739 [(3, fz_i i), (0, fz_r 200), (1, fz_r 0), (2, fz_r 53)] [] h Q := by
  have hf : fz_fr fz_all h h := fz_fr_rf
  refine fz_aload_n kLc15 rfl rfl ?_
  refine fz_aload_n kLc15 rfl rfl ?_
  refine fz_iload_n kLc15 rfl rfl ?_
  refine fz_iconst ⟨by decide, by decide⟩ kLc15 rfl ?_
  refine fz_iaddN kLc15 rfl (by omega) ?_
  obtain ⟨a1, e2⟩ : ∃ z, h 200 ((i + 1)).toNat = z := ⟨_, rfl⟩
  refine fz_taldV (v := a1) kLc15 rfl ⟨by decide, by decide⟩ (by omega) (by omega) e2 ?_
  refine fz_aload_n kLc15 rfl rfl ?_
  refine fz_iload_n kLc15 rfl rfl ?_
  refine fz_iconst ⟨by decide, by decide⟩ kLc15 rfl ?_
  refine fz_iaddN kLc15 rfl (by omega) ?_
  obtain ⟨a3, e4⟩ : ∃ z, h 200 ((i + 2)).toNat = z := ⟨_, rfl⟩
  refine fz_taldV (v := a3) kLc15 rfl ⟨by decide, by decide⟩ (by omega) (by omega) e4 ?_
  refine fz_aload_n kLc15 rfl rfl ?_
  refine fz_iload_n kLc15 rfl rfl ?_
  refine fz_iconst ⟨by decide, by decide⟩ kLc15 rfl ?_
  refine fz_iaddN kLc15 rfl (by omega) ?_
  obtain ⟨a5, e6⟩ : ∃ z, h 200 ((i + 3)).toNat = z := ⟨_, rfl⟩
  refine fz_taldV (v := a5) kLc15 rfl ⟨by decide, by decide⟩ (by omega) (by omega) e6 ?_
  refine fz_callV (d' := 10) (M' := mX10_route) (As := [fz_i a1, fz_i a3, fz_i a5]) (st := []) kLc15 rfl rfl vX10_route rfl rfl rfl rfl (Nat.le_of_ble_eq_true rfl) (Nat.le_of_ble_eq_true rfl) (by decide) (sX10_route h hI a1 a3 a5 ) (fun H7 r8 q9 o10 => ?_)
  obtain ⟨hI11, hf12, y15, rfl, f13, f14⟩ := q9
  clear o10
  have hf16 := fz_fr_tr hf hf12 (fz_su_all rfl)
  have hXd17 : fz_Xd H7 := fz_Xd_eq (funext fun s => hf12 80 s rfl) hXd
  have hXh18 : fz_Xh H7 := fz_Xh_eq (funext fun s => hf12 83 s rfl) hXh
  have hXw19 : fz_Xw H7 := fz_Xw_eq (hf12 53 19 rfl) (funext fun s => hf12 66 s rfl) (funext fun s => hf12 67 s rfl) (funext fun s => hf12 68 s rfl) (funext fun s => hf12 69 s rfl) hXw
  have hRS20 : fz_RS H7 := fz_RS_eq (funext fun s => hf12 48 s rfl) (funext fun s => hf12 49 s rfl) (funext fun s => hf12 50 s rfl) (funext fun s => hf12 51 s rfl) (funext fun s => hf12 83 s rfl) (funext fun s => hf12 84 s rfl) (hf12 44 2 rfl) hRS
  have hRP21 : fz_RP H7 := fz_RP_eq (funext fun s => hf12 52 s rfl) (funext fun s => hf12 85 s rfl) hRP
  have hRK22 : fz_RK H7 := fz_RK_eq (funext fun s => hf12 45 s rfl) (funext fun s => hf12 81 s rfl) hRK
  have hRR23 : fz_RR H7 := fz_RR_eq (hf12 44 3 rfl) (hf12 53 46 rfl) (funext fun s => hf12 46 s rfl) (funext fun s => hf12 82 s rfl) hRR
  have hRT24 : fz_RT H7 := fz_RT_eq (funext fun s => hf12 41 s rfl) (funext fun s => hf12 42 s rfl) (hf12 1 7 rfl) hRT
  have hRE25 : fz_RE H7 := fz_RE_eq (funext fun s => hf12 5 s rfl) (funext fun s => hf12 6 s rfl) (hf12 1 8 rfl) (hf12 1 7 rfl) hRE
  have hR226 : fz_R2 H7 := fz_R2_eq (funext fun s => hf12 2 s rfl) (funext fun s => hf12 54 s rfl) hR2
  have hR327 : fz_R3 H7 := fz_R3_eq (funext fun s => hf12 3 s rfl) (funext fun s => hf12 57 s rfl) hR3
  have hR428 : fz_R4 H7 := fz_R4_eq (funext fun s => hf12 4 s rfl) (funext fun s => hf12 58 s rfl) hR4
  have hR2829 : fz_R28 H7 := fz_R28_eq (funext fun s => hf12 28 s rfl) (funext fun s => hf12 59 s rfl) hR28
  have hR530 : fz_R5 H7 := fz_R5_eq (funext fun s => hf12 5 s rfl) (funext fun s => hf12 55 s rfl) hR5
  have hR631 : fz_R6 H7 := fz_R6_eq (funext fun s => hf12 6 s rfl) (funext fun s => hf12 56 s rfl) hR6
  have hRG32 : fz_RG H7 := fz_RG_eq (hf12 27 8 rfl) (hf12 27 9 rfl) (hf12 53 8 rfl) (hf12 53 9 rfl) hRG
  have hRL33 : fz_RL H7 := fz_RL_eq (funext fun s => hf12 11 s rfl) (funext fun s => hf12 12 s rfl) (funext fun s => hf12 13 s rfl) (funext fun s => hf12 14 s rfl) (funext fun s => hf12 61 s rfl) (funext fun s => hf12 62 s rfl) (funext fun s => hf12 63 s rfl) (funext fun s => hf12 64 s rfl) (hf12 9 5 rfl) hRL
  have hRC34 : fz_RC H7 := fz_RC_eq (hf12 35 4 rfl) (hf12 35 5 rfl) (hf12 53 41 rfl) (hf12 53 42 rfl) (funext fun s => hf12 36 s rfl) (funext fun s => hf12 37 s rfl) (funext fun s => hf12 38 s rfl) (funext fun s => hf12 39 s rfl) (funext fun s => hf12 80 s rfl) (hf12 1 7 rfl) (hf12 1 8 rfl) (hf12 9 5 rfl) hRC
  have hRJ35 : fz_RJ H7 := fz_RJ_eq (hf12 40 1 rfl) (hf12 53 34 rfl) (funext fun s => hf12 41 s rfl) (funext fun s => hf12 76 s rfl) (hf12 40 6 rfl) (hf12 53 37 rfl) (funext fun s => hf12 42 s rfl) (funext fun s => hf12 78 s rfl) (hf12 43 0 rfl) (hf12 53 38 rfl) hRJ
  have hRW36 : fz_RW H7 := fz_RW_eq (funext fun s => hf12 10 s rfl) (funext fun s => hf12 60 s rfl) (hf12 9 5 rfl) hRW
  have hRV37 : fz_RV H7 := fz_RV_eq (funext fun s => hf12 7 s rfl) (funext fun s => hf12 8 s rfl) (funext fun s => hf12 3 s rfl) (funext fun s => hf12 4 s rfl) (funext fun s => hf12 5 s rfl) (funext fun s => hf12 6 s rfl) (hf12 1 7 rfl) (hf12 1 8 rfl) hRV
  have hRM38 : fz_RM H7 := fz_RM_eq (funext fun s => hf12 55 s rfl) (funext fun s => hf12 56 s rfl) (hf12 53 0 rfl) (hf12 53 2 rfl) hRM
  have hRP239 : fz_RP2 H7 := fz_RP2_eq (funext fun s => hf12 11 s rfl) (hf12 9 5 rfl) (hf12 1 7 rfl) hRP2
  have hRA40 : fl_RA H7 := fl_RA_eq (funext fun s => hf12 26 s rfl) (funext fun s => hf12 65 s rfl) (hf12 20 2 rfl) hRA
  have hRU41 : fl_RU H7 := fl_RU_eq (hf12 15 4 rfl) (funext fun s => hf12 16 s rfl) (funext fun s => hf12 17 s rfl) (hf12 53 18 rfl) (hf12 53 19 rfl) (funext fun s => hf12 66 s rfl) (funext fun s => hf12 67 s rfl) (funext fun s => hf12 68 s rfl) (funext fun s => hf12 69 s rfl) hRU
  have hRD42 : fl_RD H7 := fl_RD_eq (hf12 40 2 rfl) (hf12 40 3 rfl) (hf12 40 4 rfl) (hf12 40 5 rfl) (funext fun s => hf12 77 s rfl) (hf12 43 1 rfl) (hf12 43 2 rfl) (hf12 43 3 rfl) (hf12 43 4 rfl) (funext fun s => hf12 79 s rfl) hRD
  have hX43 : fz_Xc H7 := fz_Xc_fr hf12 rfl hX
  have t44 : H7 53 10 = h 53 10 := hf12 53 10 rfl
  have t45 : H7 53 41 = h 53 41 := hf12 53 41 rfl
  have t46 : H7 53 42 = h 53 42 := hf12 53 42 rfl
  have t47 : H7 9 5 = h 9 5 := hf12 9 5 rfl
  have t48 : H7 53 10 = h 53 10 := hf12 53 10 rfl
  have t49 : H7 44 2 = h 44 2 := hf12 44 2 rfl
  have t50 : H7 53 44 = h 53 44 := hf12 53 44 rfl
  have t51 : H7 20 2 = h 20 2 := hf12 20 2 rfl
  have t52 : H7 53 16 = h 53 16 := hf12 53 16 rfl
  have t53 : H7 1 7 = h 1 7 := hf12 1 7 rfl
  have t54 : H7 53 0 = h 53 0 := hf12 53 0 rfl
  have t55 : H7 1 8 = h 1 8 := hf12 1 8 rfl
  have t56 : H7 53 2 = h 53 2 := hf12 53 2 rfl
  refine fz_pop rfl kLc15 rfl ?_
  refine fz_aload_n kLc15 rfl rfl ?_
  refine fz_aload_n kLc15 rfl rfl ?_
  refine fz_iload_n kLc15 rfl rfl ?_
  refine fz_iconst ⟨by decide, by decide⟩ kLc15 rfl ?_
  refine fz_iaddN kLc15 rfl (by omega) ?_
  refine fz_taldV (v := a1) kLc15 rfl ⟨by decide, by decide⟩ (by omega) (by rw [hf16 200 _ rfl]; omega) ((hf16 200 _ rfl).trans e2) ?_
  refine fz_aload_n kLc15 rfl rfl ?_
  refine fz_iload_n kLc15 rfl rfl ?_
  refine fz_iconst ⟨by decide, by decide⟩ kLc15 rfl ?_
  refine fz_iaddN kLc15 rfl (by omega) ?_
  refine fz_taldV (v := a3) kLc15 rfl ⟨by decide, by decide⟩ (by omega) (by rw [hf16 200 _ rfl]; omega) ((hf16 200 _ rfl).trans e4) ?_
  refine fz_aload_n kLc15 rfl rfl ?_
  refine fz_iload_n kLc15 rfl rfl ?_
  refine fz_iconst ⟨by decide, by decide⟩ kLc15 rfl ?_
  refine fz_iaddN kLc15 rfl (by omega) ?_
  refine fz_taldV (v := a5) kLc15 rfl ⟨by decide, by decide⟩ (by omega) (by rw [hf16 200 _ rfl]; omega) ((hf16 200 _ rfl).trans e6) ?_
  have hRPm57 : fl_RPm H7 := by first | exact fl_RPm_eq (funext fun s => hf12 61 s rfl) (hf12 53 10 rfl) (hf12 53 0 rfl) (fl_RPm_of hRL hRP2 hr3.symm hr0.symm) | exact fl_RPm_of hRL hRP2 hr3.symm hr0.symm
  refine fz_callV (d' := 9) (M' := mX11_route) (As := [fz_i a1, fz_i a3, fz_i a5]) (st := []) kLc15 rfl rfl vX11_route rfl rfl rfl rfl (Nat.le_of_ble_eq_true rfl) (Nat.le_of_ble_eq_true rfl) (by decide) (sX11_route H7 hI11 a1 a3 a5 hXw19 hRM38 hRPm57) (fun H59 r60 q61 o62 => ?_)
  obtain ⟨hI63, hf64, hXw65, hRM66, hRPm67, y70, rfl, f68, f69⟩ := q61
  clear o62
  have hf71 := fz_fr_tr hf16 hf64 (fz_su_all rfl)
  have hXd72 : fz_Xd H59 := fz_Xd_eq (funext fun s => hf64 80 s rfl) hXd17
  have hXh73 : fz_Xh H59 := fz_Xh_eq (funext fun s => hf64 83 s rfl) hXh18
  have hRS74 : fz_RS H59 := fz_RS_eq (funext fun s => hf64 48 s rfl) (funext fun s => hf64 49 s rfl) (funext fun s => hf64 50 s rfl) (funext fun s => hf64 51 s rfl) (funext fun s => hf64 83 s rfl) (funext fun s => hf64 84 s rfl) (hf64 44 2 rfl) hRS20
  have hRP75 : fz_RP H59 := fz_RP_eq (funext fun s => hf64 52 s rfl) (funext fun s => hf64 85 s rfl) hRP21
  have hRK76 : fz_RK H59 := fz_RK_eq (funext fun s => hf64 45 s rfl) (funext fun s => hf64 81 s rfl) hRK22
  have hRR77 : fz_RR H59 := fz_RR_eq (hf64 44 3 rfl) (hf64 53 46 rfl) (funext fun s => hf64 46 s rfl) (funext fun s => hf64 82 s rfl) hRR23
  have hRT78 : fz_RT H59 := fz_RT_eq (funext fun s => hf64 41 s rfl) (funext fun s => hf64 42 s rfl) (hf64 1 7 rfl) hRT24
  have hRE79 : fz_RE H59 := fz_RE_eq (funext fun s => hf64 5 s rfl) (funext fun s => hf64 6 s rfl) (hf64 1 8 rfl) (hf64 1 7 rfl) hRE25
  have hR280 : fz_R2 H59 := fz_R2_eq (funext fun s => hf64 2 s rfl) (funext fun s => hf64 54 s rfl) hR226
  have hR381 : fz_R3 H59 := fz_R3_eq (funext fun s => hf64 3 s rfl) (funext fun s => hf64 57 s rfl) hR327
  have hR482 : fz_R4 H59 := fz_R4_eq (funext fun s => hf64 4 s rfl) (funext fun s => hf64 58 s rfl) hR428
  have hR2883 : fz_R28 H59 := fz_R28_eq (funext fun s => hf64 28 s rfl) (funext fun s => hf64 59 s rfl) hR2829
  have hR584 : fz_R5 H59 := fz_R5_eq (funext fun s => hf64 5 s rfl) (funext fun s => hf64 55 s rfl) hR530
  have hR685 : fz_R6 H59 := fz_R6_eq (funext fun s => hf64 6 s rfl) (funext fun s => hf64 56 s rfl) hR631
  have hRG86 : fz_RG H59 := fz_RG_eq (hf64 27 8 rfl) (hf64 27 9 rfl) (hf64 53 8 rfl) (hf64 53 9 rfl) hRG32
  have hRL87 : fz_RL H59 := fz_RL_eq (funext fun s => hf64 11 s rfl) (funext fun s => hf64 12 s rfl) (funext fun s => hf64 13 s rfl) (funext fun s => hf64 14 s rfl) (funext fun s => hf64 61 s rfl) (funext fun s => hf64 62 s rfl) (funext fun s => hf64 63 s rfl) (funext fun s => hf64 64 s rfl) (hf64 9 5 rfl) hRL33
  have hRC88 : fz_RC H59 := fz_RC_eq (hf64 35 4 rfl) (hf64 35 5 rfl) (hf64 53 41 rfl) (hf64 53 42 rfl) (funext fun s => hf64 36 s rfl) (funext fun s => hf64 37 s rfl) (funext fun s => hf64 38 s rfl) (funext fun s => hf64 39 s rfl) (funext fun s => hf64 80 s rfl) (hf64 1 7 rfl) (hf64 1 8 rfl) (hf64 9 5 rfl) hRC34
  have hRJ89 : fz_RJ H59 := fz_RJ_eq (hf64 40 1 rfl) (hf64 53 34 rfl) (funext fun s => hf64 41 s rfl) (funext fun s => hf64 76 s rfl) (hf64 40 6 rfl) (hf64 53 37 rfl) (funext fun s => hf64 42 s rfl) (funext fun s => hf64 78 s rfl) (hf64 43 0 rfl) (hf64 53 38 rfl) hRJ35
  have hRW90 : fz_RW H59 := fz_RW_eq (funext fun s => hf64 10 s rfl) (funext fun s => hf64 60 s rfl) (hf64 9 5 rfl) hRW36
  have hRV91 : fz_RV H59 := fz_RV_eq (funext fun s => hf64 7 s rfl) (funext fun s => hf64 8 s rfl) (funext fun s => hf64 3 s rfl) (funext fun s => hf64 4 s rfl) (funext fun s => hf64 5 s rfl) (funext fun s => hf64 6 s rfl) (hf64 1 7 rfl) (hf64 1 8 rfl) hRV37
  have hRP292 : fz_RP2 H59 := fz_RP2_eq (funext fun s => hf64 11 s rfl) (hf64 9 5 rfl) (hf64 1 7 rfl) hRP239
  have hRA93 : fl_RA H59 := fl_RA_eq (funext fun s => hf64 26 s rfl) (funext fun s => hf64 65 s rfl) (hf64 20 2 rfl) hRA40
  have hRU94 : fl_RU H59 := fl_RU_eq (hf64 15 4 rfl) (funext fun s => hf64 16 s rfl) (funext fun s => hf64 17 s rfl) (hf64 53 18 rfl) (hf64 53 19 rfl) (funext fun s => hf64 66 s rfl) (funext fun s => hf64 67 s rfl) (funext fun s => hf64 68 s rfl) (funext fun s => hf64 69 s rfl) hRU41
  have hRD95 : fl_RD H59 := fl_RD_eq (hf64 40 2 rfl) (hf64 40 3 rfl) (hf64 40 4 rfl) (hf64 40 5 rfl) (funext fun s => hf64 77 s rfl) (hf64 43 1 rfl) (hf64 43 2 rfl) (hf64 43 3 rfl) (hf64 43 4 rfl) (funext fun s => hf64 79 s rfl) hRD42
  have hX96 : fz_Xc H59 := fz_Xc_fr hf64 rfl hX43
  have t97 : H59 53 10 = H7 53 10 := hf64 53 10 rfl
  have t98 : H59 53 41 = H7 53 41 := hf64 53 41 rfl
  have t99 : H59 53 42 = H7 53 42 := hf64 53 42 rfl
  have t100 : H59 9 5 = H7 9 5 := hf64 9 5 rfl
  have t101 : H59 53 10 = H7 53 10 := hf64 53 10 rfl
  have t102 : H59 44 2 = H7 44 2 := hf64 44 2 rfl
  have t103 : H59 53 44 = H7 53 44 := hf64 53 44 rfl
  have t104 : H59 20 2 = H7 20 2 := hf64 20 2 rfl
  have t105 : H59 53 16 = H7 53 16 := hf64 53 16 rfl
  have t106 : H59 1 7 = H7 1 7 := hf64 1 7 rfl
  have t107 : H59 53 0 = H7 53 0 := hf64 53 0 rfl
  have t108 : H59 1 8 = H7 1 8 := hf64 1 8 rfl
  have t109 : H59 53 2 = H7 53 2 := hf64 53 2 rfl
  refine fz_pop rfl kLc15 rfl ?_
  refine fz_goto (tgt := 1817) kLc15 rfl (by decide) ?_
  exact K H59 ⟨hI63, hX96, hXd72, hXh73, hXw65, (by rw [((hf64 53 10 rfl).trans (hf12 53 10 rfl))]; exact hv1), (by rw [((hf64 53 42 rfl).trans (hf12 53 42 rfl)), ((hf64 53 41 rfl).trans (hf12 53 41 rfl))]; exact hv2), (((hf64 9 5 rfl).trans (hf12 9 5 rfl)).trans (hr0.trans ((hf64 53 10 rfl).trans (hf12 53 10 rfl)).symm)), (((hf64 44 2 rfl).trans (hf12 44 2 rfl)).trans (hr1.trans ((hf64 53 44 rfl).trans (hf12 53 44 rfl)).symm)), (((hf64 20 2 rfl).trans (hf12 20 2 rfl)).trans (hr2.trans ((hf64 53 16 rfl).trans (hf12 53 16 rfl)).symm)), (((hf64 1 7 rfl).trans (hf12 1 7 rfl)).trans (hr3.trans ((hf64 53 0 rfl).trans (hf12 53 0 rfl)).symm)), (((hf64 1 8 rfl).trans (hf12 1 8 rfl)).trans (hr4.trans ((hf64 53 2 rfl).trans (hf12 53 2 rfl)).symm)), hRS74, hRP75, hRK76, hRR77, hRT78, hRE79, hR280, hR381, hR482, hR2883, hR584, hR685, hRG86, hRL87, hRC88, hRJ89, hRW90, hRV91, hRM66, hRP292, hRA93, hRU94, hRD95⟩ (funext fun s => hf71 200 s rfl)
def mLc16 : fz_M := (yL_law, code, 4, (some .boolean), [(782, .aload_n 1, 1, 0, 0, 0), (783, .aload_n 0, 1, 0, 0, 0), (784, .iload_n 3, 1, 0, 0, 0), (785, .iconst 1, 1, 0, 0, 0), (786, .iadd, 1, 0, 0, 0), (787, .iaload, 1, 0, 0, 0), (788, .aload_n 0, 1, 0, 0, 0), (789, .iload_n 3, 1, 0, 0, 0), (790, .iconst 2, 1, 0, 0, 0), (791, .iadd, 1, 0, 0, 0), (792, .iaload, 1, 0, 0, 0), (793, .aload_n 0, 1, 0, 0, 0), (794, .iload_n 3, 1, 0, 0, 0), (795, .iconst 3, 1, 0, 0, 0), (796, .iadd, 1, 0, 0, 0), (797, .iaload, 1, 0, 0, 0), (798, .aload_n 0, 1, 0, 0, 0), (799, .iload_n 3, 1, 0, 0, 0), (800, .iconst 4, 1, 0, 0, 0), (801, .iadd, 1, 0, 0, 0), (802, .iaload, 1, 0, 0, 0), (803, .invokevirtual 81, 3, 4044, 58, 0), (806, .pop, 1, 0, 0, 0), (807, .aload_n 2, 1, 0, 0, 0), (808, .aload_n 0, 1, 0, 0, 0), (809, .iload_n 3, 1, 0, 0, 0), (810, .iconst 1, 1, 0, 0, 0), (811, .iadd, 1, 0, 0, 0), (812, .iaload, 1, 0, 0, 0), (813, .aload_n 0, 1, 0, 0, 0), (814, .iload_n 3, 1, 0, 0, 0), (815, .iconst 2, 1, 0, 0, 0), (816, .iadd, 1, 0, 0, 0), (817, .iaload, 1, 0, 0, 0), (818, .aload_n 0, 1, 0, 0, 0), (819, .iload_n 3, 1, 0, 0, 0), (820, .iconst 3, 1, 0, 0, 0), (821, .iadd, 1, 0, 0, 0), (822, .iaload, 1, 0, 0, 0), (823, .aload_n 0, 1, 0, 0, 0), (824, .iload_n 3, 1, 0, 0, 0), (825, .iconst 4, 1, 0, 0, 0), (826, .iadd, 1, 0, 0, 0), (827, .iaload, 1, 0, 0, 0), (828, .invokevirtual 85, 3, 7033, 155, 0), (831, .pop, 1, 0, 0, 0), (832, .goto 985, 3, 0, 0, 0)])
set_option maxRecDepth 100000 in
theorem kLc16 : fz_okM mLc16 = true := fz_okM_in (by decide +kernel) (by decide +kernel)
set_option maxHeartbeats 1000000 in
set_option maxRecDepth 100000 in
theorem lc16 (h : fz_H) (hI : fz_Iv h) (hX : fz_Xc h) (hXd : fz_Xd h) (hXh : fz_Xh h) (hXw : fz_Xw h) (hv1 : h 53 10 ≤ 10) (hv2 : h 53 42 ≤ h 53 41) (hr0 : h 9 5 = h 53 10) (hr1 : h 44 2 = h 53 44) (hr2 : h 20 2 = h 53 16) (hr3 : h 1 7 = h 53 0) (hr4 : h 1 8 = h 53 2) (hRS : fz_RS h) (hRP : fz_RP h) (hRK : fz_RK h) (hRR : fz_RR h) (hRT : fz_RT h) (hRE : fz_RE h) (hR2 : fz_R2 h) (hR3 : fz_R3 h) (hR4 : fz_R4 h) (hR28 : fz_R28 h) (hR5 : fz_R5 h) (hR6 : fz_R6 h) (hRG : fz_RG h) (hRL : fz_RL h) (hRC : fz_RC h) (hRJ : fz_RJ h) (hRW : fz_RW h) (hRV : fz_RV h) (hRM : fz_RM h) (hRP2 : fz_RP2 h) (hRA : fz_RA h) (hRU : fz_RU h) (hRD : fz_RD h) (i : Int) (hi : 0 ≤ i ∧ i + 6 ≤ h 200 100000 ∧ h 200 100000 ≤ 3072) {Q : fz_H → Option fz_V → Prop} (K : ∀ H : fz_H, fz_Gd H → H 200 = h 200 → fz_R 47 mLe 1817 [(3, fz_i i), (0, fz_r 200), (1, fz_r 0), (2, fz_r 53)] [] H Q) : fz_R 47 mLc16 782 [(3, fz_i i), (0, fz_r 200), (1, fz_r 0), (2, fz_r 53)] [] h Q := by
  have hf : fz_fr fz_all h h := fz_fr_rf
  refine fz_aload_n kLc16 rfl rfl ?_
  refine fz_aload_n kLc16 rfl rfl ?_
  refine fz_iload_n kLc16 rfl rfl ?_
  refine fz_iconst ⟨by decide, by decide⟩ kLc16 rfl ?_
  refine fz_iaddN kLc16 rfl (by omega) ?_
  obtain ⟨a1, e2⟩ : ∃ z, h 200 ((i + 1)).toNat = z := ⟨_, rfl⟩
  refine fz_taldV (v := a1) kLc16 rfl ⟨by decide, by decide⟩ (by omega) (by omega) e2 ?_
  refine fz_aload_n kLc16 rfl rfl ?_
  refine fz_iload_n kLc16 rfl rfl ?_
  refine fz_iconst ⟨by decide, by decide⟩ kLc16 rfl ?_
  refine fz_iaddN kLc16 rfl (by omega) ?_
  obtain ⟨a3, e4⟩ : ∃ z, h 200 ((i + 2)).toNat = z := ⟨_, rfl⟩
  refine fz_taldV (v := a3) kLc16 rfl ⟨by decide, by decide⟩ (by omega) (by omega) e4 ?_
  refine fz_aload_n kLc16 rfl rfl ?_
  refine fz_iload_n kLc16 rfl rfl ?_
  refine fz_iconst ⟨by decide, by decide⟩ kLc16 rfl ?_
  refine fz_iaddN kLc16 rfl (by omega) ?_
  obtain ⟨a5, e6⟩ : ∃ z, h 200 ((i + 3)).toNat = z := ⟨_, rfl⟩
  refine fz_taldV (v := a5) kLc16 rfl ⟨by decide, by decide⟩ (by omega) (by omega) e6 ?_
  refine fz_aload_n kLc16 rfl rfl ?_
  refine fz_iload_n kLc16 rfl rfl ?_
  refine fz_iconst ⟨by decide, by decide⟩ kLc16 rfl ?_
  refine fz_iaddN kLc16 rfl (by omega) ?_
  obtain ⟨a7, e8⟩ : ∃ z, h 200 ((i + 4)).toNat = z := ⟨_, rfl⟩
  refine fz_taldV (v := a7) kLc16 rfl ⟨by decide, by decide⟩ (by omega) (by omega) e8 ?_
  refine fz_callV (d' := 5) (M' := mX10_needs) (As := [fz_i a1, fz_i a3, fz_i a5, fz_i a7]) (st := []) kLc16 rfl rfl vX10_needs rfl rfl rfl rfl (Nat.le_of_ble_eq_true rfl) (Nat.le_of_ble_eq_true rfl) (by decide) (sX10_needs h hI a1 a3 a5 a7 ) (fun H9 r10 q11 o12 => ?_)
  obtain ⟨hI13, hf14, y18, rfl, f15, f16, f17⟩ := q11
  clear o12
  have hf19 := fz_fr_tr hf hf14 (fz_su_all rfl)
  have hXd20 : fz_Xd H9 := fz_Xd_eq (funext fun s => hf14 80 s rfl) hXd
  have hXh21 : fz_Xh H9 := fz_Xh_eq (funext fun s => hf14 83 s rfl) hXh
  have hXw22 : fz_Xw H9 := fz_Xw_eq (hf14 53 19 rfl) (funext fun s => hf14 66 s rfl) (funext fun s => hf14 67 s rfl) (funext fun s => hf14 68 s rfl) (funext fun s => hf14 69 s rfl) hXw
  have hRS23 : fz_RS H9 := fz_RS_eq (funext fun s => hf14 48 s rfl) (funext fun s => hf14 49 s rfl) (funext fun s => hf14 50 s rfl) (funext fun s => hf14 51 s rfl) (funext fun s => hf14 83 s rfl) (funext fun s => hf14 84 s rfl) (hf14 44 2 rfl) hRS
  have hRP24 : fz_RP H9 := fz_RP_eq (funext fun s => hf14 52 s rfl) (funext fun s => hf14 85 s rfl) hRP
  have hRK25 : fz_RK H9 := fz_RK_eq (funext fun s => hf14 45 s rfl) (funext fun s => hf14 81 s rfl) hRK
  have hRR26 : fz_RR H9 := fz_RR_eq (hf14 44 3 rfl) (hf14 53 46 rfl) (funext fun s => hf14 46 s rfl) (funext fun s => hf14 82 s rfl) hRR
  have hRT27 : fz_RT H9 := fz_RT_eq (funext fun s => hf14 41 s rfl) (funext fun s => hf14 42 s rfl) (hf14 1 7 rfl) hRT
  have hRE28 : fz_RE H9 := fz_RE_eq (funext fun s => hf14 5 s rfl) (funext fun s => hf14 6 s rfl) (hf14 1 8 rfl) (hf14 1 7 rfl) hRE
  have hR229 : fz_R2 H9 := fz_R2_eq (funext fun s => hf14 2 s rfl) (funext fun s => hf14 54 s rfl) hR2
  have hR330 : fz_R3 H9 := fz_R3_eq (funext fun s => hf14 3 s rfl) (funext fun s => hf14 57 s rfl) hR3
  have hR431 : fz_R4 H9 := fz_R4_eq (funext fun s => hf14 4 s rfl) (funext fun s => hf14 58 s rfl) hR4
  have hR2832 : fz_R28 H9 := fz_R28_eq (funext fun s => hf14 28 s rfl) (funext fun s => hf14 59 s rfl) hR28
  have hR533 : fz_R5 H9 := fz_R5_eq (funext fun s => hf14 5 s rfl) (funext fun s => hf14 55 s rfl) hR5
  have hR634 : fz_R6 H9 := fz_R6_eq (funext fun s => hf14 6 s rfl) (funext fun s => hf14 56 s rfl) hR6
  have hRG35 : fz_RG H9 := fz_RG_eq (hf14 27 8 rfl) (hf14 27 9 rfl) (hf14 53 8 rfl) (hf14 53 9 rfl) hRG
  have hRC36 : fz_RC H9 := fz_RC_eq (hf14 35 4 rfl) (hf14 35 5 rfl) (hf14 53 41 rfl) (hf14 53 42 rfl) (funext fun s => hf14 36 s rfl) (funext fun s => hf14 37 s rfl) (funext fun s => hf14 38 s rfl) (funext fun s => hf14 39 s rfl) (funext fun s => hf14 80 s rfl) (hf14 1 7 rfl) (hf14 1 8 rfl) (hf14 9 5 rfl) hRC
  have hRJ37 : fz_RJ H9 := fz_RJ_eq (hf14 40 1 rfl) (hf14 53 34 rfl) (funext fun s => hf14 41 s rfl) (funext fun s => hf14 76 s rfl) (hf14 40 6 rfl) (hf14 53 37 rfl) (funext fun s => hf14 42 s rfl) (funext fun s => hf14 78 s rfl) (hf14 43 0 rfl) (hf14 53 38 rfl) hRJ
  have hRV38 : fz_RV H9 := fz_RV_eq (funext fun s => hf14 7 s rfl) (funext fun s => hf14 8 s rfl) (funext fun s => hf14 3 s rfl) (funext fun s => hf14 4 s rfl) (funext fun s => hf14 5 s rfl) (funext fun s => hf14 6 s rfl) (hf14 1 7 rfl) (hf14 1 8 rfl) hRV
  have hRM39 : fz_RM H9 := fz_RM_eq (funext fun s => hf14 55 s rfl) (funext fun s => hf14 56 s rfl) (hf14 53 0 rfl) (hf14 53 2 rfl) hRM
  have hRA40 : fl_RA H9 := fl_RA_eq (funext fun s => hf14 26 s rfl) (funext fun s => hf14 65 s rfl) (hf14 20 2 rfl) hRA
  have hRU41 : fl_RU H9 := fl_RU_eq (hf14 15 4 rfl) (funext fun s => hf14 16 s rfl) (funext fun s => hf14 17 s rfl) (hf14 53 18 rfl) (hf14 53 19 rfl) (funext fun s => hf14 66 s rfl) (funext fun s => hf14 67 s rfl) (funext fun s => hf14 68 s rfl) (funext fun s => hf14 69 s rfl) hRU
  have hRD42 : fl_RD H9 := fl_RD_eq (hf14 40 2 rfl) (hf14 40 3 rfl) (hf14 40 4 rfl) (hf14 40 5 rfl) (funext fun s => hf14 77 s rfl) (hf14 43 1 rfl) (hf14 43 2 rfl) (hf14 43 3 rfl) (hf14 43 4 rfl) (funext fun s => hf14 79 s rfl) hRD
  have hX43 : fz_Xc H9 := fz_Xc_fr hf14 rfl hX
  have t44 : H9 53 10 = h 53 10 := hf14 53 10 rfl
  have t45 : H9 53 41 = h 53 41 := hf14 53 41 rfl
  have t46 : H9 53 42 = h 53 42 := hf14 53 42 rfl
  have t47 : H9 9 5 = h 9 5 := hf14 9 5 rfl
  have t48 : H9 53 10 = h 53 10 := hf14 53 10 rfl
  have t49 : H9 44 2 = h 44 2 := hf14 44 2 rfl
  have t50 : H9 53 44 = h 53 44 := hf14 53 44 rfl
  have t51 : H9 20 2 = h 20 2 := hf14 20 2 rfl
  have t52 : H9 53 16 = h 53 16 := hf14 53 16 rfl
  have t53 : H9 1 7 = h 1 7 := hf14 1 7 rfl
  have t54 : H9 53 0 = h 53 0 := hf14 53 0 rfl
  have t55 : H9 1 8 = h 1 8 := hf14 1 8 rfl
  have t56 : H9 53 2 = h 53 2 := hf14 53 2 rfl
  refine fz_pop rfl kLc16 rfl ?_
  refine fz_aload_n kLc16 rfl rfl ?_
  refine fz_aload_n kLc16 rfl rfl ?_
  refine fz_iload_n kLc16 rfl rfl ?_
  refine fz_iconst ⟨by decide, by decide⟩ kLc16 rfl ?_
  refine fz_iaddN kLc16 rfl (by omega) ?_
  refine fz_taldV (v := a1) kLc16 rfl ⟨by decide, by decide⟩ (by omega) (by rw [hf19 200 _ rfl]; omega) ((hf19 200 _ rfl).trans e2) ?_
  refine fz_aload_n kLc16 rfl rfl ?_
  refine fz_iload_n kLc16 rfl rfl ?_
  refine fz_iconst ⟨by decide, by decide⟩ kLc16 rfl ?_
  refine fz_iaddN kLc16 rfl (by omega) ?_
  refine fz_taldV (v := a3) kLc16 rfl ⟨by decide, by decide⟩ (by omega) (by rw [hf19 200 _ rfl]; omega) ((hf19 200 _ rfl).trans e4) ?_
  refine fz_aload_n kLc16 rfl rfl ?_
  refine fz_iload_n kLc16 rfl rfl ?_
  refine fz_iconst ⟨by decide, by decide⟩ kLc16 rfl ?_
  refine fz_iaddN kLc16 rfl (by omega) ?_
  refine fz_taldV (v := a5) kLc16 rfl ⟨by decide, by decide⟩ (by omega) (by rw [hf19 200 _ rfl]; omega) ((hf19 200 _ rfl).trans e6) ?_
  refine fz_aload_n kLc16 rfl rfl ?_
  refine fz_iload_n kLc16 rfl rfl ?_
  refine fz_iconst ⟨by decide, by decide⟩ kLc16 rfl ?_
  refine fz_iaddN kLc16 rfl (by omega) ?_
  refine fz_taldV (v := a7) kLc16 rfl ⟨by decide, by decide⟩ (by omega) (by rw [hf19 200 _ rfl]; omega) ((hf19 200 _ rfl).trans e8) ?_
  have hRPm57 : fl_RPm H9 := by first | exact fl_RPm_eq (funext fun s => hf14 61 s rfl) (hf14 53 10 rfl) (hf14 53 0 rfl) (fl_RPm_of hRL hRP2 hr3.symm hr0.symm) | exact fl_RPm_of hRL hRP2 hr3.symm hr0.symm
  have b59 : 0 ≤ H9 53 10 ∧ H9 53 10 ≤ 11 := hI13.1 53 _
  refine fz_callV (d' := 5) (M' := mX11_needs) (As := [fz_i a1, fz_i a3, fz_i a5, fz_i a7]) (st := []) kLc16 rfl rfl vX11_needs rfl rfl rfl rfl (Nat.le_of_ble_eq_true rfl) (Nat.le_of_ble_eq_true rfl) (by decide) (sX11_needs H9 hI13 a1 a3 a5 a7 hXw22 hRM39 hRPm57 (by omega)) (fun H60 r61 q62 o63 => ?_)
  obtain ⟨hI64, hf65, hXw66, hRM67, hRPm68, y73, rfl, f69, f70, f71, f72⟩ := q62
  clear o63
  have hf74 := fz_fr_tr hf19 hf65 (fz_su_all rfl)
  have hXd75 : fz_Xd H60 := fz_Xd_eq (funext fun s => hf65 80 s rfl) hXd20
  have hXh76 : fz_Xh H60 := fz_Xh_eq (funext fun s => hf65 83 s rfl) hXh21
  have hRS77 : fz_RS H60 := fz_RS_eq (funext fun s => hf65 48 s rfl) (funext fun s => hf65 49 s rfl) (funext fun s => hf65 50 s rfl) (funext fun s => hf65 51 s rfl) (funext fun s => hf65 83 s rfl) (funext fun s => hf65 84 s rfl) (hf65 44 2 rfl) hRS23
  have hRP78 : fz_RP H60 := fz_RP_eq (funext fun s => hf65 52 s rfl) (funext fun s => hf65 85 s rfl) hRP24
  have hRK79 : fz_RK H60 := fz_RK_eq (funext fun s => hf65 45 s rfl) (funext fun s => hf65 81 s rfl) hRK25
  have hRR80 : fz_RR H60 := fz_RR_eq (hf65 44 3 rfl) (hf65 53 46 rfl) (funext fun s => hf65 46 s rfl) (funext fun s => hf65 82 s rfl) hRR26
  have hRT81 : fz_RT H60 := fz_RT_eq (funext fun s => hf65 41 s rfl) (funext fun s => hf65 42 s rfl) (hf65 1 7 rfl) hRT27
  have hRE82 : fz_RE H60 := fz_RE_eq (funext fun s => hf65 5 s rfl) (funext fun s => hf65 6 s rfl) (hf65 1 8 rfl) (hf65 1 7 rfl) hRE28
  have hR283 : fz_R2 H60 := fz_R2_eq (funext fun s => hf65 2 s rfl) (funext fun s => hf65 54 s rfl) hR229
  have hR384 : fz_R3 H60 := fz_R3_eq (funext fun s => hf65 3 s rfl) (funext fun s => hf65 57 s rfl) hR330
  have hR485 : fz_R4 H60 := fz_R4_eq (funext fun s => hf65 4 s rfl) (funext fun s => hf65 58 s rfl) hR431
  have hR2886 : fz_R28 H60 := fz_R28_eq (funext fun s => hf65 28 s rfl) (funext fun s => hf65 59 s rfl) hR2832
  have hR587 : fz_R5 H60 := fz_R5_eq (funext fun s => hf65 5 s rfl) (funext fun s => hf65 55 s rfl) hR533
  have hR688 : fz_R6 H60 := fz_R6_eq (funext fun s => hf65 6 s rfl) (funext fun s => hf65 56 s rfl) hR634
  have hRG89 : fz_RG H60 := fz_RG_eq (hf65 27 8 rfl) (hf65 27 9 rfl) (hf65 53 8 rfl) (hf65 53 9 rfl) hRG35
  have hRC90 : fz_RC H60 := fz_RC_eq (hf65 35 4 rfl) (hf65 35 5 rfl) (hf65 53 41 rfl) (hf65 53 42 rfl) (funext fun s => hf65 36 s rfl) (funext fun s => hf65 37 s rfl) (funext fun s => hf65 38 s rfl) (funext fun s => hf65 39 s rfl) (funext fun s => hf65 80 s rfl) (hf65 1 7 rfl) (hf65 1 8 rfl) (hf65 9 5 rfl) hRC36
  have hRJ91 : fz_RJ H60 := fz_RJ_eq (hf65 40 1 rfl) (hf65 53 34 rfl) (funext fun s => hf65 41 s rfl) (funext fun s => hf65 76 s rfl) (hf65 40 6 rfl) (hf65 53 37 rfl) (funext fun s => hf65 42 s rfl) (funext fun s => hf65 78 s rfl) (hf65 43 0 rfl) (hf65 53 38 rfl) hRJ37
  have hRV92 : fz_RV H60 := fz_RV_eq (funext fun s => hf65 7 s rfl) (funext fun s => hf65 8 s rfl) (funext fun s => hf65 3 s rfl) (funext fun s => hf65 4 s rfl) (funext fun s => hf65 5 s rfl) (funext fun s => hf65 6 s rfl) (hf65 1 7 rfl) (hf65 1 8 rfl) hRV38
  have hRA93 : fl_RA H60 := fl_RA_eq (funext fun s => hf65 26 s rfl) (funext fun s => hf65 65 s rfl) (hf65 20 2 rfl) hRA40
  have hRU94 : fl_RU H60 := fl_RU_eq (hf65 15 4 rfl) (funext fun s => hf65 16 s rfl) (funext fun s => hf65 17 s rfl) (hf65 53 18 rfl) (hf65 53 19 rfl) (funext fun s => hf65 66 s rfl) (funext fun s => hf65 67 s rfl) (funext fun s => hf65 68 s rfl) (funext fun s => hf65 69 s rfl) hRU41
  have hRD95 : fl_RD H60 := fl_RD_eq (hf65 40 2 rfl) (hf65 40 3 rfl) (hf65 40 4 rfl) (hf65 40 5 rfl) (funext fun s => hf65 77 s rfl) (hf65 43 1 rfl) (hf65 43 2 rfl) (hf65 43 3 rfl) (hf65 43 4 rfl) (funext fun s => hf65 79 s rfl) hRD42
  have hX96 : fz_Xc H60 := fz_Xc_fr hf65 rfl hX43
  have t97 : H60 53 41 = H9 53 41 := hf65 53 41 rfl
  have t98 : H60 53 42 = H9 53 42 := hf65 53 42 rfl
  have t99 : H60 9 5 = H9 9 5 := hf65 9 5 rfl
  have t100 : H60 44 2 = H9 44 2 := hf65 44 2 rfl
  have t101 : H60 53 44 = H9 53 44 := hf65 53 44 rfl
  have t102 : H60 20 2 = H9 20 2 := hf65 20 2 rfl
  have t103 : H60 53 16 = H9 53 16 := hf65 53 16 rfl
  have t104 : H60 1 7 = H9 1 7 := hf65 1 7 rfl
  have t105 : H60 53 0 = H9 53 0 := hf65 53 0 rfl
  have t106 : H60 1 8 = H9 1 8 := hf65 1 8 rfl
  have t107 : H60 53 2 = H9 53 2 := hf65 53 2 rfl
  refine fz_pop rfl kLc16 rfl ?_
  refine fz_goto (tgt := 1817) kLc16 rfl (by decide) ?_
  have hRL108 : fz_RL H60 := fz_RL_ap hRL f16 f71 (by omega) ⟨(funext fun s => hf14 61 s rfl), (funext fun s => hf14 62 s rfl), (funext fun s => hf14 63 s rfl), (funext fun s => hf14 64 s rfl)⟩ ⟨(funext fun s => hf65 11 s rfl), (funext fun s => hf65 12 s rfl), (funext fun s => hf65 13 s rfl), (funext fun s => hf65 14 s rfl)⟩ (by omega) rfl (show 0 ≤ h 9 5 from (hI.1 9 _).1) (fun _ a b => absurd b (by omega))
  have hRW110 : fz_RW H60 := fz_RW_ap hRW f16 f71 (by omega) (funext fun s => hf14 60 s rfl) (funext fun s => hf65 10 s rfl) (by omega) rfl (show 0 ≤ h 9 5 from (hI.1 9 _).1) (fun _ a b => absurd b (by omega))
  have hRP2112 : fz_RP2 H60 := fz_RP2_ap hRP2 f16 (funext fun s => hf65 11 s rfl) (by omega) (by omega) (show 0 ≤ h 9 5 from (hI.1 9 _).1) (fun _ a b => absurd b (by omega))
  exact K H60 ⟨hI64, hX96, hXd75, hXh76, hXw66, by omega, (by rw [((hf65 53 42 rfl).trans (hf14 53 42 rfl)), ((hf65 53 41 rfl).trans (hf14 53 41 rfl))]; exact hv2), by omega, (((hf65 44 2 rfl).trans (hf14 44 2 rfl)).trans (hr1.trans ((hf65 53 44 rfl).trans (hf14 53 44 rfl)).symm)), (((hf65 20 2 rfl).trans (hf14 20 2 rfl)).trans (hr2.trans ((hf65 53 16 rfl).trans (hf14 53 16 rfl)).symm)), (((hf65 1 7 rfl).trans (hf14 1 7 rfl)).trans (hr3.trans ((hf65 53 0 rfl).trans (hf14 53 0 rfl)).symm)), (((hf65 1 8 rfl).trans (hf14 1 8 rfl)).trans (hr4.trans ((hf65 53 2 rfl).trans (hf14 53 2 rfl)).symm)), hRS77, hRP78, hRK79, hRR80, hRT81, hRE82, hR283, hR384, hR485, hR2886, hR587, hR688, hRG89, hRL108, hRC90, hRJ91, hRW110, hRV92, hRM67, hRP2112, hRA93, hRU94, hRD95⟩ (funext fun s => hf74 200 s rfl)
def mLc17 : fz_M := (yL_law, code, 4, (some .boolean), [(835, .aload_n 1, 1, 0, 0, 0), (836, .aload_n 0, 1, 0, 0, 0), (837, .iload_n 3, 1, 0, 0, 0), (838, .iconst 1, 1, 0, 0, 0), (839, .iadd, 1, 0, 0, 0), (840, .iaload, 1, 0, 0, 0), (841, .aload_n 0, 1, 0, 0, 0), (842, .iload_n 3, 1, 0, 0, 0), (843, .iconst 2, 1, 0, 0, 0), (844, .iadd, 1, 0, 0, 0), (845, .iaload, 1, 0, 0, 0), (846, .aload_n 0, 1, 0, 0, 0), (847, .iload_n 3, 1, 0, 0, 0), (848, .iconst 3, 1, 0, 0, 0), (849, .iadd, 1, 0, 0, 0), (850, .iaload, 1, 0, 0, 0), (851, .aload_n 0, 1, 0, 0, 0), (852, .iload_n 3, 1, 0, 0, 0), (853, .iconst 4, 1, 0, 0, 0), (854, .iadd, 1, 0, 0, 0), (855, .iaload, 1, 0, 0, 0), (856, .invokevirtual 86, 3, 4056, 52, 0), (859, .pop, 1, 0, 0, 0), (860, .aload_n 2, 1, 0, 0, 0), (861, .aload_n 0, 1, 0, 0, 0), (862, .iload_n 3, 1, 0, 0, 0), (863, .iconst 1, 1, 0, 0, 0), (864, .iadd, 1, 0, 0, 0), (865, .iaload, 1, 0, 0, 0), (866, .aload_n 0, 1, 0, 0, 0), (867, .iload_n 3, 1, 0, 0, 0), (868, .iconst 2, 1, 0, 0, 0), (869, .iadd, 1, 0, 0, 0), (870, .iaload, 1, 0, 0, 0), (871, .aload_n 0, 1, 0, 0, 0), (872, .iload_n 3, 1, 0, 0, 0), (873, .iconst 3, 1, 0, 0, 0), (874, .iadd, 1, 0, 0, 0), (875, .iaload, 1, 0, 0, 0), (876, .aload_n 0, 1, 0, 0, 0), (877, .iload_n 3, 1, 0, 0, 0), (878, .iconst 4, 1, 0, 0, 0), (879, .iadd, 1, 0, 0, 0), (880, .iaload, 1, 0, 0, 0), (881, .invokevirtual 89, 3, 7041, 144, 0), (884, .pop, 1, 0, 0, 0), (885, .goto 932, 3, 0, 0, 0)])
set_option maxRecDepth 100000 in
theorem kLc17 : fz_okM mLc17 = true := fz_okM_in (by decide +kernel) (by decide +kernel)
set_option maxHeartbeats 1000000 in
set_option maxRecDepth 100000 in
theorem lc17 (h : fz_H) (hI : fz_Iv h) (hX : fz_Xc h) (hXd : fz_Xd h) (hXh : fz_Xh h) (hXw : fz_Xw h) (hv1 : h 53 10 ≤ 10) (hv2 : h 53 42 ≤ h 53 41) (hr0 : h 9 5 = h 53 10) (hr1 : h 44 2 = h 53 44) (hr2 : h 20 2 = h 53 16) (hr3 : h 1 7 = h 53 0) (hr4 : h 1 8 = h 53 2) (hRS : fz_RS h) (hRP : fz_RP h) (hRK : fz_RK h) (hRR : fz_RR h) (hRT : fz_RT h) (hRE : fz_RE h) (hR2 : fz_R2 h) (hR3 : fz_R3 h) (hR4 : fz_R4 h) (hR28 : fz_R28 h) (hR5 : fz_R5 h) (hR6 : fz_R6 h) (hRG : fz_RG h) (hRL : fz_RL h) (hRC : fz_RC h) (hRJ : fz_RJ h) (hRW : fz_RW h) (hRV : fz_RV h) (hRM : fz_RM h) (hRP2 : fz_RP2 h) (hRA : fz_RA h) (hRU : fz_RU h) (hRD : fz_RD h) (i : Int) (hi : 0 ≤ i ∧ i + 6 ≤ h 200 100000 ∧ h 200 100000 ≤ 3072) {Q : fz_H → Option fz_V → Prop} (K : ∀ H : fz_H, fz_Gd H → H 200 = h 200 → fz_R 47 mLe 1817 [(3, fz_i i), (0, fz_r 200), (1, fz_r 0), (2, fz_r 53)] [] H Q) : fz_R 47 mLc17 835 [(3, fz_i i), (0, fz_r 200), (1, fz_r 0), (2, fz_r 53)] [] h Q := by
  have hf : fz_fr fz_all h h := fz_fr_rf
  refine fz_aload_n kLc17 rfl rfl ?_
  refine fz_aload_n kLc17 rfl rfl ?_
  refine fz_iload_n kLc17 rfl rfl ?_
  refine fz_iconst ⟨by decide, by decide⟩ kLc17 rfl ?_
  refine fz_iaddN kLc17 rfl (by omega) ?_
  obtain ⟨a1, e2⟩ : ∃ z, h 200 ((i + 1)).toNat = z := ⟨_, rfl⟩
  refine fz_taldV (v := a1) kLc17 rfl ⟨by decide, by decide⟩ (by omega) (by omega) e2 ?_
  refine fz_aload_n kLc17 rfl rfl ?_
  refine fz_iload_n kLc17 rfl rfl ?_
  refine fz_iconst ⟨by decide, by decide⟩ kLc17 rfl ?_
  refine fz_iaddN kLc17 rfl (by omega) ?_
  obtain ⟨a3, e4⟩ : ∃ z, h 200 ((i + 2)).toNat = z := ⟨_, rfl⟩
  refine fz_taldV (v := a3) kLc17 rfl ⟨by decide, by decide⟩ (by omega) (by omega) e4 ?_
  refine fz_aload_n kLc17 rfl rfl ?_
  refine fz_iload_n kLc17 rfl rfl ?_
  refine fz_iconst ⟨by decide, by decide⟩ kLc17 rfl ?_
  refine fz_iaddN kLc17 rfl (by omega) ?_
  obtain ⟨a5, e6⟩ : ∃ z, h 200 ((i + 3)).toNat = z := ⟨_, rfl⟩
  refine fz_taldV (v := a5) kLc17 rfl ⟨by decide, by decide⟩ (by omega) (by omega) e6 ?_
  refine fz_aload_n kLc17 rfl rfl ?_
  refine fz_iload_n kLc17 rfl rfl ?_
  refine fz_iconst ⟨by decide, by decide⟩ kLc17 rfl ?_
  refine fz_iaddN kLc17 rfl (by omega) ?_
  obtain ⟨a7, e8⟩ : ∃ z, h 200 ((i + 4)).toNat = z := ⟨_, rfl⟩
  refine fz_taldV (v := a7) kLc17 rfl ⟨by decide, by decide⟩ (by omega) (by omega) e8 ?_
  refine fz_callV (d' := 5) (M' := mX10_latest) (As := [fz_i a1, fz_i a3, fz_i a5, fz_i a7]) (st := []) kLc17 rfl rfl vX10_latest rfl rfl rfl rfl (Nat.le_of_ble_eq_true rfl) (Nat.le_of_ble_eq_true rfl) (by decide) (sX10_latest h hI a1 a3 a5 a7 ) (fun H9 r10 q11 o12 => ?_)
  obtain ⟨hI13, hf14, y18, rfl, f15, f16, f17⟩ := q11
  clear o12
  have hf19 := fz_fr_tr hf hf14 (fz_su_all rfl)
  have hXd20 : fz_Xd H9 := fz_Xd_eq (funext fun s => hf14 80 s rfl) hXd
  have hXh21 : fz_Xh H9 := fz_Xh_eq (funext fun s => hf14 83 s rfl) hXh
  have hXw22 : fz_Xw H9 := fz_Xw_eq (hf14 53 19 rfl) (funext fun s => hf14 66 s rfl) (funext fun s => hf14 67 s rfl) (funext fun s => hf14 68 s rfl) (funext fun s => hf14 69 s rfl) hXw
  have hRS23 : fz_RS H9 := fz_RS_eq (funext fun s => hf14 48 s rfl) (funext fun s => hf14 49 s rfl) (funext fun s => hf14 50 s rfl) (funext fun s => hf14 51 s rfl) (funext fun s => hf14 83 s rfl) (funext fun s => hf14 84 s rfl) (hf14 44 2 rfl) hRS
  have hRP24 : fz_RP H9 := fz_RP_eq (funext fun s => hf14 52 s rfl) (funext fun s => hf14 85 s rfl) hRP
  have hRK25 : fz_RK H9 := fz_RK_eq (funext fun s => hf14 45 s rfl) (funext fun s => hf14 81 s rfl) hRK
  have hRR26 : fz_RR H9 := fz_RR_eq (hf14 44 3 rfl) (hf14 53 46 rfl) (funext fun s => hf14 46 s rfl) (funext fun s => hf14 82 s rfl) hRR
  have hRT27 : fz_RT H9 := fz_RT_eq (funext fun s => hf14 41 s rfl) (funext fun s => hf14 42 s rfl) (hf14 1 7 rfl) hRT
  have hRE28 : fz_RE H9 := fz_RE_eq (funext fun s => hf14 5 s rfl) (funext fun s => hf14 6 s rfl) (hf14 1 8 rfl) (hf14 1 7 rfl) hRE
  have hR229 : fz_R2 H9 := fz_R2_eq (funext fun s => hf14 2 s rfl) (funext fun s => hf14 54 s rfl) hR2
  have hR330 : fz_R3 H9 := fz_R3_eq (funext fun s => hf14 3 s rfl) (funext fun s => hf14 57 s rfl) hR3
  have hR431 : fz_R4 H9 := fz_R4_eq (funext fun s => hf14 4 s rfl) (funext fun s => hf14 58 s rfl) hR4
  have hR2832 : fz_R28 H9 := fz_R28_eq (funext fun s => hf14 28 s rfl) (funext fun s => hf14 59 s rfl) hR28
  have hR533 : fz_R5 H9 := fz_R5_eq (funext fun s => hf14 5 s rfl) (funext fun s => hf14 55 s rfl) hR5
  have hR634 : fz_R6 H9 := fz_R6_eq (funext fun s => hf14 6 s rfl) (funext fun s => hf14 56 s rfl) hR6
  have hRG35 : fz_RG H9 := fz_RG_eq (hf14 27 8 rfl) (hf14 27 9 rfl) (hf14 53 8 rfl) (hf14 53 9 rfl) hRG
  have hRC36 : fz_RC H9 := fz_RC_eq (hf14 35 4 rfl) (hf14 35 5 rfl) (hf14 53 41 rfl) (hf14 53 42 rfl) (funext fun s => hf14 36 s rfl) (funext fun s => hf14 37 s rfl) (funext fun s => hf14 38 s rfl) (funext fun s => hf14 39 s rfl) (funext fun s => hf14 80 s rfl) (hf14 1 7 rfl) (hf14 1 8 rfl) (hf14 9 5 rfl) hRC
  have hRJ37 : fz_RJ H9 := fz_RJ_eq (hf14 40 1 rfl) (hf14 53 34 rfl) (funext fun s => hf14 41 s rfl) (funext fun s => hf14 76 s rfl) (hf14 40 6 rfl) (hf14 53 37 rfl) (funext fun s => hf14 42 s rfl) (funext fun s => hf14 78 s rfl) (hf14 43 0 rfl) (hf14 53 38 rfl) hRJ
  have hRV38 : fz_RV H9 := fz_RV_eq (funext fun s => hf14 7 s rfl) (funext fun s => hf14 8 s rfl) (funext fun s => hf14 3 s rfl) (funext fun s => hf14 4 s rfl) (funext fun s => hf14 5 s rfl) (funext fun s => hf14 6 s rfl) (hf14 1 7 rfl) (hf14 1 8 rfl) hRV
  have hRM39 : fz_RM H9 := fz_RM_eq (funext fun s => hf14 55 s rfl) (funext fun s => hf14 56 s rfl) (hf14 53 0 rfl) (hf14 53 2 rfl) hRM
  have hRA40 : fl_RA H9 := fl_RA_eq (funext fun s => hf14 26 s rfl) (funext fun s => hf14 65 s rfl) (hf14 20 2 rfl) hRA
  have hRU41 : fl_RU H9 := fl_RU_eq (hf14 15 4 rfl) (funext fun s => hf14 16 s rfl) (funext fun s => hf14 17 s rfl) (hf14 53 18 rfl) (hf14 53 19 rfl) (funext fun s => hf14 66 s rfl) (funext fun s => hf14 67 s rfl) (funext fun s => hf14 68 s rfl) (funext fun s => hf14 69 s rfl) hRU
  have hRD42 : fl_RD H9 := fl_RD_eq (hf14 40 2 rfl) (hf14 40 3 rfl) (hf14 40 4 rfl) (hf14 40 5 rfl) (funext fun s => hf14 77 s rfl) (hf14 43 1 rfl) (hf14 43 2 rfl) (hf14 43 3 rfl) (hf14 43 4 rfl) (funext fun s => hf14 79 s rfl) hRD
  have hX43 : fz_Xc H9 := fz_Xc_fr hf14 rfl hX
  have t44 : H9 53 10 = h 53 10 := hf14 53 10 rfl
  have t45 : H9 53 41 = h 53 41 := hf14 53 41 rfl
  have t46 : H9 53 42 = h 53 42 := hf14 53 42 rfl
  have t47 : H9 9 5 = h 9 5 := hf14 9 5 rfl
  have t48 : H9 53 10 = h 53 10 := hf14 53 10 rfl
  have t49 : H9 44 2 = h 44 2 := hf14 44 2 rfl
  have t50 : H9 53 44 = h 53 44 := hf14 53 44 rfl
  have t51 : H9 20 2 = h 20 2 := hf14 20 2 rfl
  have t52 : H9 53 16 = h 53 16 := hf14 53 16 rfl
  have t53 : H9 1 7 = h 1 7 := hf14 1 7 rfl
  have t54 : H9 53 0 = h 53 0 := hf14 53 0 rfl
  have t55 : H9 1 8 = h 1 8 := hf14 1 8 rfl
  have t56 : H9 53 2 = h 53 2 := hf14 53 2 rfl
  refine fz_pop rfl kLc17 rfl ?_
  refine fz_aload_n kLc17 rfl rfl ?_
  refine fz_aload_n kLc17 rfl rfl ?_
  refine fz_iload_n kLc17 rfl rfl ?_
  refine fz_iconst ⟨by decide, by decide⟩ kLc17 rfl ?_
  refine fz_iaddN kLc17 rfl (by omega) ?_
  refine fz_taldV (v := a1) kLc17 rfl ⟨by decide, by decide⟩ (by omega) (by rw [hf19 200 _ rfl]; omega) ((hf19 200 _ rfl).trans e2) ?_
  refine fz_aload_n kLc17 rfl rfl ?_
  refine fz_iload_n kLc17 rfl rfl ?_
  refine fz_iconst ⟨by decide, by decide⟩ kLc17 rfl ?_
  refine fz_iaddN kLc17 rfl (by omega) ?_
  refine fz_taldV (v := a3) kLc17 rfl ⟨by decide, by decide⟩ (by omega) (by rw [hf19 200 _ rfl]; omega) ((hf19 200 _ rfl).trans e4) ?_
  refine fz_aload_n kLc17 rfl rfl ?_
  refine fz_iload_n kLc17 rfl rfl ?_
  refine fz_iconst ⟨by decide, by decide⟩ kLc17 rfl ?_
  refine fz_iaddN kLc17 rfl (by omega) ?_
  refine fz_taldV (v := a5) kLc17 rfl ⟨by decide, by decide⟩ (by omega) (by rw [hf19 200 _ rfl]; omega) ((hf19 200 _ rfl).trans e6) ?_
  refine fz_aload_n kLc17 rfl rfl ?_
  refine fz_iload_n kLc17 rfl rfl ?_
  refine fz_iconst ⟨by decide, by decide⟩ kLc17 rfl ?_
  refine fz_iaddN kLc17 rfl (by omega) ?_
  refine fz_taldV (v := a7) kLc17 rfl ⟨by decide, by decide⟩ (by omega) (by rw [hf19 200 _ rfl]; omega) ((hf19 200 _ rfl).trans e8) ?_
  have hRPm57 : fl_RPm H9 := by first | exact fl_RPm_eq (funext fun s => hf14 61 s rfl) (hf14 53 10 rfl) (hf14 53 0 rfl) (fl_RPm_of hRL hRP2 hr3.symm hr0.symm) | exact fl_RPm_of hRL hRP2 hr3.symm hr0.symm
  have b59 : 0 ≤ H9 53 10 ∧ H9 53 10 ≤ 11 := hI13.1 53 _
  refine fz_callV (d' := 5) (M' := mX11_latest) (As := [fz_i a1, fz_i a3, fz_i a5, fz_i a7]) (st := []) kLc17 rfl rfl vX11_latest rfl rfl rfl rfl (Nat.le_of_ble_eq_true rfl) (Nat.le_of_ble_eq_true rfl) (by decide) (sX11_latest H9 hI13 a1 a3 a5 a7 hXw22 hRM39 hRPm57 (by omega)) (fun H60 r61 q62 o63 => ?_)
  obtain ⟨hI64, hf65, hXw66, hRM67, hRPm68, y73, rfl, f69, f70, f71, f72⟩ := q62
  clear o63
  have hf74 := fz_fr_tr hf19 hf65 (fz_su_all rfl)
  have hXd75 : fz_Xd H60 := fz_Xd_eq (funext fun s => hf65 80 s rfl) hXd20
  have hXh76 : fz_Xh H60 := fz_Xh_eq (funext fun s => hf65 83 s rfl) hXh21
  have hRS77 : fz_RS H60 := fz_RS_eq (funext fun s => hf65 48 s rfl) (funext fun s => hf65 49 s rfl) (funext fun s => hf65 50 s rfl) (funext fun s => hf65 51 s rfl) (funext fun s => hf65 83 s rfl) (funext fun s => hf65 84 s rfl) (hf65 44 2 rfl) hRS23
  have hRP78 : fz_RP H60 := fz_RP_eq (funext fun s => hf65 52 s rfl) (funext fun s => hf65 85 s rfl) hRP24
  have hRK79 : fz_RK H60 := fz_RK_eq (funext fun s => hf65 45 s rfl) (funext fun s => hf65 81 s rfl) hRK25
  have hRR80 : fz_RR H60 := fz_RR_eq (hf65 44 3 rfl) (hf65 53 46 rfl) (funext fun s => hf65 46 s rfl) (funext fun s => hf65 82 s rfl) hRR26
  have hRT81 : fz_RT H60 := fz_RT_eq (funext fun s => hf65 41 s rfl) (funext fun s => hf65 42 s rfl) (hf65 1 7 rfl) hRT27
  have hRE82 : fz_RE H60 := fz_RE_eq (funext fun s => hf65 5 s rfl) (funext fun s => hf65 6 s rfl) (hf65 1 8 rfl) (hf65 1 7 rfl) hRE28
  have hR283 : fz_R2 H60 := fz_R2_eq (funext fun s => hf65 2 s rfl) (funext fun s => hf65 54 s rfl) hR229
  have hR384 : fz_R3 H60 := fz_R3_eq (funext fun s => hf65 3 s rfl) (funext fun s => hf65 57 s rfl) hR330
  have hR485 : fz_R4 H60 := fz_R4_eq (funext fun s => hf65 4 s rfl) (funext fun s => hf65 58 s rfl) hR431
  have hR2886 : fz_R28 H60 := fz_R28_eq (funext fun s => hf65 28 s rfl) (funext fun s => hf65 59 s rfl) hR2832
  have hR587 : fz_R5 H60 := fz_R5_eq (funext fun s => hf65 5 s rfl) (funext fun s => hf65 55 s rfl) hR533
  have hR688 : fz_R6 H60 := fz_R6_eq (funext fun s => hf65 6 s rfl) (funext fun s => hf65 56 s rfl) hR634
  have hRG89 : fz_RG H60 := fz_RG_eq (hf65 27 8 rfl) (hf65 27 9 rfl) (hf65 53 8 rfl) (hf65 53 9 rfl) hRG35
  have hRC90 : fz_RC H60 := fz_RC_eq (hf65 35 4 rfl) (hf65 35 5 rfl) (hf65 53 41 rfl) (hf65 53 42 rfl) (funext fun s => hf65 36 s rfl) (funext fun s => hf65 37 s rfl) (funext fun s => hf65 38 s rfl) (funext fun s => hf65 39 s rfl) (funext fun s => hf65 80 s rfl) (hf65 1 7 rfl) (hf65 1 8 rfl) (hf65 9 5 rfl) hRC36
  have hRJ91 : fz_RJ H60 := fz_RJ_eq (hf65 40 1 rfl) (hf65 53 34 rfl) (funext fun s => hf65 41 s rfl) (funext fun s => hf65 76 s rfl) (hf65 40 6 rfl) (hf65 53 37 rfl) (funext fun s => hf65 42 s rfl) (funext fun s => hf65 78 s rfl) (hf65 43 0 rfl) (hf65 53 38 rfl) hRJ37
  have hRV92 : fz_RV H60 := fz_RV_eq (funext fun s => hf65 7 s rfl) (funext fun s => hf65 8 s rfl) (funext fun s => hf65 3 s rfl) (funext fun s => hf65 4 s rfl) (funext fun s => hf65 5 s rfl) (funext fun s => hf65 6 s rfl) (hf65 1 7 rfl) (hf65 1 8 rfl) hRV38
  have hRA93 : fl_RA H60 := fl_RA_eq (funext fun s => hf65 26 s rfl) (funext fun s => hf65 65 s rfl) (hf65 20 2 rfl) hRA40
  have hRU94 : fl_RU H60 := fl_RU_eq (hf65 15 4 rfl) (funext fun s => hf65 16 s rfl) (funext fun s => hf65 17 s rfl) (hf65 53 18 rfl) (hf65 53 19 rfl) (funext fun s => hf65 66 s rfl) (funext fun s => hf65 67 s rfl) (funext fun s => hf65 68 s rfl) (funext fun s => hf65 69 s rfl) hRU41
  have hRD95 : fl_RD H60 := fl_RD_eq (hf65 40 2 rfl) (hf65 40 3 rfl) (hf65 40 4 rfl) (hf65 40 5 rfl) (funext fun s => hf65 77 s rfl) (hf65 43 1 rfl) (hf65 43 2 rfl) (hf65 43 3 rfl) (hf65 43 4 rfl) (funext fun s => hf65 79 s rfl) hRD42
  have hX96 : fz_Xc H60 := fz_Xc_fr hf65 rfl hX43
  have t97 : H60 53 41 = H9 53 41 := hf65 53 41 rfl
  have t98 : H60 53 42 = H9 53 42 := hf65 53 42 rfl
  have t99 : H60 9 5 = H9 9 5 := hf65 9 5 rfl
  have t100 : H60 44 2 = H9 44 2 := hf65 44 2 rfl
  have t101 : H60 53 44 = H9 53 44 := hf65 53 44 rfl
  have t102 : H60 20 2 = H9 20 2 := hf65 20 2 rfl
  have t103 : H60 53 16 = H9 53 16 := hf65 53 16 rfl
  have t104 : H60 1 7 = H9 1 7 := hf65 1 7 rfl
  have t105 : H60 53 0 = H9 53 0 := hf65 53 0 rfl
  have t106 : H60 1 8 = H9 1 8 := hf65 1 8 rfl
  have t107 : H60 53 2 = H9 53 2 := hf65 53 2 rfl
  refine fz_pop rfl kLc17 rfl ?_
  refine fz_goto (tgt := 1817) kLc17 rfl (by decide) ?_
  have hRL108 : fz_RL H60 := fz_RL_ap hRL f16 f71 (by omega) ⟨(funext fun s => hf14 61 s rfl), (funext fun s => hf14 62 s rfl), (funext fun s => hf14 63 s rfl), (funext fun s => hf14 64 s rfl)⟩ ⟨(funext fun s => hf65 11 s rfl), (funext fun s => hf65 12 s rfl), (funext fun s => hf65 13 s rfl), (funext fun s => hf65 14 s rfl)⟩ (by omega) rfl (show 0 ≤ h 9 5 from (hI.1 9 _).1) (fun _ a b => absurd b (by omega))
  have hRW110 : fz_RW H60 := fz_RW_ap hRW f16 f71 (by omega) (funext fun s => hf14 60 s rfl) (funext fun s => hf65 10 s rfl) (by omega) rfl (show 0 ≤ h 9 5 from (hI.1 9 _).1) (fun _ a b => absurd b (by omega))
  have hRP2112 : fz_RP2 H60 := fz_RP2_ap hRP2 f16 (funext fun s => hf65 11 s rfl) (by omega) (by omega) (show 0 ≤ h 9 5 from (hI.1 9 _).1) (fun _ a b => absurd b (by omega))
  exact K H60 ⟨hI64, hX96, hXd75, hXh76, hXw66, by omega, (by rw [((hf65 53 42 rfl).trans (hf14 53 42 rfl)), ((hf65 53 41 rfl).trans (hf14 53 41 rfl))]; exact hv2), by omega, (((hf65 44 2 rfl).trans (hf14 44 2 rfl)).trans (hr1.trans ((hf65 53 44 rfl).trans (hf14 53 44 rfl)).symm)), (((hf65 20 2 rfl).trans (hf14 20 2 rfl)).trans (hr2.trans ((hf65 53 16 rfl).trans (hf14 53 16 rfl)).symm)), (((hf65 1 7 rfl).trans (hf14 1 7 rfl)).trans (hr3.trans ((hf65 53 0 rfl).trans (hf14 53 0 rfl)).symm)), (((hf65 1 8 rfl).trans (hf14 1 8 rfl)).trans (hr4.trans ((hf65 53 2 rfl).trans (hf14 53 2 rfl)).symm)), hRS77, hRP78, hRK79, hRR80, hRT81, hRE82, hR283, hR384, hR485, hR2886, hR587, hR688, hRG89, hRL108, hRC90, hRJ91, hRW110, hRV92, hRM67, hRP2112, hRA93, hRU94, hRD95⟩ (funext fun s => hf74 200 s rfl)
def mLc18 : fz_M := (yL_law, code, 4, (some .boolean), [(888, .aload_n 1, 1, 0, 0, 0), (889, .aload_n 0, 1, 0, 0, 0), (890, .iload_n 3, 1, 0, 0, 0), (891, .iconst 1, 1, 0, 0, 0), (892, .iadd, 1, 0, 0, 0), (893, .iaload, 1, 0, 0, 0), (894, .aload_n 0, 1, 0, 0, 0), (895, .iload_n 3, 1, 0, 0, 0), (896, .iconst 2, 1, 0, 0, 0), (897, .iadd, 1, 0, 0, 0), (898, .iaload, 1, 0, 0, 0), (899, .aload_n 0, 1, 0, 0, 0), (900, .iload_n 3, 1, 0, 0, 0), (901, .iconst 3, 1, 0, 0, 0), (902, .iadd, 1, 0, 0, 0), (903, .iaload, 1, 0, 0, 0), (904, .invokevirtual 90, 3, 4060, 24, 0), (907, .pop, 1, 0, 0, 0), (908, .aload_n 2, 1, 0, 0, 0), (909, .aload_n 0, 1, 0, 0, 0), (910, .iload_n 3, 1, 0, 0, 0), (911, .iconst 1, 1, 0, 0, 0), (912, .iadd, 1, 0, 0, 0), (913, .iaload, 1, 0, 0, 0), (914, .aload_n 0, 1, 0, 0, 0), (915, .iload_n 3, 1, 0, 0, 0), (916, .iconst 2, 1, 0, 0, 0), (917, .iadd, 1, 0, 0, 0), (918, .iaload, 1, 0, 0, 0), (919, .aload_n 0, 1, 0, 0, 0), (920, .iload_n 3, 1, 0, 0, 0), (921, .iconst 3, 1, 0, 0, 0), (922, .iadd, 1, 0, 0, 0), (923, .iaload, 1, 0, 0, 0), (924, .invokevirtual 93, 3, 7045, 92, 0), (927, .pop, 1, 0, 0, 0), (928, .goto 889, 3, 0, 0, 0)])
set_option maxRecDepth 100000 in
theorem kLc18 : fz_okM mLc18 = true := fz_okM_in (by decide +kernel) (by decide +kernel)
set_option maxHeartbeats 1000000 in
set_option maxRecDepth 100000 in
theorem lc18 (h : fz_H) (hI : fz_Iv h) (hX : fz_Xc h) (hXd : fz_Xd h) (hXh : fz_Xh h) (hXw : fz_Xw h) (hv1 : h 53 10 ≤ 10) (hv2 : h 53 42 ≤ h 53 41) (hr0 : h 9 5 = h 53 10) (hr1 : h 44 2 = h 53 44) (hr2 : h 20 2 = h 53 16) (hr3 : h 1 7 = h 53 0) (hr4 : h 1 8 = h 53 2) (hRS : fz_RS h) (hRP : fz_RP h) (hRK : fz_RK h) (hRR : fz_RR h) (hRT : fz_RT h) (hRE : fz_RE h) (hR2 : fz_R2 h) (hR3 : fz_R3 h) (hR4 : fz_R4 h) (hR28 : fz_R28 h) (hR5 : fz_R5 h) (hR6 : fz_R6 h) (hRG : fz_RG h) (hRL : fz_RL h) (hRC : fz_RC h) (hRJ : fz_RJ h) (hRW : fz_RW h) (hRV : fz_RV h) (hRM : fz_RM h) (hRP2 : fz_RP2 h) (hRA : fz_RA h) (hRU : fz_RU h) (hRD : fz_RD h) (i : Int) (hi : 0 ≤ i ∧ i + 6 ≤ h 200 100000 ∧ h 200 100000 ≤ 3072) {Q : fz_H → Option fz_V → Prop} (K : ∀ H : fz_H, fz_Gd H → H 200 = h 200 → fz_R 47 mLe 1817 [(3, fz_i i), (0, fz_r 200), (1, fz_r 0), (2, fz_r 53)] [] H Q) : fz_R 47 mLc18 888 [(3, fz_i i), (0, fz_r 200), (1, fz_r 0), (2, fz_r 53)] [] h Q := by
  have hf : fz_fr fz_all h h := fz_fr_rf
  refine fz_aload_n kLc18 rfl rfl ?_
  refine fz_aload_n kLc18 rfl rfl ?_
  refine fz_iload_n kLc18 rfl rfl ?_
  refine fz_iconst ⟨by decide, by decide⟩ kLc18 rfl ?_
  refine fz_iaddN kLc18 rfl (by omega) ?_
  obtain ⟨a1, e2⟩ : ∃ z, h 200 ((i + 1)).toNat = z := ⟨_, rfl⟩
  refine fz_taldV (v := a1) kLc18 rfl ⟨by decide, by decide⟩ (by omega) (by omega) e2 ?_
  refine fz_aload_n kLc18 rfl rfl ?_
  refine fz_iload_n kLc18 rfl rfl ?_
  refine fz_iconst ⟨by decide, by decide⟩ kLc18 rfl ?_
  refine fz_iaddN kLc18 rfl (by omega) ?_
  obtain ⟨a3, e4⟩ : ∃ z, h 200 ((i + 2)).toNat = z := ⟨_, rfl⟩
  refine fz_taldV (v := a3) kLc18 rfl ⟨by decide, by decide⟩ (by omega) (by omega) e4 ?_
  refine fz_aload_n kLc18 rfl rfl ?_
  refine fz_iload_n kLc18 rfl rfl ?_
  refine fz_iconst ⟨by decide, by decide⟩ kLc18 rfl ?_
  refine fz_iaddN kLc18 rfl (by omega) ?_
  obtain ⟨a5, e6⟩ : ∃ z, h 200 ((i + 3)).toNat = z := ⟨_, rfl⟩
  refine fz_taldV (v := a5) kLc18 rfl ⟨by decide, by decide⟩ (by omega) (by omega) e6 ?_
  refine fz_callV (d' := 1) (M' := mX10_cut) (As := [fz_i a1, fz_i a3, fz_i a5]) (st := []) kLc18 rfl rfl vX10_cut rfl rfl rfl rfl (Nat.le_of_ble_eq_true rfl) (Nat.le_of_ble_eq_true rfl) (by decide) (sX10_cut h hI a1 a3 a5 hRE hRP2) (fun H7 r8 q9 o10 => ?_)
  obtain ⟨e11, y14, rfl, f12, f13⟩ := q9
  subst H7
  clear o10
  refine fz_pop rfl kLc18 rfl ?_
  refine fz_aload_n kLc18 rfl rfl ?_
  refine fz_aload_n kLc18 rfl rfl ?_
  refine fz_iload_n kLc18 rfl rfl ?_
  refine fz_iconst ⟨by decide, by decide⟩ kLc18 rfl ?_
  refine fz_iaddN kLc18 rfl (by omega) ?_
  refine fz_taldV (v := a1) kLc18 rfl ⟨by decide, by decide⟩ (by omega) (by omega) e2 ?_
  refine fz_aload_n kLc18 rfl rfl ?_
  refine fz_iload_n kLc18 rfl rfl ?_
  refine fz_iconst ⟨by decide, by decide⟩ kLc18 rfl ?_
  refine fz_iaddN kLc18 rfl (by omega) ?_
  refine fz_taldV (v := a3) kLc18 rfl ⟨by decide, by decide⟩ (by omega) (by omega) e4 ?_
  refine fz_aload_n kLc18 rfl rfl ?_
  refine fz_iload_n kLc18 rfl rfl ?_
  refine fz_iconst ⟨by decide, by decide⟩ kLc18 rfl ?_
  refine fz_iaddN kLc18 rfl (by omega) ?_
  refine fz_taldV (v := a5) kLc18 rfl ⟨by decide, by decide⟩ (by omega) (by omega) e6 ?_
  have hRPm15 : fl_RPm h := by first | exact fl_RPm_eq (funext fun s => lost 61 s rfl) (lost 53 10 rfl) (lost 53 0 rfl) (fl_RPm_of hRL hRP2 hr3.symm hr0.symm) | exact fl_RPm_of hRL hRP2 hr3.symm hr0.symm
  refine fz_callV (d' := 3) (M' := mX11_cut) (As := [fz_i a1, fz_i a3, fz_i a5]) (st := []) kLc18 rfl rfl vX11_cut rfl rfl rfl rfl (Nat.le_of_ble_eq_true rfl) (Nat.le_of_ble_eq_true rfl) (by decide) (sX11_cut h hI a1 a3 a5 hRPm15 hRM) (fun H17 r18 q19 o20 => ?_)
  obtain ⟨hI21, hf22, hRPm23, hRM24, y28, rfl, f25, f26, f27⟩ := q19
  clear o20
  have hf29 := fz_fr_tr hf hf22 (fz_su_all rfl)
  have hXd30 : fz_Xd H17 := fz_Xd_eq (funext fun s => hf22 80 s rfl) hXd
  have hXh31 : fz_Xh H17 := fz_Xh_eq (funext fun s => hf22 83 s rfl) hXh
  have hXw32 : fz_Xw H17 := fz_Xw_eq (hf22 53 19 rfl) (funext fun s => hf22 66 s rfl) (funext fun s => hf22 67 s rfl) (funext fun s => hf22 68 s rfl) (funext fun s => hf22 69 s rfl) hXw
  have hRS33 : fz_RS H17 := fz_RS_eq (funext fun s => hf22 48 s rfl) (funext fun s => hf22 49 s rfl) (funext fun s => hf22 50 s rfl) (funext fun s => hf22 51 s rfl) (funext fun s => hf22 83 s rfl) (funext fun s => hf22 84 s rfl) (hf22 44 2 rfl) hRS
  have hRP34 : fz_RP H17 := fz_RP_eq (funext fun s => hf22 52 s rfl) (funext fun s => hf22 85 s rfl) hRP
  have hRK35 : fz_RK H17 := fz_RK_eq (funext fun s => hf22 45 s rfl) (funext fun s => hf22 81 s rfl) hRK
  have hRR36 : fz_RR H17 := fz_RR_eq (hf22 44 3 rfl) (hf22 53 46 rfl) (funext fun s => hf22 46 s rfl) (funext fun s => hf22 82 s rfl) hRR
  have hRT37 : fz_RT H17 := fz_RT_eq (funext fun s => hf22 41 s rfl) (funext fun s => hf22 42 s rfl) (hf22 1 7 rfl) hRT
  have hRE38 : fz_RE H17 := fz_RE_eq (funext fun s => hf22 5 s rfl) (funext fun s => hf22 6 s rfl) (hf22 1 8 rfl) (hf22 1 7 rfl) hRE
  have hR239 : fz_R2 H17 := fz_R2_eq (funext fun s => hf22 2 s rfl) (funext fun s => hf22 54 s rfl) hR2
  have hR340 : fz_R3 H17 := fz_R3_eq (funext fun s => hf22 3 s rfl) (funext fun s => hf22 57 s rfl) hR3
  have hR2841 : fz_R28 H17 := fz_R28_eq (funext fun s => hf22 28 s rfl) (funext fun s => hf22 59 s rfl) hR28
  have hR542 : fz_R5 H17 := fz_R5_eq (funext fun s => hf22 5 s rfl) (funext fun s => hf22 55 s rfl) hR5
  have hR643 : fz_R6 H17 := fz_R6_eq (funext fun s => hf22 6 s rfl) (funext fun s => hf22 56 s rfl) hR6
  have hRG44 : fz_RG H17 := fz_RG_eq (hf22 27 8 rfl) (hf22 27 9 rfl) (hf22 53 8 rfl) (hf22 53 9 rfl) hRG
  have hRL45 : fz_RL H17 := fz_RL_eq (funext fun s => hf22 11 s rfl) (funext fun s => hf22 12 s rfl) (funext fun s => hf22 13 s rfl) (funext fun s => hf22 14 s rfl) (funext fun s => hf22 61 s rfl) (funext fun s => hf22 62 s rfl) (funext fun s => hf22 63 s rfl) (funext fun s => hf22 64 s rfl) (hf22 9 5 rfl) hRL
  have hRC46 : fz_RC H17 := fz_RC_eq (hf22 35 4 rfl) (hf22 35 5 rfl) (hf22 53 41 rfl) (hf22 53 42 rfl) (funext fun s => hf22 36 s rfl) (funext fun s => hf22 37 s rfl) (funext fun s => hf22 38 s rfl) (funext fun s => hf22 39 s rfl) (funext fun s => hf22 80 s rfl) (hf22 1 7 rfl) (hf22 1 8 rfl) (hf22 9 5 rfl) hRC
  have hRJ47 : fz_RJ H17 := fz_RJ_eq (hf22 40 1 rfl) (hf22 53 34 rfl) (funext fun s => hf22 41 s rfl) (funext fun s => hf22 76 s rfl) (hf22 40 6 rfl) (hf22 53 37 rfl) (funext fun s => hf22 42 s rfl) (funext fun s => hf22 78 s rfl) (hf22 43 0 rfl) (hf22 53 38 rfl) hRJ
  have hRW48 : fz_RW H17 := fz_RW_eq (funext fun s => hf22 10 s rfl) (funext fun s => hf22 60 s rfl) (hf22 9 5 rfl) hRW
  have hRV49 : fz_RV H17 := fz_RV_eq (funext fun s => hf22 7 s rfl) (funext fun s => hf22 8 s rfl) (funext fun s => hf22 3 s rfl) (funext fun s => hf22 4 s rfl) (funext fun s => hf22 5 s rfl) (funext fun s => hf22 6 s rfl) (hf22 1 7 rfl) (hf22 1 8 rfl) hRV
  have hRP250 : fz_RP2 H17 := fz_RP2_eq (funext fun s => hf22 11 s rfl) (hf22 9 5 rfl) (hf22 1 7 rfl) hRP2
  have hRA51 : fl_RA H17 := fl_RA_eq (funext fun s => hf22 26 s rfl) (funext fun s => hf22 65 s rfl) (hf22 20 2 rfl) hRA
  have hRU52 : fl_RU H17 := fl_RU_eq (hf22 15 4 rfl) (funext fun s => hf22 16 s rfl) (funext fun s => hf22 17 s rfl) (hf22 53 18 rfl) (hf22 53 19 rfl) (funext fun s => hf22 66 s rfl) (funext fun s => hf22 67 s rfl) (funext fun s => hf22 68 s rfl) (funext fun s => hf22 69 s rfl) hRU
  have hRD53 : fl_RD H17 := fl_RD_eq (hf22 40 2 rfl) (hf22 40 3 rfl) (hf22 40 4 rfl) (hf22 40 5 rfl) (funext fun s => hf22 77 s rfl) (hf22 43 1 rfl) (hf22 43 2 rfl) (hf22 43 3 rfl) (hf22 43 4 rfl) (funext fun s => hf22 79 s rfl) hRD
  have hX54 : fz_Xc H17 := fz_Xc_fr hf22 rfl hX
  have t55 : H17 53 10 = h 53 10 := hf22 53 10 rfl
  have t56 : H17 53 41 = h 53 41 := hf22 53 41 rfl
  have t57 : H17 53 42 = h 53 42 := hf22 53 42 rfl
  have t58 : H17 9 5 = h 9 5 := hf22 9 5 rfl
  have t59 : H17 53 10 = h 53 10 := hf22 53 10 rfl
  have t60 : H17 44 2 = h 44 2 := hf22 44 2 rfl
  have t61 : H17 53 44 = h 53 44 := hf22 53 44 rfl
  have t62 : H17 20 2 = h 20 2 := hf22 20 2 rfl
  have t63 : H17 53 16 = h 53 16 := hf22 53 16 rfl
  have t64 : H17 1 7 = h 1 7 := hf22 1 7 rfl
  have t65 : H17 53 0 = h 53 0 := hf22 53 0 rfl
  have t66 : H17 1 8 = h 1 8 := hf22 1 8 rfl
  have t67 : H17 53 2 = h 53 2 := hf22 53 2 rfl
  refine fz_pop rfl kLc18 rfl ?_
  refine fz_goto (tgt := 1817) kLc18 rfl (by decide) ?_
  have hR468 : fz_R4 H17 := fz_R4_eq (funext fun s => hf22 4 s rfl) f26 hR4
  exact K H17 ⟨hI21, hX54, hXd30, hXh31, hXw32, (by rw [(hf22 53 10 rfl)]; exact hv1), (by rw [(hf22 53 42 rfl), (hf22 53 41 rfl)]; exact hv2), ((hf22 9 5 rfl).trans (hr0.trans (hf22 53 10 rfl).symm)), ((hf22 44 2 rfl).trans (hr1.trans (hf22 53 44 rfl).symm)), ((hf22 20 2 rfl).trans (hr2.trans (hf22 53 16 rfl).symm)), ((hf22 1 7 rfl).trans (hr3.trans (hf22 53 0 rfl).symm)), ((hf22 1 8 rfl).trans (hr4.trans (hf22 53 2 rfl).symm)), hRS33, hRP34, hRK35, hRR36, hRT37, hRE38, hR239, hR340, hR468, hR2841, hR542, hR643, hRG44, hRL45, hRC46, hRJ47, hRW48, hRV49, hRM24, hRP250, hRA51, hRU52, hRD53⟩ (funext fun s => hf29 200 s rfl)
def mLc19 : fz_M := (yL_law, code, 4, (some .boolean), [(931, .aload_n 1, 1, 0, 0, 0), (932, .aload_n 0, 1, 0, 0, 0), (933, .iload_n 3, 1, 0, 0, 0), (934, .iconst 1, 1, 0, 0, 0), (935, .iadd, 1, 0, 0, 0), (936, .iaload, 1, 0, 0, 0), (937, .aload_n 0, 1, 0, 0, 0), (938, .iload_n 3, 1, 0, 0, 0), (939, .iconst 2, 1, 0, 0, 0), (940, .iadd, 1, 0, 0, 0), (941, .iaload, 1, 0, 0, 0), (942, .aload_n 0, 1, 0, 0, 0), (943, .iload_n 3, 1, 0, 0, 0), (944, .iconst 3, 1, 0, 0, 0), (945, .iadd, 1, 0, 0, 0), (946, .iaload, 1, 0, 0, 0), (947, .invokevirtual 94, 3, 4074, 35, 0), (950, .pop, 1, 0, 0, 0), (951, .aload_n 2, 1, 0, 0, 0), (952, .aload_n 0, 1, 0, 0, 0), (953, .iload_n 3, 1, 0, 0, 0), (954, .iconst 1, 1, 0, 0, 0), (955, .iadd, 1, 0, 0, 0), (956, .iaload, 1, 0, 0, 0), (957, .aload_n 0, 1, 0, 0, 0), (958, .iload_n 3, 1, 0, 0, 0), (959, .iconst 2, 1, 0, 0, 0), (960, .iadd, 1, 0, 0, 0), (961, .iaload, 1, 0, 0, 0), (962, .aload_n 0, 1, 0, 0, 0), (963, .iload_n 3, 1, 0, 0, 0), (964, .iconst 3, 1, 0, 0, 0), (965, .iadd, 1, 0, 0, 0), (966, .iaload, 1, 0, 0, 0), (967, .invokevirtual 97, 3, 7050, 104, 0), (970, .pop, 1, 0, 0, 0), (971, .goto 846, 3, 0, 0, 0)])
set_option maxRecDepth 100000 in
theorem kLc19 : fz_okM mLc19 = true := fz_okM_in (by decide +kernel) (by decide +kernel)
set_option maxHeartbeats 1000000 in
set_option maxRecDepth 100000 in
theorem lc19 (h : fz_H) (hI : fz_Iv h) (hX : fz_Xc h) (hXd : fz_Xd h) (hXh : fz_Xh h) (hXw : fz_Xw h) (hv1 : h 53 10 ≤ 10) (hv2 : h 53 42 ≤ h 53 41) (hr0 : h 9 5 = h 53 10) (hr1 : h 44 2 = h 53 44) (hr2 : h 20 2 = h 53 16) (hr3 : h 1 7 = h 53 0) (hr4 : h 1 8 = h 53 2) (hRS : fz_RS h) (hRP : fz_RP h) (hRK : fz_RK h) (hRR : fz_RR h) (hRT : fz_RT h) (hRE : fz_RE h) (hR2 : fz_R2 h) (hR3 : fz_R3 h) (hR4 : fz_R4 h) (hR28 : fz_R28 h) (hR5 : fz_R5 h) (hR6 : fz_R6 h) (hRG : fz_RG h) (hRL : fz_RL h) (hRC : fz_RC h) (hRJ : fz_RJ h) (hRW : fz_RW h) (hRV : fz_RV h) (hRM : fz_RM h) (hRP2 : fz_RP2 h) (hRA : fz_RA h) (hRU : fz_RU h) (hRD : fz_RD h) (i : Int) (hi : 0 ≤ i ∧ i + 6 ≤ h 200 100000 ∧ h 200 100000 ≤ 3072) {Q : fz_H → Option fz_V → Prop} (K : ∀ H : fz_H, fz_Gd H → H 200 = h 200 → fz_R 47 mLe 1817 [(3, fz_i i), (0, fz_r 200), (1, fz_r 0), (2, fz_r 53)] [] H Q) : fz_R 47 mLc19 931 [(3, fz_i i), (0, fz_r 200), (1, fz_r 0), (2, fz_r 53)] [] h Q := by
  have hf : fz_fr fz_all h h := fz_fr_rf
  refine fz_aload_n kLc19 rfl rfl ?_
  refine fz_aload_n kLc19 rfl rfl ?_
  refine fz_iload_n kLc19 rfl rfl ?_
  refine fz_iconst ⟨by decide, by decide⟩ kLc19 rfl ?_
  refine fz_iaddN kLc19 rfl (by omega) ?_
  obtain ⟨a1, e2⟩ : ∃ z, h 200 ((i + 1)).toNat = z := ⟨_, rfl⟩
  refine fz_taldV (v := a1) kLc19 rfl ⟨by decide, by decide⟩ (by omega) (by omega) e2 ?_
  refine fz_aload_n kLc19 rfl rfl ?_
  refine fz_iload_n kLc19 rfl rfl ?_
  refine fz_iconst ⟨by decide, by decide⟩ kLc19 rfl ?_
  refine fz_iaddN kLc19 rfl (by omega) ?_
  obtain ⟨a3, e4⟩ : ∃ z, h 200 ((i + 2)).toNat = z := ⟨_, rfl⟩
  refine fz_taldV (v := a3) kLc19 rfl ⟨by decide, by decide⟩ (by omega) (by omega) e4 ?_
  refine fz_aload_n kLc19 rfl rfl ?_
  refine fz_iload_n kLc19 rfl rfl ?_
  refine fz_iconst ⟨by decide, by decide⟩ kLc19 rfl ?_
  refine fz_iaddN kLc19 rfl (by omega) ?_
  obtain ⟨a5, e6⟩ : ∃ z, h 200 ((i + 3)).toNat = z := ⟨_, rfl⟩
  refine fz_taldV (v := a5) kLc19 rfl ⟨by decide, by decide⟩ (by omega) (by omega) e6 ?_
  refine fz_callV (d' := 5) (M' := mX10_free) (As := [fz_i a1, fz_i a3, fz_i a5]) (st := []) kLc19 rfl rfl vX10_free rfl rfl rfl rfl (Nat.le_of_ble_eq_true rfl) (Nat.le_of_ble_eq_true rfl) (by decide) (sX10_free h hI a1 a3 a5 ) (fun H7 r8 q9 o10 => ?_)
  obtain ⟨hI11, hf12, y15, rfl, f13, f14⟩ := q9
  clear o10
  have hf16 := fz_fr_tr hf hf12 (fz_su_all rfl)
  have hXd17 : fz_Xd H7 := fz_Xd_eq (funext fun s => hf12 80 s rfl) hXd
  have hXh18 : fz_Xh H7 := fz_Xh_eq (funext fun s => hf12 83 s rfl) hXh
  have hXw19 : fz_Xw H7 := fz_Xw_eq (hf12 53 19 rfl) (funext fun s => hf12 66 s rfl) (funext fun s => hf12 67 s rfl) (funext fun s => hf12 68 s rfl) (funext fun s => hf12 69 s rfl) hXw
  have hRS20 : fz_RS H7 := fz_RS_eq (funext fun s => hf12 48 s rfl) (funext fun s => hf12 49 s rfl) (funext fun s => hf12 50 s rfl) (funext fun s => hf12 51 s rfl) (funext fun s => hf12 83 s rfl) (funext fun s => hf12 84 s rfl) (hf12 44 2 rfl) hRS
  have hRP21 : fz_RP H7 := fz_RP_eq (funext fun s => hf12 52 s rfl) (funext fun s => hf12 85 s rfl) hRP
  have hRK22 : fz_RK H7 := fz_RK_eq (funext fun s => hf12 45 s rfl) (funext fun s => hf12 81 s rfl) hRK
  have hRR23 : fz_RR H7 := fz_RR_eq (hf12 44 3 rfl) (hf12 53 46 rfl) (funext fun s => hf12 46 s rfl) (funext fun s => hf12 82 s rfl) hRR
  have hRT24 : fz_RT H7 := fz_RT_eq (funext fun s => hf12 41 s rfl) (funext fun s => hf12 42 s rfl) (hf12 1 7 rfl) hRT
  have hRE25 : fz_RE H7 := fz_RE_eq (funext fun s => hf12 5 s rfl) (funext fun s => hf12 6 s rfl) (hf12 1 8 rfl) (hf12 1 7 rfl) hRE
  have hR226 : fz_R2 H7 := fz_R2_eq (funext fun s => hf12 2 s rfl) (funext fun s => hf12 54 s rfl) hR2
  have hR327 : fz_R3 H7 := fz_R3_eq (funext fun s => hf12 3 s rfl) (funext fun s => hf12 57 s rfl) hR3
  have hR428 : fz_R4 H7 := fz_R4_eq (funext fun s => hf12 4 s rfl) (funext fun s => hf12 58 s rfl) hR4
  have hR2829 : fz_R28 H7 := fz_R28_eq (funext fun s => hf12 28 s rfl) (funext fun s => hf12 59 s rfl) hR28
  have hR530 : fz_R5 H7 := fz_R5_eq (funext fun s => hf12 5 s rfl) (funext fun s => hf12 55 s rfl) hR5
  have hR631 : fz_R6 H7 := fz_R6_eq (funext fun s => hf12 6 s rfl) (funext fun s => hf12 56 s rfl) hR6
  have hRG32 : fz_RG H7 := fz_RG_eq (hf12 27 8 rfl) (hf12 27 9 rfl) (hf12 53 8 rfl) (hf12 53 9 rfl) hRG
  have hRL33 : fz_RL H7 := fz_RL_eq (funext fun s => hf12 11 s rfl) (funext fun s => hf12 12 s rfl) (funext fun s => hf12 13 s rfl) (funext fun s => hf12 14 s rfl) (funext fun s => hf12 61 s rfl) (funext fun s => hf12 62 s rfl) (funext fun s => hf12 63 s rfl) (funext fun s => hf12 64 s rfl) (hf12 9 5 rfl) hRL
  have hRC34 : fz_RC H7 := fz_RC_eq (hf12 35 4 rfl) (hf12 35 5 rfl) (hf12 53 41 rfl) (hf12 53 42 rfl) (funext fun s => hf12 36 s rfl) (funext fun s => hf12 37 s rfl) (funext fun s => hf12 38 s rfl) (funext fun s => hf12 39 s rfl) (funext fun s => hf12 80 s rfl) (hf12 1 7 rfl) (hf12 1 8 rfl) (hf12 9 5 rfl) hRC
  have hRJ35 : fz_RJ H7 := fz_RJ_eq (hf12 40 1 rfl) (hf12 53 34 rfl) (funext fun s => hf12 41 s rfl) (funext fun s => hf12 76 s rfl) (hf12 40 6 rfl) (hf12 53 37 rfl) (funext fun s => hf12 42 s rfl) (funext fun s => hf12 78 s rfl) (hf12 43 0 rfl) (hf12 53 38 rfl) hRJ
  have hRW36 : fz_RW H7 := fz_RW_eq (funext fun s => hf12 10 s rfl) (funext fun s => hf12 60 s rfl) (hf12 9 5 rfl) hRW
  have hRV37 : fz_RV H7 := fz_RV_eq (funext fun s => hf12 7 s rfl) (funext fun s => hf12 8 s rfl) (funext fun s => hf12 3 s rfl) (funext fun s => hf12 4 s rfl) (funext fun s => hf12 5 s rfl) (funext fun s => hf12 6 s rfl) (hf12 1 7 rfl) (hf12 1 8 rfl) hRV
  have hRM38 : fz_RM H7 := fz_RM_eq (funext fun s => hf12 55 s rfl) (funext fun s => hf12 56 s rfl) (hf12 53 0 rfl) (hf12 53 2 rfl) hRM
  have hRP239 : fz_RP2 H7 := fz_RP2_eq (funext fun s => hf12 11 s rfl) (hf12 9 5 rfl) (hf12 1 7 rfl) hRP2
  have hRA40 : fl_RA H7 := fl_RA_eq (funext fun s => hf12 26 s rfl) (funext fun s => hf12 65 s rfl) (hf12 20 2 rfl) hRA
  have hRU41 : fl_RU H7 := fl_RU_eq (hf12 15 4 rfl) (funext fun s => hf12 16 s rfl) (funext fun s => hf12 17 s rfl) (hf12 53 18 rfl) (hf12 53 19 rfl) (funext fun s => hf12 66 s rfl) (funext fun s => hf12 67 s rfl) (funext fun s => hf12 68 s rfl) (funext fun s => hf12 69 s rfl) hRU
  have hRD42 : fl_RD H7 := fl_RD_eq (hf12 40 2 rfl) (hf12 40 3 rfl) (hf12 40 4 rfl) (hf12 40 5 rfl) (funext fun s => hf12 77 s rfl) (hf12 43 1 rfl) (hf12 43 2 rfl) (hf12 43 3 rfl) (hf12 43 4 rfl) (funext fun s => hf12 79 s rfl) hRD
  have hX43 : fz_Xc H7 := fz_Xc_fr hf12 rfl hX
  have t44 : H7 53 10 = h 53 10 := hf12 53 10 rfl
  have t45 : H7 53 41 = h 53 41 := hf12 53 41 rfl
  have t46 : H7 53 42 = h 53 42 := hf12 53 42 rfl
  have t47 : H7 9 5 = h 9 5 := hf12 9 5 rfl
  have t48 : H7 53 10 = h 53 10 := hf12 53 10 rfl
  have t49 : H7 44 2 = h 44 2 := hf12 44 2 rfl
  have t50 : H7 53 44 = h 53 44 := hf12 53 44 rfl
  have t51 : H7 20 2 = h 20 2 := hf12 20 2 rfl
  have t52 : H7 53 16 = h 53 16 := hf12 53 16 rfl
  have t53 : H7 1 7 = h 1 7 := hf12 1 7 rfl
  have t54 : H7 53 0 = h 53 0 := hf12 53 0 rfl
  have t55 : H7 1 8 = h 1 8 := hf12 1 8 rfl
  have t56 : H7 53 2 = h 53 2 := hf12 53 2 rfl
  refine fz_pop rfl kLc19 rfl ?_
  refine fz_aload_n kLc19 rfl rfl ?_
  refine fz_aload_n kLc19 rfl rfl ?_
  refine fz_iload_n kLc19 rfl rfl ?_
  refine fz_iconst ⟨by decide, by decide⟩ kLc19 rfl ?_
  refine fz_iaddN kLc19 rfl (by omega) ?_
  refine fz_taldV (v := a1) kLc19 rfl ⟨by decide, by decide⟩ (by omega) (by rw [hf16 200 _ rfl]; omega) ((hf16 200 _ rfl).trans e2) ?_
  refine fz_aload_n kLc19 rfl rfl ?_
  refine fz_iload_n kLc19 rfl rfl ?_
  refine fz_iconst ⟨by decide, by decide⟩ kLc19 rfl ?_
  refine fz_iaddN kLc19 rfl (by omega) ?_
  refine fz_taldV (v := a3) kLc19 rfl ⟨by decide, by decide⟩ (by omega) (by rw [hf16 200 _ rfl]; omega) ((hf16 200 _ rfl).trans e4) ?_
  refine fz_aload_n kLc19 rfl rfl ?_
  refine fz_iload_n kLc19 rfl rfl ?_
  refine fz_iconst ⟨by decide, by decide⟩ kLc19 rfl ?_
  refine fz_iaddN kLc19 rfl (by omega) ?_
  refine fz_taldV (v := a5) kLc19 rfl ⟨by decide, by decide⟩ (by omega) (by rw [hf16 200 _ rfl]; omega) ((hf16 200 _ rfl).trans e6) ?_
  have hRPm57 : fl_RPm H7 := by first | exact fl_RPm_eq (funext fun s => hf12 61 s rfl) (hf12 53 10 rfl) (hf12 53 0 rfl) (fl_RPm_of hRL hRP2 hr3.symm hr0.symm) | exact fl_RPm_of hRL hRP2 hr3.symm hr0.symm
  refine fz_callV (d' := 6) (M' := mX11_free) (As := [fz_i a1, fz_i a3, fz_i a5]) (st := []) kLc19 rfl rfl vX11_free rfl rfl rfl rfl (Nat.le_of_ble_eq_true rfl) (Nat.le_of_ble_eq_true rfl) (by decide) (sX11_free H7 hI11 a1 a3 a5 hXw19 hRM38 hRPm57) (fun H59 r60 q61 o62 => ?_)
  obtain ⟨hI63, hf64, hXw65, hRM66, hRPm67, y71, rfl, f68, f69, f70⟩ := q61
  clear o62
  have hf72 := fz_fr_tr hf16 hf64 (fz_su_all rfl)
  have hXd73 : fz_Xd H59 := fz_Xd_eq (funext fun s => hf64 80 s rfl) hXd17
  have hXh74 : fz_Xh H59 := fz_Xh_eq (funext fun s => hf64 83 s rfl) hXh18
  have hRS75 : fz_RS H59 := fz_RS_eq (funext fun s => hf64 48 s rfl) (funext fun s => hf64 49 s rfl) (funext fun s => hf64 50 s rfl) (funext fun s => hf64 51 s rfl) (funext fun s => hf64 83 s rfl) (funext fun s => hf64 84 s rfl) (hf64 44 2 rfl) hRS20
  have hRP76 : fz_RP H59 := fz_RP_eq (funext fun s => hf64 52 s rfl) (funext fun s => hf64 85 s rfl) hRP21
  have hRK77 : fz_RK H59 := fz_RK_eq (funext fun s => hf64 45 s rfl) (funext fun s => hf64 81 s rfl) hRK22
  have hRR78 : fz_RR H59 := fz_RR_eq (hf64 44 3 rfl) (hf64 53 46 rfl) (funext fun s => hf64 46 s rfl) (funext fun s => hf64 82 s rfl) hRR23
  have hRT79 : fz_RT H59 := fz_RT_eq (funext fun s => hf64 41 s rfl) (funext fun s => hf64 42 s rfl) (hf64 1 7 rfl) hRT24
  have hRE80 : fz_RE H59 := fz_RE_eq (funext fun s => hf64 5 s rfl) (funext fun s => hf64 6 s rfl) (hf64 1 8 rfl) (hf64 1 7 rfl) hRE25
  have hR281 : fz_R2 H59 := fz_R2_eq (funext fun s => hf64 2 s rfl) (funext fun s => hf64 54 s rfl) hR226
  have hR382 : fz_R3 H59 := fz_R3_eq (funext fun s => hf64 3 s rfl) (funext fun s => hf64 57 s rfl) hR327
  have hR483 : fz_R4 H59 := fz_R4_eq (funext fun s => hf64 4 s rfl) (funext fun s => hf64 58 s rfl) hR428
  have hR2884 : fz_R28 H59 := fz_R28_eq (funext fun s => hf64 28 s rfl) (funext fun s => hf64 59 s rfl) hR2829
  have hR585 : fz_R5 H59 := fz_R5_eq (funext fun s => hf64 5 s rfl) (funext fun s => hf64 55 s rfl) hR530
  have hR686 : fz_R6 H59 := fz_R6_eq (funext fun s => hf64 6 s rfl) (funext fun s => hf64 56 s rfl) hR631
  have hRG87 : fz_RG H59 := fz_RG_eq (hf64 27 8 rfl) (hf64 27 9 rfl) (hf64 53 8 rfl) (hf64 53 9 rfl) hRG32
  have hRL88 : fz_RL H59 := fz_RL_eq (funext fun s => hf64 11 s rfl) (funext fun s => hf64 12 s rfl) (funext fun s => hf64 13 s rfl) (funext fun s => hf64 14 s rfl) (funext fun s => hf64 61 s rfl) (funext fun s => hf64 62 s rfl) (funext fun s => hf64 63 s rfl) (funext fun s => hf64 64 s rfl) (hf64 9 5 rfl) hRL33
  have hRC89 : fz_RC H59 := fz_RC_eq (hf64 35 4 rfl) (hf64 35 5 rfl) (hf64 53 41 rfl) (hf64 53 42 rfl) (funext fun s => hf64 36 s rfl) (funext fun s => hf64 37 s rfl) (funext fun s => hf64 38 s rfl) (funext fun s => hf64 39 s rfl) (funext fun s => hf64 80 s rfl) (hf64 1 7 rfl) (hf64 1 8 rfl) (hf64 9 5 rfl) hRC34
  have hRJ90 : fz_RJ H59 := fz_RJ_eq (hf64 40 1 rfl) (hf64 53 34 rfl) (funext fun s => hf64 41 s rfl) (funext fun s => hf64 76 s rfl) (hf64 40 6 rfl) (hf64 53 37 rfl) (funext fun s => hf64 42 s rfl) (funext fun s => hf64 78 s rfl) (hf64 43 0 rfl) (hf64 53 38 rfl) hRJ35
  have hRV91 : fz_RV H59 := fz_RV_eq (funext fun s => hf64 7 s rfl) (funext fun s => hf64 8 s rfl) (funext fun s => hf64 3 s rfl) (funext fun s => hf64 4 s rfl) (funext fun s => hf64 5 s rfl) (funext fun s => hf64 6 s rfl) (hf64 1 7 rfl) (hf64 1 8 rfl) hRV37
  have hRP292 : fz_RP2 H59 := fz_RP2_eq (funext fun s => hf64 11 s rfl) (hf64 9 5 rfl) (hf64 1 7 rfl) hRP239
  have hRA93 : fl_RA H59 := fl_RA_eq (funext fun s => hf64 26 s rfl) (funext fun s => hf64 65 s rfl) (hf64 20 2 rfl) hRA40
  have hRU94 : fl_RU H59 := fl_RU_eq (hf64 15 4 rfl) (funext fun s => hf64 16 s rfl) (funext fun s => hf64 17 s rfl) (hf64 53 18 rfl) (hf64 53 19 rfl) (funext fun s => hf64 66 s rfl) (funext fun s => hf64 67 s rfl) (funext fun s => hf64 68 s rfl) (funext fun s => hf64 69 s rfl) hRU41
  have hRD95 : fl_RD H59 := fl_RD_eq (hf64 40 2 rfl) (hf64 40 3 rfl) (hf64 40 4 rfl) (hf64 40 5 rfl) (funext fun s => hf64 77 s rfl) (hf64 43 1 rfl) (hf64 43 2 rfl) (hf64 43 3 rfl) (hf64 43 4 rfl) (funext fun s => hf64 79 s rfl) hRD42
  have hX96 : fz_Xc H59 := fz_Xc_fr hf64 rfl hX43
  have t97 : H59 53 10 = H7 53 10 := hf64 53 10 rfl
  have t98 : H59 53 41 = H7 53 41 := hf64 53 41 rfl
  have t99 : H59 53 42 = H7 53 42 := hf64 53 42 rfl
  have t100 : H59 9 5 = H7 9 5 := hf64 9 5 rfl
  have t101 : H59 53 10 = H7 53 10 := hf64 53 10 rfl
  have t102 : H59 44 2 = H7 44 2 := hf64 44 2 rfl
  have t103 : H59 53 44 = H7 53 44 := hf64 53 44 rfl
  have t104 : H59 20 2 = H7 20 2 := hf64 20 2 rfl
  have t105 : H59 53 16 = H7 53 16 := hf64 53 16 rfl
  have t106 : H59 1 7 = H7 1 7 := hf64 1 7 rfl
  have t107 : H59 53 0 = H7 53 0 := hf64 53 0 rfl
  have t108 : H59 1 8 = H7 1 8 := hf64 1 8 rfl
  have t109 : H59 53 2 = H7 53 2 := hf64 53 2 rfl
  refine fz_pop rfl kLc19 rfl ?_
  refine fz_goto (tgt := 1817) kLc19 rfl (by decide) ?_
  have hRW110 : fz_RW H59 := fz_RW_eq (funext fun s => (hf64 10 s rfl).trans (hf12 10 s rfl)) (f69.trans (funext fun s => hf12 60 s rfl)) ((hf64 9 5 rfl).trans (hf12 9 5 rfl)) hRW
  exact K H59 ⟨hI63, hX96, hXd73, hXh74, hXw65, (by rw [((hf64 53 10 rfl).trans (hf12 53 10 rfl))]; exact hv1), (by rw [((hf64 53 42 rfl).trans (hf12 53 42 rfl)), ((hf64 53 41 rfl).trans (hf12 53 41 rfl))]; exact hv2), (((hf64 9 5 rfl).trans (hf12 9 5 rfl)).trans (hr0.trans ((hf64 53 10 rfl).trans (hf12 53 10 rfl)).symm)), (((hf64 44 2 rfl).trans (hf12 44 2 rfl)).trans (hr1.trans ((hf64 53 44 rfl).trans (hf12 53 44 rfl)).symm)), (((hf64 20 2 rfl).trans (hf12 20 2 rfl)).trans (hr2.trans ((hf64 53 16 rfl).trans (hf12 53 16 rfl)).symm)), (((hf64 1 7 rfl).trans (hf12 1 7 rfl)).trans (hr3.trans ((hf64 53 0 rfl).trans (hf12 53 0 rfl)).symm)), (((hf64 1 8 rfl).trans (hf12 1 8 rfl)).trans (hr4.trans ((hf64 53 2 rfl).trans (hf12 53 2 rfl)).symm)), hRS75, hRP76, hRK77, hRR78, hRT79, hRE80, hR281, hR382, hR483, hR2884, hR585, hR686, hRG87, hRL88, hRC89, hRJ90, hRW110, hRV91, hRM66, hRP292, hRA93, hRU94, hRD95⟩ (funext fun s => hf72 200 s rfl)
def mLc20 : fz_M := (yL_law, code, 4, (some .boolean), [(974, .aload_n 1, 1, 0, 0, 0), (975, .aload_n 0, 1, 0, 0, 0), (976, .iload_n 3, 1, 0, 0, 0), (977, .iconst 1, 1, 0, 0, 0), (978, .iadd, 1, 0, 0, 0), (979, .iaload, 1, 0, 0, 0), (980, .aload_n 0, 1, 0, 0, 0), (981, .iload_n 3, 1, 0, 0, 0), (982, .iconst 2, 1, 0, 0, 0), (983, .iadd, 1, 0, 0, 0), (984, .iaload, 1, 0, 0, 0), (985, .aload_n 0, 1, 0, 0, 0), (986, .iload_n 3, 1, 0, 0, 0), (987, .iconst 3, 1, 0, 0, 0), (988, .iadd, 1, 0, 0, 0), (989, .iaload, 1, 0, 0, 0), (990, .invokevirtual 98, 3, 4083, 14, 0), (993, .pop, 1, 0, 0, 0), (994, .aload_n 2, 1, 0, 0, 0), (995, .aload_n 0, 1, 0, 0, 0), (996, .iload_n 3, 1, 0, 0, 0), (997, .iconst 1, 1, 0, 0, 0), (998, .iadd, 1, 0, 0, 0), (999, .iaload, 1, 0, 0, 0), (1000, .aload_n 0, 1, 0, 0, 0), (1001, .iload_n 3, 1, 0, 0, 0), (1002, .iconst 2, 1, 0, 0, 0), (1003, .iadd, 1, 0, 0, 0), (1004, .iaload, 1, 0, 0, 0), (1005, .aload_n 0, 1, 0, 0, 0), (1006, .iload_n 3, 1, 0, 0, 0), (1007, .iconst 3, 1, 0, 0, 0), (1008, .iadd, 1, 0, 0, 0), (1009, .iaload, 1, 0, 0, 0), (1010, .invokevirtual 101, 3, 7066, 82, 0), (1013, .pop, 1, 0, 0, 0), (1014, .goto 803, 3, 0, 0, 0)])
set_option maxRecDepth 100000 in
theorem kLc20 : fz_okM mLc20 = true := fz_okM_in (by decide +kernel) (by decide +kernel)
set_option maxHeartbeats 1000000 in
set_option maxRecDepth 100000 in
theorem lc20 (h : fz_H) (hI : fz_Iv h) (hX : fz_Xc h) (hXd : fz_Xd h) (hXh : fz_Xh h) (hXw : fz_Xw h) (hv1 : h 53 10 ≤ 10) (hv2 : h 53 42 ≤ h 53 41) (hr0 : h 9 5 = h 53 10) (hr1 : h 44 2 = h 53 44) (hr2 : h 20 2 = h 53 16) (hr3 : h 1 7 = h 53 0) (hr4 : h 1 8 = h 53 2) (hRS : fz_RS h) (hRP : fz_RP h) (hRK : fz_RK h) (hRR : fz_RR h) (hRT : fz_RT h) (hRE : fz_RE h) (hR2 : fz_R2 h) (hR3 : fz_R3 h) (hR4 : fz_R4 h) (hR28 : fz_R28 h) (hR5 : fz_R5 h) (hR6 : fz_R6 h) (hRG : fz_RG h) (hRL : fz_RL h) (hRC : fz_RC h) (hRJ : fz_RJ h) (hRW : fz_RW h) (hRV : fz_RV h) (hRM : fz_RM h) (hRP2 : fz_RP2 h) (hRA : fz_RA h) (hRU : fz_RU h) (hRD : fz_RD h) (i : Int) (hi : 0 ≤ i ∧ i + 6 ≤ h 200 100000 ∧ h 200 100000 ≤ 3072) {Q : fz_H → Option fz_V → Prop} (K : ∀ H : fz_H, fz_Gd H → H 200 = h 200 → fz_R 47 mLe 1817 [(3, fz_i i), (0, fz_r 200), (1, fz_r 0), (2, fz_r 53)] [] H Q) : fz_R 47 mLc20 974 [(3, fz_i i), (0, fz_r 200), (1, fz_r 0), (2, fz_r 53)] [] h Q := by
  have hf : fz_fr fz_all h h := fz_fr_rf
  refine fz_aload_n kLc20 rfl rfl ?_
  refine fz_aload_n kLc20 rfl rfl ?_
  refine fz_iload_n kLc20 rfl rfl ?_
  refine fz_iconst ⟨by decide, by decide⟩ kLc20 rfl ?_
  refine fz_iaddN kLc20 rfl (by omega) ?_
  obtain ⟨a1, e2⟩ : ∃ z, h 200 ((i + 1)).toNat = z := ⟨_, rfl⟩
  refine fz_taldV (v := a1) kLc20 rfl ⟨by decide, by decide⟩ (by omega) (by omega) e2 ?_
  refine fz_aload_n kLc20 rfl rfl ?_
  refine fz_iload_n kLc20 rfl rfl ?_
  refine fz_iconst ⟨by decide, by decide⟩ kLc20 rfl ?_
  refine fz_iaddN kLc20 rfl (by omega) ?_
  obtain ⟨a3, e4⟩ : ∃ z, h 200 ((i + 2)).toNat = z := ⟨_, rfl⟩
  refine fz_taldV (v := a3) kLc20 rfl ⟨by decide, by decide⟩ (by omega) (by omega) e4 ?_
  refine fz_aload_n kLc20 rfl rfl ?_
  refine fz_iload_n kLc20 rfl rfl ?_
  refine fz_iconst ⟨by decide, by decide⟩ kLc20 rfl ?_
  refine fz_iaddN kLc20 rfl (by omega) ?_
  obtain ⟨a5, e6⟩ : ∃ z, h 200 ((i + 3)).toNat = z := ⟨_, rfl⟩
  refine fz_taldV (v := a5) kLc20 rfl ⟨by decide, by decide⟩ (by omega) (by omega) e6 ?_
  refine fz_callV (d' := 6) (M' := mX10_alike) (As := [fz_i a1, fz_i a3, fz_i a5]) (st := []) kLc20 rfl rfl vX10_alike rfl rfl rfl rfl (Nat.le_of_ble_eq_true rfl) (Nat.le_of_ble_eq_true rfl) (by decide) (sX10_alike h hI a1 a3 a5 ) (fun H7 r8 q9 o10 => ?_)
  obtain ⟨hI11, hf12, y15, rfl, f13, f14⟩ := q9
  clear o10
  have hf16 := fz_fr_tr hf hf12 (fz_su_all rfl)
  have hXd17 : fz_Xd H7 := fz_Xd_eq (funext fun s => hf12 80 s rfl) hXd
  have hXh18 : fz_Xh H7 := fz_Xh_eq (funext fun s => hf12 83 s rfl) hXh
  have hXw19 : fz_Xw H7 := fz_Xw_eq (hf12 53 19 rfl) (funext fun s => hf12 66 s rfl) (funext fun s => hf12 67 s rfl) (funext fun s => hf12 68 s rfl) (funext fun s => hf12 69 s rfl) hXw
  have hRS20 : fz_RS H7 := fz_RS_eq (funext fun s => hf12 48 s rfl) (funext fun s => hf12 49 s rfl) (funext fun s => hf12 50 s rfl) (funext fun s => hf12 51 s rfl) (funext fun s => hf12 83 s rfl) (funext fun s => hf12 84 s rfl) (hf12 44 2 rfl) hRS
  have hRP21 : fz_RP H7 := fz_RP_eq (funext fun s => hf12 52 s rfl) (funext fun s => hf12 85 s rfl) hRP
  have hRK22 : fz_RK H7 := fz_RK_eq (funext fun s => hf12 45 s rfl) (funext fun s => hf12 81 s rfl) hRK
  have hRR23 : fz_RR H7 := fz_RR_eq (hf12 44 3 rfl) (hf12 53 46 rfl) (funext fun s => hf12 46 s rfl) (funext fun s => hf12 82 s rfl) hRR
  have hRT24 : fz_RT H7 := fz_RT_eq (funext fun s => hf12 41 s rfl) (funext fun s => hf12 42 s rfl) (hf12 1 7 rfl) hRT
  have hRE25 : fz_RE H7 := fz_RE_eq (funext fun s => hf12 5 s rfl) (funext fun s => hf12 6 s rfl) (hf12 1 8 rfl) (hf12 1 7 rfl) hRE
  have hR226 : fz_R2 H7 := fz_R2_eq (funext fun s => hf12 2 s rfl) (funext fun s => hf12 54 s rfl) hR2
  have hR327 : fz_R3 H7 := fz_R3_eq (funext fun s => hf12 3 s rfl) (funext fun s => hf12 57 s rfl) hR3
  have hR428 : fz_R4 H7 := fz_R4_eq (funext fun s => hf12 4 s rfl) (funext fun s => hf12 58 s rfl) hR4
  have hR2829 : fz_R28 H7 := fz_R28_eq (funext fun s => hf12 28 s rfl) (funext fun s => hf12 59 s rfl) hR28
  have hR530 : fz_R5 H7 := fz_R5_eq (funext fun s => hf12 5 s rfl) (funext fun s => hf12 55 s rfl) hR5
  have hR631 : fz_R6 H7 := fz_R6_eq (funext fun s => hf12 6 s rfl) (funext fun s => hf12 56 s rfl) hR6
  have hRG32 : fz_RG H7 := fz_RG_eq (hf12 27 8 rfl) (hf12 27 9 rfl) (hf12 53 8 rfl) (hf12 53 9 rfl) hRG
  have hRL33 : fz_RL H7 := fz_RL_eq (funext fun s => hf12 11 s rfl) (funext fun s => hf12 12 s rfl) (funext fun s => hf12 13 s rfl) (funext fun s => hf12 14 s rfl) (funext fun s => hf12 61 s rfl) (funext fun s => hf12 62 s rfl) (funext fun s => hf12 63 s rfl) (funext fun s => hf12 64 s rfl) (hf12 9 5 rfl) hRL
  have hRC34 : fz_RC H7 := fz_RC_eq (hf12 35 4 rfl) (hf12 35 5 rfl) (hf12 53 41 rfl) (hf12 53 42 rfl) (funext fun s => hf12 36 s rfl) (funext fun s => hf12 37 s rfl) (funext fun s => hf12 38 s rfl) (funext fun s => hf12 39 s rfl) (funext fun s => hf12 80 s rfl) (hf12 1 7 rfl) (hf12 1 8 rfl) (hf12 9 5 rfl) hRC
  have hRJ35 : fz_RJ H7 := fz_RJ_eq (hf12 40 1 rfl) (hf12 53 34 rfl) (funext fun s => hf12 41 s rfl) (funext fun s => hf12 76 s rfl) (hf12 40 6 rfl) (hf12 53 37 rfl) (funext fun s => hf12 42 s rfl) (funext fun s => hf12 78 s rfl) (hf12 43 0 rfl) (hf12 53 38 rfl) hRJ
  have hRW36 : fz_RW H7 := fz_RW_eq (funext fun s => hf12 10 s rfl) (funext fun s => hf12 60 s rfl) (hf12 9 5 rfl) hRW
  have hRV37 : fz_RV H7 := fz_RV_eq (funext fun s => hf12 7 s rfl) (funext fun s => hf12 8 s rfl) (funext fun s => hf12 3 s rfl) (funext fun s => hf12 4 s rfl) (funext fun s => hf12 5 s rfl) (funext fun s => hf12 6 s rfl) (hf12 1 7 rfl) (hf12 1 8 rfl) hRV
  have hRM38 : fz_RM H7 := fz_RM_eq (funext fun s => hf12 55 s rfl) (funext fun s => hf12 56 s rfl) (hf12 53 0 rfl) (hf12 53 2 rfl) hRM
  have hRP239 : fz_RP2 H7 := fz_RP2_eq (funext fun s => hf12 11 s rfl) (hf12 9 5 rfl) (hf12 1 7 rfl) hRP2
  have hRA40 : fl_RA H7 := fl_RA_eq (funext fun s => hf12 26 s rfl) (funext fun s => hf12 65 s rfl) (hf12 20 2 rfl) hRA
  have hRU41 : fl_RU H7 := fl_RU_eq (hf12 15 4 rfl) (funext fun s => hf12 16 s rfl) (funext fun s => hf12 17 s rfl) (hf12 53 18 rfl) (hf12 53 19 rfl) (funext fun s => hf12 66 s rfl) (funext fun s => hf12 67 s rfl) (funext fun s => hf12 68 s rfl) (funext fun s => hf12 69 s rfl) hRU
  have hRD42 : fl_RD H7 := fl_RD_eq (hf12 40 2 rfl) (hf12 40 3 rfl) (hf12 40 4 rfl) (hf12 40 5 rfl) (funext fun s => hf12 77 s rfl) (hf12 43 1 rfl) (hf12 43 2 rfl) (hf12 43 3 rfl) (hf12 43 4 rfl) (funext fun s => hf12 79 s rfl) hRD
  have hX43 : fz_Xc H7 := fz_Xc_fr hf12 rfl hX
  have t44 : H7 53 10 = h 53 10 := hf12 53 10 rfl
  have t45 : H7 53 41 = h 53 41 := hf12 53 41 rfl
  have t46 : H7 53 42 = h 53 42 := hf12 53 42 rfl
  have t47 : H7 9 5 = h 9 5 := hf12 9 5 rfl
  have t48 : H7 53 10 = h 53 10 := hf12 53 10 rfl
  have t49 : H7 44 2 = h 44 2 := hf12 44 2 rfl
  have t50 : H7 53 44 = h 53 44 := hf12 53 44 rfl
  have t51 : H7 20 2 = h 20 2 := hf12 20 2 rfl
  have t52 : H7 53 16 = h 53 16 := hf12 53 16 rfl
  have t53 : H7 1 7 = h 1 7 := hf12 1 7 rfl
  have t54 : H7 53 0 = h 53 0 := hf12 53 0 rfl
  have t55 : H7 1 8 = h 1 8 := hf12 1 8 rfl
  have t56 : H7 53 2 = h 53 2 := hf12 53 2 rfl
  refine fz_pop rfl kLc20 rfl ?_
  refine fz_aload_n kLc20 rfl rfl ?_
  refine fz_aload_n kLc20 rfl rfl ?_
  refine fz_iload_n kLc20 rfl rfl ?_
  refine fz_iconst ⟨by decide, by decide⟩ kLc20 rfl ?_
  refine fz_iaddN kLc20 rfl (by omega) ?_
  refine fz_taldV (v := a1) kLc20 rfl ⟨by decide, by decide⟩ (by omega) (by rw [hf16 200 _ rfl]; omega) ((hf16 200 _ rfl).trans e2) ?_
  refine fz_aload_n kLc20 rfl rfl ?_
  refine fz_iload_n kLc20 rfl rfl ?_
  refine fz_iconst ⟨by decide, by decide⟩ kLc20 rfl ?_
  refine fz_iaddN kLc20 rfl (by omega) ?_
  refine fz_taldV (v := a3) kLc20 rfl ⟨by decide, by decide⟩ (by omega) (by rw [hf16 200 _ rfl]; omega) ((hf16 200 _ rfl).trans e4) ?_
  refine fz_aload_n kLc20 rfl rfl ?_
  refine fz_iload_n kLc20 rfl rfl ?_
  refine fz_iconst ⟨by decide, by decide⟩ kLc20 rfl ?_
  refine fz_iaddN kLc20 rfl (by omega) ?_
  refine fz_taldV (v := a5) kLc20 rfl ⟨by decide, by decide⟩ (by omega) (by rw [hf16 200 _ rfl]; omega) ((hf16 200 _ rfl).trans e6) ?_
  have hRPm57 : fl_RPm H7 := by first | exact fl_RPm_eq (funext fun s => hf12 61 s rfl) (hf12 53 10 rfl) (hf12 53 0 rfl) (fl_RPm_of hRL hRP2 hr3.symm hr0.symm) | exact fl_RPm_of hRL hRP2 hr3.symm hr0.symm
  refine fz_callV (d' := 5) (M' := mX11_alike) (As := [fz_i a1, fz_i a3, fz_i a5]) (st := []) kLc20 rfl rfl vX11_alike rfl rfl rfl rfl (Nat.le_of_ble_eq_true rfl) (Nat.le_of_ble_eq_true rfl) (by decide) (sX11_alike H7 hI11 a1 a3 a5 hXw19 hRM38 hRPm57) (fun H59 r60 q61 o62 => ?_)
  obtain ⟨hI63, hf64, hXw65, hRM66, hRPm67, y71, rfl, f68, f69, f70⟩ := q61
  clear o62
  have hf72 := fz_fr_tr hf16 hf64 (fz_su_all rfl)
  have hXd73 : fz_Xd H59 := fz_Xd_eq (funext fun s => hf64 80 s rfl) hXd17
  have hXh74 : fz_Xh H59 := fz_Xh_eq (funext fun s => hf64 83 s rfl) hXh18
  have hRS75 : fz_RS H59 := fz_RS_eq (funext fun s => hf64 48 s rfl) (funext fun s => hf64 49 s rfl) (funext fun s => hf64 50 s rfl) (funext fun s => hf64 51 s rfl) (funext fun s => hf64 83 s rfl) (funext fun s => hf64 84 s rfl) (hf64 44 2 rfl) hRS20
  have hRP76 : fz_RP H59 := fz_RP_eq (funext fun s => hf64 52 s rfl) (funext fun s => hf64 85 s rfl) hRP21
  have hRK77 : fz_RK H59 := fz_RK_eq (funext fun s => hf64 45 s rfl) (funext fun s => hf64 81 s rfl) hRK22
  have hRR78 : fz_RR H59 := fz_RR_eq (hf64 44 3 rfl) (hf64 53 46 rfl) (funext fun s => hf64 46 s rfl) (funext fun s => hf64 82 s rfl) hRR23
  have hRT79 : fz_RT H59 := fz_RT_eq (funext fun s => hf64 41 s rfl) (funext fun s => hf64 42 s rfl) (hf64 1 7 rfl) hRT24
  have hRE80 : fz_RE H59 := fz_RE_eq (funext fun s => hf64 5 s rfl) (funext fun s => hf64 6 s rfl) (hf64 1 8 rfl) (hf64 1 7 rfl) hRE25
  have hR281 : fz_R2 H59 := fz_R2_eq (funext fun s => hf64 2 s rfl) (funext fun s => hf64 54 s rfl) hR226
  have hR382 : fz_R3 H59 := fz_R3_eq (funext fun s => hf64 3 s rfl) (funext fun s => hf64 57 s rfl) hR327
  have hR483 : fz_R4 H59 := fz_R4_eq (funext fun s => hf64 4 s rfl) (funext fun s => hf64 58 s rfl) hR428
  have hR2884 : fz_R28 H59 := fz_R28_eq (funext fun s => hf64 28 s rfl) (funext fun s => hf64 59 s rfl) hR2829
  have hR585 : fz_R5 H59 := fz_R5_eq (funext fun s => hf64 5 s rfl) (funext fun s => hf64 55 s rfl) hR530
  have hR686 : fz_R6 H59 := fz_R6_eq (funext fun s => hf64 6 s rfl) (funext fun s => hf64 56 s rfl) hR631
  have hRG87 : fz_RG H59 := fz_RG_eq (hf64 27 8 rfl) (hf64 27 9 rfl) (hf64 53 8 rfl) (hf64 53 9 rfl) hRG32
  have hRL88 : fz_RL H59 := fz_RL_eq (funext fun s => hf64 11 s rfl) (funext fun s => hf64 12 s rfl) (funext fun s => hf64 13 s rfl) (funext fun s => hf64 14 s rfl) (funext fun s => hf64 61 s rfl) (funext fun s => hf64 62 s rfl) (funext fun s => hf64 63 s rfl) (funext fun s => hf64 64 s rfl) (hf64 9 5 rfl) hRL33
  have hRC89 : fz_RC H59 := fz_RC_eq (hf64 35 4 rfl) (hf64 35 5 rfl) (hf64 53 41 rfl) (hf64 53 42 rfl) (funext fun s => hf64 36 s rfl) (funext fun s => hf64 37 s rfl) (funext fun s => hf64 38 s rfl) (funext fun s => hf64 39 s rfl) (funext fun s => hf64 80 s rfl) (hf64 1 7 rfl) (hf64 1 8 rfl) (hf64 9 5 rfl) hRC34
  have hRJ90 : fz_RJ H59 := fz_RJ_eq (hf64 40 1 rfl) (hf64 53 34 rfl) (funext fun s => hf64 41 s rfl) (funext fun s => hf64 76 s rfl) (hf64 40 6 rfl) (hf64 53 37 rfl) (funext fun s => hf64 42 s rfl) (funext fun s => hf64 78 s rfl) (hf64 43 0 rfl) (hf64 53 38 rfl) hRJ35
  have hRV91 : fz_RV H59 := fz_RV_eq (funext fun s => hf64 7 s rfl) (funext fun s => hf64 8 s rfl) (funext fun s => hf64 3 s rfl) (funext fun s => hf64 4 s rfl) (funext fun s => hf64 5 s rfl) (funext fun s => hf64 6 s rfl) (hf64 1 7 rfl) (hf64 1 8 rfl) hRV37
  have hRP292 : fz_RP2 H59 := fz_RP2_eq (funext fun s => hf64 11 s rfl) (hf64 9 5 rfl) (hf64 1 7 rfl) hRP239
  have hRA93 : fl_RA H59 := fl_RA_eq (funext fun s => hf64 26 s rfl) (funext fun s => hf64 65 s rfl) (hf64 20 2 rfl) hRA40
  have hRU94 : fl_RU H59 := fl_RU_eq (hf64 15 4 rfl) (funext fun s => hf64 16 s rfl) (funext fun s => hf64 17 s rfl) (hf64 53 18 rfl) (hf64 53 19 rfl) (funext fun s => hf64 66 s rfl) (funext fun s => hf64 67 s rfl) (funext fun s => hf64 68 s rfl) (funext fun s => hf64 69 s rfl) hRU41
  have hRD95 : fl_RD H59 := fl_RD_eq (hf64 40 2 rfl) (hf64 40 3 rfl) (hf64 40 4 rfl) (hf64 40 5 rfl) (funext fun s => hf64 77 s rfl) (hf64 43 1 rfl) (hf64 43 2 rfl) (hf64 43 3 rfl) (hf64 43 4 rfl) (funext fun s => hf64 79 s rfl) hRD42
  have hX96 : fz_Xc H59 := fz_Xc_fr hf64 rfl hX43
  have t97 : H59 53 10 = H7 53 10 := hf64 53 10 rfl
  have t98 : H59 53 41 = H7 53 41 := hf64 53 41 rfl
  have t99 : H59 53 42 = H7 53 42 := hf64 53 42 rfl
  have t100 : H59 9 5 = H7 9 5 := hf64 9 5 rfl
  have t101 : H59 53 10 = H7 53 10 := hf64 53 10 rfl
  have t102 : H59 44 2 = H7 44 2 := hf64 44 2 rfl
  have t103 : H59 53 44 = H7 53 44 := hf64 53 44 rfl
  have t104 : H59 20 2 = H7 20 2 := hf64 20 2 rfl
  have t105 : H59 53 16 = H7 53 16 := hf64 53 16 rfl
  have t106 : H59 1 7 = H7 1 7 := hf64 1 7 rfl
  have t107 : H59 53 0 = H7 53 0 := hf64 53 0 rfl
  have t108 : H59 1 8 = H7 1 8 := hf64 1 8 rfl
  have t109 : H59 53 2 = H7 53 2 := hf64 53 2 rfl
  refine fz_pop rfl kLc20 rfl ?_
  refine fz_goto (tgt := 1817) kLc20 rfl (by decide) ?_
  have hRW110 : fz_RW H59 := fz_RW_eq (funext fun s => (hf64 10 s rfl).trans (hf12 10 s rfl)) (f69.trans (funext fun s => hf12 60 s rfl)) ((hf64 9 5 rfl).trans (hf12 9 5 rfl)) hRW
  exact K H59 ⟨hI63, hX96, hXd73, hXh74, hXw65, (by rw [((hf64 53 10 rfl).trans (hf12 53 10 rfl))]; exact hv1), (by rw [((hf64 53 42 rfl).trans (hf12 53 42 rfl)), ((hf64 53 41 rfl).trans (hf12 53 41 rfl))]; exact hv2), (((hf64 9 5 rfl).trans (hf12 9 5 rfl)).trans (hr0.trans ((hf64 53 10 rfl).trans (hf12 53 10 rfl)).symm)), (((hf64 44 2 rfl).trans (hf12 44 2 rfl)).trans (hr1.trans ((hf64 53 44 rfl).trans (hf12 53 44 rfl)).symm)), (((hf64 20 2 rfl).trans (hf12 20 2 rfl)).trans (hr2.trans ((hf64 53 16 rfl).trans (hf12 53 16 rfl)).symm)), (((hf64 1 7 rfl).trans (hf12 1 7 rfl)).trans (hr3.trans ((hf64 53 0 rfl).trans (hf12 53 0 rfl)).symm)), (((hf64 1 8 rfl).trans (hf12 1 8 rfl)).trans (hr4.trans ((hf64 53 2 rfl).trans (hf12 53 2 rfl)).symm)), hRS75, hRP76, hRK77, hRR78, hRT79, hRE80, hR281, hR382, hR483, hR2884, hR585, hR686, hRG87, hRL88, hRC89, hRJ90, hRW110, hRV91, hRM66, hRP292, hRA93, hRU94, hRD95⟩ (funext fun s => hf72 200 s rfl)
def mLc21 : fz_M := (yL_law, code, 4, (some .boolean), [(1017, .aload_n 1, 1, 0, 0, 0), (1018, .aload_n 0, 1, 0, 0, 0), (1019, .iload_n 3, 1, 0, 0, 0), (1020, .iconst 1, 1, 0, 0, 0), (1021, .iadd, 1, 0, 0, 0), (1022, .iaload, 1, 0, 0, 0), (1023, .aload_n 0, 1, 0, 0, 0), (1024, .iload_n 3, 1, 0, 0, 0), (1025, .iconst 2, 1, 0, 0, 0), (1026, .iadd, 1, 0, 0, 0), (1027, .iaload, 1, 0, 0, 0), (1028, .aload_n 0, 1, 0, 0, 0), (1029, .iload_n 3, 1, 0, 0, 0), (1030, .iconst 3, 1, 0, 0, 0), (1031, .iadd, 1, 0, 0, 0), (1032, .iaload, 1, 0, 0, 0), (1033, .invokevirtual 102, 3, 4097, 50, 0), (1036, .pop, 1, 0, 0, 0), (1037, .aload_n 2, 1, 0, 0, 0), (1038, .aload_n 0, 1, 0, 0, 0), (1039, .iload_n 3, 1, 0, 0, 0), (1040, .iconst 1, 1, 0, 0, 0), (1041, .iadd, 1, 0, 0, 0), (1042, .iaload, 1, 0, 0, 0), (1043, .aload_n 0, 1, 0, 0, 0), (1044, .iload_n 3, 1, 0, 0, 0), (1045, .iconst 2, 1, 0, 0, 0), (1046, .iadd, 1, 0, 0, 0), (1047, .iaload, 1, 0, 0, 0), (1048, .aload_n 0, 1, 0, 0, 0), (1049, .iload_n 3, 1, 0, 0, 0), (1050, .iconst 3, 1, 0, 0, 0), (1051, .iadd, 1, 0, 0, 0), (1052, .iaload, 1, 0, 0, 0), (1053, .invokevirtual 105, 3, 7074, 141, 0), (1056, .pop, 1, 0, 0, 0), (1057, .goto 760, 3, 0, 0, 0)])
set_option maxRecDepth 100000 in
theorem kLc21 : fz_okM mLc21 = true := fz_okM_in (by decide +kernel) (by decide +kernel)
set_option maxHeartbeats 1000000 in
set_option maxRecDepth 100000 in
theorem lc21 (h : fz_H) (hI : fz_Iv h) (hX : fz_Xc h) (hXd : fz_Xd h) (hXh : fz_Xh h) (hXw : fz_Xw h) (hv1 : h 53 10 ≤ 10) (hv2 : h 53 42 ≤ h 53 41) (hr0 : h 9 5 = h 53 10) (hr1 : h 44 2 = h 53 44) (hr2 : h 20 2 = h 53 16) (hr3 : h 1 7 = h 53 0) (hr4 : h 1 8 = h 53 2) (hRS : fz_RS h) (hRP : fz_RP h) (hRK : fz_RK h) (hRR : fz_RR h) (hRT : fz_RT h) (hRE : fz_RE h) (hR2 : fz_R2 h) (hR3 : fz_R3 h) (hR4 : fz_R4 h) (hR28 : fz_R28 h) (hR5 : fz_R5 h) (hR6 : fz_R6 h) (hRG : fz_RG h) (hRL : fz_RL h) (hRC : fz_RC h) (hRJ : fz_RJ h) (hRW : fz_RW h) (hRV : fz_RV h) (hRM : fz_RM h) (hRP2 : fz_RP2 h) (hRA : fz_RA h) (hRU : fz_RU h) (hRD : fz_RD h) (i : Int) (hi : 0 ≤ i ∧ i + 6 ≤ h 200 100000 ∧ h 200 100000 ≤ 3072) {Q : fz_H → Option fz_V → Prop} (K : ∀ H : fz_H, fz_Gd H → H 200 = h 200 → fz_R 47 mLe 1817 [(3, fz_i i), (0, fz_r 200), (1, fz_r 0), (2, fz_r 53)] [] H Q) : fz_R 47 mLc21 1017 [(3, fz_i i), (0, fz_r 200), (1, fz_r 0), (2, fz_r 53)] [] h Q := by
  have hf : fz_fr fz_all h h := fz_fr_rf
  refine fz_aload_n kLc21 rfl rfl ?_
  refine fz_aload_n kLc21 rfl rfl ?_
  refine fz_iload_n kLc21 rfl rfl ?_
  refine fz_iconst ⟨by decide, by decide⟩ kLc21 rfl ?_
  refine fz_iaddN kLc21 rfl (by omega) ?_
  obtain ⟨a1, e2⟩ : ∃ z, h 200 ((i + 1)).toNat = z := ⟨_, rfl⟩
  refine fz_taldV (v := a1) kLc21 rfl ⟨by decide, by decide⟩ (by omega) (by omega) e2 ?_
  refine fz_aload_n kLc21 rfl rfl ?_
  refine fz_iload_n kLc21 rfl rfl ?_
  refine fz_iconst ⟨by decide, by decide⟩ kLc21 rfl ?_
  refine fz_iaddN kLc21 rfl (by omega) ?_
  obtain ⟨a3, e4⟩ : ∃ z, h 200 ((i + 2)).toNat = z := ⟨_, rfl⟩
  refine fz_taldV (v := a3) kLc21 rfl ⟨by decide, by decide⟩ (by omega) (by omega) e4 ?_
  refine fz_aload_n kLc21 rfl rfl ?_
  refine fz_iload_n kLc21 rfl rfl ?_
  refine fz_iconst ⟨by decide, by decide⟩ kLc21 rfl ?_
  refine fz_iaddN kLc21 rfl (by omega) ?_
  obtain ⟨a5, e6⟩ : ∃ z, h 200 ((i + 3)).toNat = z := ⟨_, rfl⟩
  refine fz_taldV (v := a5) kLc21 rfl ⟨by decide, by decide⟩ (by omega) (by omega) e6 ?_
  refine fz_callV (d' := 5) (M' := mX10_judge) (As := [fz_i a1, fz_i a3, fz_i a5]) (st := []) kLc21 rfl rfl vX10_judge rfl rfl rfl rfl (Nat.le_of_ble_eq_true rfl) (Nat.le_of_ble_eq_true rfl) (by decide) (sX10_judge h hI a1 a3 a5 ) (fun H7 r8 q9 o10 => ?_)
  obtain ⟨hI11, hf12, y15, rfl, f13, f14⟩ := q9
  clear o10
  have hf16 := fz_fr_tr hf hf12 (fz_su_all rfl)
  have hXd17 : fz_Xd H7 := fz_Xd_eq (funext fun s => hf12 80 s rfl) hXd
  have hXh18 : fz_Xh H7 := fz_Xh_eq (funext fun s => hf12 83 s rfl) hXh
  have hXw19 : fz_Xw H7 := fz_Xw_eq (hf12 53 19 rfl) (funext fun s => hf12 66 s rfl) (funext fun s => hf12 67 s rfl) (funext fun s => hf12 68 s rfl) (funext fun s => hf12 69 s rfl) hXw
  have hRS20 : fz_RS H7 := fz_RS_eq (funext fun s => hf12 48 s rfl) (funext fun s => hf12 49 s rfl) (funext fun s => hf12 50 s rfl) (funext fun s => hf12 51 s rfl) (funext fun s => hf12 83 s rfl) (funext fun s => hf12 84 s rfl) (hf12 44 2 rfl) hRS
  have hRP21 : fz_RP H7 := fz_RP_eq (funext fun s => hf12 52 s rfl) (funext fun s => hf12 85 s rfl) hRP
  have hRK22 : fz_RK H7 := fz_RK_eq (funext fun s => hf12 45 s rfl) (funext fun s => hf12 81 s rfl) hRK
  have hRR23 : fz_RR H7 := fz_RR_eq (hf12 44 3 rfl) (hf12 53 46 rfl) (funext fun s => hf12 46 s rfl) (funext fun s => hf12 82 s rfl) hRR
  have hRT24 : fz_RT H7 := fz_RT_eq (funext fun s => hf12 41 s rfl) (funext fun s => hf12 42 s rfl) (hf12 1 7 rfl) hRT
  have hRE25 : fz_RE H7 := fz_RE_eq (funext fun s => hf12 5 s rfl) (funext fun s => hf12 6 s rfl) (hf12 1 8 rfl) (hf12 1 7 rfl) hRE
  have hR226 : fz_R2 H7 := fz_R2_eq (funext fun s => hf12 2 s rfl) (funext fun s => hf12 54 s rfl) hR2
  have hR327 : fz_R3 H7 := fz_R3_eq (funext fun s => hf12 3 s rfl) (funext fun s => hf12 57 s rfl) hR3
  have hR428 : fz_R4 H7 := fz_R4_eq (funext fun s => hf12 4 s rfl) (funext fun s => hf12 58 s rfl) hR4
  have hR2829 : fz_R28 H7 := fz_R28_eq (funext fun s => hf12 28 s rfl) (funext fun s => hf12 59 s rfl) hR28
  have hR530 : fz_R5 H7 := fz_R5_eq (funext fun s => hf12 5 s rfl) (funext fun s => hf12 55 s rfl) hR5
  have hR631 : fz_R6 H7 := fz_R6_eq (funext fun s => hf12 6 s rfl) (funext fun s => hf12 56 s rfl) hR6
  have hRG32 : fz_RG H7 := fz_RG_eq (hf12 27 8 rfl) (hf12 27 9 rfl) (hf12 53 8 rfl) (hf12 53 9 rfl) hRG
  have hRL33 : fz_RL H7 := fz_RL_eq (funext fun s => hf12 11 s rfl) (funext fun s => hf12 12 s rfl) (funext fun s => hf12 13 s rfl) (funext fun s => hf12 14 s rfl) (funext fun s => hf12 61 s rfl) (funext fun s => hf12 62 s rfl) (funext fun s => hf12 63 s rfl) (funext fun s => hf12 64 s rfl) (hf12 9 5 rfl) hRL
  have hRC34 : fz_RC H7 := fz_RC_eq (hf12 35 4 rfl) (hf12 35 5 rfl) (hf12 53 41 rfl) (hf12 53 42 rfl) (funext fun s => hf12 36 s rfl) (funext fun s => hf12 37 s rfl) (funext fun s => hf12 38 s rfl) (funext fun s => hf12 39 s rfl) (funext fun s => hf12 80 s rfl) (hf12 1 7 rfl) (hf12 1 8 rfl) (hf12 9 5 rfl) hRC
  have hRJ35 : fz_RJ H7 := fz_RJ_eq (hf12 40 1 rfl) (hf12 53 34 rfl) (funext fun s => hf12 41 s rfl) (funext fun s => hf12 76 s rfl) (hf12 40 6 rfl) (hf12 53 37 rfl) (funext fun s => hf12 42 s rfl) (funext fun s => hf12 78 s rfl) (hf12 43 0 rfl) (hf12 53 38 rfl) hRJ
  have hRW36 : fz_RW H7 := fz_RW_eq (funext fun s => hf12 10 s rfl) (funext fun s => hf12 60 s rfl) (hf12 9 5 rfl) hRW
  have hRV37 : fz_RV H7 := fz_RV_eq (funext fun s => hf12 7 s rfl) (funext fun s => hf12 8 s rfl) (funext fun s => hf12 3 s rfl) (funext fun s => hf12 4 s rfl) (funext fun s => hf12 5 s rfl) (funext fun s => hf12 6 s rfl) (hf12 1 7 rfl) (hf12 1 8 rfl) hRV
  have hRM38 : fz_RM H7 := fz_RM_eq (funext fun s => hf12 55 s rfl) (funext fun s => hf12 56 s rfl) (hf12 53 0 rfl) (hf12 53 2 rfl) hRM
  have hRP239 : fz_RP2 H7 := fz_RP2_eq (funext fun s => hf12 11 s rfl) (hf12 9 5 rfl) (hf12 1 7 rfl) hRP2
  have hRA40 : fl_RA H7 := fl_RA_eq (funext fun s => hf12 26 s rfl) (funext fun s => hf12 65 s rfl) (hf12 20 2 rfl) hRA
  have hRU41 : fl_RU H7 := fl_RU_eq (hf12 15 4 rfl) (funext fun s => hf12 16 s rfl) (funext fun s => hf12 17 s rfl) (hf12 53 18 rfl) (hf12 53 19 rfl) (funext fun s => hf12 66 s rfl) (funext fun s => hf12 67 s rfl) (funext fun s => hf12 68 s rfl) (funext fun s => hf12 69 s rfl) hRU
  have hRD42 : fl_RD H7 := fl_RD_eq (hf12 40 2 rfl) (hf12 40 3 rfl) (hf12 40 4 rfl) (hf12 40 5 rfl) (funext fun s => hf12 77 s rfl) (hf12 43 1 rfl) (hf12 43 2 rfl) (hf12 43 3 rfl) (hf12 43 4 rfl) (funext fun s => hf12 79 s rfl) hRD
  have hX43 : fz_Xc H7 := fz_Xc_fr hf12 rfl hX
  have t44 : H7 53 10 = h 53 10 := hf12 53 10 rfl
  have t45 : H7 53 41 = h 53 41 := hf12 53 41 rfl
  have t46 : H7 53 42 = h 53 42 := hf12 53 42 rfl
  have t47 : H7 9 5 = h 9 5 := hf12 9 5 rfl
  have t48 : H7 53 10 = h 53 10 := hf12 53 10 rfl
  have t49 : H7 44 2 = h 44 2 := hf12 44 2 rfl
  have t50 : H7 53 44 = h 53 44 := hf12 53 44 rfl
  have t51 : H7 20 2 = h 20 2 := hf12 20 2 rfl
  have t52 : H7 53 16 = h 53 16 := hf12 53 16 rfl
  have t53 : H7 1 7 = h 1 7 := hf12 1 7 rfl
  have t54 : H7 53 0 = h 53 0 := hf12 53 0 rfl
  have t55 : H7 1 8 = h 1 8 := hf12 1 8 rfl
  have t56 : H7 53 2 = h 53 2 := hf12 53 2 rfl
  refine fz_pop rfl kLc21 rfl ?_
  refine fz_aload_n kLc21 rfl rfl ?_
  refine fz_aload_n kLc21 rfl rfl ?_
  refine fz_iload_n kLc21 rfl rfl ?_
  refine fz_iconst ⟨by decide, by decide⟩ kLc21 rfl ?_
  refine fz_iaddN kLc21 rfl (by omega) ?_
  refine fz_taldV (v := a1) kLc21 rfl ⟨by decide, by decide⟩ (by omega) (by rw [hf16 200 _ rfl]; omega) ((hf16 200 _ rfl).trans e2) ?_
  refine fz_aload_n kLc21 rfl rfl ?_
  refine fz_iload_n kLc21 rfl rfl ?_
  refine fz_iconst ⟨by decide, by decide⟩ kLc21 rfl ?_
  refine fz_iaddN kLc21 rfl (by omega) ?_
  refine fz_taldV (v := a3) kLc21 rfl ⟨by decide, by decide⟩ (by omega) (by rw [hf16 200 _ rfl]; omega) ((hf16 200 _ rfl).trans e4) ?_
  refine fz_aload_n kLc21 rfl rfl ?_
  refine fz_iload_n kLc21 rfl rfl ?_
  refine fz_iconst ⟨by decide, by decide⟩ kLc21 rfl ?_
  refine fz_iaddN kLc21 rfl (by omega) ?_
  refine fz_taldV (v := a5) kLc21 rfl ⟨by decide, by decide⟩ (by omega) (by rw [hf16 200 _ rfl]; omega) ((hf16 200 _ rfl).trans e6) ?_
  have hRPm57 : fl_RPm H7 := by first | exact fl_RPm_eq (funext fun s => hf12 61 s rfl) (hf12 53 10 rfl) (hf12 53 0 rfl) (fl_RPm_of hRL hRP2 hr3.symm hr0.symm) | exact fl_RPm_of hRL hRP2 hr3.symm hr0.symm
  refine fz_callV (d' := 5) (M' := mX11_judge) (As := [fz_i a1, fz_i a3, fz_i a5]) (st := []) kLc21 rfl rfl vX11_judge rfl rfl rfl rfl (Nat.le_of_ble_eq_true rfl) (Nat.le_of_ble_eq_true rfl) (by decide) (sX11_judge H7 hI11 a1 a3 a5 hXw19 hRM38 hRPm57) (fun H59 r60 q61 o62 => ?_)
  obtain ⟨hI63, hf64, hXw65, hRM66, hRPm67, y70, rfl, f68, f69⟩ := q61
  clear o62
  have hf71 := fz_fr_tr hf16 hf64 (fz_su_all rfl)
  have hXd72 : fz_Xd H59 := fz_Xd_eq (funext fun s => hf64 80 s rfl) hXd17
  have hXh73 : fz_Xh H59 := fz_Xh_eq (funext fun s => hf64 83 s rfl) hXh18
  have hRS74 : fz_RS H59 := fz_RS_eq (funext fun s => hf64 48 s rfl) (funext fun s => hf64 49 s rfl) (funext fun s => hf64 50 s rfl) (funext fun s => hf64 51 s rfl) (funext fun s => hf64 83 s rfl) (funext fun s => hf64 84 s rfl) (hf64 44 2 rfl) hRS20
  have hRP75 : fz_RP H59 := fz_RP_eq (funext fun s => hf64 52 s rfl) (funext fun s => hf64 85 s rfl) hRP21
  have hRK76 : fz_RK H59 := fz_RK_eq (funext fun s => hf64 45 s rfl) (funext fun s => hf64 81 s rfl) hRK22
  have hRR77 : fz_RR H59 := fz_RR_eq (hf64 44 3 rfl) (hf64 53 46 rfl) (funext fun s => hf64 46 s rfl) (funext fun s => hf64 82 s rfl) hRR23
  have hRT78 : fz_RT H59 := fz_RT_eq (funext fun s => hf64 41 s rfl) (funext fun s => hf64 42 s rfl) (hf64 1 7 rfl) hRT24
  have hRE79 : fz_RE H59 := fz_RE_eq (funext fun s => hf64 5 s rfl) (funext fun s => hf64 6 s rfl) (hf64 1 8 rfl) (hf64 1 7 rfl) hRE25
  have hR280 : fz_R2 H59 := fz_R2_eq (funext fun s => hf64 2 s rfl) (funext fun s => hf64 54 s rfl) hR226
  have hR381 : fz_R3 H59 := fz_R3_eq (funext fun s => hf64 3 s rfl) (funext fun s => hf64 57 s rfl) hR327
  have hR482 : fz_R4 H59 := fz_R4_eq (funext fun s => hf64 4 s rfl) (funext fun s => hf64 58 s rfl) hR428
  have hR2883 : fz_R28 H59 := fz_R28_eq (funext fun s => hf64 28 s rfl) (funext fun s => hf64 59 s rfl) hR2829
  have hR584 : fz_R5 H59 := fz_R5_eq (funext fun s => hf64 5 s rfl) (funext fun s => hf64 55 s rfl) hR530
  have hR685 : fz_R6 H59 := fz_R6_eq (funext fun s => hf64 6 s rfl) (funext fun s => hf64 56 s rfl) hR631
  have hRG86 : fz_RG H59 := fz_RG_eq (hf64 27 8 rfl) (hf64 27 9 rfl) (hf64 53 8 rfl) (hf64 53 9 rfl) hRG32
  have hRL87 : fz_RL H59 := fz_RL_eq (funext fun s => hf64 11 s rfl) (funext fun s => hf64 12 s rfl) (funext fun s => hf64 13 s rfl) (funext fun s => hf64 14 s rfl) (funext fun s => hf64 61 s rfl) (funext fun s => hf64 62 s rfl) (funext fun s => hf64 63 s rfl) (funext fun s => hf64 64 s rfl) (hf64 9 5 rfl) hRL33
  have hRC88 : fz_RC H59 := fz_RC_eq (hf64 35 4 rfl) (hf64 35 5 rfl) (hf64 53 41 rfl) (hf64 53 42 rfl) (funext fun s => hf64 36 s rfl) (funext fun s => hf64 37 s rfl) (funext fun s => hf64 38 s rfl) (funext fun s => hf64 39 s rfl) (funext fun s => hf64 80 s rfl) (hf64 1 7 rfl) (hf64 1 8 rfl) (hf64 9 5 rfl) hRC34
  have hRJ89 : fz_RJ H59 := fz_RJ_eq (hf64 40 1 rfl) (hf64 53 34 rfl) (funext fun s => hf64 41 s rfl) (funext fun s => hf64 76 s rfl) (hf64 40 6 rfl) (hf64 53 37 rfl) (funext fun s => hf64 42 s rfl) (funext fun s => hf64 78 s rfl) (hf64 43 0 rfl) (hf64 53 38 rfl) hRJ35
  have hRW90 : fz_RW H59 := fz_RW_eq (funext fun s => hf64 10 s rfl) (funext fun s => hf64 60 s rfl) (hf64 9 5 rfl) hRW36
  have hRV91 : fz_RV H59 := fz_RV_eq (funext fun s => hf64 7 s rfl) (funext fun s => hf64 8 s rfl) (funext fun s => hf64 3 s rfl) (funext fun s => hf64 4 s rfl) (funext fun s => hf64 5 s rfl) (funext fun s => hf64 6 s rfl) (hf64 1 7 rfl) (hf64 1 8 rfl) hRV37
  have hRP292 : fz_RP2 H59 := fz_RP2_eq (funext fun s => hf64 11 s rfl) (hf64 9 5 rfl) (hf64 1 7 rfl) hRP239
  have hRA93 : fl_RA H59 := fl_RA_eq (funext fun s => hf64 26 s rfl) (funext fun s => hf64 65 s rfl) (hf64 20 2 rfl) hRA40
  have hRU94 : fl_RU H59 := fl_RU_eq (hf64 15 4 rfl) (funext fun s => hf64 16 s rfl) (funext fun s => hf64 17 s rfl) (hf64 53 18 rfl) (hf64 53 19 rfl) (funext fun s => hf64 66 s rfl) (funext fun s => hf64 67 s rfl) (funext fun s => hf64 68 s rfl) (funext fun s => hf64 69 s rfl) hRU41
  have hRD95 : fl_RD H59 := fl_RD_eq (hf64 40 2 rfl) (hf64 40 3 rfl) (hf64 40 4 rfl) (hf64 40 5 rfl) (funext fun s => hf64 77 s rfl) (hf64 43 1 rfl) (hf64 43 2 rfl) (hf64 43 3 rfl) (hf64 43 4 rfl) (funext fun s => hf64 79 s rfl) hRD42
  have hX96 : fz_Xc H59 := fz_Xc_fr hf64 rfl hX43
  have t97 : H59 53 10 = H7 53 10 := hf64 53 10 rfl
  have t98 : H59 53 41 = H7 53 41 := hf64 53 41 rfl
  have t99 : H59 53 42 = H7 53 42 := hf64 53 42 rfl
  have t100 : H59 9 5 = H7 9 5 := hf64 9 5 rfl
  have t101 : H59 53 10 = H7 53 10 := hf64 53 10 rfl
  have t102 : H59 44 2 = H7 44 2 := hf64 44 2 rfl
  have t103 : H59 53 44 = H7 53 44 := hf64 53 44 rfl
  have t104 : H59 20 2 = H7 20 2 := hf64 20 2 rfl
  have t105 : H59 53 16 = H7 53 16 := hf64 53 16 rfl
  have t106 : H59 1 7 = H7 1 7 := hf64 1 7 rfl
  have t107 : H59 53 0 = H7 53 0 := hf64 53 0 rfl
  have t108 : H59 1 8 = H7 1 8 := hf64 1 8 rfl
  have t109 : H59 53 2 = H7 53 2 := hf64 53 2 rfl
  refine fz_pop rfl kLc21 rfl ?_
  refine fz_goto (tgt := 1817) kLc21 rfl (by decide) ?_
  exact K H59 ⟨hI63, hX96, hXd72, hXh73, hXw65, (by rw [((hf64 53 10 rfl).trans (hf12 53 10 rfl))]; exact hv1), (by rw [((hf64 53 42 rfl).trans (hf12 53 42 rfl)), ((hf64 53 41 rfl).trans (hf12 53 41 rfl))]; exact hv2), (((hf64 9 5 rfl).trans (hf12 9 5 rfl)).trans (hr0.trans ((hf64 53 10 rfl).trans (hf12 53 10 rfl)).symm)), (((hf64 44 2 rfl).trans (hf12 44 2 rfl)).trans (hr1.trans ((hf64 53 44 rfl).trans (hf12 53 44 rfl)).symm)), (((hf64 20 2 rfl).trans (hf12 20 2 rfl)).trans (hr2.trans ((hf64 53 16 rfl).trans (hf12 53 16 rfl)).symm)), (((hf64 1 7 rfl).trans (hf12 1 7 rfl)).trans (hr3.trans ((hf64 53 0 rfl).trans (hf12 53 0 rfl)).symm)), (((hf64 1 8 rfl).trans (hf12 1 8 rfl)).trans (hr4.trans ((hf64 53 2 rfl).trans (hf12 53 2 rfl)).symm)), hRS74, hRP75, hRK76, hRR77, hRT78, hRE79, hR280, hR381, hR482, hR2883, hR584, hR685, hRG86, hRL87, hRC88, hRJ89, hRW90, hRV91, hRM66, hRP292, hRA93, hRU94, hRD95⟩ (funext fun s => hf71 200 s rfl)
def mLc22 : fz_M := (yL_law, code, 4, (some .boolean), [(1060, .aload_n 1, 1, 0, 0, 0), (1061, .aload_n 0, 1, 0, 0, 0), (1062, .iload_n 3, 1, 0, 0, 0), (1063, .iconst 1, 1, 0, 0, 0), (1064, .iadd, 1, 0, 0, 0), (1065, .iaload, 1, 0, 0, 0), (1066, .aload_n 0, 1, 0, 0, 0), (1067, .iload_n 3, 1, 0, 0, 0), (1068, .iconst 2, 1, 0, 0, 0), (1069, .iadd, 1, 0, 0, 0), (1070, .iaload, 1, 0, 0, 0), (1071, .aload_n 0, 1, 0, 0, 0), (1072, .iload_n 3, 1, 0, 0, 0), (1073, .iconst 3, 1, 0, 0, 0), (1074, .iadd, 1, 0, 0, 0), (1075, .iaload, 1, 0, 0, 0), (1076, .aload_n 0, 1, 0, 0, 0), (1077, .iload_n 3, 1, 0, 0, 0), (1078, .iconst 4, 1, 0, 0, 0), (1079, .iadd, 1, 0, 0, 0), (1080, .iaload, 1, 0, 0, 0), (1081, .invokevirtual 106, 3, 4109, 79, 0), (1084, .pop, 1, 0, 0, 0), (1085, .aload_n 2, 1, 0, 0, 0), (1086, .aload_n 0, 1, 0, 0, 0), (1087, .iload_n 3, 1, 0, 0, 0), (1088, .iconst 1, 1, 0, 0, 0), (1089, .iadd, 1, 0, 0, 0), (1090, .iaload, 1, 0, 0, 0), (1091, .aload_n 0, 1, 0, 0, 0), (1092, .iload_n 3, 1, 0, 0, 0), (1093, .iconst 2, 1, 0, 0, 0), (1094, .iadd, 1, 0, 0, 0), (1095, .iaload, 1, 0, 0, 0), (1096, .aload_n 0, 1, 0, 0, 0), (1097, .iload_n 3, 1, 0, 0, 0), (1098, .iconst 3, 1, 0, 0, 0), (1099, .iadd, 1, 0, 0, 0), (1100, .iaload, 1, 0, 0, 0), (1101, .aload_n 0, 1, 0, 0, 0), (1102, .iload_n 3, 1, 0, 0, 0), (1103, .iconst 4, 1, 0, 0, 0), (1104, .iadd, 1, 0, 0, 0), (1105, .iaload, 1, 0, 0, 0), (1106, .invokevirtual 109, 3, 7086, 183, 0), (1109, .pop, 1, 0, 0, 0), (1110, .goto 707, 3, 0, 0, 0)])
set_option maxRecDepth 100000 in
theorem kLc22 : fz_okM mLc22 = true := fz_okM_in (by decide +kernel) (by decide +kernel)
set_option maxHeartbeats 1000000 in
set_option maxRecDepth 100000 in
theorem lc22 (h : fz_H) (hI : fz_Iv h) (hX : fz_Xc h) (hXd : fz_Xd h) (hXh : fz_Xh h) (hXw : fz_Xw h) (hv1 : h 53 10 ≤ 10) (hv2 : h 53 42 ≤ h 53 41) (hr0 : h 9 5 = h 53 10) (hr1 : h 44 2 = h 53 44) (hr2 : h 20 2 = h 53 16) (hr3 : h 1 7 = h 53 0) (hr4 : h 1 8 = h 53 2) (hRS : fz_RS h) (hRP : fz_RP h) (hRK : fz_RK h) (hRR : fz_RR h) (hRT : fz_RT h) (hRE : fz_RE h) (hR2 : fz_R2 h) (hR3 : fz_R3 h) (hR4 : fz_R4 h) (hR28 : fz_R28 h) (hR5 : fz_R5 h) (hR6 : fz_R6 h) (hRG : fz_RG h) (hRL : fz_RL h) (hRC : fz_RC h) (hRJ : fz_RJ h) (hRW : fz_RW h) (hRV : fz_RV h) (hRM : fz_RM h) (hRP2 : fz_RP2 h) (hRA : fz_RA h) (hRU : fz_RU h) (hRD : fz_RD h) (i : Int) (hi : 0 ≤ i ∧ i + 6 ≤ h 200 100000 ∧ h 200 100000 ≤ 3072) {Q : fz_H → Option fz_V → Prop} (K : ∀ H : fz_H, fz_Gd H → H 200 = h 200 → fz_R 47 mLe 1817 [(3, fz_i i), (0, fz_r 200), (1, fz_r 0), (2, fz_r 53)] [] H Q) : fz_R 47 mLc22 1060 [(3, fz_i i), (0, fz_r 200), (1, fz_r 0), (2, fz_r 53)] [] h Q := by
  have hf : fz_fr fz_all h h := fz_fr_rf
  refine fz_aload_n kLc22 rfl rfl ?_
  refine fz_aload_n kLc22 rfl rfl ?_
  refine fz_iload_n kLc22 rfl rfl ?_
  refine fz_iconst ⟨by decide, by decide⟩ kLc22 rfl ?_
  refine fz_iaddN kLc22 rfl (by omega) ?_
  obtain ⟨a1, e2⟩ : ∃ z, h 200 ((i + 1)).toNat = z := ⟨_, rfl⟩
  refine fz_taldV (v := a1) kLc22 rfl ⟨by decide, by decide⟩ (by omega) (by omega) e2 ?_
  refine fz_aload_n kLc22 rfl rfl ?_
  refine fz_iload_n kLc22 rfl rfl ?_
  refine fz_iconst ⟨by decide, by decide⟩ kLc22 rfl ?_
  refine fz_iaddN kLc22 rfl (by omega) ?_
  obtain ⟨a3, e4⟩ : ∃ z, h 200 ((i + 2)).toNat = z := ⟨_, rfl⟩
  refine fz_taldV (v := a3) kLc22 rfl ⟨by decide, by decide⟩ (by omega) (by omega) e4 ?_
  refine fz_aload_n kLc22 rfl rfl ?_
  refine fz_iload_n kLc22 rfl rfl ?_
  refine fz_iconst ⟨by decide, by decide⟩ kLc22 rfl ?_
  refine fz_iaddN kLc22 rfl (by omega) ?_
  obtain ⟨a5, e6⟩ : ∃ z, h 200 ((i + 3)).toNat = z := ⟨_, rfl⟩
  refine fz_taldV (v := a5) kLc22 rfl ⟨by decide, by decide⟩ (by omega) (by omega) e6 ?_
  refine fz_aload_n kLc22 rfl rfl ?_
  refine fz_iload_n kLc22 rfl rfl ?_
  refine fz_iconst ⟨by decide, by decide⟩ kLc22 rfl ?_
  refine fz_iaddN kLc22 rfl (by omega) ?_
  obtain ⟨a7, e8⟩ : ∃ z, h 200 ((i + 4)).toNat = z := ⟨_, rfl⟩
  refine fz_taldV (v := a7) kLc22 rfl ⟨by decide, by decide⟩ (by omega) (by omega) e8 ?_
  refine fz_callV (d' := 5) (M' := mX10_which) (As := [fz_i a1, fz_i a3, fz_i a5, fz_i a7]) (st := []) kLc22 rfl rfl vX10_which rfl rfl rfl rfl (Nat.le_of_ble_eq_true rfl) (Nat.le_of_ble_eq_true rfl) (by decide) (sX10_which h hI a1 a3 a5 a7 ) (fun H9 r10 q11 o12 => ?_)
  obtain ⟨hI13, hf14, y17, rfl, f15, f16⟩ := q11
  clear o12
  have hf18 := fz_fr_tr hf hf14 (fz_su_all rfl)
  have hXd19 : fz_Xd H9 := fz_Xd_eq (funext fun s => hf14 80 s rfl) hXd
  have hXh20 : fz_Xh H9 := fz_Xh_eq (funext fun s => hf14 83 s rfl) hXh
  have hXw21 : fz_Xw H9 := fz_Xw_eq (hf14 53 19 rfl) (funext fun s => hf14 66 s rfl) (funext fun s => hf14 67 s rfl) (funext fun s => hf14 68 s rfl) (funext fun s => hf14 69 s rfl) hXw
  have hRS22 : fz_RS H9 := fz_RS_eq (funext fun s => hf14 48 s rfl) (funext fun s => hf14 49 s rfl) (funext fun s => hf14 50 s rfl) (funext fun s => hf14 51 s rfl) (funext fun s => hf14 83 s rfl) (funext fun s => hf14 84 s rfl) (hf14 44 2 rfl) hRS
  have hRP23 : fz_RP H9 := fz_RP_eq (funext fun s => hf14 52 s rfl) (funext fun s => hf14 85 s rfl) hRP
  have hRK24 : fz_RK H9 := fz_RK_eq (funext fun s => hf14 45 s rfl) (funext fun s => hf14 81 s rfl) hRK
  have hRR25 : fz_RR H9 := fz_RR_eq (hf14 44 3 rfl) (hf14 53 46 rfl) (funext fun s => hf14 46 s rfl) (funext fun s => hf14 82 s rfl) hRR
  have hRT26 : fz_RT H9 := fz_RT_eq (funext fun s => hf14 41 s rfl) (funext fun s => hf14 42 s rfl) (hf14 1 7 rfl) hRT
  have hRE27 : fz_RE H9 := fz_RE_eq (funext fun s => hf14 5 s rfl) (funext fun s => hf14 6 s rfl) (hf14 1 8 rfl) (hf14 1 7 rfl) hRE
  have hR228 : fz_R2 H9 := fz_R2_eq (funext fun s => hf14 2 s rfl) (funext fun s => hf14 54 s rfl) hR2
  have hR329 : fz_R3 H9 := fz_R3_eq (funext fun s => hf14 3 s rfl) (funext fun s => hf14 57 s rfl) hR3
  have hR430 : fz_R4 H9 := fz_R4_eq (funext fun s => hf14 4 s rfl) (funext fun s => hf14 58 s rfl) hR4
  have hR2831 : fz_R28 H9 := fz_R28_eq (funext fun s => hf14 28 s rfl) (funext fun s => hf14 59 s rfl) hR28
  have hR532 : fz_R5 H9 := fz_R5_eq (funext fun s => hf14 5 s rfl) (funext fun s => hf14 55 s rfl) hR5
  have hR633 : fz_R6 H9 := fz_R6_eq (funext fun s => hf14 6 s rfl) (funext fun s => hf14 56 s rfl) hR6
  have hRG34 : fz_RG H9 := fz_RG_eq (hf14 27 8 rfl) (hf14 27 9 rfl) (hf14 53 8 rfl) (hf14 53 9 rfl) hRG
  have hRL35 : fz_RL H9 := fz_RL_eq (funext fun s => hf14 11 s rfl) (funext fun s => hf14 12 s rfl) (funext fun s => hf14 13 s rfl) (funext fun s => hf14 14 s rfl) (funext fun s => hf14 61 s rfl) (funext fun s => hf14 62 s rfl) (funext fun s => hf14 63 s rfl) (funext fun s => hf14 64 s rfl) (hf14 9 5 rfl) hRL
  have hRC36 : fz_RC H9 := fz_RC_eq (hf14 35 4 rfl) (hf14 35 5 rfl) (hf14 53 41 rfl) (hf14 53 42 rfl) (funext fun s => hf14 36 s rfl) (funext fun s => hf14 37 s rfl) (funext fun s => hf14 38 s rfl) (funext fun s => hf14 39 s rfl) (funext fun s => hf14 80 s rfl) (hf14 1 7 rfl) (hf14 1 8 rfl) (hf14 9 5 rfl) hRC
  have hRJ37 : fz_RJ H9 := fz_RJ_eq (hf14 40 1 rfl) (hf14 53 34 rfl) (funext fun s => hf14 41 s rfl) (funext fun s => hf14 76 s rfl) (hf14 40 6 rfl) (hf14 53 37 rfl) (funext fun s => hf14 42 s rfl) (funext fun s => hf14 78 s rfl) (hf14 43 0 rfl) (hf14 53 38 rfl) hRJ
  have hRW38 : fz_RW H9 := fz_RW_eq (funext fun s => hf14 10 s rfl) (funext fun s => hf14 60 s rfl) (hf14 9 5 rfl) hRW
  have hRV39 : fz_RV H9 := fz_RV_eq (funext fun s => hf14 7 s rfl) (funext fun s => hf14 8 s rfl) (funext fun s => hf14 3 s rfl) (funext fun s => hf14 4 s rfl) (funext fun s => hf14 5 s rfl) (funext fun s => hf14 6 s rfl) (hf14 1 7 rfl) (hf14 1 8 rfl) hRV
  have hRM40 : fz_RM H9 := fz_RM_eq (funext fun s => hf14 55 s rfl) (funext fun s => hf14 56 s rfl) (hf14 53 0 rfl) (hf14 53 2 rfl) hRM
  have hRP241 : fz_RP2 H9 := fz_RP2_eq (funext fun s => hf14 11 s rfl) (hf14 9 5 rfl) (hf14 1 7 rfl) hRP2
  have hRA42 : fl_RA H9 := fl_RA_eq (funext fun s => hf14 26 s rfl) (funext fun s => hf14 65 s rfl) (hf14 20 2 rfl) hRA
  have hRU43 : fl_RU H9 := fl_RU_eq (hf14 15 4 rfl) (funext fun s => hf14 16 s rfl) (funext fun s => hf14 17 s rfl) (hf14 53 18 rfl) (hf14 53 19 rfl) (funext fun s => hf14 66 s rfl) (funext fun s => hf14 67 s rfl) (funext fun s => hf14 68 s rfl) (funext fun s => hf14 69 s rfl) hRU
  have hRD44 : fl_RD H9 := fl_RD_eq (hf14 40 2 rfl) (hf14 40 3 rfl) (hf14 40 4 rfl) (hf14 40 5 rfl) (funext fun s => hf14 77 s rfl) (hf14 43 1 rfl) (hf14 43 2 rfl) (hf14 43 3 rfl) (hf14 43 4 rfl) (funext fun s => hf14 79 s rfl) hRD
  have hX45 : fz_Xc H9 := fz_Xc_fr hf14 rfl hX
  have t46 : H9 53 10 = h 53 10 := hf14 53 10 rfl
  have t47 : H9 53 41 = h 53 41 := hf14 53 41 rfl
  have t48 : H9 53 42 = h 53 42 := hf14 53 42 rfl
  have t49 : H9 9 5 = h 9 5 := hf14 9 5 rfl
  have t50 : H9 53 10 = h 53 10 := hf14 53 10 rfl
  have t51 : H9 44 2 = h 44 2 := hf14 44 2 rfl
  have t52 : H9 53 44 = h 53 44 := hf14 53 44 rfl
  have t53 : H9 20 2 = h 20 2 := hf14 20 2 rfl
  have t54 : H9 53 16 = h 53 16 := hf14 53 16 rfl
  have t55 : H9 1 7 = h 1 7 := hf14 1 7 rfl
  have t56 : H9 53 0 = h 53 0 := hf14 53 0 rfl
  have t57 : H9 1 8 = h 1 8 := hf14 1 8 rfl
  have t58 : H9 53 2 = h 53 2 := hf14 53 2 rfl
  refine fz_pop rfl kLc22 rfl ?_
  refine fz_aload_n kLc22 rfl rfl ?_
  refine fz_aload_n kLc22 rfl rfl ?_
  refine fz_iload_n kLc22 rfl rfl ?_
  refine fz_iconst ⟨by decide, by decide⟩ kLc22 rfl ?_
  refine fz_iaddN kLc22 rfl (by omega) ?_
  refine fz_taldV (v := a1) kLc22 rfl ⟨by decide, by decide⟩ (by omega) (by rw [hf18 200 _ rfl]; omega) ((hf18 200 _ rfl).trans e2) ?_
  refine fz_aload_n kLc22 rfl rfl ?_
  refine fz_iload_n kLc22 rfl rfl ?_
  refine fz_iconst ⟨by decide, by decide⟩ kLc22 rfl ?_
  refine fz_iaddN kLc22 rfl (by omega) ?_
  refine fz_taldV (v := a3) kLc22 rfl ⟨by decide, by decide⟩ (by omega) (by rw [hf18 200 _ rfl]; omega) ((hf18 200 _ rfl).trans e4) ?_
  refine fz_aload_n kLc22 rfl rfl ?_
  refine fz_iload_n kLc22 rfl rfl ?_
  refine fz_iconst ⟨by decide, by decide⟩ kLc22 rfl ?_
  refine fz_iaddN kLc22 rfl (by omega) ?_
  refine fz_taldV (v := a5) kLc22 rfl ⟨by decide, by decide⟩ (by omega) (by rw [hf18 200 _ rfl]; omega) ((hf18 200 _ rfl).trans e6) ?_
  refine fz_aload_n kLc22 rfl rfl ?_
  refine fz_iload_n kLc22 rfl rfl ?_
  refine fz_iconst ⟨by decide, by decide⟩ kLc22 rfl ?_
  refine fz_iaddN kLc22 rfl (by omega) ?_
  refine fz_taldV (v := a7) kLc22 rfl ⟨by decide, by decide⟩ (by omega) (by rw [hf18 200 _ rfl]; omega) ((hf18 200 _ rfl).trans e8) ?_
  have hRPm59 : fl_RPm H9 := by first | exact fl_RPm_eq (funext fun s => hf14 61 s rfl) (hf14 53 10 rfl) (hf14 53 0 rfl) (fl_RPm_of hRL hRP2 hr3.symm hr0.symm) | exact fl_RPm_of hRL hRP2 hr3.symm hr0.symm
  refine fz_callV (d' := 5) (M' := mX11_which) (As := [fz_i a1, fz_i a3, fz_i a5, fz_i a7]) (st := []) kLc22 rfl rfl vX11_which rfl rfl rfl rfl (Nat.le_of_ble_eq_true rfl) (Nat.le_of_ble_eq_true rfl) (by decide) (sX11_which H9 hI13 a1 a3 a5 a7 hXw21 hRM40 hRPm59) (fun H61 r62 q63 o64 => ?_)
  obtain ⟨hI65, hf66, hXw67, hRM68, hRPm69, y73, rfl, f70, f71, f72⟩ := q63
  clear o64
  have hf74 := fz_fr_tr hf18 hf66 (fz_su_all rfl)
  have hXd75 : fz_Xd H61 := fz_Xd_eq (funext fun s => hf66 80 s rfl) hXd19
  have hXh76 : fz_Xh H61 := fz_Xh_eq (funext fun s => hf66 83 s rfl) hXh20
  have hRS77 : fz_RS H61 := fz_RS_eq (funext fun s => hf66 48 s rfl) (funext fun s => hf66 49 s rfl) (funext fun s => hf66 50 s rfl) (funext fun s => hf66 51 s rfl) (funext fun s => hf66 83 s rfl) (funext fun s => hf66 84 s rfl) (hf66 44 2 rfl) hRS22
  have hRP78 : fz_RP H61 := fz_RP_eq (funext fun s => hf66 52 s rfl) (funext fun s => hf66 85 s rfl) hRP23
  have hRK79 : fz_RK H61 := fz_RK_eq (funext fun s => hf66 45 s rfl) (funext fun s => hf66 81 s rfl) hRK24
  have hRR80 : fz_RR H61 := fz_RR_eq (hf66 44 3 rfl) (hf66 53 46 rfl) (funext fun s => hf66 46 s rfl) (funext fun s => hf66 82 s rfl) hRR25
  have hRT81 : fz_RT H61 := fz_RT_eq (funext fun s => hf66 41 s rfl) (funext fun s => hf66 42 s rfl) (hf66 1 7 rfl) hRT26
  have hRE82 : fz_RE H61 := fz_RE_eq (funext fun s => hf66 5 s rfl) (funext fun s => hf66 6 s rfl) (hf66 1 8 rfl) (hf66 1 7 rfl) hRE27
  have hR283 : fz_R2 H61 := fz_R2_eq (funext fun s => hf66 2 s rfl) (funext fun s => hf66 54 s rfl) hR228
  have hR384 : fz_R3 H61 := fz_R3_eq (funext fun s => hf66 3 s rfl) (funext fun s => hf66 57 s rfl) hR329
  have hR485 : fz_R4 H61 := fz_R4_eq (funext fun s => hf66 4 s rfl) (funext fun s => hf66 58 s rfl) hR430
  have hR2886 : fz_R28 H61 := fz_R28_eq (funext fun s => hf66 28 s rfl) (funext fun s => hf66 59 s rfl) hR2831
  have hR587 : fz_R5 H61 := fz_R5_eq (funext fun s => hf66 5 s rfl) (funext fun s => hf66 55 s rfl) hR532
  have hR688 : fz_R6 H61 := fz_R6_eq (funext fun s => hf66 6 s rfl) (funext fun s => hf66 56 s rfl) hR633
  have hRG89 : fz_RG H61 := fz_RG_eq (hf66 27 8 rfl) (hf66 27 9 rfl) (hf66 53 8 rfl) (hf66 53 9 rfl) hRG34
  have hRL90 : fz_RL H61 := fz_RL_eq (funext fun s => hf66 11 s rfl) (funext fun s => hf66 12 s rfl) (funext fun s => hf66 13 s rfl) (funext fun s => hf66 14 s rfl) (funext fun s => hf66 61 s rfl) (funext fun s => hf66 62 s rfl) (funext fun s => hf66 63 s rfl) (funext fun s => hf66 64 s rfl) (hf66 9 5 rfl) hRL35
  have hRC91 : fz_RC H61 := fz_RC_eq (hf66 35 4 rfl) (hf66 35 5 rfl) (hf66 53 41 rfl) (hf66 53 42 rfl) (funext fun s => hf66 36 s rfl) (funext fun s => hf66 37 s rfl) (funext fun s => hf66 38 s rfl) (funext fun s => hf66 39 s rfl) (funext fun s => hf66 80 s rfl) (hf66 1 7 rfl) (hf66 1 8 rfl) (hf66 9 5 rfl) hRC36
  have hRJ92 : fz_RJ H61 := fz_RJ_eq (hf66 40 1 rfl) (hf66 53 34 rfl) (funext fun s => hf66 41 s rfl) (funext fun s => hf66 76 s rfl) (hf66 40 6 rfl) (hf66 53 37 rfl) (funext fun s => hf66 42 s rfl) (funext fun s => hf66 78 s rfl) (hf66 43 0 rfl) (hf66 53 38 rfl) hRJ37
  have hRV93 : fz_RV H61 := fz_RV_eq (funext fun s => hf66 7 s rfl) (funext fun s => hf66 8 s rfl) (funext fun s => hf66 3 s rfl) (funext fun s => hf66 4 s rfl) (funext fun s => hf66 5 s rfl) (funext fun s => hf66 6 s rfl) (hf66 1 7 rfl) (hf66 1 8 rfl) hRV39
  have hRP294 : fz_RP2 H61 := fz_RP2_eq (funext fun s => hf66 11 s rfl) (hf66 9 5 rfl) (hf66 1 7 rfl) hRP241
  have hRA95 : fl_RA H61 := fl_RA_eq (funext fun s => hf66 26 s rfl) (funext fun s => hf66 65 s rfl) (hf66 20 2 rfl) hRA42
  have hRU96 : fl_RU H61 := fl_RU_eq (hf66 15 4 rfl) (funext fun s => hf66 16 s rfl) (funext fun s => hf66 17 s rfl) (hf66 53 18 rfl) (hf66 53 19 rfl) (funext fun s => hf66 66 s rfl) (funext fun s => hf66 67 s rfl) (funext fun s => hf66 68 s rfl) (funext fun s => hf66 69 s rfl) hRU43
  have hRD97 : fl_RD H61 := fl_RD_eq (hf66 40 2 rfl) (hf66 40 3 rfl) (hf66 40 4 rfl) (hf66 40 5 rfl) (funext fun s => hf66 77 s rfl) (hf66 43 1 rfl) (hf66 43 2 rfl) (hf66 43 3 rfl) (hf66 43 4 rfl) (funext fun s => hf66 79 s rfl) hRD44
  have hX98 : fz_Xc H61 := fz_Xc_fr hf66 rfl hX45
  have t99 : H61 53 10 = H9 53 10 := hf66 53 10 rfl
  have t100 : H61 53 41 = H9 53 41 := hf66 53 41 rfl
  have t101 : H61 53 42 = H9 53 42 := hf66 53 42 rfl
  have t102 : H61 9 5 = H9 9 5 := hf66 9 5 rfl
  have t103 : H61 53 10 = H9 53 10 := hf66 53 10 rfl
  have t104 : H61 44 2 = H9 44 2 := hf66 44 2 rfl
  have t105 : H61 53 44 = H9 53 44 := hf66 53 44 rfl
  have t106 : H61 20 2 = H9 20 2 := hf66 20 2 rfl
  have t107 : H61 53 16 = H9 53 16 := hf66 53 16 rfl
  have t108 : H61 1 7 = H9 1 7 := hf66 1 7 rfl
  have t109 : H61 53 0 = H9 53 0 := hf66 53 0 rfl
  have t110 : H61 1 8 = H9 1 8 := hf66 1 8 rfl
  have t111 : H61 53 2 = H9 53 2 := hf66 53 2 rfl
  refine fz_pop rfl kLc22 rfl ?_
  refine fz_goto (tgt := 1817) kLc22 rfl (by decide) ?_
  have hRW112 : fz_RW H61 := fz_RW_eq (funext fun s => (hf66 10 s rfl).trans (hf14 10 s rfl)) (f71.trans (funext fun s => hf14 60 s rfl)) ((hf66 9 5 rfl).trans (hf14 9 5 rfl)) hRW
  exact K H61 ⟨hI65, hX98, hXd75, hXh76, hXw67, (by rw [((hf66 53 10 rfl).trans (hf14 53 10 rfl))]; exact hv1), (by rw [((hf66 53 42 rfl).trans (hf14 53 42 rfl)), ((hf66 53 41 rfl).trans (hf14 53 41 rfl))]; exact hv2), (((hf66 9 5 rfl).trans (hf14 9 5 rfl)).trans (hr0.trans ((hf66 53 10 rfl).trans (hf14 53 10 rfl)).symm)), (((hf66 44 2 rfl).trans (hf14 44 2 rfl)).trans (hr1.trans ((hf66 53 44 rfl).trans (hf14 53 44 rfl)).symm)), (((hf66 20 2 rfl).trans (hf14 20 2 rfl)).trans (hr2.trans ((hf66 53 16 rfl).trans (hf14 53 16 rfl)).symm)), (((hf66 1 7 rfl).trans (hf14 1 7 rfl)).trans (hr3.trans ((hf66 53 0 rfl).trans (hf14 53 0 rfl)).symm)), (((hf66 1 8 rfl).trans (hf14 1 8 rfl)).trans (hr4.trans ((hf66 53 2 rfl).trans (hf14 53 2 rfl)).symm)), hRS77, hRP78, hRK79, hRR80, hRT81, hRE82, hR283, hR384, hR485, hR2886, hR587, hR688, hRG89, hRL90, hRC91, hRJ92, hRW112, hRV93, hRM68, hRP294, hRA95, hRU96, hRD97⟩ (funext fun s => hf74 200 s rfl)
def mLc23 : fz_M := (yL_law, code, 4, (some .boolean), [(1113, .aload_n 1, 1, 0, 0, 0), (1114, .aload_n 0, 1, 0, 0, 0), (1115, .iload_n 3, 1, 0, 0, 0), (1116, .iconst 1, 1, 0, 0, 0), (1117, .iadd, 1, 0, 0, 0), (1118, .iaload, 1, 0, 0, 0), (1119, .aload_n 0, 1, 0, 0, 0), (1120, .iload_n 3, 1, 0, 0, 0), (1121, .iconst 2, 1, 0, 0, 0), (1122, .iadd, 1, 0, 0, 0), (1123, .iaload, 1, 0, 0, 0), (1124, .aload_n 0, 1, 0, 0, 0), (1125, .iload_n 3, 1, 0, 0, 0), (1126, .iconst 3, 1, 0, 0, 0), (1127, .iadd, 1, 0, 0, 0), (1128, .iaload, 1, 0, 0, 0), (1129, .invokevirtual 110, 3, 4125, 32, 0), (1132, .pop, 1, 0, 0, 0), (1133, .aload_n 2, 1, 0, 0, 0), (1134, .aload_n 0, 1, 0, 0, 0), (1135, .iload_n 3, 1, 0, 0, 0), (1136, .iconst 1, 1, 0, 0, 0), (1137, .iadd, 1, 0, 0, 0), (1138, .iaload, 1, 0, 0, 0), (1139, .aload_n 0, 1, 0, 0, 0), (1140, .iload_n 3, 1, 0, 0, 0), (1141, .iconst 2, 1, 0, 0, 0), (1142, .iadd, 1, 0, 0, 0), (1143, .iaload, 1, 0, 0, 0), (1144, .aload_n 0, 1, 0, 0, 0), (1145, .iload_n 3, 1, 0, 0, 0), (1146, .iconst 3, 1, 0, 0, 0), (1147, .iadd, 1, 0, 0, 0), (1148, .iaload, 1, 0, 0, 0), (1149, .invokevirtual 113, 3, 7090, 102, 0), (1152, .pop, 1, 0, 0, 0), (1153, .goto 664, 3, 0, 0, 0)])
set_option maxRecDepth 100000 in
theorem kLc23 : fz_okM mLc23 = true := fz_okM_in (by decide +kernel) (by decide +kernel)
set_option maxHeartbeats 1000000 in
set_option maxRecDepth 100000 in
theorem lc23 (h : fz_H) (hI : fz_Iv h) (hX : fz_Xc h) (hXd : fz_Xd h) (hXh : fz_Xh h) (hXw : fz_Xw h) (hv1 : h 53 10 ≤ 10) (hv2 : h 53 42 ≤ h 53 41) (hr0 : h 9 5 = h 53 10) (hr1 : h 44 2 = h 53 44) (hr2 : h 20 2 = h 53 16) (hr3 : h 1 7 = h 53 0) (hr4 : h 1 8 = h 53 2) (hRS : fz_RS h) (hRP : fz_RP h) (hRK : fz_RK h) (hRR : fz_RR h) (hRT : fz_RT h) (hRE : fz_RE h) (hR2 : fz_R2 h) (hR3 : fz_R3 h) (hR4 : fz_R4 h) (hR28 : fz_R28 h) (hR5 : fz_R5 h) (hR6 : fz_R6 h) (hRG : fz_RG h) (hRL : fz_RL h) (hRC : fz_RC h) (hRJ : fz_RJ h) (hRW : fz_RW h) (hRV : fz_RV h) (hRM : fz_RM h) (hRP2 : fz_RP2 h) (hRA : fz_RA h) (hRU : fz_RU h) (hRD : fz_RD h) (i : Int) (hi : 0 ≤ i ∧ i + 6 ≤ h 200 100000 ∧ h 200 100000 ≤ 3072) {Q : fz_H → Option fz_V → Prop} (K : ∀ H : fz_H, fz_Gd H → H 200 = h 200 → fz_R 47 mLe 1817 [(3, fz_i i), (0, fz_r 200), (1, fz_r 0), (2, fz_r 53)] [] H Q) : fz_R 47 mLc23 1113 [(3, fz_i i), (0, fz_r 200), (1, fz_r 0), (2, fz_r 53)] [] h Q := by
  have hf : fz_fr fz_all h h := fz_fr_rf
  refine fz_aload_n kLc23 rfl rfl ?_
  refine fz_aload_n kLc23 rfl rfl ?_
  refine fz_iload_n kLc23 rfl rfl ?_
  refine fz_iconst ⟨by decide, by decide⟩ kLc23 rfl ?_
  refine fz_iaddN kLc23 rfl (by omega) ?_
  obtain ⟨a1, e2⟩ : ∃ z, h 200 ((i + 1)).toNat = z := ⟨_, rfl⟩
  refine fz_taldV (v := a1) kLc23 rfl ⟨by decide, by decide⟩ (by omega) (by omega) e2 ?_
  refine fz_aload_n kLc23 rfl rfl ?_
  refine fz_iload_n kLc23 rfl rfl ?_
  refine fz_iconst ⟨by decide, by decide⟩ kLc23 rfl ?_
  refine fz_iaddN kLc23 rfl (by omega) ?_
  obtain ⟨a3, e4⟩ : ∃ z, h 200 ((i + 2)).toNat = z := ⟨_, rfl⟩
  refine fz_taldV (v := a3) kLc23 rfl ⟨by decide, by decide⟩ (by omega) (by omega) e4 ?_
  refine fz_aload_n kLc23 rfl rfl ?_
  refine fz_iload_n kLc23 rfl rfl ?_
  refine fz_iconst ⟨by decide, by decide⟩ kLc23 rfl ?_
  refine fz_iaddN kLc23 rfl (by omega) ?_
  obtain ⟨a5, e6⟩ : ∃ z, h 200 ((i + 3)).toNat = z := ⟨_, rfl⟩
  refine fz_taldV (v := a5) kLc23 rfl ⟨by decide, by decide⟩ (by omega) (by omega) e6 ?_
  refine fz_callV (d' := 5) (M' := mX10_first) (As := [fz_i a1, fz_i a3, fz_i a5]) (st := []) kLc23 rfl rfl vX10_first rfl rfl rfl rfl (Nat.le_of_ble_eq_true rfl) (Nat.le_of_ble_eq_true rfl) (by decide) (sX10_first h hI a1 a3 a5 ) (fun H7 r8 q9 o10 => ?_)
  obtain ⟨hI11, hf12, y15, rfl, f13, f14⟩ := q9
  clear o10
  have hf16 := fz_fr_tr hf hf12 (fz_su_all rfl)
  have hXd17 : fz_Xd H7 := fz_Xd_eq (funext fun s => hf12 80 s rfl) hXd
  have hXh18 : fz_Xh H7 := fz_Xh_eq (funext fun s => hf12 83 s rfl) hXh
  have hXw19 : fz_Xw H7 := fz_Xw_eq (hf12 53 19 rfl) (funext fun s => hf12 66 s rfl) (funext fun s => hf12 67 s rfl) (funext fun s => hf12 68 s rfl) (funext fun s => hf12 69 s rfl) hXw
  have hRS20 : fz_RS H7 := fz_RS_eq (funext fun s => hf12 48 s rfl) (funext fun s => hf12 49 s rfl) (funext fun s => hf12 50 s rfl) (funext fun s => hf12 51 s rfl) (funext fun s => hf12 83 s rfl) (funext fun s => hf12 84 s rfl) (hf12 44 2 rfl) hRS
  have hRP21 : fz_RP H7 := fz_RP_eq (funext fun s => hf12 52 s rfl) (funext fun s => hf12 85 s rfl) hRP
  have hRK22 : fz_RK H7 := fz_RK_eq (funext fun s => hf12 45 s rfl) (funext fun s => hf12 81 s rfl) hRK
  have hRR23 : fz_RR H7 := fz_RR_eq (hf12 44 3 rfl) (hf12 53 46 rfl) (funext fun s => hf12 46 s rfl) (funext fun s => hf12 82 s rfl) hRR
  have hRT24 : fz_RT H7 := fz_RT_eq (funext fun s => hf12 41 s rfl) (funext fun s => hf12 42 s rfl) (hf12 1 7 rfl) hRT
  have hRE25 : fz_RE H7 := fz_RE_eq (funext fun s => hf12 5 s rfl) (funext fun s => hf12 6 s rfl) (hf12 1 8 rfl) (hf12 1 7 rfl) hRE
  have hR226 : fz_R2 H7 := fz_R2_eq (funext fun s => hf12 2 s rfl) (funext fun s => hf12 54 s rfl) hR2
  have hR327 : fz_R3 H7 := fz_R3_eq (funext fun s => hf12 3 s rfl) (funext fun s => hf12 57 s rfl) hR3
  have hR428 : fz_R4 H7 := fz_R4_eq (funext fun s => hf12 4 s rfl) (funext fun s => hf12 58 s rfl) hR4
  have hR2829 : fz_R28 H7 := fz_R28_eq (funext fun s => hf12 28 s rfl) (funext fun s => hf12 59 s rfl) hR28
  have hR530 : fz_R5 H7 := fz_R5_eq (funext fun s => hf12 5 s rfl) (funext fun s => hf12 55 s rfl) hR5
  have hR631 : fz_R6 H7 := fz_R6_eq (funext fun s => hf12 6 s rfl) (funext fun s => hf12 56 s rfl) hR6
  have hRG32 : fz_RG H7 := fz_RG_eq (hf12 27 8 rfl) (hf12 27 9 rfl) (hf12 53 8 rfl) (hf12 53 9 rfl) hRG
  have hRL33 : fz_RL H7 := fz_RL_eq (funext fun s => hf12 11 s rfl) (funext fun s => hf12 12 s rfl) (funext fun s => hf12 13 s rfl) (funext fun s => hf12 14 s rfl) (funext fun s => hf12 61 s rfl) (funext fun s => hf12 62 s rfl) (funext fun s => hf12 63 s rfl) (funext fun s => hf12 64 s rfl) (hf12 9 5 rfl) hRL
  have hRC34 : fz_RC H7 := fz_RC_eq (hf12 35 4 rfl) (hf12 35 5 rfl) (hf12 53 41 rfl) (hf12 53 42 rfl) (funext fun s => hf12 36 s rfl) (funext fun s => hf12 37 s rfl) (funext fun s => hf12 38 s rfl) (funext fun s => hf12 39 s rfl) (funext fun s => hf12 80 s rfl) (hf12 1 7 rfl) (hf12 1 8 rfl) (hf12 9 5 rfl) hRC
  have hRJ35 : fz_RJ H7 := fz_RJ_eq (hf12 40 1 rfl) (hf12 53 34 rfl) (funext fun s => hf12 41 s rfl) (funext fun s => hf12 76 s rfl) (hf12 40 6 rfl) (hf12 53 37 rfl) (funext fun s => hf12 42 s rfl) (funext fun s => hf12 78 s rfl) (hf12 43 0 rfl) (hf12 53 38 rfl) hRJ
  have hRW36 : fz_RW H7 := fz_RW_eq (funext fun s => hf12 10 s rfl) (funext fun s => hf12 60 s rfl) (hf12 9 5 rfl) hRW
  have hRV37 : fz_RV H7 := fz_RV_eq (funext fun s => hf12 7 s rfl) (funext fun s => hf12 8 s rfl) (funext fun s => hf12 3 s rfl) (funext fun s => hf12 4 s rfl) (funext fun s => hf12 5 s rfl) (funext fun s => hf12 6 s rfl) (hf12 1 7 rfl) (hf12 1 8 rfl) hRV
  have hRM38 : fz_RM H7 := fz_RM_eq (funext fun s => hf12 55 s rfl) (funext fun s => hf12 56 s rfl) (hf12 53 0 rfl) (hf12 53 2 rfl) hRM
  have hRP239 : fz_RP2 H7 := fz_RP2_eq (funext fun s => hf12 11 s rfl) (hf12 9 5 rfl) (hf12 1 7 rfl) hRP2
  have hRA40 : fl_RA H7 := fl_RA_eq (funext fun s => hf12 26 s rfl) (funext fun s => hf12 65 s rfl) (hf12 20 2 rfl) hRA
  have hRU41 : fl_RU H7 := fl_RU_eq (hf12 15 4 rfl) (funext fun s => hf12 16 s rfl) (funext fun s => hf12 17 s rfl) (hf12 53 18 rfl) (hf12 53 19 rfl) (funext fun s => hf12 66 s rfl) (funext fun s => hf12 67 s rfl) (funext fun s => hf12 68 s rfl) (funext fun s => hf12 69 s rfl) hRU
  have hRD42 : fl_RD H7 := fl_RD_eq (hf12 40 2 rfl) (hf12 40 3 rfl) (hf12 40 4 rfl) (hf12 40 5 rfl) (funext fun s => hf12 77 s rfl) (hf12 43 1 rfl) (hf12 43 2 rfl) (hf12 43 3 rfl) (hf12 43 4 rfl) (funext fun s => hf12 79 s rfl) hRD
  have hX43 : fz_Xc H7 := fz_Xc_fr hf12 rfl hX
  have t44 : H7 53 10 = h 53 10 := hf12 53 10 rfl
  have t45 : H7 53 41 = h 53 41 := hf12 53 41 rfl
  have t46 : H7 53 42 = h 53 42 := hf12 53 42 rfl
  have t47 : H7 9 5 = h 9 5 := hf12 9 5 rfl
  have t48 : H7 53 10 = h 53 10 := hf12 53 10 rfl
  have t49 : H7 44 2 = h 44 2 := hf12 44 2 rfl
  have t50 : H7 53 44 = h 53 44 := hf12 53 44 rfl
  have t51 : H7 20 2 = h 20 2 := hf12 20 2 rfl
  have t52 : H7 53 16 = h 53 16 := hf12 53 16 rfl
  have t53 : H7 1 7 = h 1 7 := hf12 1 7 rfl
  have t54 : H7 53 0 = h 53 0 := hf12 53 0 rfl
  have t55 : H7 1 8 = h 1 8 := hf12 1 8 rfl
  have t56 : H7 53 2 = h 53 2 := hf12 53 2 rfl
  refine fz_pop rfl kLc23 rfl ?_
  refine fz_aload_n kLc23 rfl rfl ?_
  refine fz_aload_n kLc23 rfl rfl ?_
  refine fz_iload_n kLc23 rfl rfl ?_
  refine fz_iconst ⟨by decide, by decide⟩ kLc23 rfl ?_
  refine fz_iaddN kLc23 rfl (by omega) ?_
  refine fz_taldV (v := a1) kLc23 rfl ⟨by decide, by decide⟩ (by omega) (by rw [hf16 200 _ rfl]; omega) ((hf16 200 _ rfl).trans e2) ?_
  refine fz_aload_n kLc23 rfl rfl ?_
  refine fz_iload_n kLc23 rfl rfl ?_
  refine fz_iconst ⟨by decide, by decide⟩ kLc23 rfl ?_
  refine fz_iaddN kLc23 rfl (by omega) ?_
  refine fz_taldV (v := a3) kLc23 rfl ⟨by decide, by decide⟩ (by omega) (by rw [hf16 200 _ rfl]; omega) ((hf16 200 _ rfl).trans e4) ?_
  refine fz_aload_n kLc23 rfl rfl ?_
  refine fz_iload_n kLc23 rfl rfl ?_
  refine fz_iconst ⟨by decide, by decide⟩ kLc23 rfl ?_
  refine fz_iaddN kLc23 rfl (by omega) ?_
  refine fz_taldV (v := a5) kLc23 rfl ⟨by decide, by decide⟩ (by omega) (by rw [hf16 200 _ rfl]; omega) ((hf16 200 _ rfl).trans e6) ?_
  have hRPm57 : fl_RPm H7 := by first | exact fl_RPm_eq (funext fun s => hf12 61 s rfl) (hf12 53 10 rfl) (hf12 53 0 rfl) (fl_RPm_of hRL hRP2 hr3.symm hr0.symm) | exact fl_RPm_of hRL hRP2 hr3.symm hr0.symm
  refine fz_callV (d' := 4) (M' := mX11_first) (As := [fz_i a1, fz_i a3, fz_i a5]) (st := []) kLc23 rfl rfl vX11_first rfl rfl rfl rfl (Nat.le_of_ble_eq_true rfl) (Nat.le_of_ble_eq_true rfl) (by decide) (sX11_first H7 hI11 a1 a3 a5 hXw19 hRM38 hRPm57) (fun H59 r60 q61 o62 => ?_)
  obtain ⟨hI63, hf64, hXw65, hRM66, hRPm67, y70, rfl, f68, f69⟩ := q61
  clear o62
  have hf71 := fz_fr_tr hf16 hf64 (fz_su_all rfl)
  have hXd72 : fz_Xd H59 := fz_Xd_eq (funext fun s => hf64 80 s rfl) hXd17
  have hXh73 : fz_Xh H59 := fz_Xh_eq (funext fun s => hf64 83 s rfl) hXh18
  have hRS74 : fz_RS H59 := fz_RS_eq (funext fun s => hf64 48 s rfl) (funext fun s => hf64 49 s rfl) (funext fun s => hf64 50 s rfl) (funext fun s => hf64 51 s rfl) (funext fun s => hf64 83 s rfl) (funext fun s => hf64 84 s rfl) (hf64 44 2 rfl) hRS20
  have hRP75 : fz_RP H59 := fz_RP_eq (funext fun s => hf64 52 s rfl) (funext fun s => hf64 85 s rfl) hRP21
  have hRK76 : fz_RK H59 := fz_RK_eq (funext fun s => hf64 45 s rfl) (funext fun s => hf64 81 s rfl) hRK22
  have hRR77 : fz_RR H59 := fz_RR_eq (hf64 44 3 rfl) (hf64 53 46 rfl) (funext fun s => hf64 46 s rfl) (funext fun s => hf64 82 s rfl) hRR23
  have hRT78 : fz_RT H59 := fz_RT_eq (funext fun s => hf64 41 s rfl) (funext fun s => hf64 42 s rfl) (hf64 1 7 rfl) hRT24
  have hRE79 : fz_RE H59 := fz_RE_eq (funext fun s => hf64 5 s rfl) (funext fun s => hf64 6 s rfl) (hf64 1 8 rfl) (hf64 1 7 rfl) hRE25
  have hR280 : fz_R2 H59 := fz_R2_eq (funext fun s => hf64 2 s rfl) (funext fun s => hf64 54 s rfl) hR226
  have hR381 : fz_R3 H59 := fz_R3_eq (funext fun s => hf64 3 s rfl) (funext fun s => hf64 57 s rfl) hR327
  have hR482 : fz_R4 H59 := fz_R4_eq (funext fun s => hf64 4 s rfl) (funext fun s => hf64 58 s rfl) hR428
  have hR2883 : fz_R28 H59 := fz_R28_eq (funext fun s => hf64 28 s rfl) (funext fun s => hf64 59 s rfl) hR2829
  have hR584 : fz_R5 H59 := fz_R5_eq (funext fun s => hf64 5 s rfl) (funext fun s => hf64 55 s rfl) hR530
  have hR685 : fz_R6 H59 := fz_R6_eq (funext fun s => hf64 6 s rfl) (funext fun s => hf64 56 s rfl) hR631
  have hRG86 : fz_RG H59 := fz_RG_eq (hf64 27 8 rfl) (hf64 27 9 rfl) (hf64 53 8 rfl) (hf64 53 9 rfl) hRG32
  have hRL87 : fz_RL H59 := fz_RL_eq (funext fun s => hf64 11 s rfl) (funext fun s => hf64 12 s rfl) (funext fun s => hf64 13 s rfl) (funext fun s => hf64 14 s rfl) (funext fun s => hf64 61 s rfl) (funext fun s => hf64 62 s rfl) (funext fun s => hf64 63 s rfl) (funext fun s => hf64 64 s rfl) (hf64 9 5 rfl) hRL33
  have hRC88 : fz_RC H59 := fz_RC_eq (hf64 35 4 rfl) (hf64 35 5 rfl) (hf64 53 41 rfl) (hf64 53 42 rfl) (funext fun s => hf64 36 s rfl) (funext fun s => hf64 37 s rfl) (funext fun s => hf64 38 s rfl) (funext fun s => hf64 39 s rfl) (funext fun s => hf64 80 s rfl) (hf64 1 7 rfl) (hf64 1 8 rfl) (hf64 9 5 rfl) hRC34
  have hRJ89 : fz_RJ H59 := fz_RJ_eq (hf64 40 1 rfl) (hf64 53 34 rfl) (funext fun s => hf64 41 s rfl) (funext fun s => hf64 76 s rfl) (hf64 40 6 rfl) (hf64 53 37 rfl) (funext fun s => hf64 42 s rfl) (funext fun s => hf64 78 s rfl) (hf64 43 0 rfl) (hf64 53 38 rfl) hRJ35
  have hRW90 : fz_RW H59 := fz_RW_eq (funext fun s => hf64 10 s rfl) (funext fun s => hf64 60 s rfl) (hf64 9 5 rfl) hRW36
  have hRV91 : fz_RV H59 := fz_RV_eq (funext fun s => hf64 7 s rfl) (funext fun s => hf64 8 s rfl) (funext fun s => hf64 3 s rfl) (funext fun s => hf64 4 s rfl) (funext fun s => hf64 5 s rfl) (funext fun s => hf64 6 s rfl) (hf64 1 7 rfl) (hf64 1 8 rfl) hRV37
  have hRP292 : fz_RP2 H59 := fz_RP2_eq (funext fun s => hf64 11 s rfl) (hf64 9 5 rfl) (hf64 1 7 rfl) hRP239
  have hRA93 : fl_RA H59 := fl_RA_eq (funext fun s => hf64 26 s rfl) (funext fun s => hf64 65 s rfl) (hf64 20 2 rfl) hRA40
  have hRU94 : fl_RU H59 := fl_RU_eq (hf64 15 4 rfl) (funext fun s => hf64 16 s rfl) (funext fun s => hf64 17 s rfl) (hf64 53 18 rfl) (hf64 53 19 rfl) (funext fun s => hf64 66 s rfl) (funext fun s => hf64 67 s rfl) (funext fun s => hf64 68 s rfl) (funext fun s => hf64 69 s rfl) hRU41
  have hRD95 : fl_RD H59 := fl_RD_eq (hf64 40 2 rfl) (hf64 40 3 rfl) (hf64 40 4 rfl) (hf64 40 5 rfl) (funext fun s => hf64 77 s rfl) (hf64 43 1 rfl) (hf64 43 2 rfl) (hf64 43 3 rfl) (hf64 43 4 rfl) (funext fun s => hf64 79 s rfl) hRD42
  have hX96 : fz_Xc H59 := fz_Xc_fr hf64 rfl hX43
  have t97 : H59 53 10 = H7 53 10 := hf64 53 10 rfl
  have t98 : H59 53 41 = H7 53 41 := hf64 53 41 rfl
  have t99 : H59 53 42 = H7 53 42 := hf64 53 42 rfl
  have t100 : H59 9 5 = H7 9 5 := hf64 9 5 rfl
  have t101 : H59 53 10 = H7 53 10 := hf64 53 10 rfl
  have t102 : H59 44 2 = H7 44 2 := hf64 44 2 rfl
  have t103 : H59 53 44 = H7 53 44 := hf64 53 44 rfl
  have t104 : H59 20 2 = H7 20 2 := hf64 20 2 rfl
  have t105 : H59 53 16 = H7 53 16 := hf64 53 16 rfl
  have t106 : H59 1 7 = H7 1 7 := hf64 1 7 rfl
  have t107 : H59 53 0 = H7 53 0 := hf64 53 0 rfl
  have t108 : H59 1 8 = H7 1 8 := hf64 1 8 rfl
  have t109 : H59 53 2 = H7 53 2 := hf64 53 2 rfl
  refine fz_pop rfl kLc23 rfl ?_
  refine fz_goto (tgt := 1817) kLc23 rfl (by decide) ?_
  exact K H59 ⟨hI63, hX96, hXd72, hXh73, hXw65, (by rw [((hf64 53 10 rfl).trans (hf12 53 10 rfl))]; exact hv1), (by rw [((hf64 53 42 rfl).trans (hf12 53 42 rfl)), ((hf64 53 41 rfl).trans (hf12 53 41 rfl))]; exact hv2), (((hf64 9 5 rfl).trans (hf12 9 5 rfl)).trans (hr0.trans ((hf64 53 10 rfl).trans (hf12 53 10 rfl)).symm)), (((hf64 44 2 rfl).trans (hf12 44 2 rfl)).trans (hr1.trans ((hf64 53 44 rfl).trans (hf12 53 44 rfl)).symm)), (((hf64 20 2 rfl).trans (hf12 20 2 rfl)).trans (hr2.trans ((hf64 53 16 rfl).trans (hf12 53 16 rfl)).symm)), (((hf64 1 7 rfl).trans (hf12 1 7 rfl)).trans (hr3.trans ((hf64 53 0 rfl).trans (hf12 53 0 rfl)).symm)), (((hf64 1 8 rfl).trans (hf12 1 8 rfl)).trans (hr4.trans ((hf64 53 2 rfl).trans (hf12 53 2 rfl)).symm)), hRS74, hRP75, hRK76, hRR77, hRT78, hRE79, hR280, hR381, hR482, hR2883, hR584, hR685, hRG86, hRL87, hRC88, hRJ89, hRW90, hRV91, hRM66, hRP292, hRA93, hRU94, hRD95⟩ (funext fun s => hf71 200 s rfl)
def mLc24 : fz_M := (yL_law, code, 4, (some .boolean), [(1156, .aload_n 1, 1, 0, 0, 0), (1157, .aload_n 0, 1, 0, 0, 0), (1158, .iload_n 3, 1, 0, 0, 0), (1159, .iconst 1, 1, 0, 0, 0), (1160, .iadd, 1, 0, 0, 0), (1161, .iaload, 1, 0, 0, 0), (1162, .aload_n 0, 1, 0, 0, 0), (1163, .iload_n 3, 1, 0, 0, 0), (1164, .iconst 2, 1, 0, 0, 0), (1165, .iadd, 1, 0, 0, 0), (1166, .iaload, 1, 0, 0, 0), (1167, .invokevirtual 114, 3, 4129, 59, 0), (1170, .pop, 1, 0, 0, 0), (1171, .aload_n 2, 1, 0, 0, 0), (1172, .aload_n 0, 1, 0, 0, 0), (1173, .iload_n 3, 1, 0, 0, 0), (1174, .iconst 1, 1, 0, 0, 0), (1175, .iadd, 1, 0, 0, 0), (1176, .iaload, 1, 0, 0, 0), (1177, .aload_n 0, 1, 0, 0, 0), (1178, .iload_n 3, 1, 0, 0, 0), (1179, .iconst 2, 1, 0, 0, 0), (1180, .iadd, 1, 0, 0, 0), (1181, .iaload, 1, 0, 0, 0), (1182, .invokevirtual 117, 3, 7094, 158, 0), (1185, .pop, 1, 0, 0, 0), (1186, .goto 631, 3, 0, 0, 0)])
set_option maxRecDepth 100000 in
theorem kLc24 : fz_okM mLc24 = true := fz_okM_in (by decide +kernel) (by decide +kernel)
set_option maxHeartbeats 1000000 in
set_option maxRecDepth 100000 in
theorem lc24 (h : fz_H) (hI : fz_Iv h) (hX : fz_Xc h) (hXd : fz_Xd h) (hXh : fz_Xh h) (hXw : fz_Xw h) (hv1 : h 53 10 ≤ 10) (hv2 : h 53 42 ≤ h 53 41) (hr0 : h 9 5 = h 53 10) (hr1 : h 44 2 = h 53 44) (hr2 : h 20 2 = h 53 16) (hr3 : h 1 7 = h 53 0) (hr4 : h 1 8 = h 53 2) (hRS : fz_RS h) (hRP : fz_RP h) (hRK : fz_RK h) (hRR : fz_RR h) (hRT : fz_RT h) (hRE : fz_RE h) (hR2 : fz_R2 h) (hR3 : fz_R3 h) (hR4 : fz_R4 h) (hR28 : fz_R28 h) (hR5 : fz_R5 h) (hR6 : fz_R6 h) (hRG : fz_RG h) (hRL : fz_RL h) (hRC : fz_RC h) (hRJ : fz_RJ h) (hRW : fz_RW h) (hRV : fz_RV h) (hRM : fz_RM h) (hRP2 : fz_RP2 h) (hRA : fz_RA h) (hRU : fz_RU h) (hRD : fz_RD h) (i : Int) (hi : 0 ≤ i ∧ i + 6 ≤ h 200 100000 ∧ h 200 100000 ≤ 3072) {Q : fz_H → Option fz_V → Prop} (K : ∀ H : fz_H, fz_Gd H → H 200 = h 200 → fz_R 47 mLe 1817 [(3, fz_i i), (0, fz_r 200), (1, fz_r 0), (2, fz_r 53)] [] H Q) : fz_R 47 mLc24 1156 [(3, fz_i i), (0, fz_r 200), (1, fz_r 0), (2, fz_r 53)] [] h Q := by
  have hf : fz_fr fz_all h h := fz_fr_rf
  refine fz_aload_n kLc24 rfl rfl ?_
  refine fz_aload_n kLc24 rfl rfl ?_
  refine fz_iload_n kLc24 rfl rfl ?_
  refine fz_iconst ⟨by decide, by decide⟩ kLc24 rfl ?_
  refine fz_iaddN kLc24 rfl (by omega) ?_
  obtain ⟨a1, e2⟩ : ∃ z, h 200 ((i + 1)).toNat = z := ⟨_, rfl⟩
  refine fz_taldV (v := a1) kLc24 rfl ⟨by decide, by decide⟩ (by omega) (by omega) e2 ?_
  refine fz_aload_n kLc24 rfl rfl ?_
  refine fz_iload_n kLc24 rfl rfl ?_
  refine fz_iconst ⟨by decide, by decide⟩ kLc24 rfl ?_
  refine fz_iaddN kLc24 rfl (by omega) ?_
  obtain ⟨a3, e4⟩ : ∃ z, h 200 ((i + 2)).toNat = z := ⟨_, rfl⟩
  refine fz_taldV (v := a3) kLc24 rfl ⟨by decide, by decide⟩ (by omega) (by omega) e4 ?_
  refine fz_callV (d' := 2) (M' := mX10_news) (As := [fz_i a1, fz_i a3]) (st := []) kLc24 rfl rfl vX10_news rfl rfl rfl rfl (Nat.le_of_ble_eq_true rfl) (Nat.le_of_ble_eq_true rfl) (by decide) (sX10_news h hI a1 a3 ) (fun H5 r6 q7 o8 => ?_)
  obtain ⟨e9, y11, rfl, f10⟩ := q7
  subst H5
  clear o8
  refine fz_pop rfl kLc24 rfl ?_
  refine fz_aload_n kLc24 rfl rfl ?_
  refine fz_aload_n kLc24 rfl rfl ?_
  refine fz_iload_n kLc24 rfl rfl ?_
  refine fz_iconst ⟨by decide, by decide⟩ kLc24 rfl ?_
  refine fz_iaddN kLc24 rfl (by omega) ?_
  refine fz_taldV (v := a1) kLc24 rfl ⟨by decide, by decide⟩ (by omega) (by omega) e2 ?_
  refine fz_aload_n kLc24 rfl rfl ?_
  refine fz_iload_n kLc24 rfl rfl ?_
  refine fz_iconst ⟨by decide, by decide⟩ kLc24 rfl ?_
  refine fz_iaddN kLc24 rfl (by omega) ?_
  refine fz_taldV (v := a3) kLc24 rfl ⟨by decide, by decide⟩ (by omega) (by omega) e4 ?_
  refine fz_callV (d' := 3) (M' := mX11_news) (As := [fz_i a1, fz_i a3]) (st := []) kLc24 rfl rfl vX11_news rfl rfl rfl rfl (Nat.le_of_ble_eq_true rfl) (Nat.le_of_ble_eq_true rfl) (by decide) (sX11_news h hI a1 a3 hRM) (fun H12 r13 q14 o15 => ?_)
  obtain ⟨hI16, hf17, hRM18, y20, rfl, f19⟩ := q14
  clear o15
  have hf21 := fz_fr_tr hf hf17 (fz_su_all rfl)
  have hXd22 : fz_Xd H12 := fz_Xd_eq (funext fun s => hf17 80 s rfl) hXd
  have hXh23 : fz_Xh H12 := fz_Xh_eq (funext fun s => hf17 83 s rfl) hXh
  have hXw24 : fz_Xw H12 := fz_Xw_eq (hf17 53 19 rfl) (funext fun s => hf17 66 s rfl) (funext fun s => hf17 67 s rfl) (funext fun s => hf17 68 s rfl) (funext fun s => hf17 69 s rfl) hXw
  have hRS25 : fz_RS H12 := fz_RS_eq (funext fun s => hf17 48 s rfl) (funext fun s => hf17 49 s rfl) (funext fun s => hf17 50 s rfl) (funext fun s => hf17 51 s rfl) (funext fun s => hf17 83 s rfl) (funext fun s => hf17 84 s rfl) (hf17 44 2 rfl) hRS
  have hRP26 : fz_RP H12 := fz_RP_eq (funext fun s => hf17 52 s rfl) (funext fun s => hf17 85 s rfl) hRP
  have hRK27 : fz_RK H12 := fz_RK_eq (funext fun s => hf17 45 s rfl) (funext fun s => hf17 81 s rfl) hRK
  have hRR28 : fz_RR H12 := fz_RR_eq (hf17 44 3 rfl) (hf17 53 46 rfl) (funext fun s => hf17 46 s rfl) (funext fun s => hf17 82 s rfl) hRR
  have hRT29 : fz_RT H12 := fz_RT_eq (funext fun s => hf17 41 s rfl) (funext fun s => hf17 42 s rfl) (hf17 1 7 rfl) hRT
  have hRE30 : fz_RE H12 := fz_RE_eq (funext fun s => hf17 5 s rfl) (funext fun s => hf17 6 s rfl) (hf17 1 8 rfl) (hf17 1 7 rfl) hRE
  have hR231 : fz_R2 H12 := fz_R2_eq (funext fun s => hf17 2 s rfl) (funext fun s => hf17 54 s rfl) hR2
  have hR332 : fz_R3 H12 := fz_R3_eq (funext fun s => hf17 3 s rfl) (funext fun s => hf17 57 s rfl) hR3
  have hR433 : fz_R4 H12 := fz_R4_eq (funext fun s => hf17 4 s rfl) (funext fun s => hf17 58 s rfl) hR4
  have hR2834 : fz_R28 H12 := fz_R28_eq (funext fun s => hf17 28 s rfl) (funext fun s => hf17 59 s rfl) hR28
  have hR535 : fz_R5 H12 := fz_R5_eq (funext fun s => hf17 5 s rfl) (funext fun s => hf17 55 s rfl) hR5
  have hR636 : fz_R6 H12 := fz_R6_eq (funext fun s => hf17 6 s rfl) (funext fun s => hf17 56 s rfl) hR6
  have hRG37 : fz_RG H12 := fz_RG_eq (hf17 27 8 rfl) (hf17 27 9 rfl) (hf17 53 8 rfl) (hf17 53 9 rfl) hRG
  have hRL38 : fz_RL H12 := fz_RL_eq (funext fun s => hf17 11 s rfl) (funext fun s => hf17 12 s rfl) (funext fun s => hf17 13 s rfl) (funext fun s => hf17 14 s rfl) (funext fun s => hf17 61 s rfl) (funext fun s => hf17 62 s rfl) (funext fun s => hf17 63 s rfl) (funext fun s => hf17 64 s rfl) (hf17 9 5 rfl) hRL
  have hRC39 : fz_RC H12 := fz_RC_eq (hf17 35 4 rfl) (hf17 35 5 rfl) (hf17 53 41 rfl) (hf17 53 42 rfl) (funext fun s => hf17 36 s rfl) (funext fun s => hf17 37 s rfl) (funext fun s => hf17 38 s rfl) (funext fun s => hf17 39 s rfl) (funext fun s => hf17 80 s rfl) (hf17 1 7 rfl) (hf17 1 8 rfl) (hf17 9 5 rfl) hRC
  have hRJ40 : fz_RJ H12 := fz_RJ_eq (hf17 40 1 rfl) (hf17 53 34 rfl) (funext fun s => hf17 41 s rfl) (funext fun s => hf17 76 s rfl) (hf17 40 6 rfl) (hf17 53 37 rfl) (funext fun s => hf17 42 s rfl) (funext fun s => hf17 78 s rfl) (hf17 43 0 rfl) (hf17 53 38 rfl) hRJ
  have hRW41 : fz_RW H12 := fz_RW_eq (funext fun s => hf17 10 s rfl) (funext fun s => hf17 60 s rfl) (hf17 9 5 rfl) hRW
  have hRV42 : fz_RV H12 := fz_RV_eq (funext fun s => hf17 7 s rfl) (funext fun s => hf17 8 s rfl) (funext fun s => hf17 3 s rfl) (funext fun s => hf17 4 s rfl) (funext fun s => hf17 5 s rfl) (funext fun s => hf17 6 s rfl) (hf17 1 7 rfl) (hf17 1 8 rfl) hRV
  have hRP243 : fz_RP2 H12 := fz_RP2_eq (funext fun s => hf17 11 s rfl) (hf17 9 5 rfl) (hf17 1 7 rfl) hRP2
  have hRA44 : fl_RA H12 := fl_RA_eq (funext fun s => hf17 26 s rfl) (funext fun s => hf17 65 s rfl) (hf17 20 2 rfl) hRA
  have hRU45 : fl_RU H12 := fl_RU_eq (hf17 15 4 rfl) (funext fun s => hf17 16 s rfl) (funext fun s => hf17 17 s rfl) (hf17 53 18 rfl) (hf17 53 19 rfl) (funext fun s => hf17 66 s rfl) (funext fun s => hf17 67 s rfl) (funext fun s => hf17 68 s rfl) (funext fun s => hf17 69 s rfl) hRU
  have hRD46 : fl_RD H12 := fl_RD_eq (hf17 40 2 rfl) (hf17 40 3 rfl) (hf17 40 4 rfl) (hf17 40 5 rfl) (funext fun s => hf17 77 s rfl) (hf17 43 1 rfl) (hf17 43 2 rfl) (hf17 43 3 rfl) (hf17 43 4 rfl) (funext fun s => hf17 79 s rfl) hRD
  have hX47 : fz_Xc H12 := fz_Xc_fr hf17 rfl hX
  have t48 : H12 53 10 = h 53 10 := hf17 53 10 rfl
  have t49 : H12 53 41 = h 53 41 := hf17 53 41 rfl
  have t50 : H12 53 42 = h 53 42 := hf17 53 42 rfl
  have t51 : H12 9 5 = h 9 5 := hf17 9 5 rfl
  have t52 : H12 53 10 = h 53 10 := hf17 53 10 rfl
  have t53 : H12 44 2 = h 44 2 := hf17 44 2 rfl
  have t54 : H12 53 44 = h 53 44 := hf17 53 44 rfl
  have t55 : H12 20 2 = h 20 2 := hf17 20 2 rfl
  have t56 : H12 53 16 = h 53 16 := hf17 53 16 rfl
  have t57 : H12 1 7 = h 1 7 := hf17 1 7 rfl
  have t58 : H12 53 0 = h 53 0 := hf17 53 0 rfl
  have t59 : H12 1 8 = h 1 8 := hf17 1 8 rfl
  have t60 : H12 53 2 = h 53 2 := hf17 53 2 rfl
  refine fz_pop rfl kLc24 rfl ?_
  refine fz_goto (tgt := 1817) kLc24 rfl (by decide) ?_
  exact K H12 ⟨hI16, hX47, hXd22, hXh23, hXw24, (by rw [(hf17 53 10 rfl)]; exact hv1), (by rw [(hf17 53 42 rfl), (hf17 53 41 rfl)]; exact hv2), ((hf17 9 5 rfl).trans (hr0.trans (hf17 53 10 rfl).symm)), ((hf17 44 2 rfl).trans (hr1.trans (hf17 53 44 rfl).symm)), ((hf17 20 2 rfl).trans (hr2.trans (hf17 53 16 rfl).symm)), ((hf17 1 7 rfl).trans (hr3.trans (hf17 53 0 rfl).symm)), ((hf17 1 8 rfl).trans (hr4.trans (hf17 53 2 rfl).symm)), hRS25, hRP26, hRK27, hRR28, hRT29, hRE30, hR231, hR332, hR433, hR2834, hR535, hR636, hRG37, hRL38, hRC39, hRJ40, hRW41, hRV42, hRM18, hRP243, hRA44, hRU45, hRD46⟩ (funext fun s => hf21 200 s rfl)
def mLc25 : fz_M := (yL_law, code, 4, (some .boolean), [(1189, .aload_n 1, 1, 0, 0, 0), (1190, .aload_n 0, 1, 0, 0, 0), (1191, .iload_n 3, 1, 0, 0, 0), (1192, .iconst 1, 1, 0, 0, 0), (1193, .iadd, 1, 0, 0, 0), (1194, .iaload, 1, 0, 0, 0), (1195, .aload_n 0, 1, 0, 0, 0), (1196, .iload_n 3, 1, 0, 0, 0), (1197, .iconst 2, 1, 0, 0, 0), (1198, .iadd, 1, 0, 0, 0), (1199, .iaload, 1, 0, 0, 0), (1200, .aload_n 0, 1, 0, 0, 0), (1201, .iload_n 3, 1, 0, 0, 0), (1202, .iconst 3, 1, 0, 0, 0), (1203, .iadd, 1, 0, 0, 0), (1204, .iaload, 1, 0, 0, 0), (1205, .invokevirtual 118, 3, 4133, 36, 0), (1208, .aload_n 2, 1, 0, 0, 0), (1209, .aload_n 0, 1, 0, 0, 0), (1210, .iload_n 3, 1, 0, 0, 0), (1211, .iconst 1, 1, 0, 0, 0), (1212, .iadd, 1, 0, 0, 0), (1213, .iaload, 1, 0, 0, 0), (1214, .aload_n 0, 1, 0, 0, 0), (1215, .iload_n 3, 1, 0, 0, 0), (1216, .iconst 2, 1, 0, 0, 0), (1217, .iadd, 1, 0, 0, 0), (1218, .iaload, 1, 0, 0, 0), (1219, .aload_n 0, 1, 0, 0, 0), (1220, .iload_n 3, 1, 0, 0, 0), (1221, .iconst 3, 1, 0, 0, 0), (1222, .iadd, 1, 0, 0, 0), (1223, .iaload, 1, 0, 0, 0), (1224, .invokevirtual 122, 3, 7098, 105, 0), (1227, .lcmp, 1, 0, 0, 0), (1228, .ifCond .eq 589, 3, 0, 0, 0), (1231, .iconst 0, 1, 0, 0, 0), (1232, .ireturn, 1, 0, 0, 0)])
set_option maxRecDepth 100000 in
theorem kLc25 : fz_okM mLc25 = true := fz_okM_in (by decide +kernel) (by decide +kernel)
set_option maxHeartbeats 1000000 in
set_option maxRecDepth 100000 in
theorem lc25 (h : fz_H) (hI : fz_Iv h) (hX : fz_Xc h) (hXd : fz_Xd h) (hXh : fz_Xh h) (hXw : fz_Xw h) (hv1 : h 53 10 ≤ 10) (hv2 : h 53 42 ≤ h 53 41) (hr0 : h 9 5 = h 53 10) (hr1 : h 44 2 = h 53 44) (hr2 : h 20 2 = h 53 16) (hr3 : h 1 7 = h 53 0) (hr4 : h 1 8 = h 53 2) (hRS : fz_RS h) (hRP : fz_RP h) (hRK : fz_RK h) (hRR : fz_RR h) (hRT : fz_RT h) (hRE : fz_RE h) (hR2 : fz_R2 h) (hR3 : fz_R3 h) (hR4 : fz_R4 h) (hR28 : fz_R28 h) (hR5 : fz_R5 h) (hR6 : fz_R6 h) (hRG : fz_RG h) (hRL : fz_RL h) (hRC : fz_RC h) (hRJ : fz_RJ h) (hRW : fz_RW h) (hRV : fz_RV h) (hRM : fz_RM h) (hRP2 : fz_RP2 h) (hRA : fz_RA h) (hRU : fz_RU h) (hRD : fz_RD h) (i : Int) (hi : 0 ≤ i ∧ i + 6 ≤ h 200 100000 ∧ h 200 100000 ≤ 3072) {Q : fz_H → Option fz_V → Prop} (K : ∀ H : fz_H, fz_Gd H → H 200 = h 200 → fz_R 47 mLe 1817 [(3, fz_i i), (0, fz_r 200), (1, fz_r 0), (2, fz_r 53)] [] H Q) : fz_R 47 mLc25 1189 [(3, fz_i i), (0, fz_r 200), (1, fz_r 0), (2, fz_r 53)] [] h Q := by
  have hf : fz_fr fz_all h h := fz_fr_rf
  refine fz_aload_n kLc25 rfl rfl ?_
  refine fz_aload_n kLc25 rfl rfl ?_
  refine fz_iload_n kLc25 rfl rfl ?_
  refine fz_iconst ⟨by decide, by decide⟩ kLc25 rfl ?_
  refine fz_iaddN kLc25 rfl (by omega) ?_
  obtain ⟨a1, e2⟩ : ∃ z, h 200 ((i + 1)).toNat = z := ⟨_, rfl⟩
  refine fz_taldV (v := a1) kLc25 rfl ⟨by decide, by decide⟩ (by omega) (by omega) e2 ?_
  refine fz_aload_n kLc25 rfl rfl ?_
  refine fz_iload_n kLc25 rfl rfl ?_
  refine fz_iconst ⟨by decide, by decide⟩ kLc25 rfl ?_
  refine fz_iaddN kLc25 rfl (by omega) ?_
  obtain ⟨a3, e4⟩ : ∃ z, h 200 ((i + 2)).toNat = z := ⟨_, rfl⟩
  refine fz_taldV (v := a3) kLc25 rfl ⟨by decide, by decide⟩ (by omega) (by omega) e4 ?_
  refine fz_aload_n kLc25 rfl rfl ?_
  refine fz_iload_n kLc25 rfl rfl ?_
  refine fz_iconst ⟨by decide, by decide⟩ kLc25 rfl ?_
  refine fz_iaddN kLc25 rfl (by omega) ?_
  obtain ⟨a5, e6⟩ : ∃ z, h 200 ((i + 3)).toNat = z := ⟨_, rfl⟩
  refine fz_taldV (v := a5) kLc25 rfl ⟨by decide, by decide⟩ (by omega) (by omega) e6 ?_
  refine fz_callV (d' := 2) (M' := mX10_garbled) (As := [fz_i a1, fz_i a3, fz_i a5]) (st := []) kLc25 rfl rfl vX10_garbled rfl rfl rfl rfl (Nat.le_of_ble_eq_true rfl) (Nat.le_of_ble_eq_true rfl) (by decide) (sX10_garbled h hI a1 a3 a5 ) (fun H7 r8 q9 o10 => ?_)
  obtain ⟨hI11, hf12, y15, rfl, f13, f14⟩ := q9
  clear o10
  have hf16 := fz_fr_tr hf hf12 (fz_su_all rfl)
  have hXd17 : fz_Xd H7 := fz_Xd_eq (funext fun s => hf12 80 s rfl) hXd
  have hXh18 : fz_Xh H7 := fz_Xh_eq (funext fun s => hf12 83 s rfl) hXh
  have hXw19 : fz_Xw H7 := fz_Xw_eq (hf12 53 19 rfl) (funext fun s => hf12 66 s rfl) (funext fun s => hf12 67 s rfl) (funext fun s => hf12 68 s rfl) (funext fun s => hf12 69 s rfl) hXw
  have hRS20 : fz_RS H7 := fz_RS_eq (funext fun s => hf12 48 s rfl) (funext fun s => hf12 49 s rfl) (funext fun s => hf12 50 s rfl) (funext fun s => hf12 51 s rfl) (funext fun s => hf12 83 s rfl) (funext fun s => hf12 84 s rfl) (hf12 44 2 rfl) hRS
  have hRP21 : fz_RP H7 := fz_RP_eq (funext fun s => hf12 52 s rfl) (funext fun s => hf12 85 s rfl) hRP
  have hRK22 : fz_RK H7 := fz_RK_eq (funext fun s => hf12 45 s rfl) (funext fun s => hf12 81 s rfl) hRK
  have hRR23 : fz_RR H7 := fz_RR_eq (hf12 44 3 rfl) (hf12 53 46 rfl) (funext fun s => hf12 46 s rfl) (funext fun s => hf12 82 s rfl) hRR
  have hRT24 : fz_RT H7 := fz_RT_eq (funext fun s => hf12 41 s rfl) (funext fun s => hf12 42 s rfl) (hf12 1 7 rfl) hRT
  have hRE25 : fz_RE H7 := fz_RE_eq (funext fun s => hf12 5 s rfl) (funext fun s => hf12 6 s rfl) (hf12 1 8 rfl) (hf12 1 7 rfl) hRE
  have hR226 : fz_R2 H7 := fz_R2_eq (funext fun s => hf12 2 s rfl) (funext fun s => hf12 54 s rfl) hR2
  have hR327 : fz_R3 H7 := fz_R3_eq (funext fun s => hf12 3 s rfl) (funext fun s => hf12 57 s rfl) hR3
  have hR428 : fz_R4 H7 := fz_R4_eq (funext fun s => hf12 4 s rfl) (funext fun s => hf12 58 s rfl) hR4
  have hR2829 : fz_R28 H7 := fz_R28_eq (funext fun s => hf12 28 s rfl) (funext fun s => hf12 59 s rfl) hR28
  have hR530 : fz_R5 H7 := fz_R5_eq (funext fun s => hf12 5 s rfl) (funext fun s => hf12 55 s rfl) hR5
  have hR631 : fz_R6 H7 := fz_R6_eq (funext fun s => hf12 6 s rfl) (funext fun s => hf12 56 s rfl) hR6
  have hRG32 : fz_RG H7 := fz_RG_eq (hf12 27 8 rfl) (hf12 27 9 rfl) (hf12 53 8 rfl) (hf12 53 9 rfl) hRG
  have hRL33 : fz_RL H7 := fz_RL_eq (funext fun s => hf12 11 s rfl) (funext fun s => hf12 12 s rfl) (funext fun s => hf12 13 s rfl) (funext fun s => hf12 14 s rfl) (funext fun s => hf12 61 s rfl) (funext fun s => hf12 62 s rfl) (funext fun s => hf12 63 s rfl) (funext fun s => hf12 64 s rfl) (hf12 9 5 rfl) hRL
  have hRC34 : fz_RC H7 := fz_RC_eq (hf12 35 4 rfl) (hf12 35 5 rfl) (hf12 53 41 rfl) (hf12 53 42 rfl) (funext fun s => hf12 36 s rfl) (funext fun s => hf12 37 s rfl) (funext fun s => hf12 38 s rfl) (funext fun s => hf12 39 s rfl) (funext fun s => hf12 80 s rfl) (hf12 1 7 rfl) (hf12 1 8 rfl) (hf12 9 5 rfl) hRC
  have hRJ35 : fz_RJ H7 := fz_RJ_eq (hf12 40 1 rfl) (hf12 53 34 rfl) (funext fun s => hf12 41 s rfl) (funext fun s => hf12 76 s rfl) (hf12 40 6 rfl) (hf12 53 37 rfl) (funext fun s => hf12 42 s rfl) (funext fun s => hf12 78 s rfl) (hf12 43 0 rfl) (hf12 53 38 rfl) hRJ
  have hRW36 : fz_RW H7 := fz_RW_eq (funext fun s => hf12 10 s rfl) (funext fun s => hf12 60 s rfl) (hf12 9 5 rfl) hRW
  have hRV37 : fz_RV H7 := fz_RV_eq (funext fun s => hf12 7 s rfl) (funext fun s => hf12 8 s rfl) (funext fun s => hf12 3 s rfl) (funext fun s => hf12 4 s rfl) (funext fun s => hf12 5 s rfl) (funext fun s => hf12 6 s rfl) (hf12 1 7 rfl) (hf12 1 8 rfl) hRV
  have hRM38 : fz_RM H7 := fz_RM_eq (funext fun s => hf12 55 s rfl) (funext fun s => hf12 56 s rfl) (hf12 53 0 rfl) (hf12 53 2 rfl) hRM
  have hRP239 : fz_RP2 H7 := fz_RP2_eq (funext fun s => hf12 11 s rfl) (hf12 9 5 rfl) (hf12 1 7 rfl) hRP2
  have hRA40 : fl_RA H7 := fl_RA_eq (funext fun s => hf12 26 s rfl) (funext fun s => hf12 65 s rfl) (hf12 20 2 rfl) hRA
  have hRU41 : fl_RU H7 := fl_RU_eq (hf12 15 4 rfl) (funext fun s => hf12 16 s rfl) (funext fun s => hf12 17 s rfl) (hf12 53 18 rfl) (hf12 53 19 rfl) (funext fun s => hf12 66 s rfl) (funext fun s => hf12 67 s rfl) (funext fun s => hf12 68 s rfl) (funext fun s => hf12 69 s rfl) hRU
  have hRD42 : fl_RD H7 := fl_RD_eq (hf12 40 2 rfl) (hf12 40 3 rfl) (hf12 40 4 rfl) (hf12 40 5 rfl) (funext fun s => hf12 77 s rfl) (hf12 43 1 rfl) (hf12 43 2 rfl) (hf12 43 3 rfl) (hf12 43 4 rfl) (funext fun s => hf12 79 s rfl) hRD
  have hX43 : fz_Xc H7 := fz_Xc_fr hf12 rfl hX
  have t44 : H7 53 10 = h 53 10 := hf12 53 10 rfl
  have t45 : H7 53 41 = h 53 41 := hf12 53 41 rfl
  have t46 : H7 53 42 = h 53 42 := hf12 53 42 rfl
  have t47 : H7 9 5 = h 9 5 := hf12 9 5 rfl
  have t48 : H7 53 10 = h 53 10 := hf12 53 10 rfl
  have t49 : H7 44 2 = h 44 2 := hf12 44 2 rfl
  have t50 : H7 53 44 = h 53 44 := hf12 53 44 rfl
  have t51 : H7 20 2 = h 20 2 := hf12 20 2 rfl
  have t52 : H7 53 16 = h 53 16 := hf12 53 16 rfl
  have t53 : H7 1 7 = h 1 7 := hf12 1 7 rfl
  have t54 : H7 53 0 = h 53 0 := hf12 53 0 rfl
  have t55 : H7 1 8 = h 1 8 := hf12 1 8 rfl
  have t56 : H7 53 2 = h 53 2 := hf12 53 2 rfl
  refine fz_aload_n kLc25 rfl rfl ?_
  refine fz_aload_n kLc25 rfl rfl ?_
  refine fz_iload_n kLc25 rfl rfl ?_
  refine fz_iconst ⟨by decide, by decide⟩ kLc25 rfl ?_
  refine fz_iaddN kLc25 rfl (by omega) ?_
  refine fz_taldV (v := a1) kLc25 rfl ⟨by decide, by decide⟩ (by omega) (by rw [hf16 200 _ rfl]; omega) ((hf16 200 _ rfl).trans e2) ?_
  refine fz_aload_n kLc25 rfl rfl ?_
  refine fz_iload_n kLc25 rfl rfl ?_
  refine fz_iconst ⟨by decide, by decide⟩ kLc25 rfl ?_
  refine fz_iaddN kLc25 rfl (by omega) ?_
  refine fz_taldV (v := a3) kLc25 rfl ⟨by decide, by decide⟩ (by omega) (by rw [hf16 200 _ rfl]; omega) ((hf16 200 _ rfl).trans e4) ?_
  refine fz_aload_n kLc25 rfl rfl ?_
  refine fz_iload_n kLc25 rfl rfl ?_
  refine fz_iconst ⟨by decide, by decide⟩ kLc25 rfl ?_
  refine fz_iaddN kLc25 rfl (by omega) ?_
  refine fz_taldV (v := a5) kLc25 rfl ⟨by decide, by decide⟩ (by omega) (by rw [hf16 200 _ rfl]; omega) ((hf16 200 _ rfl).trans e6) ?_
  refine fz_callV (d' := 3) (M' := mX11_garbled) (As := [fz_i a1, fz_i a3, fz_i a5]) (st := [fz_l y15]) kLc25 rfl rfl vX11_garbled rfl rfl rfl rfl (Nat.le_of_ble_eq_true rfl) (Nat.le_of_ble_eq_true rfl) (by decide) (sX11_garbled H7 hI11 a1 a3 a5 hRM38) (fun H57 r58 q59 o60 => ?_)
  obtain ⟨hI61, hf62, hRM63, y66, rfl, f64, f65⟩ := q59
  clear o60
  have hf67 := fz_fr_tr hf16 hf62 (fz_su_all rfl)
  have hXd68 : fz_Xd H57 := fz_Xd_eq (funext fun s => hf62 80 s rfl) hXd17
  have hXh69 : fz_Xh H57 := fz_Xh_eq (funext fun s => hf62 83 s rfl) hXh18
  have hXw70 : fz_Xw H57 := fz_Xw_eq (hf62 53 19 rfl) (funext fun s => hf62 66 s rfl) (funext fun s => hf62 67 s rfl) (funext fun s => hf62 68 s rfl) (funext fun s => hf62 69 s rfl) hXw19
  have hRS71 : fz_RS H57 := fz_RS_eq (funext fun s => hf62 48 s rfl) (funext fun s => hf62 49 s rfl) (funext fun s => hf62 50 s rfl) (funext fun s => hf62 51 s rfl) (funext fun s => hf62 83 s rfl) (funext fun s => hf62 84 s rfl) (hf62 44 2 rfl) hRS20
  have hRP72 : fz_RP H57 := fz_RP_eq (funext fun s => hf62 52 s rfl) (funext fun s => hf62 85 s rfl) hRP21
  have hRK73 : fz_RK H57 := fz_RK_eq (funext fun s => hf62 45 s rfl) (funext fun s => hf62 81 s rfl) hRK22
  have hRR74 : fz_RR H57 := fz_RR_eq (hf62 44 3 rfl) (hf62 53 46 rfl) (funext fun s => hf62 46 s rfl) (funext fun s => hf62 82 s rfl) hRR23
  have hRT75 : fz_RT H57 := fz_RT_eq (funext fun s => hf62 41 s rfl) (funext fun s => hf62 42 s rfl) (hf62 1 7 rfl) hRT24
  have hRE76 : fz_RE H57 := fz_RE_eq (funext fun s => hf62 5 s rfl) (funext fun s => hf62 6 s rfl) (hf62 1 8 rfl) (hf62 1 7 rfl) hRE25
  have hR277 : fz_R2 H57 := fz_R2_eq (funext fun s => hf62 2 s rfl) (funext fun s => hf62 54 s rfl) hR226
  have hR378 : fz_R3 H57 := fz_R3_eq (funext fun s => hf62 3 s rfl) (funext fun s => hf62 57 s rfl) hR327
  have hR479 : fz_R4 H57 := fz_R4_eq (funext fun s => hf62 4 s rfl) (funext fun s => hf62 58 s rfl) hR428
  have hR2880 : fz_R28 H57 := fz_R28_eq (funext fun s => hf62 28 s rfl) (funext fun s => hf62 59 s rfl) hR2829
  have hR581 : fz_R5 H57 := fz_R5_eq (funext fun s => hf62 5 s rfl) (funext fun s => hf62 55 s rfl) hR530
  have hR682 : fz_R6 H57 := fz_R6_eq (funext fun s => hf62 6 s rfl) (funext fun s => hf62 56 s rfl) hR631
  have hRG83 : fz_RG H57 := fz_RG_eq (hf62 27 8 rfl) (hf62 27 9 rfl) (hf62 53 8 rfl) (hf62 53 9 rfl) hRG32
  have hRL84 : fz_RL H57 := fz_RL_eq (funext fun s => hf62 11 s rfl) (funext fun s => hf62 12 s rfl) (funext fun s => hf62 13 s rfl) (funext fun s => hf62 14 s rfl) (funext fun s => hf62 61 s rfl) (funext fun s => hf62 62 s rfl) (funext fun s => hf62 63 s rfl) (funext fun s => hf62 64 s rfl) (hf62 9 5 rfl) hRL33
  have hRC85 : fz_RC H57 := fz_RC_eq (hf62 35 4 rfl) (hf62 35 5 rfl) (hf62 53 41 rfl) (hf62 53 42 rfl) (funext fun s => hf62 36 s rfl) (funext fun s => hf62 37 s rfl) (funext fun s => hf62 38 s rfl) (funext fun s => hf62 39 s rfl) (funext fun s => hf62 80 s rfl) (hf62 1 7 rfl) (hf62 1 8 rfl) (hf62 9 5 rfl) hRC34
  have hRJ86 : fz_RJ H57 := fz_RJ_eq (hf62 40 1 rfl) (hf62 53 34 rfl) (funext fun s => hf62 41 s rfl) (funext fun s => hf62 76 s rfl) (hf62 40 6 rfl) (hf62 53 37 rfl) (funext fun s => hf62 42 s rfl) (funext fun s => hf62 78 s rfl) (hf62 43 0 rfl) (hf62 53 38 rfl) hRJ35
  have hRW87 : fz_RW H57 := fz_RW_eq (funext fun s => hf62 10 s rfl) (funext fun s => hf62 60 s rfl) (hf62 9 5 rfl) hRW36
  have hRV88 : fz_RV H57 := fz_RV_eq (funext fun s => hf62 7 s rfl) (funext fun s => hf62 8 s rfl) (funext fun s => hf62 3 s rfl) (funext fun s => hf62 4 s rfl) (funext fun s => hf62 5 s rfl) (funext fun s => hf62 6 s rfl) (hf62 1 7 rfl) (hf62 1 8 rfl) hRV37
  have hRP289 : fz_RP2 H57 := fz_RP2_eq (funext fun s => hf62 11 s rfl) (hf62 9 5 rfl) (hf62 1 7 rfl) hRP239
  have hRA90 : fl_RA H57 := fl_RA_eq (funext fun s => hf62 26 s rfl) (funext fun s => hf62 65 s rfl) (hf62 20 2 rfl) hRA40
  have hRU91 : fl_RU H57 := fl_RU_eq (hf62 15 4 rfl) (funext fun s => hf62 16 s rfl) (funext fun s => hf62 17 s rfl) (hf62 53 18 rfl) (hf62 53 19 rfl) (funext fun s => hf62 66 s rfl) (funext fun s => hf62 67 s rfl) (funext fun s => hf62 68 s rfl) (funext fun s => hf62 69 s rfl) hRU41
  have hRD92 : fl_RD H57 := fl_RD_eq (hf62 40 2 rfl) (hf62 40 3 rfl) (hf62 40 4 rfl) (hf62 40 5 rfl) (funext fun s => hf62 77 s rfl) (hf62 43 1 rfl) (hf62 43 2 rfl) (hf62 43 3 rfl) (hf62 43 4 rfl) (funext fun s => hf62 79 s rfl) hRD42
  have hX93 : fz_Xc H57 := fz_Xc_fr hf62 rfl hX43
  have t94 : H57 53 10 = H7 53 10 := hf62 53 10 rfl
  have t95 : H57 53 41 = H7 53 41 := hf62 53 41 rfl
  have t96 : H57 53 42 = H7 53 42 := hf62 53 42 rfl
  have t97 : H57 9 5 = H7 9 5 := hf62 9 5 rfl
  have t98 : H57 53 10 = H7 53 10 := hf62 53 10 rfl
  have t99 : H57 44 2 = H7 44 2 := hf62 44 2 rfl
  have t100 : H57 53 44 = H7 53 44 := hf62 53 44 rfl
  have t101 : H57 20 2 = H7 20 2 := hf62 20 2 rfl
  have t102 : H57 53 16 = H7 53 16 := hf62 53 16 rfl
  have t103 : H57 1 7 = H7 1 7 := hf62 1 7 rfl
  have t104 : H57 53 0 = H7 53 0 := hf62 53 0 rfl
  have t105 : H57 1 8 = H7 1 8 := hf62 1 8 rfl
  have t106 : H57 53 2 = H7 53 2 := hf62 53 2 rfl
  have k107 : fl_Rl h := ⟨hRU, hRV, hR5, hR6, hR3, hR4, hR2, hRL, hRP2, hRW, hr4.symm, hr3.symm, hr0.symm, fun q => (hI.1 11 q).1, fun q => (hI.1 12 q).1, fun q => (hI.1 2 q).1⟩
  have k109 := fl_gb_eq k107 hRG (by first | exact fz_fr_lo hf12 rfl | exact fun _ _ _ => rfl) (fun q => ⟨(hI.1 55 q).1, (hI.1 56 q).1⟩) f14 f65
  refine fz_lcmp kLc25 rfl ?_
  have b110 := fz_cmp_c y15 y66
  refine fz_if_eq (tgt := 1817) kLc25 rfl (by decide) (fun c111 => ?_) (fun c111 => ?_)
  · exact K H57 ⟨hI61, hX93, hXd68, hXh69, hXw70, (by rw [((hf62 53 10 rfl).trans (hf12 53 10 rfl))]; exact hv1), (by rw [((hf62 53 42 rfl).trans (hf12 53 42 rfl)), ((hf62 53 41 rfl).trans (hf12 53 41 rfl))]; exact hv2), (((hf62 9 5 rfl).trans (hf12 9 5 rfl)).trans (hr0.trans ((hf62 53 10 rfl).trans (hf12 53 10 rfl)).symm)), (((hf62 44 2 rfl).trans (hf12 44 2 rfl)).trans (hr1.trans ((hf62 53 44 rfl).trans (hf12 53 44 rfl)).symm)), (((hf62 20 2 rfl).trans (hf12 20 2 rfl)).trans (hr2.trans ((hf62 53 16 rfl).trans (hf12 53 16 rfl)).symm)), (((hf62 1 7 rfl).trans (hf12 1 7 rfl)).trans (hr3.trans ((hf62 53 0 rfl).trans (hf12 53 0 rfl)).symm)), (((hf62 1 8 rfl).trans (hf12 1 8 rfl)).trans (hr4.trans ((hf62 53 2 rfl).trans (hf12 53 2 rfl)).symm)), hRS71, hRP72, hRK73, hRR74, hRT75, hRE76, hR277, hR378, hR479, hR2880, hR581, hR682, hRG83, hRL84, hRC85, hRJ86, hRW87, hRV88, hRM63, hRP289, hRA90, hRU91, hRD92⟩ (funext fun s => hf67 200 s rfl)
  · refine fz_iconst ⟨by decide, by decide⟩ kLc25 rfl ?_
    exfalso; omega
def mLc26 : fz_M := (yL_law, code, 4, (some .boolean), [(1233, .aload_n 1, 1, 0, 0, 0), (1234, .aload_n 0, 1, 0, 0, 0), (1235, .iload_n 3, 1, 0, 0, 0), (1236, .iconst 1, 1, 0, 0, 0), (1237, .iadd, 1, 0, 0, 0), (1238, .iaload, 1, 0, 0, 0), (1239, .aload_n 0, 1, 0, 0, 0), (1240, .iload_n 3, 1, 0, 0, 0), (1241, .iconst 2, 1, 0, 0, 0), (1242, .iadd, 1, 0, 0, 0), (1243, .iaload, 1, 0, 0, 0), (1244, .aload_n 0, 1, 0, 0, 0), (1245, .iload_n 3, 1, 0, 0, 0), (1246, .iconst 3, 1, 0, 0, 0), (1247, .iadd, 1, 0, 0, 0), (1248, .iaload, 1, 0, 0, 0), (1249, .aload_n 0, 1, 0, 0, 0), (1250, .iload_n 3, 1, 0, 0, 0), (1251, .iconst 4, 1, 0, 0, 0), (1252, .iadd, 1, 0, 0, 0), (1253, .iaload, 1, 0, 0, 0), (1254, .invokevirtual 123, 3, 4153, 28, 0), (1257, .pop, 1, 0, 0, 0), (1258, .aload_n 2, 1, 0, 0, 0), (1259, .aload_n 0, 1, 0, 0, 0), (1260, .iload_n 3, 1, 0, 0, 0), (1261, .iconst 1, 1, 0, 0, 0), (1262, .iadd, 1, 0, 0, 0), (1263, .iaload, 1, 0, 0, 0), (1264, .aload_n 0, 1, 0, 0, 0), (1265, .iload_n 3, 1, 0, 0, 0), (1266, .iconst 2, 1, 0, 0, 0), (1267, .iadd, 1, 0, 0, 0), (1268, .iaload, 1, 0, 0, 0), (1269, .aload_n 0, 1, 0, 0, 0), (1270, .iload_n 3, 1, 0, 0, 0), (1271, .iconst 3, 1, 0, 0, 0), (1272, .iadd, 1, 0, 0, 0), (1273, .iaload, 1, 0, 0, 0), (1274, .aload_n 0, 1, 0, 0, 0), (1275, .iload_n 3, 1, 0, 0, 0), (1276, .iconst 4, 1, 0, 0, 0), (1277, .iadd, 1, 0, 0, 0), (1278, .iaload, 1, 0, 0, 0), (1279, .invokevirtual 126, 3, 7108, 97, 0), (1282, .pop, 1, 0, 0, 0), (1283, .goto 534, 3, 0, 0, 0)])
set_option maxRecDepth 100000 in
theorem kLc26 : fz_okM mLc26 = true := fz_okM_in (by decide +kernel) (by decide +kernel)
set_option maxHeartbeats 1000000 in
set_option maxRecDepth 100000 in
theorem lc26 (h : fz_H) (hI : fz_Iv h) (hX : fz_Xc h) (hXd : fz_Xd h) (hXh : fz_Xh h) (hXw : fz_Xw h) (hv1 : h 53 10 ≤ 10) (hv2 : h 53 42 ≤ h 53 41) (hr0 : h 9 5 = h 53 10) (hr1 : h 44 2 = h 53 44) (hr2 : h 20 2 = h 53 16) (hr3 : h 1 7 = h 53 0) (hr4 : h 1 8 = h 53 2) (hRS : fz_RS h) (hRP : fz_RP h) (hRK : fz_RK h) (hRR : fz_RR h) (hRT : fz_RT h) (hRE : fz_RE h) (hR2 : fz_R2 h) (hR3 : fz_R3 h) (hR4 : fz_R4 h) (hR28 : fz_R28 h) (hR5 : fz_R5 h) (hR6 : fz_R6 h) (hRG : fz_RG h) (hRL : fz_RL h) (hRC : fz_RC h) (hRJ : fz_RJ h) (hRW : fz_RW h) (hRV : fz_RV h) (hRM : fz_RM h) (hRP2 : fz_RP2 h) (hRA : fz_RA h) (hRU : fz_RU h) (hRD : fz_RD h) (i : Int) (hi : 0 ≤ i ∧ i + 6 ≤ h 200 100000 ∧ h 200 100000 ≤ 3072) {Q : fz_H → Option fz_V → Prop} (K : ∀ H : fz_H, fz_Gd H → H 200 = h 200 → fz_R 47 mLe 1817 [(3, fz_i i), (0, fz_r 200), (1, fz_r 0), (2, fz_r 53)] [] H Q) : fz_R 47 mLc26 1233 [(3, fz_i i), (0, fz_r 200), (1, fz_r 0), (2, fz_r 53)] [] h Q := by
  have hf : fz_fr fz_all h h := fz_fr_rf
  refine fz_aload_n kLc26 rfl rfl ?_
  refine fz_aload_n kLc26 rfl rfl ?_
  refine fz_iload_n kLc26 rfl rfl ?_
  refine fz_iconst ⟨by decide, by decide⟩ kLc26 rfl ?_
  refine fz_iaddN kLc26 rfl (by omega) ?_
  obtain ⟨a1, e2⟩ : ∃ z, h 200 ((i + 1)).toNat = z := ⟨_, rfl⟩
  refine fz_taldV (v := a1) kLc26 rfl ⟨by decide, by decide⟩ (by omega) (by omega) e2 ?_
  refine fz_aload_n kLc26 rfl rfl ?_
  refine fz_iload_n kLc26 rfl rfl ?_
  refine fz_iconst ⟨by decide, by decide⟩ kLc26 rfl ?_
  refine fz_iaddN kLc26 rfl (by omega) ?_
  obtain ⟨a3, e4⟩ : ∃ z, h 200 ((i + 2)).toNat = z := ⟨_, rfl⟩
  refine fz_taldV (v := a3) kLc26 rfl ⟨by decide, by decide⟩ (by omega) (by omega) e4 ?_
  refine fz_aload_n kLc26 rfl rfl ?_
  refine fz_iload_n kLc26 rfl rfl ?_
  refine fz_iconst ⟨by decide, by decide⟩ kLc26 rfl ?_
  refine fz_iaddN kLc26 rfl (by omega) ?_
  obtain ⟨a5, e6⟩ : ∃ z, h 200 ((i + 3)).toNat = z := ⟨_, rfl⟩
  refine fz_taldV (v := a5) kLc26 rfl ⟨by decide, by decide⟩ (by omega) (by omega) e6 ?_
  refine fz_aload_n kLc26 rfl rfl ?_
  refine fz_iload_n kLc26 rfl rfl ?_
  refine fz_iconst ⟨by decide, by decide⟩ kLc26 rfl ?_
  refine fz_iaddN kLc26 rfl (by omega) ?_
  obtain ⟨a7, e8⟩ : ∃ z, h 200 ((i + 4)).toNat = z := ⟨_, rfl⟩
  refine fz_taldV (v := a7) kLc26 rfl ⟨by decide, by decide⟩ (by omega) (by omega) e8 ?_
  refine fz_callV (d' := 1) (M' := mX10_drawn) (As := [fz_i a1, fz_i a3, fz_i a5, fz_i a7]) (st := []) kLc26 rfl rfl vX10_drawn rfl rfl rfl rfl (Nat.le_of_ble_eq_true rfl) (Nat.le_of_ble_eq_true rfl) (by decide) (sX10_drawn h hI a1 a3 a5 a7 ) (fun H9 r10 q11 o12 => ?_)
  obtain ⟨e13, y16, rfl, f14, f15⟩ := q11
  subst H9
  clear o12
  refine fz_pop rfl kLc26 rfl ?_
  refine fz_aload_n kLc26 rfl rfl ?_
  refine fz_aload_n kLc26 rfl rfl ?_
  refine fz_iload_n kLc26 rfl rfl ?_
  refine fz_iconst ⟨by decide, by decide⟩ kLc26 rfl ?_
  refine fz_iaddN kLc26 rfl (by omega) ?_
  refine fz_taldV (v := a1) kLc26 rfl ⟨by decide, by decide⟩ (by omega) (by omega) e2 ?_
  refine fz_aload_n kLc26 rfl rfl ?_
  refine fz_iload_n kLc26 rfl rfl ?_
  refine fz_iconst ⟨by decide, by decide⟩ kLc26 rfl ?_
  refine fz_iaddN kLc26 rfl (by omega) ?_
  refine fz_taldV (v := a3) kLc26 rfl ⟨by decide, by decide⟩ (by omega) (by omega) e4 ?_
  refine fz_aload_n kLc26 rfl rfl ?_
  refine fz_iload_n kLc26 rfl rfl ?_
  refine fz_iconst ⟨by decide, by decide⟩ kLc26 rfl ?_
  refine fz_iaddN kLc26 rfl (by omega) ?_
  refine fz_taldV (v := a5) kLc26 rfl ⟨by decide, by decide⟩ (by omega) (by omega) e6 ?_
  refine fz_aload_n kLc26 rfl rfl ?_
  refine fz_iload_n kLc26 rfl rfl ?_
  refine fz_iconst ⟨by decide, by decide⟩ kLc26 rfl ?_
  refine fz_iaddN kLc26 rfl (by omega) ?_
  refine fz_taldV (v := a7) kLc26 rfl ⟨by decide, by decide⟩ (by omega) (by omega) e8 ?_
  refine fz_callV (d' := 3) (M' := mX11_drawn) (As := [fz_i a1, fz_i a3, fz_i a5, fz_i a7]) (st := []) kLc26 rfl rfl vX11_drawn rfl rfl rfl rfl (Nat.le_of_ble_eq_true rfl) (Nat.le_of_ble_eq_true rfl) (by decide) (sX11_drawn h hI a1 a3 a5 a7 hRM) (fun H17 r18 q19 o20 => ?_)
  obtain ⟨hI21, hf22, hRM23, y26, rfl, f24, f25⟩ := q19
  clear o20
  have hf27 := fz_fr_tr hf hf22 (fz_su_all rfl)
  have hXd28 : fz_Xd H17 := fz_Xd_eq (funext fun s => hf22 80 s rfl) hXd
  have hXh29 : fz_Xh H17 := fz_Xh_eq (funext fun s => hf22 83 s rfl) hXh
  have hXw30 : fz_Xw H17 := fz_Xw_eq (hf22 53 19 rfl) (funext fun s => hf22 66 s rfl) (funext fun s => hf22 67 s rfl) (funext fun s => hf22 68 s rfl) (funext fun s => hf22 69 s rfl) hXw
  have hRS31 : fz_RS H17 := fz_RS_eq (funext fun s => hf22 48 s rfl) (funext fun s => hf22 49 s rfl) (funext fun s => hf22 50 s rfl) (funext fun s => hf22 51 s rfl) (funext fun s => hf22 83 s rfl) (funext fun s => hf22 84 s rfl) (hf22 44 2 rfl) hRS
  have hRP32 : fz_RP H17 := fz_RP_eq (funext fun s => hf22 52 s rfl) (funext fun s => hf22 85 s rfl) hRP
  have hRK33 : fz_RK H17 := fz_RK_eq (funext fun s => hf22 45 s rfl) (funext fun s => hf22 81 s rfl) hRK
  have hRR34 : fz_RR H17 := fz_RR_eq (hf22 44 3 rfl) (hf22 53 46 rfl) (funext fun s => hf22 46 s rfl) (funext fun s => hf22 82 s rfl) hRR
  have hRT35 : fz_RT H17 := fz_RT_eq (funext fun s => hf22 41 s rfl) (funext fun s => hf22 42 s rfl) (hf22 1 7 rfl) hRT
  have hRE36 : fz_RE H17 := fz_RE_eq (funext fun s => hf22 5 s rfl) (funext fun s => hf22 6 s rfl) (hf22 1 8 rfl) (hf22 1 7 rfl) hRE
  have hR237 : fz_R2 H17 := fz_R2_eq (funext fun s => hf22 2 s rfl) (funext fun s => hf22 54 s rfl) hR2
  have hR338 : fz_R3 H17 := fz_R3_eq (funext fun s => hf22 3 s rfl) (funext fun s => hf22 57 s rfl) hR3
  have hR439 : fz_R4 H17 := fz_R4_eq (funext fun s => hf22 4 s rfl) (funext fun s => hf22 58 s rfl) hR4
  have hR2840 : fz_R28 H17 := fz_R28_eq (funext fun s => hf22 28 s rfl) (funext fun s => hf22 59 s rfl) hR28
  have hR541 : fz_R5 H17 := fz_R5_eq (funext fun s => hf22 5 s rfl) (funext fun s => hf22 55 s rfl) hR5
  have hR642 : fz_R6 H17 := fz_R6_eq (funext fun s => hf22 6 s rfl) (funext fun s => hf22 56 s rfl) hR6
  have hRG43 : fz_RG H17 := fz_RG_eq (hf22 27 8 rfl) (hf22 27 9 rfl) (hf22 53 8 rfl) (hf22 53 9 rfl) hRG
  have hRL44 : fz_RL H17 := fz_RL_eq (funext fun s => hf22 11 s rfl) (funext fun s => hf22 12 s rfl) (funext fun s => hf22 13 s rfl) (funext fun s => hf22 14 s rfl) (funext fun s => hf22 61 s rfl) (funext fun s => hf22 62 s rfl) (funext fun s => hf22 63 s rfl) (funext fun s => hf22 64 s rfl) (hf22 9 5 rfl) hRL
  have hRC45 : fz_RC H17 := fz_RC_eq (hf22 35 4 rfl) (hf22 35 5 rfl) (hf22 53 41 rfl) (hf22 53 42 rfl) (funext fun s => hf22 36 s rfl) (funext fun s => hf22 37 s rfl) (funext fun s => hf22 38 s rfl) (funext fun s => hf22 39 s rfl) (funext fun s => hf22 80 s rfl) (hf22 1 7 rfl) (hf22 1 8 rfl) (hf22 9 5 rfl) hRC
  have hRJ46 : fz_RJ H17 := fz_RJ_eq (hf22 40 1 rfl) (hf22 53 34 rfl) (funext fun s => hf22 41 s rfl) (funext fun s => hf22 76 s rfl) (hf22 40 6 rfl) (hf22 53 37 rfl) (funext fun s => hf22 42 s rfl) (funext fun s => hf22 78 s rfl) (hf22 43 0 rfl) (hf22 53 38 rfl) hRJ
  have hRW47 : fz_RW H17 := fz_RW_eq (funext fun s => hf22 10 s rfl) (funext fun s => hf22 60 s rfl) (hf22 9 5 rfl) hRW
  have hRV48 : fz_RV H17 := fz_RV_eq (funext fun s => hf22 7 s rfl) (funext fun s => hf22 8 s rfl) (funext fun s => hf22 3 s rfl) (funext fun s => hf22 4 s rfl) (funext fun s => hf22 5 s rfl) (funext fun s => hf22 6 s rfl) (hf22 1 7 rfl) (hf22 1 8 rfl) hRV
  have hRP249 : fz_RP2 H17 := fz_RP2_eq (funext fun s => hf22 11 s rfl) (hf22 9 5 rfl) (hf22 1 7 rfl) hRP2
  have hRA50 : fl_RA H17 := fl_RA_eq (funext fun s => hf22 26 s rfl) (funext fun s => hf22 65 s rfl) (hf22 20 2 rfl) hRA
  have hRU51 : fl_RU H17 := fl_RU_eq (hf22 15 4 rfl) (funext fun s => hf22 16 s rfl) (funext fun s => hf22 17 s rfl) (hf22 53 18 rfl) (hf22 53 19 rfl) (funext fun s => hf22 66 s rfl) (funext fun s => hf22 67 s rfl) (funext fun s => hf22 68 s rfl) (funext fun s => hf22 69 s rfl) hRU
  have hRD52 : fl_RD H17 := fl_RD_eq (hf22 40 2 rfl) (hf22 40 3 rfl) (hf22 40 4 rfl) (hf22 40 5 rfl) (funext fun s => hf22 77 s rfl) (hf22 43 1 rfl) (hf22 43 2 rfl) (hf22 43 3 rfl) (hf22 43 4 rfl) (funext fun s => hf22 79 s rfl) hRD
  have hX53 : fz_Xc H17 := fz_Xc_fr hf22 rfl hX
  have t54 : H17 53 10 = h 53 10 := hf22 53 10 rfl
  have t55 : H17 53 41 = h 53 41 := hf22 53 41 rfl
  have t56 : H17 53 42 = h 53 42 := hf22 53 42 rfl
  have t57 : H17 9 5 = h 9 5 := hf22 9 5 rfl
  have t58 : H17 53 10 = h 53 10 := hf22 53 10 rfl
  have t59 : H17 44 2 = h 44 2 := hf22 44 2 rfl
  have t60 : H17 53 44 = h 53 44 := hf22 53 44 rfl
  have t61 : H17 20 2 = h 20 2 := hf22 20 2 rfl
  have t62 : H17 53 16 = h 53 16 := hf22 53 16 rfl
  have t63 : H17 1 7 = h 1 7 := hf22 1 7 rfl
  have t64 : H17 53 0 = h 53 0 := hf22 53 0 rfl
  have t65 : H17 1 8 = h 1 8 := hf22 1 8 rfl
  have t66 : H17 53 2 = h 53 2 := hf22 53 2 rfl
  refine fz_pop rfl kLc26 rfl ?_
  refine fz_goto (tgt := 1817) kLc26 rfl (by decide) ?_
  exact K H17 ⟨hI21, hX53, hXd28, hXh29, hXw30, (by rw [(hf22 53 10 rfl)]; exact hv1), (by rw [(hf22 53 42 rfl), (hf22 53 41 rfl)]; exact hv2), ((hf22 9 5 rfl).trans (hr0.trans (hf22 53 10 rfl).symm)), ((hf22 44 2 rfl).trans (hr1.trans (hf22 53 44 rfl).symm)), ((hf22 20 2 rfl).trans (hr2.trans (hf22 53 16 rfl).symm)), ((hf22 1 7 rfl).trans (hr3.trans (hf22 53 0 rfl).symm)), ((hf22 1 8 rfl).trans (hr4.trans (hf22 53 2 rfl).symm)), hRS31, hRP32, hRK33, hRR34, hRT35, hRE36, hR237, hR338, hR439, hR2840, hR541, hR642, hRG43, hRL44, hRC45, hRJ46, hRW47, hRV48, hRM23, hRP249, hRA50, hRU51, hRD52⟩ (funext fun s => hf27 200 s rfl)
def mLc27 : fz_M := (yL_law, code, 4, (some .boolean), [(1286, .aload_n 1, 1, 0, 0, 0), (1287, .aload_n 0, 1, 0, 0, 0), (1288, .iload_n 3, 1, 0, 0, 0), (1289, .iconst 1, 1, 0, 0, 0), (1290, .iadd, 1, 0, 0, 0), (1291, .iaload, 1, 0, 0, 0), (1292, .aload_n 0, 1, 0, 0, 0), (1293, .iload_n 3, 1, 0, 0, 0), (1294, .iconst 2, 1, 0, 0, 0), (1295, .iadd, 1, 0, 0, 0), (1296, .iaload, 1, 0, 0, 0), (1297, .invokevirtual 127, 3, 4158, 77, 0), (1300, .pop, 1, 0, 0, 0), (1301, .aload_n 2, 1, 0, 0, 0), (1302, .aload_n 0, 1, 0, 0, 0), (1303, .iload_n 3, 1, 0, 0, 0), (1304, .iconst 1, 1, 0, 0, 0), (1305, .iadd, 1, 0, 0, 0), (1306, .iaload, 1, 0, 0, 0), (1307, .aload_n 0, 1, 0, 0, 0), (1308, .iload_n 3, 1, 0, 0, 0), (1309, .iconst 2, 1, 0, 0, 0), (1310, .iadd, 1, 0, 0, 0), (1311, .iaload, 1, 0, 0, 0), (1312, .invokevirtual 130, 3, 7113, 181, 0), (1315, .pop, 1, 0, 0, 0), (1316, .goto 501, 3, 0, 0, 0)])
set_option maxRecDepth 100000 in
theorem kLc27 : fz_okM mLc27 = true := fz_okM_in (by decide +kernel) (by decide +kernel)
set_option maxHeartbeats 1000000 in
set_option maxRecDepth 100000 in
theorem lc27 (h : fz_H) (hI : fz_Iv h) (hX : fz_Xc h) (hXd : fz_Xd h) (hXh : fz_Xh h) (hXw : fz_Xw h) (hv1 : h 53 10 ≤ 10) (hv2 : h 53 42 ≤ h 53 41) (hr0 : h 9 5 = h 53 10) (hr1 : h 44 2 = h 53 44) (hr2 : h 20 2 = h 53 16) (hr3 : h 1 7 = h 53 0) (hr4 : h 1 8 = h 53 2) (hRS : fz_RS h) (hRP : fz_RP h) (hRK : fz_RK h) (hRR : fz_RR h) (hRT : fz_RT h) (hRE : fz_RE h) (hR2 : fz_R2 h) (hR3 : fz_R3 h) (hR4 : fz_R4 h) (hR28 : fz_R28 h) (hR5 : fz_R5 h) (hR6 : fz_R6 h) (hRG : fz_RG h) (hRL : fz_RL h) (hRC : fz_RC h) (hRJ : fz_RJ h) (hRW : fz_RW h) (hRV : fz_RV h) (hRM : fz_RM h) (hRP2 : fz_RP2 h) (hRA : fz_RA h) (hRU : fz_RU h) (hRD : fz_RD h) (i : Int) (hi : 0 ≤ i ∧ i + 6 ≤ h 200 100000 ∧ h 200 100000 ≤ 3072) {Q : fz_H → Option fz_V → Prop} (K : ∀ H : fz_H, fz_Gd H → H 200 = h 200 → fz_R 47 mLe 1817 [(3, fz_i i), (0, fz_r 200), (1, fz_r 0), (2, fz_r 53)] [] H Q) : fz_R 47 mLc27 1286 [(3, fz_i i), (0, fz_r 200), (1, fz_r 0), (2, fz_r 53)] [] h Q := by
  have hf : fz_fr fz_all h h := fz_fr_rf
  refine fz_aload_n kLc27 rfl rfl ?_
  refine fz_aload_n kLc27 rfl rfl ?_
  refine fz_iload_n kLc27 rfl rfl ?_
  refine fz_iconst ⟨by decide, by decide⟩ kLc27 rfl ?_
  refine fz_iaddN kLc27 rfl (by omega) ?_
  obtain ⟨a1, e2⟩ : ∃ z, h 200 ((i + 1)).toNat = z := ⟨_, rfl⟩
  refine fz_taldV (v := a1) kLc27 rfl ⟨by decide, by decide⟩ (by omega) (by omega) e2 ?_
  refine fz_aload_n kLc27 rfl rfl ?_
  refine fz_iload_n kLc27 rfl rfl ?_
  refine fz_iconst ⟨by decide, by decide⟩ kLc27 rfl ?_
  refine fz_iaddN kLc27 rfl (by omega) ?_
  obtain ⟨a3, e4⟩ : ∃ z, h 200 ((i + 2)).toNat = z := ⟨_, rfl⟩
  refine fz_taldV (v := a3) kLc27 rfl ⟨by decide, by decide⟩ (by omega) (by omega) e4 ?_
  have b5 : 0 ≤ h 1 7 ∧ h 1 7 ≤ 8 := hI.1 1 _
  refine fz_callV (d' := 5) (M' := mX10_walk) (As := [fz_i a1, fz_i a3]) (st := []) kLc27 rfl rfl vX10_walk rfl rfl rfl rfl (Nat.le_of_ble_eq_true rfl) (Nat.le_of_ble_eq_true rfl) (by decide) (sX10_walk h hI a1 a3 hRT hRE) (fun H6 r7 q8 o9 => ?_)
  obtain ⟨hI10, hf11, hRT12, hRE13, y18, rfl, f14, f15, f16, f17⟩ := q8
  clear o9
  have hf19 := fz_fr_tr hf hf11 (fz_su_all rfl)
  have hXd20 : fz_Xd H6 := fz_Xd_eq (funext fun s => hf11 80 s rfl) hXd
  have hXh21 : fz_Xh H6 := fz_Xh_eq (funext fun s => hf11 83 s rfl) hXh
  have hXw22 : fz_Xw H6 := fz_Xw_eq (hf11 53 19 rfl) (funext fun s => hf11 66 s rfl) (funext fun s => hf11 67 s rfl) (funext fun s => hf11 68 s rfl) (funext fun s => hf11 69 s rfl) hXw
  have hRS23 : fz_RS H6 := fz_RS_eq (funext fun s => hf11 48 s rfl) (funext fun s => hf11 49 s rfl) (funext fun s => hf11 50 s rfl) (funext fun s => hf11 51 s rfl) (funext fun s => hf11 83 s rfl) (funext fun s => hf11 84 s rfl) (hf11 44 2 rfl) hRS
  have hRP24 : fz_RP H6 := fz_RP_eq (funext fun s => hf11 52 s rfl) (funext fun s => hf11 85 s rfl) hRP
  have hRK25 : fz_RK H6 := fz_RK_eq (funext fun s => hf11 45 s rfl) (funext fun s => hf11 81 s rfl) hRK
  have hRR26 : fz_RR H6 := fz_RR_eq (hf11 44 3 rfl) (hf11 53 46 rfl) (funext fun s => hf11 46 s rfl) (funext fun s => hf11 82 s rfl) hRR
  have hR227 : fz_R2 H6 := fz_R2_eq (funext fun s => hf11 2 s rfl) (funext fun s => hf11 54 s rfl) hR2
  have hR328 : fz_R3 H6 := fz_R3_eq (funext fun s => hf11 3 s rfl) (funext fun s => hf11 57 s rfl) hR3
  have hR429 : fz_R4 H6 := fz_R4_eq (funext fun s => hf11 4 s rfl) (funext fun s => hf11 58 s rfl) hR4
  have hR2830 : fz_R28 H6 := fz_R28_eq (funext fun s => hf11 28 s rfl) (funext fun s => hf11 59 s rfl) hR28
  have hR531 : fz_R5 H6 := fz_R5_eq (funext fun s => hf11 5 s rfl) (funext fun s => hf11 55 s rfl) hR5
  have hR632 : fz_R6 H6 := fz_R6_eq (funext fun s => hf11 6 s rfl) (funext fun s => hf11 56 s rfl) hR6
  have hRG33 : fz_RG H6 := fz_RG_eq (hf11 27 8 rfl) (hf11 27 9 rfl) (hf11 53 8 rfl) (hf11 53 9 rfl) hRG
  have hRL34 : fz_RL H6 := fz_RL_eq (funext fun s => hf11 11 s rfl) (funext fun s => hf11 12 s rfl) (funext fun s => hf11 13 s rfl) (funext fun s => hf11 14 s rfl) (funext fun s => hf11 61 s rfl) (funext fun s => hf11 62 s rfl) (funext fun s => hf11 63 s rfl) (funext fun s => hf11 64 s rfl) (hf11 9 5 rfl) hRL
  have hRC35 : fz_RC H6 := fz_RC_eq (hf11 35 4 rfl) (hf11 35 5 rfl) (hf11 53 41 rfl) (hf11 53 42 rfl) (funext fun s => hf11 36 s rfl) (funext fun s => hf11 37 s rfl) (funext fun s => hf11 38 s rfl) (funext fun s => hf11 39 s rfl) (funext fun s => hf11 80 s rfl) (hf11 1 7 rfl) (hf11 1 8 rfl) (hf11 9 5 rfl) hRC
  have hRW36 : fz_RW H6 := fz_RW_eq (funext fun s => hf11 10 s rfl) (funext fun s => hf11 60 s rfl) (hf11 9 5 rfl) hRW
  have hRV37 : fz_RV H6 := fz_RV_eq (funext fun s => hf11 7 s rfl) (funext fun s => hf11 8 s rfl) (funext fun s => hf11 3 s rfl) (funext fun s => hf11 4 s rfl) (funext fun s => hf11 5 s rfl) (funext fun s => hf11 6 s rfl) (hf11 1 7 rfl) (hf11 1 8 rfl) hRV
  have hRM38 : fz_RM H6 := fz_RM_eq (funext fun s => hf11 55 s rfl) (funext fun s => hf11 56 s rfl) (hf11 53 0 rfl) (hf11 53 2 rfl) hRM
  have hRP239 : fz_RP2 H6 := fz_RP2_eq (funext fun s => hf11 11 s rfl) (hf11 9 5 rfl) (hf11 1 7 rfl) hRP2
  have hRA40 : fl_RA H6 := fl_RA_eq (funext fun s => hf11 26 s rfl) (funext fun s => hf11 65 s rfl) (hf11 20 2 rfl) hRA
  have hRU41 : fl_RU H6 := fl_RU_eq (hf11 15 4 rfl) (funext fun s => hf11 16 s rfl) (funext fun s => hf11 17 s rfl) (hf11 53 18 rfl) (hf11 53 19 rfl) (funext fun s => hf11 66 s rfl) (funext fun s => hf11 67 s rfl) (funext fun s => hf11 68 s rfl) (funext fun s => hf11 69 s rfl) hRU
  have hX42 : fz_Xc H6 := fz_Xc_fr hf11 rfl hX
  have t43 : H6 53 10 = h 53 10 := hf11 53 10 rfl
  have t44 : H6 53 41 = h 53 41 := hf11 53 41 rfl
  have t45 : H6 53 42 = h 53 42 := hf11 53 42 rfl
  have t46 : H6 9 5 = h 9 5 := hf11 9 5 rfl
  have t47 : H6 53 10 = h 53 10 := hf11 53 10 rfl
  have t48 : H6 44 2 = h 44 2 := hf11 44 2 rfl
  have t49 : H6 53 44 = h 53 44 := hf11 53 44 rfl
  have t50 : H6 20 2 = h 20 2 := hf11 20 2 rfl
  have t51 : H6 53 16 = h 53 16 := hf11 53 16 rfl
  have t52 : H6 1 7 = h 1 7 := hf11 1 7 rfl
  have t53 : H6 53 0 = h 53 0 := hf11 53 0 rfl
  have t54 : H6 1 8 = h 1 8 := hf11 1 8 rfl
  have t55 : H6 53 2 = h 53 2 := hf11 53 2 rfl
  refine fz_pop rfl kLc27 rfl ?_
  refine fz_aload_n kLc27 rfl rfl ?_
  refine fz_aload_n kLc27 rfl rfl ?_
  refine fz_iload_n kLc27 rfl rfl ?_
  refine fz_iconst ⟨by decide, by decide⟩ kLc27 rfl ?_
  refine fz_iaddN kLc27 rfl (by omega) ?_
  refine fz_taldV (v := a1) kLc27 rfl ⟨by decide, by decide⟩ (by omega) (by rw [hf19 200 _ rfl]; omega) ((hf19 200 _ rfl).trans e2) ?_
  refine fz_aload_n kLc27 rfl rfl ?_
  refine fz_iload_n kLc27 rfl rfl ?_
  refine fz_iconst ⟨by decide, by decide⟩ kLc27 rfl ?_
  refine fz_iaddN kLc27 rfl (by omega) ?_
  refine fz_taldV (v := a3) kLc27 rfl ⟨by decide, by decide⟩ (by omega) (by rw [hf19 200 _ rfl]; omega) ((hf19 200 _ rfl).trans e4) ?_
  have hRPm56 : fl_RPm H6 := by first | exact fl_RPm_eq (funext fun s => hf11 61 s rfl) (hf11 53 10 rfl) (hf11 53 0 rfl) (fl_RPm_of hRL hRP2 hr3.symm hr0.symm) | exact fl_RPm_of hRL hRP2 hr3.symm hr0.symm
  refine fz_callV (d' := 5) (M' := mX11_walk) (As := [fz_i a1, fz_i a3]) (st := []) kLc27 rfl rfl vX11_walk rfl rfl rfl rfl (Nat.le_of_ble_eq_true rfl) (Nat.le_of_ble_eq_true rfl) (by decide) (sX11_walk H6 hI10 a1 a3 hXw22 hRM38 hRPm56) (fun H58 r59 q60 o61 => ?_)
  obtain ⟨hI62, hf63, hXw64, hRM65, hRPm66, y70, rfl, f67, f68, f69⟩ := q60
  clear o61
  have hf71 := fz_fr_tr hf19 hf63 (fz_su_all rfl)
  have hXd72 : fz_Xd H58 := fz_Xd_eq (funext fun s => hf63 80 s rfl) hXd20
  have hXh73 : fz_Xh H58 := fz_Xh_eq (funext fun s => hf63 83 s rfl) hXh21
  have hRS74 : fz_RS H58 := fz_RS_eq (funext fun s => hf63 48 s rfl) (funext fun s => hf63 49 s rfl) (funext fun s => hf63 50 s rfl) (funext fun s => hf63 51 s rfl) (funext fun s => hf63 83 s rfl) (funext fun s => hf63 84 s rfl) (hf63 44 2 rfl) hRS23
  have hRP75 : fz_RP H58 := fz_RP_eq (funext fun s => hf63 52 s rfl) (funext fun s => hf63 85 s rfl) hRP24
  have hRK76 : fz_RK H58 := fz_RK_eq (funext fun s => hf63 45 s rfl) (funext fun s => hf63 81 s rfl) hRK25
  have hRR77 : fz_RR H58 := fz_RR_eq (hf63 44 3 rfl) (hf63 53 46 rfl) (funext fun s => hf63 46 s rfl) (funext fun s => hf63 82 s rfl) hRR26
  have hRT78 : fz_RT H58 := fz_RT_eq (funext fun s => hf63 41 s rfl) (funext fun s => hf63 42 s rfl) (hf63 1 7 rfl) hRT12
  have hRE79 : fz_RE H58 := fz_RE_eq (funext fun s => hf63 5 s rfl) (funext fun s => hf63 6 s rfl) (hf63 1 8 rfl) (hf63 1 7 rfl) hRE13
  have hR280 : fz_R2 H58 := fz_R2_eq (funext fun s => hf63 2 s rfl) (funext fun s => hf63 54 s rfl) hR227
  have hR381 : fz_R3 H58 := fz_R3_eq (funext fun s => hf63 3 s rfl) (funext fun s => hf63 57 s rfl) hR328
  have hR482 : fz_R4 H58 := fz_R4_eq (funext fun s => hf63 4 s rfl) (funext fun s => hf63 58 s rfl) hR429
  have hR2883 : fz_R28 H58 := fz_R28_eq (funext fun s => hf63 28 s rfl) (funext fun s => hf63 59 s rfl) hR2830
  have hR584 : fz_R5 H58 := fz_R5_eq (funext fun s => hf63 5 s rfl) (funext fun s => hf63 55 s rfl) hR531
  have hR685 : fz_R6 H58 := fz_R6_eq (funext fun s => hf63 6 s rfl) (funext fun s => hf63 56 s rfl) hR632
  have hRG86 : fz_RG H58 := fz_RG_eq (hf63 27 8 rfl) (hf63 27 9 rfl) (hf63 53 8 rfl) (hf63 53 9 rfl) hRG33
  have hRL87 : fz_RL H58 := fz_RL_eq (funext fun s => hf63 11 s rfl) (funext fun s => hf63 12 s rfl) (funext fun s => hf63 13 s rfl) (funext fun s => hf63 14 s rfl) (funext fun s => hf63 61 s rfl) (funext fun s => hf63 62 s rfl) (funext fun s => hf63 63 s rfl) (funext fun s => hf63 64 s rfl) (hf63 9 5 rfl) hRL34
  have hRC88 : fz_RC H58 := fz_RC_eq (hf63 35 4 rfl) (hf63 35 5 rfl) (hf63 53 41 rfl) (hf63 53 42 rfl) (funext fun s => hf63 36 s rfl) (funext fun s => hf63 37 s rfl) (funext fun s => hf63 38 s rfl) (funext fun s => hf63 39 s rfl) (funext fun s => hf63 80 s rfl) (hf63 1 7 rfl) (hf63 1 8 rfl) (hf63 9 5 rfl) hRC35
  have hRW89 : fz_RW H58 := fz_RW_eq (funext fun s => hf63 10 s rfl) (funext fun s => hf63 60 s rfl) (hf63 9 5 rfl) hRW36
  have hRV90 : fz_RV H58 := fz_RV_eq (funext fun s => hf63 7 s rfl) (funext fun s => hf63 8 s rfl) (funext fun s => hf63 3 s rfl) (funext fun s => hf63 4 s rfl) (funext fun s => hf63 5 s rfl) (funext fun s => hf63 6 s rfl) (hf63 1 7 rfl) (hf63 1 8 rfl) hRV37
  have hRP291 : fz_RP2 H58 := fz_RP2_eq (funext fun s => hf63 11 s rfl) (hf63 9 5 rfl) (hf63 1 7 rfl) hRP239
  have hRA92 : fl_RA H58 := fl_RA_eq (funext fun s => hf63 26 s rfl) (funext fun s => hf63 65 s rfl) (hf63 20 2 rfl) hRA40
  have hRU93 : fl_RU H58 := fl_RU_eq (hf63 15 4 rfl) (funext fun s => hf63 16 s rfl) (funext fun s => hf63 17 s rfl) (hf63 53 18 rfl) (hf63 53 19 rfl) (funext fun s => hf63 66 s rfl) (funext fun s => hf63 67 s rfl) (funext fun s => hf63 68 s rfl) (funext fun s => hf63 69 s rfl) hRU41
  have hX94 : fz_Xc H58 := fz_Xc_fr hf63 rfl hX42
  have t95 : H58 53 10 = H6 53 10 := hf63 53 10 rfl
  have t96 : H58 53 41 = H6 53 41 := hf63 53 41 rfl
  have t97 : H58 53 42 = H6 53 42 := hf63 53 42 rfl
  have t98 : H58 9 5 = H6 9 5 := hf63 9 5 rfl
  have t99 : H58 53 10 = H6 53 10 := hf63 53 10 rfl
  have t100 : H58 44 2 = H6 44 2 := hf63 44 2 rfl
  have t101 : H58 53 44 = H6 53 44 := hf63 53 44 rfl
  have t102 : H58 20 2 = H6 20 2 := hf63 20 2 rfl
  have t103 : H58 53 16 = H6 53 16 := hf63 53 16 rfl
  have t104 : H58 1 7 = H6 1 7 := hf63 1 7 rfl
  have t105 : H58 53 0 = H6 53 0 := hf63 53 0 rfl
  have t106 : H58 1 8 = H6 1 8 := hf63 1 8 rfl
  have t107 : H58 53 2 = H6 53 2 := hf63 53 2 rfl
  refine fz_pop rfl kLc27 rfl ?_
  refine fz_goto (tgt := 1817) kLc27 rfl (by decide) ?_
  have k108 := fz_walk_rel hRJ hR5 hR6 hR3 f15 f68 hr4 (hI.1 53 _).2 (fz_fr_lo hf11 rfl) (hf63 40 1 rfl) (funext fun s => hf63 41 s rfl) ((hf63 40 6 rfl).trans (hf11 40 6 rfl)) (funext fun s => (hf63 42 s rfl).trans (hf11 42 s rfl)) ((hf63 43 0 rfl).trans (hf11 43 0 rfl)) ((hf63 53 37 rfl).trans (hf11 53 37 rfl)) (funext fun s => (hf63 78 s rfl).trans (hf11 78 s rfl)) ((hf63 53 38 rfl).trans (hf11 53 38 rfl))
  have hRJ110 : fz_RJ H58 := k108.2
  have k112 : fl_Rl h := ⟨hRU, hRV, hR5, hR6, hR3, hR4, hR2, hRL, hRP2, hRW, hr4.symm, hr3.symm, hr0.symm, fun q => (hI.1 11 q).1, fun q => (hI.1 12 q).1, fun q => (hI.1 2 q).1⟩
  have hRD114 : fl_RD H58 := fl_wd_rel k112 hRD hRJ hR3 hRG f17 f69 k108.1 f16 (fz_fr_lo hf11 rfl) (fun s _ => hf63 40 s rfl) ((hf63 40 5 rfl).trans (hf11 40 5 rfl)) ((hf63 43 1 rfl).trans (hf11 43 1 rfl)) ((hf63 43 2 rfl).trans (hf11 43 2 rfl)) ((hf63 43 3 rfl).trans (hf11 43 3 rfl)) ((hf63 43 4 rfl).trans (hf11 43 4 rfl)) (funext fun s => (hf63 79 s rfl).trans (hf11 79 s rfl))
  exact K H58 ⟨hI62, hX94, hXd72, hXh73, hXw64, (by rw [((hf63 53 10 rfl).trans (hf11 53 10 rfl))]; exact hv1), (by rw [((hf63 53 42 rfl).trans (hf11 53 42 rfl)), ((hf63 53 41 rfl).trans (hf11 53 41 rfl))]; exact hv2), (((hf63 9 5 rfl).trans (hf11 9 5 rfl)).trans (hr0.trans ((hf63 53 10 rfl).trans (hf11 53 10 rfl)).symm)), (((hf63 44 2 rfl).trans (hf11 44 2 rfl)).trans (hr1.trans ((hf63 53 44 rfl).trans (hf11 53 44 rfl)).symm)), (((hf63 20 2 rfl).trans (hf11 20 2 rfl)).trans (hr2.trans ((hf63 53 16 rfl).trans (hf11 53 16 rfl)).symm)), (((hf63 1 7 rfl).trans (hf11 1 7 rfl)).trans (hr3.trans ((hf63 53 0 rfl).trans (hf11 53 0 rfl)).symm)), (((hf63 1 8 rfl).trans (hf11 1 8 rfl)).trans (hr4.trans ((hf63 53 2 rfl).trans (hf11 53 2 rfl)).symm)), hRS74, hRP75, hRK76, hRR77, hRT78, hRE79, hR280, hR381, hR482, hR2883, hR584, hR685, hRG86, hRL87, hRC88, hRJ110, hRW89, hRV90, hRM65, hRP291, hRA92, hRU93, hRD114⟩ (funext fun s => hf71 200 s rfl)
def mLc28 : fz_M := (yL_law, code, 4, (some .boolean), [(1319, .aload_n 1, 1, 0, 0, 0), (1320, .aload_n 0, 1, 0, 0, 0), (1321, .iload_n 3, 1, 0, 0, 0), (1322, .iconst 1, 1, 0, 0, 0), (1323, .iadd, 1, 0, 0, 0), (1324, .iaload, 1, 0, 0, 0), (1325, .aload_n 0, 1, 0, 0, 0), (1326, .iload_n 3, 1, 0, 0, 0), (1327, .iconst 2, 1, 0, 0, 0), (1328, .iadd, 1, 0, 0, 0), (1329, .iaload, 1, 0, 0, 0), (1330, .invokevirtual 131, 3, 4167, 27, 0), (1333, .pop, 1, 0, 0, 0), (1334, .aload_n 2, 1, 0, 0, 0), (1335, .aload_n 0, 1, 0, 0, 0), (1336, .iload_n 3, 1, 0, 0, 0), (1337, .iconst 1, 1, 0, 0, 0), (1338, .iadd, 1, 0, 0, 0), (1339, .iaload, 1, 0, 0, 0), (1340, .aload_n 0, 1, 0, 0, 0), (1341, .iload_n 3, 1, 0, 0, 0), (1342, .iconst 2, 1, 0, 0, 0), (1343, .iadd, 1, 0, 0, 0), (1344, .iaload, 1, 0, 0, 0), (1345, .invokevirtual 134, 3, 7117, 96, 0), (1348, .pop, 1, 0, 0, 0), (1349, .goto 468, 3, 0, 0, 0)])
set_option maxRecDepth 100000 in
theorem kLc28 : fz_okM mLc28 = true := fz_okM_in (by decide +kernel) (by decide +kernel)
set_option maxHeartbeats 1000000 in
set_option maxRecDepth 100000 in
theorem lc28 (h : fz_H) (hI : fz_Iv h) (hX : fz_Xc h) (hXd : fz_Xd h) (hXh : fz_Xh h) (hXw : fz_Xw h) (hv1 : h 53 10 ≤ 10) (hv2 : h 53 42 ≤ h 53 41) (hr0 : h 9 5 = h 53 10) (hr1 : h 44 2 = h 53 44) (hr2 : h 20 2 = h 53 16) (hr3 : h 1 7 = h 53 0) (hr4 : h 1 8 = h 53 2) (hRS : fz_RS h) (hRP : fz_RP h) (hRK : fz_RK h) (hRR : fz_RR h) (hRT : fz_RT h) (hRE : fz_RE h) (hR2 : fz_R2 h) (hR3 : fz_R3 h) (hR4 : fz_R4 h) (hR28 : fz_R28 h) (hR5 : fz_R5 h) (hR6 : fz_R6 h) (hRG : fz_RG h) (hRL : fz_RL h) (hRC : fz_RC h) (hRJ : fz_RJ h) (hRW : fz_RW h) (hRV : fz_RV h) (hRM : fz_RM h) (hRP2 : fz_RP2 h) (hRA : fz_RA h) (hRU : fz_RU h) (hRD : fz_RD h) (i : Int) (hi : 0 ≤ i ∧ i + 6 ≤ h 200 100000 ∧ h 200 100000 ≤ 3072) {Q : fz_H → Option fz_V → Prop} (K : ∀ H : fz_H, fz_Gd H → H 200 = h 200 → fz_R 47 mLe 1817 [(3, fz_i i), (0, fz_r 200), (1, fz_r 0), (2, fz_r 53)] [] H Q) : fz_R 47 mLc28 1319 [(3, fz_i i), (0, fz_r 200), (1, fz_r 0), (2, fz_r 53)] [] h Q := by
  have hf : fz_fr fz_all h h := fz_fr_rf
  refine fz_aload_n kLc28 rfl rfl ?_
  refine fz_aload_n kLc28 rfl rfl ?_
  refine fz_iload_n kLc28 rfl rfl ?_
  refine fz_iconst ⟨by decide, by decide⟩ kLc28 rfl ?_
  refine fz_iaddN kLc28 rfl (by omega) ?_
  obtain ⟨a1, e2⟩ : ∃ z, h 200 ((i + 1)).toNat = z := ⟨_, rfl⟩
  refine fz_taldV (v := a1) kLc28 rfl ⟨by decide, by decide⟩ (by omega) (by omega) e2 ?_
  refine fz_aload_n kLc28 rfl rfl ?_
  refine fz_iload_n kLc28 rfl rfl ?_
  refine fz_iconst ⟨by decide, by decide⟩ kLc28 rfl ?_
  refine fz_iaddN kLc28 rfl (by omega) ?_
  obtain ⟨a3, e4⟩ : ∃ z, h 200 ((i + 2)).toNat = z := ⟨_, rfl⟩
  refine fz_taldV (v := a3) kLc28 rfl ⟨by decide, by decide⟩ (by omega) (by omega) e4 ?_
  have b5 : 0 ≤ h 1 7 ∧ h 1 7 ≤ 8 := hI.1 1 _
  have b6 : 0 ≤ h 9 5 ∧ h 9 5 ≤ 10 := hI.1 9 _
  have b7 : 0 ≤ h 40 1 ∧ h 40 1 ≤ 999 := hI.1 40 _
  have b8 : (-2147483648) ≤ h 40 5 ∧ h 40 5 ≤ 2147483647 := hI.1 40 _
  refine fz_callV (d' := 2) (M' := mX10_does) (As := [fz_i a1, fz_i a3]) (st := []) kLc28 rfl rfl vX10_does rfl rfl rfl rfl (Nat.le_of_ble_eq_true rfl) (Nat.le_of_ble_eq_true rfl) (by decide) (sX10_does h hI a1 a3 ) (fun H9 r10 q11 o12 => ?_)
  obtain ⟨hI13, hf14, y19, rfl, f15, f16, f17, f18⟩ := q11
  clear o12
  have hf20 := fz_fr_tr hf hf14 (fz_su_all rfl)
  have hXd21 : fz_Xd H9 := fz_Xd_eq (funext fun s => hf14 80 s rfl) hXd
  have hXh22 : fz_Xh H9 := fz_Xh_eq (funext fun s => hf14 83 s rfl) hXh
  have hXw23 : fz_Xw H9 := fz_Xw_eq (hf14 53 19 rfl) (funext fun s => hf14 66 s rfl) (funext fun s => hf14 67 s rfl) (funext fun s => hf14 68 s rfl) (funext fun s => hf14 69 s rfl) hXw
  have hRS24 : fz_RS H9 := fz_RS_eq (funext fun s => hf14 48 s rfl) (funext fun s => hf14 49 s rfl) (funext fun s => hf14 50 s rfl) (funext fun s => hf14 51 s rfl) (funext fun s => hf14 83 s rfl) (funext fun s => hf14 84 s rfl) (hf14 44 2 rfl) hRS
  have hRP25 : fz_RP H9 := fz_RP_eq (funext fun s => hf14 52 s rfl) (funext fun s => hf14 85 s rfl) hRP
  have hRK26 : fz_RK H9 := fz_RK_eq (funext fun s => hf14 45 s rfl) (funext fun s => hf14 81 s rfl) hRK
  have hRR27 : fz_RR H9 := fz_RR_eq (hf14 44 3 rfl) (hf14 53 46 rfl) (funext fun s => hf14 46 s rfl) (funext fun s => hf14 82 s rfl) hRR
  have hRT28 : fz_RT H9 := fz_RT_eq (funext fun s => hf14 41 s rfl) (funext fun s => hf14 42 s rfl) (hf14 1 7 rfl) hRT
  have hRE29 : fz_RE H9 := fz_RE_eq (funext fun s => hf14 5 s rfl) (funext fun s => hf14 6 s rfl) (hf14 1 8 rfl) (hf14 1 7 rfl) hRE
  have hR230 : fz_R2 H9 := fz_R2_eq (funext fun s => hf14 2 s rfl) (funext fun s => hf14 54 s rfl) hR2
  have hR331 : fz_R3 H9 := fz_R3_eq (funext fun s => hf14 3 s rfl) (funext fun s => hf14 57 s rfl) hR3
  have hR432 : fz_R4 H9 := fz_R4_eq (funext fun s => hf14 4 s rfl) (funext fun s => hf14 58 s rfl) hR4
  have hR2833 : fz_R28 H9 := fz_R28_eq (funext fun s => hf14 28 s rfl) (funext fun s => hf14 59 s rfl) hR28
  have hR534 : fz_R5 H9 := fz_R5_eq (funext fun s => hf14 5 s rfl) (funext fun s => hf14 55 s rfl) hR5
  have hR635 : fz_R6 H9 := fz_R6_eq (funext fun s => hf14 6 s rfl) (funext fun s => hf14 56 s rfl) hR6
  have hRG36 : fz_RG H9 := fz_RG_eq (hf14 27 8 rfl) (hf14 27 9 rfl) (hf14 53 8 rfl) (hf14 53 9 rfl) hRG
  have hRJ37 : fz_RJ H9 := fz_RJ_eq (hf14 40 1 rfl) (hf14 53 34 rfl) (funext fun s => hf14 41 s rfl) (funext fun s => hf14 76 s rfl) (hf14 40 6 rfl) (hf14 53 37 rfl) (funext fun s => hf14 42 s rfl) (funext fun s => hf14 78 s rfl) (hf14 43 0 rfl) (hf14 53 38 rfl) hRJ
  have hRV38 : fz_RV H9 := fz_RV_eq (funext fun s => hf14 7 s rfl) (funext fun s => hf14 8 s rfl) (funext fun s => hf14 3 s rfl) (funext fun s => hf14 4 s rfl) (funext fun s => hf14 5 s rfl) (funext fun s => hf14 6 s rfl) (hf14 1 7 rfl) (hf14 1 8 rfl) hRV
  have hRM39 : fz_RM H9 := fz_RM_eq (funext fun s => hf14 55 s rfl) (funext fun s => hf14 56 s rfl) (hf14 53 0 rfl) (hf14 53 2 rfl) hRM
  have hRA40 : fl_RA H9 := fl_RA_eq (funext fun s => hf14 26 s rfl) (funext fun s => hf14 65 s rfl) (hf14 20 2 rfl) hRA
  have hRU41 : fl_RU H9 := fl_RU_eq (hf14 15 4 rfl) (funext fun s => hf14 16 s rfl) (funext fun s => hf14 17 s rfl) (hf14 53 18 rfl) (hf14 53 19 rfl) (funext fun s => hf14 66 s rfl) (funext fun s => hf14 67 s rfl) (funext fun s => hf14 68 s rfl) (funext fun s => hf14 69 s rfl) hRU
  have hX42 : fz_Xc H9 := fz_Xc_fr hf14 rfl hX
  have t43 : H9 53 10 = h 53 10 := hf14 53 10 rfl
  have t44 : H9 53 41 = h 53 41 := hf14 53 41 rfl
  have t45 : H9 53 42 = h 53 42 := hf14 53 42 rfl
  have t46 : H9 53 10 = h 53 10 := hf14 53 10 rfl
  have t47 : H9 44 2 = h 44 2 := hf14 44 2 rfl
  have t48 : H9 53 44 = h 53 44 := hf14 53 44 rfl
  have t49 : H9 20 2 = h 20 2 := hf14 20 2 rfl
  have t50 : H9 53 16 = h 53 16 := hf14 53 16 rfl
  have t51 : H9 1 7 = h 1 7 := hf14 1 7 rfl
  have t52 : H9 53 0 = h 53 0 := hf14 53 0 rfl
  have t53 : H9 1 8 = h 1 8 := hf14 1 8 rfl
  have t54 : H9 53 2 = h 53 2 := hf14 53 2 rfl
  refine fz_pop rfl kLc28 rfl ?_
  refine fz_aload_n kLc28 rfl rfl ?_
  refine fz_aload_n kLc28 rfl rfl ?_
  refine fz_iload_n kLc28 rfl rfl ?_
  refine fz_iconst ⟨by decide, by decide⟩ kLc28 rfl ?_
  refine fz_iaddN kLc28 rfl (by omega) ?_
  refine fz_taldV (v := a1) kLc28 rfl ⟨by decide, by decide⟩ (by omega) (by rw [hf20 200 _ rfl]; omega) ((hf20 200 _ rfl).trans e2) ?_
  refine fz_aload_n kLc28 rfl rfl ?_
  refine fz_iload_n kLc28 rfl rfl ?_
  refine fz_iconst ⟨by decide, by decide⟩ kLc28 rfl ?_
  refine fz_iaddN kLc28 rfl (by omega) ?_
  refine fz_taldV (v := a3) kLc28 rfl ⟨by decide, by decide⟩ (by omega) (by rw [hf20 200 _ rfl]; omega) ((hf20 200 _ rfl).trans e4) ?_
  have b55 : 0 ≤ H9 53 10 ∧ H9 53 10 ≤ 11 := hI13.1 53 _
  have b56 : 0 ≤ H9 53 0 ∧ H9 53 0 ≤ 8 := hI13.1 53 _
  have b57 : 0 ≤ H9 53 34 ∧ H9 53 34 ≤ 999 := hI13.1 53 _
  refine fz_callV (d' := 3) (M' := mX11_does) (As := [fz_i a1, fz_i a3]) (st := []) kLc28 rfl rfl vX11_does rfl rfl rfl rfl (Nat.le_of_ble_eq_true rfl) (Nat.le_of_ble_eq_true rfl) (by decide) (sX11_does H9 hI13 a1 a3 (by omega)) (fun H58 r59 q60 o61 => ?_)
  obtain ⟨hI62, hf63, y69, rfl, f64, f65, f66, f67, f68⟩ := q60
  clear o61
  have hf70 := fz_fr_tr hf20 hf63 (fz_su_all rfl)
  have hXd71 : fz_Xd H58 := fz_Xd_eq (funext fun s => hf63 80 s rfl) hXd21
  have hXh72 : fz_Xh H58 := fz_Xh_eq (funext fun s => hf63 83 s rfl) hXh22
  have hXw73 : fz_Xw H58 := fz_Xw_eq (hf63 53 19 rfl) (funext fun s => hf63 66 s rfl) (funext fun s => hf63 67 s rfl) (funext fun s => hf63 68 s rfl) (funext fun s => hf63 69 s rfl) hXw23
  have hRS74 : fz_RS H58 := fz_RS_eq (funext fun s => hf63 48 s rfl) (funext fun s => hf63 49 s rfl) (funext fun s => hf63 50 s rfl) (funext fun s => hf63 51 s rfl) (funext fun s => hf63 83 s rfl) (funext fun s => hf63 84 s rfl) (hf63 44 2 rfl) hRS24
  have hRP75 : fz_RP H58 := fz_RP_eq (funext fun s => hf63 52 s rfl) (funext fun s => hf63 85 s rfl) hRP25
  have hRK76 : fz_RK H58 := fz_RK_eq (funext fun s => hf63 45 s rfl) (funext fun s => hf63 81 s rfl) hRK26
  have hRR77 : fz_RR H58 := fz_RR_eq (hf63 44 3 rfl) (hf63 53 46 rfl) (funext fun s => hf63 46 s rfl) (funext fun s => hf63 82 s rfl) hRR27
  have hRT78 : fz_RT H58 := fz_RT_eq (funext fun s => hf63 41 s rfl) (funext fun s => hf63 42 s rfl) (hf63 1 7 rfl) hRT28
  have hRE79 : fz_RE H58 := fz_RE_eq (funext fun s => hf63 5 s rfl) (funext fun s => hf63 6 s rfl) (hf63 1 8 rfl) (hf63 1 7 rfl) hRE29
  have hR280 : fz_R2 H58 := fz_R2_eq (funext fun s => hf63 2 s rfl) (funext fun s => hf63 54 s rfl) hR230
  have hR381 : fz_R3 H58 := fz_R3_eq (funext fun s => hf63 3 s rfl) (funext fun s => hf63 57 s rfl) hR331
  have hR482 : fz_R4 H58 := fz_R4_eq (funext fun s => hf63 4 s rfl) (funext fun s => hf63 58 s rfl) hR432
  have hR2883 : fz_R28 H58 := fz_R28_eq (funext fun s => hf63 28 s rfl) (funext fun s => hf63 59 s rfl) hR2833
  have hR584 : fz_R5 H58 := fz_R5_eq (funext fun s => hf63 5 s rfl) (funext fun s => hf63 55 s rfl) hR534
  have hR685 : fz_R6 H58 := fz_R6_eq (funext fun s => hf63 6 s rfl) (funext fun s => hf63 56 s rfl) hR635
  have hRG86 : fz_RG H58 := fz_RG_eq (hf63 27 8 rfl) (hf63 27 9 rfl) (hf63 53 8 rfl) (hf63 53 9 rfl) hRG36
  have hRJ87 : fz_RJ H58 := fz_RJ_eq (hf63 40 1 rfl) (hf63 53 34 rfl) (funext fun s => hf63 41 s rfl) (funext fun s => hf63 76 s rfl) (hf63 40 6 rfl) (hf63 53 37 rfl) (funext fun s => hf63 42 s rfl) (funext fun s => hf63 78 s rfl) (hf63 43 0 rfl) (hf63 53 38 rfl) hRJ37
  have hRV88 : fz_RV H58 := fz_RV_eq (funext fun s => hf63 7 s rfl) (funext fun s => hf63 8 s rfl) (funext fun s => hf63 3 s rfl) (funext fun s => hf63 4 s rfl) (funext fun s => hf63 5 s rfl) (funext fun s => hf63 6 s rfl) (hf63 1 7 rfl) (hf63 1 8 rfl) hRV38
  have hRM89 : fz_RM H58 := fz_RM_eq (funext fun s => hf63 55 s rfl) (funext fun s => hf63 56 s rfl) (hf63 53 0 rfl) (hf63 53 2 rfl) hRM39
  have hRA90 : fl_RA H58 := fl_RA_eq (funext fun s => hf63 26 s rfl) (funext fun s => hf63 65 s rfl) (hf63 20 2 rfl) hRA40
  have hRU91 : fl_RU H58 := fl_RU_eq (hf63 15 4 rfl) (funext fun s => hf63 16 s rfl) (funext fun s => hf63 17 s rfl) (hf63 53 18 rfl) (hf63 53 19 rfl) (funext fun s => hf63 66 s rfl) (funext fun s => hf63 67 s rfl) (funext fun s => hf63 68 s rfl) (funext fun s => hf63 69 s rfl) hRU41
  have hX92 : fz_Xc H58 := fz_Xc_fr hf63 rfl hX42
  have t93 : H58 53 41 = H9 53 41 := hf63 53 41 rfl
  have t94 : H58 53 42 = H9 53 42 := hf63 53 42 rfl
  have t95 : H58 9 5 = H9 9 5 := hf63 9 5 rfl
  have t96 : H58 44 2 = H9 44 2 := hf63 44 2 rfl
  have t97 : H58 53 44 = H9 53 44 := hf63 53 44 rfl
  have t98 : H58 20 2 = H9 20 2 := hf63 20 2 rfl
  have t99 : H58 53 16 = H9 53 16 := hf63 53 16 rfl
  have t100 : H58 1 7 = H9 1 7 := hf63 1 7 rfl
  have t101 : H58 53 0 = H9 53 0 := hf63 53 0 rfl
  have t102 : H58 1 8 = H9 1 8 := hf63 1 8 rfl
  have t103 : H58 53 2 = H9 53 2 := hf63 53 2 rfl
  refine fz_pop rfl kLc28 rfl ?_
  refine fz_goto (tgt := 1817) kLc28 rfl (by decide) ?_
  have k104 : 0 ≤ a1 ∧ a1 ≤ 39 → _ := fun z => fz_RT_i hRT (x := a1 / 10) (by omega)
  have k105 : 0 ≤ h 41 (a1 / 10).toNat ∧ h 41 (a1 / 10).toNat ≤ 7 := hI.1 41 _
  have hRL106 : fz_RL H58 := fz_RL_ap hRL f17 f67 (by omega) ⟨(funext fun s => hf14 61 s rfl), (funext fun s => hf14 62 s rfl), (funext fun s => hf14 63 s rfl), (funext fun s => hf14 64 s rfl)⟩ ⟨(funext fun s => hf63 11 s rfl), (funext fun s => hf63 12 s rfl), (funext fun s => hf63 13 s rfl), (funext fun s => hf63 14 s rfl)⟩ (by omega) (by omega) (show 0 ≤ h 9 5 from (hI.1 9 _).1) (fun _ _ _ => fz_doe (show h 41 _ = H9 76 _ from congrFun (hRJ.2.1.trans (funext fun s => hf14 76 s rfl).symm) _) (show h 40 1 = H9 53 34 from hRJ.1.trans (hf14 53 34 rfl).symm))
  have hRW108 : fz_RW H58 := fz_RW_ap hRW f17 f67 (by omega) (funext fun s => hf14 60 s rfl) (funext fun s => hf63 10 s rfl) (by omega) (by omega) (show 0 ≤ h 9 5 from (hI.1 9 _).1) (fun _ _ _ => fz_doe (show h 41 _ = H9 76 _ from congrFun (hRJ.2.1.trans (funext fun s => hf14 76 s rfl).symm) _) (show h 40 1 = H9 53 34 from hRJ.1.trans (hf14 53 34 rfl).symm))
  have hRC110 : fz_RC H58 := fz_RC_t ((hf63 35 4 rfl).trans (hf14 35 4 rfl)) ((hf63 35 5 rfl).trans (hf14 35 5 rfl)) ((hf63 53 41 rfl).trans (hf14 53 41 rfl)) ((hf63 53 42 rfl).trans (hf14 53 42 rfl)) (funext fun s => (hf63 36 s rfl).trans (hf14 36 s rfl)) (funext fun s => (hf63 37 s rfl).trans (hf14 37 s rfl)) (funext fun s => (hf63 38 s rfl).trans (hf14 38 s rfl)) (funext fun s => (hf63 39 s rfl).trans (hf14 39 s rfl)) (funext fun s => (hf63 80 s rfl).trans (hf14 80 s rfl)) (by omega) (by omega) (by omega) hRC
  have hRP2112 : fz_RP2 H58 := fz_RP2_ap hRP2 f17 (funext fun s => hf63 11 s rfl) (by omega) (by omega) (show 0 ≤ h 9 5 from (hI.1 9 _).1) (fun k a b => (show h 41 (a1 / 10).toNat < h 1 7 by omega))
  have hRD114 : fl_RD H58 := fl_dd_rel hRD f18 f68 (by omega) (fz_fr_lo hf14 rfl) ((hf63 40 2 rfl).trans (hf14 40 2 rfl)) ((hf63 40 3 rfl).trans (hf14 40 3 rfl)) ((hf63 40 4 rfl).trans (hf14 40 4 rfl)) (hf63 40 5 rfl) ((hf63 43 1 rfl).trans (hf14 43 1 rfl)) ((hf63 43 2 rfl).trans (hf14 43 2 rfl)) ((hf63 43 3 rfl).trans (hf14 43 3 rfl)) ((hf63 43 4 rfl).trans (hf14 43 4 rfl)) (funext fun s => (hf63 79 s rfl).trans (hf14 79 s rfl))
  exact K H58 ⟨hI62, hX92, hXd71, hXh72, hXw73, by omega, (by rw [((hf63 53 42 rfl).trans (hf14 53 42 rfl)), ((hf63 53 41 rfl).trans (hf14 53 41 rfl))]; exact hv2), by omega, (((hf63 44 2 rfl).trans (hf14 44 2 rfl)).trans (hr1.trans ((hf63 53 44 rfl).trans (hf14 53 44 rfl)).symm)), (((hf63 20 2 rfl).trans (hf14 20 2 rfl)).trans (hr2.trans ((hf63 53 16 rfl).trans (hf14 53 16 rfl)).symm)), (((hf63 1 7 rfl).trans (hf14 1 7 rfl)).trans (hr3.trans ((hf63 53 0 rfl).trans (hf14 53 0 rfl)).symm)), (((hf63 1 8 rfl).trans (hf14 1 8 rfl)).trans (hr4.trans ((hf63 53 2 rfl).trans (hf14 53 2 rfl)).symm)), hRS74, hRP75, hRK76, hRR77, hRT78, hRE79, hR280, hR381, hR482, hR2883, hR584, hR685, hRG86, hRL106, hRC110, hRJ87, hRW108, hRV88, hRM89, hRP2112, hRA90, hRU91, hRD114⟩ (funext fun s => hf70 200 s rfl)
def mLc29 : fz_M := (yL_law, code, 4, (some .boolean), [(1352, .aload_n 1, 1, 0, 0, 0), (1353, .aload_n 0, 1, 0, 0, 0), (1354, .iload_n 3, 1, 0, 0, 0), (1355, .iconst 1, 1, 0, 0, 0), (1356, .iadd, 1, 0, 0, 0), (1357, .iaload, 1, 0, 0, 0), (1358, .invokevirtual 135, 3, 4171, 54, 0), (1361, .pop, 1, 0, 0, 0), (1362, .aload_n 2, 1, 0, 0, 0), (1363, .aload_n 0, 1, 0, 0, 0), (1364, .iload_n 3, 1, 0, 0, 0), (1365, .iconst 1, 1, 0, 0, 0), (1366, .iadd, 1, 0, 0, 0), (1367, .iaload, 1, 0, 0, 0), (1368, .invokevirtual 138, 3, 7121, 146, 0), (1371, .pop, 1, 0, 0, 0), (1372, .goto 445, 3, 0, 0, 0)])
set_option maxRecDepth 100000 in
theorem kLc29 : fz_okM mLc29 = true := fz_okM_in (by decide +kernel) (by decide +kernel)
set_option maxHeartbeats 1000000 in
set_option maxRecDepth 100000 in
theorem lc29 (h : fz_H) (hI : fz_Iv h) (hX : fz_Xc h) (hXd : fz_Xd h) (hXh : fz_Xh h) (hXw : fz_Xw h) (hv1 : h 53 10 ≤ 10) (hv2 : h 53 42 ≤ h 53 41) (hr0 : h 9 5 = h 53 10) (hr1 : h 44 2 = h 53 44) (hr2 : h 20 2 = h 53 16) (hr3 : h 1 7 = h 53 0) (hr4 : h 1 8 = h 53 2) (hRS : fz_RS h) (hRP : fz_RP h) (hRK : fz_RK h) (hRR : fz_RR h) (hRT : fz_RT h) (hRE : fz_RE h) (hR2 : fz_R2 h) (hR3 : fz_R3 h) (hR4 : fz_R4 h) (hR28 : fz_R28 h) (hR5 : fz_R5 h) (hR6 : fz_R6 h) (hRG : fz_RG h) (hRL : fz_RL h) (hRC : fz_RC h) (hRJ : fz_RJ h) (hRW : fz_RW h) (hRV : fz_RV h) (hRM : fz_RM h) (hRP2 : fz_RP2 h) (hRA : fz_RA h) (hRU : fz_RU h) (hRD : fz_RD h) (i : Int) (hi : 0 ≤ i ∧ i + 6 ≤ h 200 100000 ∧ h 200 100000 ≤ 3072) {Q : fz_H → Option fz_V → Prop} (K : ∀ H : fz_H, fz_Gd H → H 200 = h 200 → fz_R 47 mLe 1817 [(3, fz_i i), (0, fz_r 200), (1, fz_r 0), (2, fz_r 53)] [] H Q) : fz_R 47 mLc29 1352 [(3, fz_i i), (0, fz_r 200), (1, fz_r 0), (2, fz_r 53)] [] h Q := by
  have hf : fz_fr fz_all h h := fz_fr_rf
  refine fz_aload_n kLc29 rfl rfl ?_
  refine fz_aload_n kLc29 rfl rfl ?_
  refine fz_iload_n kLc29 rfl rfl ?_
  refine fz_iconst ⟨by decide, by decide⟩ kLc29 rfl ?_
  refine fz_iaddN kLc29 rfl (by omega) ?_
  obtain ⟨a1, e2⟩ : ∃ z, h 200 ((i + 1)).toNat = z := ⟨_, rfl⟩
  refine fz_taldV (v := a1) kLc29 rfl ⟨by decide, by decide⟩ (by omega) (by omega) e2 ?_
  refine fz_callV (d' := 0) (M' := mX10_led) (As := [fz_i a1]) (st := []) kLc29 rfl rfl vX10_led rfl rfl rfl rfl (Nat.le_of_ble_eq_true rfl) (Nat.le_of_ble_eq_true rfl) (by decide) (sX10_led h hI a1 ) (fun H3 r4 q5 o6 => ?_)
  obtain ⟨e7, y10, rfl, f8, f9⟩ := q5
  subst H3
  clear o6
  refine fz_pop rfl kLc29 rfl ?_
  refine fz_aload_n kLc29 rfl rfl ?_
  refine fz_aload_n kLc29 rfl rfl ?_
  refine fz_iload_n kLc29 rfl rfl ?_
  refine fz_iconst ⟨by decide, by decide⟩ kLc29 rfl ?_
  refine fz_iaddN kLc29 rfl (by omega) ?_
  refine fz_taldV (v := a1) kLc29 rfl ⟨by decide, by decide⟩ (by omega) (by omega) e2 ?_
  refine fz_callV (d' := 1) (M' := mX11_led) (As := [fz_i a1]) (st := []) kLc29 rfl rfl vX11_led rfl rfl rfl rfl (Nat.le_of_ble_eq_true rfl) (Nat.le_of_ble_eq_true rfl) (by decide) (sX11_led h hI a1 ) (fun H11 r12 q13 o14 => ?_)
  obtain ⟨e15, y18, rfl, f16, f17⟩ := q13
  subst H11
  clear o14
  refine fz_pop rfl kLc29 rfl ?_
  refine fz_goto (tgt := 1817) kLc29 rfl (by decide) ?_
  exact K h ⟨hI, hX, hXd, hXh, hXw, hv1, hv2, hr0, hr1, hr2, hr3, hr4, hRS, hRP, hRK, hRR, hRT, hRE, hR2, hR3, hR4, hR28, hR5, hR6, hRG, hRL, hRC, hRJ, hRW, hRV, hRM, hRP2, hRA, hRU, hRD⟩ rfl
def mLc30 : fz_M := (yL_law, code, 4, (some .boolean), [(1375, .aload_n 1, 1, 0, 0, 0), (1376, .invokevirtual 139, 3, 4175, 39, 0), (1379, .pop, 1, 0, 0, 0), (1380, .aload_n 2, 1, 0, 0, 0), (1381, .invokevirtual 142, 3, 7125, 114, 0), (1384, .pop, 1, 0, 0, 0), (1385, .goto 432, 3, 0, 0, 0)])
set_option maxRecDepth 100000 in
theorem kLc30 : fz_okM mLc30 = true := fz_okM_in (by decide +kernel) (by decide +kernel)
set_option maxHeartbeats 1000000 in
set_option maxRecDepth 100000 in
theorem lc30 (h : fz_H) (hI : fz_Iv h) (hX : fz_Xc h) (hXd : fz_Xd h) (hXh : fz_Xh h) (hXw : fz_Xw h) (hv1 : h 53 10 ≤ 10) (hv2 : h 53 42 ≤ h 53 41) (hr0 : h 9 5 = h 53 10) (hr1 : h 44 2 = h 53 44) (hr2 : h 20 2 = h 53 16) (hr3 : h 1 7 = h 53 0) (hr4 : h 1 8 = h 53 2) (hRS : fz_RS h) (hRP : fz_RP h) (hRK : fz_RK h) (hRR : fz_RR h) (hRT : fz_RT h) (hRE : fz_RE h) (hR2 : fz_R2 h) (hR3 : fz_R3 h) (hR4 : fz_R4 h) (hR28 : fz_R28 h) (hR5 : fz_R5 h) (hR6 : fz_R6 h) (hRG : fz_RG h) (hRL : fz_RL h) (hRC : fz_RC h) (hRJ : fz_RJ h) (hRW : fz_RW h) (hRV : fz_RV h) (hRM : fz_RM h) (hRP2 : fz_RP2 h) (hRA : fz_RA h) (hRU : fz_RU h) (hRD : fz_RD h) (i : Int) (hi : 0 ≤ i ∧ i + 6 ≤ h 200 100000 ∧ h 200 100000 ≤ 3072) {Q : fz_H → Option fz_V → Prop} (K : ∀ H : fz_H, fz_Gd H → H 200 = h 200 → fz_R 47 mLe 1817 [(3, fz_i i), (0, fz_r 200), (1, fz_r 0), (2, fz_r 53)] [] H Q) : fz_R 47 mLc30 1375 [(3, fz_i i), (0, fz_r 200), (1, fz_r 0), (2, fz_r 53)] [] h Q := by
  have hf : fz_fr fz_all h h := fz_fr_rf
  refine fz_aload_n kLc30 rfl rfl ?_
  have b1 : 0 ≤ h 40 1 ∧ h 40 1 ≤ 999 := hI.1 40 _
  refine fz_callV (d' := 2) (M' := mX10_image) (As := []) (st := []) kLc30 rfl rfl vX10_image rfl rfl rfl rfl (Nat.le_of_ble_eq_true rfl) (Nat.le_of_ble_eq_true rfl) (by decide) (sX10_image h hI  hRT) (fun H2 r3 q4 o5 => ?_)
  obtain ⟨hI6, hf7, hRT8, y13, rfl, f9, f10, f11, f12⟩ := q4
  clear o5
  have hf14 := fz_fr_tr hf hf7 (fz_su_all rfl)
  have hXd15 : fz_Xd H2 := fz_Xd_eq (funext fun s => hf7 80 s rfl) hXd
  have hXh16 : fz_Xh H2 := fz_Xh_eq (funext fun s => hf7 83 s rfl) hXh
  have hXw17 : fz_Xw H2 := fz_Xw_eq (hf7 53 19 rfl) (funext fun s => hf7 66 s rfl) (funext fun s => hf7 67 s rfl) (funext fun s => hf7 68 s rfl) (funext fun s => hf7 69 s rfl) hXw
  have hRS18 : fz_RS H2 := fz_RS_eq (funext fun s => hf7 48 s rfl) (funext fun s => hf7 49 s rfl) (funext fun s => hf7 50 s rfl) (funext fun s => hf7 51 s rfl) (funext fun s => hf7 83 s rfl) (funext fun s => hf7 84 s rfl) (hf7 44 2 rfl) hRS
  have hRP19 : fz_RP H2 := fz_RP_eq (funext fun s => hf7 52 s rfl) (funext fun s => hf7 85 s rfl) hRP
  have hRK20 : fz_RK H2 := fz_RK_eq (funext fun s => hf7 45 s rfl) (funext fun s => hf7 81 s rfl) hRK
  have hRR21 : fz_RR H2 := fz_RR_eq (hf7 44 3 rfl) (hf7 53 46 rfl) (funext fun s => hf7 46 s rfl) (funext fun s => hf7 82 s rfl) hRR
  have hRE22 : fz_RE H2 := fz_RE_eq (funext fun s => hf7 5 s rfl) (funext fun s => hf7 6 s rfl) (hf7 1 8 rfl) (hf7 1 7 rfl) hRE
  have hR223 : fz_R2 H2 := fz_R2_eq (funext fun s => hf7 2 s rfl) (funext fun s => hf7 54 s rfl) hR2
  have hR324 : fz_R3 H2 := fz_R3_eq (funext fun s => hf7 3 s rfl) (funext fun s => hf7 57 s rfl) hR3
  have hR425 : fz_R4 H2 := fz_R4_eq (funext fun s => hf7 4 s rfl) (funext fun s => hf7 58 s rfl) hR4
  have hR2826 : fz_R28 H2 := fz_R28_eq (funext fun s => hf7 28 s rfl) (funext fun s => hf7 59 s rfl) hR28
  have hR527 : fz_R5 H2 := fz_R5_eq (funext fun s => hf7 5 s rfl) (funext fun s => hf7 55 s rfl) hR5
  have hR628 : fz_R6 H2 := fz_R6_eq (funext fun s => hf7 6 s rfl) (funext fun s => hf7 56 s rfl) hR6
  have hRG29 : fz_RG H2 := fz_RG_eq (hf7 27 8 rfl) (hf7 27 9 rfl) (hf7 53 8 rfl) (hf7 53 9 rfl) hRG
  have hRL30 : fz_RL H2 := fz_RL_eq (funext fun s => hf7 11 s rfl) (funext fun s => hf7 12 s rfl) (funext fun s => hf7 13 s rfl) (funext fun s => hf7 14 s rfl) (funext fun s => hf7 61 s rfl) (funext fun s => hf7 62 s rfl) (funext fun s => hf7 63 s rfl) (funext fun s => hf7 64 s rfl) (hf7 9 5 rfl) hRL
  have hRC31 : fz_RC H2 := fz_RC_eq (hf7 35 4 rfl) (hf7 35 5 rfl) (hf7 53 41 rfl) (hf7 53 42 rfl) (funext fun s => hf7 36 s rfl) (funext fun s => hf7 37 s rfl) (funext fun s => hf7 38 s rfl) (funext fun s => hf7 39 s rfl) (funext fun s => hf7 80 s rfl) (hf7 1 7 rfl) (hf7 1 8 rfl) (hf7 9 5 rfl) hRC
  have hRW32 : fz_RW H2 := fz_RW_eq (funext fun s => hf7 10 s rfl) (funext fun s => hf7 60 s rfl) (hf7 9 5 rfl) hRW
  have hRV33 : fz_RV H2 := fz_RV_eq (funext fun s => hf7 7 s rfl) (funext fun s => hf7 8 s rfl) (funext fun s => hf7 3 s rfl) (funext fun s => hf7 4 s rfl) (funext fun s => hf7 5 s rfl) (funext fun s => hf7 6 s rfl) (hf7 1 7 rfl) (hf7 1 8 rfl) hRV
  have hRM34 : fz_RM H2 := fz_RM_eq (funext fun s => hf7 55 s rfl) (funext fun s => hf7 56 s rfl) (hf7 53 0 rfl) (hf7 53 2 rfl) hRM
  have hRP235 : fz_RP2 H2 := fz_RP2_eq (funext fun s => hf7 11 s rfl) (hf7 9 5 rfl) (hf7 1 7 rfl) hRP2
  have hRA36 : fl_RA H2 := fl_RA_eq (funext fun s => hf7 26 s rfl) (funext fun s => hf7 65 s rfl) (hf7 20 2 rfl) hRA
  have hRU37 : fl_RU H2 := fl_RU_eq (hf7 15 4 rfl) (funext fun s => hf7 16 s rfl) (funext fun s => hf7 17 s rfl) (hf7 53 18 rfl) (hf7 53 19 rfl) (funext fun s => hf7 66 s rfl) (funext fun s => hf7 67 s rfl) (funext fun s => hf7 68 s rfl) (funext fun s => hf7 69 s rfl) hRU
  have hX38 : fz_Xc H2 := fz_Xc_fr hf7 rfl hX
  have t39 : H2 53 10 = h 53 10 := hf7 53 10 rfl
  have t40 : H2 53 41 = h 53 41 := hf7 53 41 rfl
  have t41 : H2 53 42 = h 53 42 := hf7 53 42 rfl
  have t42 : H2 9 5 = h 9 5 := hf7 9 5 rfl
  have t43 : H2 53 10 = h 53 10 := hf7 53 10 rfl
  have t44 : H2 44 2 = h 44 2 := hf7 44 2 rfl
  have t45 : H2 53 44 = h 53 44 := hf7 53 44 rfl
  have t46 : H2 20 2 = h 20 2 := hf7 20 2 rfl
  have t47 : H2 53 16 = h 53 16 := hf7 53 16 rfl
  have t48 : H2 1 7 = h 1 7 := hf7 1 7 rfl
  have t49 : H2 53 0 = h 53 0 := hf7 53 0 rfl
  have t50 : H2 1 8 = h 1 8 := hf7 1 8 rfl
  have t51 : H2 53 2 = h 53 2 := hf7 53 2 rfl
  refine fz_pop rfl kLc30 rfl ?_
  refine fz_aload_n kLc30 rfl rfl ?_
  have b52 : 0 ≤ H2 53 34 ∧ H2 53 34 ≤ 999 := hI6.1 53 _
  refine fz_callV (d' := 0) (M' := mX11_image) (As := []) (st := []) kLc30 rfl rfl vX11_image rfl rfl rfl rfl (Nat.le_of_ble_eq_true rfl) (Nat.le_of_ble_eq_true rfl) (by decide) (sX11_image H2 hI6  ) (fun H53 r54 q55 o56 => ?_)
  obtain ⟨hI57, hf58, y63, rfl, f59, f60, f61, f62⟩ := q55
  clear o56
  have hf64 := fz_fr_tr hf14 hf58 (fz_su_all rfl)
  have hXd65 : fz_Xd H53 := fz_Xd_eq (funext fun s => hf58 80 s rfl) hXd15
  have hXh66 : fz_Xh H53 := fz_Xh_eq (funext fun s => hf58 83 s rfl) hXh16
  have hXw67 : fz_Xw H53 := fz_Xw_eq (hf58 53 19 rfl) (funext fun s => hf58 66 s rfl) (funext fun s => hf58 67 s rfl) (funext fun s => hf58 68 s rfl) (funext fun s => hf58 69 s rfl) hXw17
  have hRS68 : fz_RS H53 := fz_RS_eq (funext fun s => hf58 48 s rfl) (funext fun s => hf58 49 s rfl) (funext fun s => hf58 50 s rfl) (funext fun s => hf58 51 s rfl) (funext fun s => hf58 83 s rfl) (funext fun s => hf58 84 s rfl) (hf58 44 2 rfl) hRS18
  have hRP69 : fz_RP H53 := fz_RP_eq (funext fun s => hf58 52 s rfl) (funext fun s => hf58 85 s rfl) hRP19
  have hRK70 : fz_RK H53 := fz_RK_eq (funext fun s => hf58 45 s rfl) (funext fun s => hf58 81 s rfl) hRK20
  have hRR71 : fz_RR H53 := fz_RR_eq (hf58 44 3 rfl) (hf58 53 46 rfl) (funext fun s => hf58 46 s rfl) (funext fun s => hf58 82 s rfl) hRR21
  have hRT72 : fz_RT H53 := fz_RT_eq (funext fun s => hf58 41 s rfl) (funext fun s => hf58 42 s rfl) (hf58 1 7 rfl) hRT8
  have hRE73 : fz_RE H53 := fz_RE_eq (funext fun s => hf58 5 s rfl) (funext fun s => hf58 6 s rfl) (hf58 1 8 rfl) (hf58 1 7 rfl) hRE22
  have hR274 : fz_R2 H53 := fz_R2_eq (funext fun s => hf58 2 s rfl) (funext fun s => hf58 54 s rfl) hR223
  have hR375 : fz_R3 H53 := fz_R3_eq (funext fun s => hf58 3 s rfl) (funext fun s => hf58 57 s rfl) hR324
  have hR476 : fz_R4 H53 := fz_R4_eq (funext fun s => hf58 4 s rfl) (funext fun s => hf58 58 s rfl) hR425
  have hR2877 : fz_R28 H53 := fz_R28_eq (funext fun s => hf58 28 s rfl) (funext fun s => hf58 59 s rfl) hR2826
  have hR578 : fz_R5 H53 := fz_R5_eq (funext fun s => hf58 5 s rfl) (funext fun s => hf58 55 s rfl) hR527
  have hR679 : fz_R6 H53 := fz_R6_eq (funext fun s => hf58 6 s rfl) (funext fun s => hf58 56 s rfl) hR628
  have hRG80 : fz_RG H53 := fz_RG_eq (hf58 27 8 rfl) (hf58 27 9 rfl) (hf58 53 8 rfl) (hf58 53 9 rfl) hRG29
  have hRL81 : fz_RL H53 := fz_RL_eq (funext fun s => hf58 11 s rfl) (funext fun s => hf58 12 s rfl) (funext fun s => hf58 13 s rfl) (funext fun s => hf58 14 s rfl) (funext fun s => hf58 61 s rfl) (funext fun s => hf58 62 s rfl) (funext fun s => hf58 63 s rfl) (funext fun s => hf58 64 s rfl) (hf58 9 5 rfl) hRL30
  have hRC82 : fz_RC H53 := fz_RC_eq (hf58 35 4 rfl) (hf58 35 5 rfl) (hf58 53 41 rfl) (hf58 53 42 rfl) (funext fun s => hf58 36 s rfl) (funext fun s => hf58 37 s rfl) (funext fun s => hf58 38 s rfl) (funext fun s => hf58 39 s rfl) (funext fun s => hf58 80 s rfl) (hf58 1 7 rfl) (hf58 1 8 rfl) (hf58 9 5 rfl) hRC31
  have hRW83 : fz_RW H53 := fz_RW_eq (funext fun s => hf58 10 s rfl) (funext fun s => hf58 60 s rfl) (hf58 9 5 rfl) hRW32
  have hRV84 : fz_RV H53 := fz_RV_eq (funext fun s => hf58 7 s rfl) (funext fun s => hf58 8 s rfl) (funext fun s => hf58 3 s rfl) (funext fun s => hf58 4 s rfl) (funext fun s => hf58 5 s rfl) (funext fun s => hf58 6 s rfl) (hf58 1 7 rfl) (hf58 1 8 rfl) hRV33
  have hRM85 : fz_RM H53 := fz_RM_eq (funext fun s => hf58 55 s rfl) (funext fun s => hf58 56 s rfl) (hf58 53 0 rfl) (hf58 53 2 rfl) hRM34
  have hRP286 : fz_RP2 H53 := fz_RP2_eq (funext fun s => hf58 11 s rfl) (hf58 9 5 rfl) (hf58 1 7 rfl) hRP235
  have hRA87 : fl_RA H53 := fl_RA_eq (funext fun s => hf58 26 s rfl) (funext fun s => hf58 65 s rfl) (hf58 20 2 rfl) hRA36
  have hRU88 : fl_RU H53 := fl_RU_eq (hf58 15 4 rfl) (funext fun s => hf58 16 s rfl) (funext fun s => hf58 17 s rfl) (hf58 53 18 rfl) (hf58 53 19 rfl) (funext fun s => hf58 66 s rfl) (funext fun s => hf58 67 s rfl) (funext fun s => hf58 68 s rfl) (funext fun s => hf58 69 s rfl) hRU37
  have hX89 : fz_Xc H53 := fz_Xc_fr hf58 rfl hX38
  have t90 : H53 53 10 = H2 53 10 := hf58 53 10 rfl
  have t91 : H53 53 41 = H2 53 41 := hf58 53 41 rfl
  have t92 : H53 53 42 = H2 53 42 := hf58 53 42 rfl
  have t93 : H53 9 5 = H2 9 5 := hf58 9 5 rfl
  have t94 : H53 53 10 = H2 53 10 := hf58 53 10 rfl
  have t95 : H53 44 2 = H2 44 2 := hf58 44 2 rfl
  have t96 : H53 53 44 = H2 53 44 := hf58 53 44 rfl
  have t97 : H53 20 2 = H2 20 2 := hf58 20 2 rfl
  have t98 : H53 53 16 = H2 53 16 := hf58 53 16 rfl
  have t99 : H53 1 7 = H2 1 7 := hf58 1 7 rfl
  have t100 : H53 53 0 = H2 53 0 := hf58 53 0 rfl
  have t101 : H53 1 8 = H2 1 8 := hf58 1 8 rfl
  have t102 : H53 53 2 = H2 53 2 := hf58 53 2 rfl
  refine fz_pop rfl kLc30 rfl ?_
  refine fz_goto (tgt := 1817) kLc30 rfl (by decide) ?_
  have hRJ103 : fz_RJ H53 := fz_image_rel hRJ f11 f61 (fz_fr_lo hf7 rfl) (fz_fr_hi hf58 rfl)
  have hRD105 : fl_RD H53 := fl_id_rel hRD f12 f62 (fz_fr_lo hf7 rfl) (fun s hs => by rcases hs with rfl | rfl | rfl | rfl <;> exact hf7 40 _ rfl) (fz_fr_hi hf58 rfl) (funext fun s => hf58 77 s rfl)
  exact K H53 ⟨hI57, hX89, hXd65, hXh66, hXw67, (by rw [((hf58 53 10 rfl).trans (hf7 53 10 rfl))]; exact hv1), (by rw [((hf58 53 42 rfl).trans (hf7 53 42 rfl)), ((hf58 53 41 rfl).trans (hf7 53 41 rfl))]; exact hv2), (((hf58 9 5 rfl).trans (hf7 9 5 rfl)).trans (hr0.trans ((hf58 53 10 rfl).trans (hf7 53 10 rfl)).symm)), (((hf58 44 2 rfl).trans (hf7 44 2 rfl)).trans (hr1.trans ((hf58 53 44 rfl).trans (hf7 53 44 rfl)).symm)), (((hf58 20 2 rfl).trans (hf7 20 2 rfl)).trans (hr2.trans ((hf58 53 16 rfl).trans (hf7 53 16 rfl)).symm)), (((hf58 1 7 rfl).trans (hf7 1 7 rfl)).trans (hr3.trans ((hf58 53 0 rfl).trans (hf7 53 0 rfl)).symm)), (((hf58 1 8 rfl).trans (hf7 1 8 rfl)).trans (hr4.trans ((hf58 53 2 rfl).trans (hf7 53 2 rfl)).symm)), hRS68, hRP69, hRK70, hRR71, hRT72, hRE73, hR274, hR375, hR476, hR2877, hR578, hR679, hRG80, hRL81, hRC82, hRJ103, hRW83, hRV84, hRM85, hRP286, hRA87, hRU88, hRD105⟩ (funext fun s => hf64 200 s rfl)
def mLc31 : fz_M := (yL_law, code, 4, (some .boolean), [(1388, .aload_n 1, 1, 0, 0, 0), (1389, .invokevirtual 143, 3, 4184, 19, 0), (1392, .pop, 1, 0, 0, 0), (1393, .aload_n 2, 1, 0, 0, 0), (1394, .invokevirtual 146, 3, 7129, 86, 0), (1397, .pop, 1, 0, 0, 0), (1398, .goto 419, 3, 0, 0, 0)])
set_option maxRecDepth 100000 in
theorem kLc31 : fz_okM mLc31 = true := fz_okM_in (by decide +kernel) (by decide +kernel)
set_option maxHeartbeats 1000000 in
set_option maxRecDepth 100000 in
theorem lc31 (h : fz_H) (hI : fz_Iv h) (hX : fz_Xc h) (hXd : fz_Xd h) (hXh : fz_Xh h) (hXw : fz_Xw h) (hv1 : h 53 10 ≤ 10) (hv2 : h 53 42 ≤ h 53 41) (hr0 : h 9 5 = h 53 10) (hr1 : h 44 2 = h 53 44) (hr2 : h 20 2 = h 53 16) (hr3 : h 1 7 = h 53 0) (hr4 : h 1 8 = h 53 2) (hRS : fz_RS h) (hRP : fz_RP h) (hRK : fz_RK h) (hRR : fz_RR h) (hRT : fz_RT h) (hRE : fz_RE h) (hR2 : fz_R2 h) (hR3 : fz_R3 h) (hR4 : fz_R4 h) (hR28 : fz_R28 h) (hR5 : fz_R5 h) (hR6 : fz_R6 h) (hRG : fz_RG h) (hRL : fz_RL h) (hRC : fz_RC h) (hRJ : fz_RJ h) (hRW : fz_RW h) (hRV : fz_RV h) (hRM : fz_RM h) (hRP2 : fz_RP2 h) (hRA : fz_RA h) (hRU : fz_RU h) (hRD : fz_RD h) (i : Int) (hi : 0 ≤ i ∧ i + 6 ≤ h 200 100000 ∧ h 200 100000 ≤ 3072) {Q : fz_H → Option fz_V → Prop} (K : ∀ H : fz_H, fz_Gd H → H 200 = h 200 → fz_R 47 mLe 1817 [(3, fz_i i), (0, fz_r 200), (1, fz_r 0), (2, fz_r 53)] [] H Q) : fz_R 47 mLc31 1388 [(3, fz_i i), (0, fz_r 200), (1, fz_r 0), (2, fz_r 53)] [] h Q := by
  have hf : fz_fr fz_all h h := fz_fr_rf
  refine fz_aload_n kLc31 rfl rfl ?_
  refine fz_callV (d' := 2) (M' := mX10_back) (As := []) (st := []) kLc31 rfl rfl vX10_back rfl rfl rfl rfl (Nat.le_of_ble_eq_true rfl) (Nat.le_of_ble_eq_true rfl) (by decide) (sX10_back h hI  hRT) (fun H1 r2 q3 o4 => ?_)
  obtain ⟨hI5, hf6, hRT7, y11, rfl, f8, f9, f10⟩ := q3
  clear o4
  have hf12 := fz_fr_tr hf hf6 (fz_su_all rfl)
  have hXd13 : fz_Xd H1 := fz_Xd_eq (funext fun s => hf6 80 s rfl) hXd
  have hXh14 : fz_Xh H1 := fz_Xh_eq (funext fun s => hf6 83 s rfl) hXh
  have hXw15 : fz_Xw H1 := fz_Xw_eq (hf6 53 19 rfl) (funext fun s => hf6 66 s rfl) (funext fun s => hf6 67 s rfl) (funext fun s => hf6 68 s rfl) (funext fun s => hf6 69 s rfl) hXw
  have hRS16 : fz_RS H1 := fz_RS_eq (funext fun s => hf6 48 s rfl) (funext fun s => hf6 49 s rfl) (funext fun s => hf6 50 s rfl) (funext fun s => hf6 51 s rfl) (funext fun s => hf6 83 s rfl) (funext fun s => hf6 84 s rfl) (hf6 44 2 rfl) hRS
  have hRP17 : fz_RP H1 := fz_RP_eq (funext fun s => hf6 52 s rfl) (funext fun s => hf6 85 s rfl) hRP
  have hRK18 : fz_RK H1 := fz_RK_eq (funext fun s => hf6 45 s rfl) (funext fun s => hf6 81 s rfl) hRK
  have hRR19 : fz_RR H1 := fz_RR_eq (hf6 44 3 rfl) (hf6 53 46 rfl) (funext fun s => hf6 46 s rfl) (funext fun s => hf6 82 s rfl) hRR
  have hRE20 : fz_RE H1 := fz_RE_eq (funext fun s => hf6 5 s rfl) (funext fun s => hf6 6 s rfl) (hf6 1 8 rfl) (hf6 1 7 rfl) hRE
  have hR221 : fz_R2 H1 := fz_R2_eq (funext fun s => hf6 2 s rfl) (funext fun s => hf6 54 s rfl) hR2
  have hR322 : fz_R3 H1 := fz_R3_eq (funext fun s => hf6 3 s rfl) (funext fun s => hf6 57 s rfl) hR3
  have hR423 : fz_R4 H1 := fz_R4_eq (funext fun s => hf6 4 s rfl) (funext fun s => hf6 58 s rfl) hR4
  have hR2824 : fz_R28 H1 := fz_R28_eq (funext fun s => hf6 28 s rfl) (funext fun s => hf6 59 s rfl) hR28
  have hR525 : fz_R5 H1 := fz_R5_eq (funext fun s => hf6 5 s rfl) (funext fun s => hf6 55 s rfl) hR5
  have hR626 : fz_R6 H1 := fz_R6_eq (funext fun s => hf6 6 s rfl) (funext fun s => hf6 56 s rfl) hR6
  have hRG27 : fz_RG H1 := fz_RG_eq (hf6 27 8 rfl) (hf6 27 9 rfl) (hf6 53 8 rfl) (hf6 53 9 rfl) hRG
  have hRL28 : fz_RL H1 := fz_RL_eq (funext fun s => hf6 11 s rfl) (funext fun s => hf6 12 s rfl) (funext fun s => hf6 13 s rfl) (funext fun s => hf6 14 s rfl) (funext fun s => hf6 61 s rfl) (funext fun s => hf6 62 s rfl) (funext fun s => hf6 63 s rfl) (funext fun s => hf6 64 s rfl) (hf6 9 5 rfl) hRL
  have hRC29 : fz_RC H1 := fz_RC_eq (hf6 35 4 rfl) (hf6 35 5 rfl) (hf6 53 41 rfl) (hf6 53 42 rfl) (funext fun s => hf6 36 s rfl) (funext fun s => hf6 37 s rfl) (funext fun s => hf6 38 s rfl) (funext fun s => hf6 39 s rfl) (funext fun s => hf6 80 s rfl) (hf6 1 7 rfl) (hf6 1 8 rfl) (hf6 9 5 rfl) hRC
  have hRW30 : fz_RW H1 := fz_RW_eq (funext fun s => hf6 10 s rfl) (funext fun s => hf6 60 s rfl) (hf6 9 5 rfl) hRW
  have hRV31 : fz_RV H1 := fz_RV_eq (funext fun s => hf6 7 s rfl) (funext fun s => hf6 8 s rfl) (funext fun s => hf6 3 s rfl) (funext fun s => hf6 4 s rfl) (funext fun s => hf6 5 s rfl) (funext fun s => hf6 6 s rfl) (hf6 1 7 rfl) (hf6 1 8 rfl) hRV
  have hRM32 : fz_RM H1 := fz_RM_eq (funext fun s => hf6 55 s rfl) (funext fun s => hf6 56 s rfl) (hf6 53 0 rfl) (hf6 53 2 rfl) hRM
  have hRP233 : fz_RP2 H1 := fz_RP2_eq (funext fun s => hf6 11 s rfl) (hf6 9 5 rfl) (hf6 1 7 rfl) hRP2
  have hRA34 : fl_RA H1 := fl_RA_eq (funext fun s => hf6 26 s rfl) (funext fun s => hf6 65 s rfl) (hf6 20 2 rfl) hRA
  have hRU35 : fl_RU H1 := fl_RU_eq (hf6 15 4 rfl) (funext fun s => hf6 16 s rfl) (funext fun s => hf6 17 s rfl) (hf6 53 18 rfl) (hf6 53 19 rfl) (funext fun s => hf6 66 s rfl) (funext fun s => hf6 67 s rfl) (funext fun s => hf6 68 s rfl) (funext fun s => hf6 69 s rfl) hRU
  have hX36 : fz_Xc H1 := fz_Xc_fr hf6 rfl hX
  have t37 : H1 53 10 = h 53 10 := hf6 53 10 rfl
  have t38 : H1 53 41 = h 53 41 := hf6 53 41 rfl
  have t39 : H1 53 42 = h 53 42 := hf6 53 42 rfl
  have t40 : H1 9 5 = h 9 5 := hf6 9 5 rfl
  have t41 : H1 53 10 = h 53 10 := hf6 53 10 rfl
  have t42 : H1 44 2 = h 44 2 := hf6 44 2 rfl
  have t43 : H1 53 44 = h 53 44 := hf6 53 44 rfl
  have t44 : H1 20 2 = h 20 2 := hf6 20 2 rfl
  have t45 : H1 53 16 = h 53 16 := hf6 53 16 rfl
  have t46 : H1 1 7 = h 1 7 := hf6 1 7 rfl
  have t47 : H1 53 0 = h 53 0 := hf6 53 0 rfl
  have t48 : H1 1 8 = h 1 8 := hf6 1 8 rfl
  have t49 : H1 53 2 = h 53 2 := hf6 53 2 rfl
  refine fz_pop rfl kLc31 rfl ?_
  refine fz_aload_n kLc31 rfl rfl ?_
  refine fz_callV (d' := 0) (M' := mX11_back) (As := []) (st := []) kLc31 rfl rfl vX11_back rfl rfl rfl rfl (Nat.le_of_ble_eq_true rfl) (Nat.le_of_ble_eq_true rfl) (by decide) (sX11_back H1 hI5  ) (fun H50 r51 q52 o53 => ?_)
  obtain ⟨hI54, hf55, y59, rfl, f56, f57, f58⟩ := q52
  clear o53
  have hf60 := fz_fr_tr hf12 hf55 (fz_su_all rfl)
  have hXd61 : fz_Xd H50 := fz_Xd_eq (funext fun s => hf55 80 s rfl) hXd13
  have hXh62 : fz_Xh H50 := fz_Xh_eq (funext fun s => hf55 83 s rfl) hXh14
  have hXw63 : fz_Xw H50 := fz_Xw_eq (hf55 53 19 rfl) (funext fun s => hf55 66 s rfl) (funext fun s => hf55 67 s rfl) (funext fun s => hf55 68 s rfl) (funext fun s => hf55 69 s rfl) hXw15
  have hRS64 : fz_RS H50 := fz_RS_eq (funext fun s => hf55 48 s rfl) (funext fun s => hf55 49 s rfl) (funext fun s => hf55 50 s rfl) (funext fun s => hf55 51 s rfl) (funext fun s => hf55 83 s rfl) (funext fun s => hf55 84 s rfl) (hf55 44 2 rfl) hRS16
  have hRP65 : fz_RP H50 := fz_RP_eq (funext fun s => hf55 52 s rfl) (funext fun s => hf55 85 s rfl) hRP17
  have hRK66 : fz_RK H50 := fz_RK_eq (funext fun s => hf55 45 s rfl) (funext fun s => hf55 81 s rfl) hRK18
  have hRR67 : fz_RR H50 := fz_RR_eq (hf55 44 3 rfl) (hf55 53 46 rfl) (funext fun s => hf55 46 s rfl) (funext fun s => hf55 82 s rfl) hRR19
  have hRT68 : fz_RT H50 := fz_RT_eq (funext fun s => hf55 41 s rfl) (funext fun s => hf55 42 s rfl) (hf55 1 7 rfl) hRT7
  have hRE69 : fz_RE H50 := fz_RE_eq (funext fun s => hf55 5 s rfl) (funext fun s => hf55 6 s rfl) (hf55 1 8 rfl) (hf55 1 7 rfl) hRE20
  have hR270 : fz_R2 H50 := fz_R2_eq (funext fun s => hf55 2 s rfl) (funext fun s => hf55 54 s rfl) hR221
  have hR371 : fz_R3 H50 := fz_R3_eq (funext fun s => hf55 3 s rfl) (funext fun s => hf55 57 s rfl) hR322
  have hR472 : fz_R4 H50 := fz_R4_eq (funext fun s => hf55 4 s rfl) (funext fun s => hf55 58 s rfl) hR423
  have hR2873 : fz_R28 H50 := fz_R28_eq (funext fun s => hf55 28 s rfl) (funext fun s => hf55 59 s rfl) hR2824
  have hR574 : fz_R5 H50 := fz_R5_eq (funext fun s => hf55 5 s rfl) (funext fun s => hf55 55 s rfl) hR525
  have hR675 : fz_R6 H50 := fz_R6_eq (funext fun s => hf55 6 s rfl) (funext fun s => hf55 56 s rfl) hR626
  have hRG76 : fz_RG H50 := fz_RG_eq (hf55 27 8 rfl) (hf55 27 9 rfl) (hf55 53 8 rfl) (hf55 53 9 rfl) hRG27
  have hRL77 : fz_RL H50 := fz_RL_eq (funext fun s => hf55 11 s rfl) (funext fun s => hf55 12 s rfl) (funext fun s => hf55 13 s rfl) (funext fun s => hf55 14 s rfl) (funext fun s => hf55 61 s rfl) (funext fun s => hf55 62 s rfl) (funext fun s => hf55 63 s rfl) (funext fun s => hf55 64 s rfl) (hf55 9 5 rfl) hRL28
  have hRC78 : fz_RC H50 := fz_RC_eq (hf55 35 4 rfl) (hf55 35 5 rfl) (hf55 53 41 rfl) (hf55 53 42 rfl) (funext fun s => hf55 36 s rfl) (funext fun s => hf55 37 s rfl) (funext fun s => hf55 38 s rfl) (funext fun s => hf55 39 s rfl) (funext fun s => hf55 80 s rfl) (hf55 1 7 rfl) (hf55 1 8 rfl) (hf55 9 5 rfl) hRC29
  have hRW79 : fz_RW H50 := fz_RW_eq (funext fun s => hf55 10 s rfl) (funext fun s => hf55 60 s rfl) (hf55 9 5 rfl) hRW30
  have hRV80 : fz_RV H50 := fz_RV_eq (funext fun s => hf55 7 s rfl) (funext fun s => hf55 8 s rfl) (funext fun s => hf55 3 s rfl) (funext fun s => hf55 4 s rfl) (funext fun s => hf55 5 s rfl) (funext fun s => hf55 6 s rfl) (hf55 1 7 rfl) (hf55 1 8 rfl) hRV31
  have hRM81 : fz_RM H50 := fz_RM_eq (funext fun s => hf55 55 s rfl) (funext fun s => hf55 56 s rfl) (hf55 53 0 rfl) (hf55 53 2 rfl) hRM32
  have hRP282 : fz_RP2 H50 := fz_RP2_eq (funext fun s => hf55 11 s rfl) (hf55 9 5 rfl) (hf55 1 7 rfl) hRP233
  have hRA83 : fl_RA H50 := fl_RA_eq (funext fun s => hf55 26 s rfl) (funext fun s => hf55 65 s rfl) (hf55 20 2 rfl) hRA34
  have hRU84 : fl_RU H50 := fl_RU_eq (hf55 15 4 rfl) (funext fun s => hf55 16 s rfl) (funext fun s => hf55 17 s rfl) (hf55 53 18 rfl) (hf55 53 19 rfl) (funext fun s => hf55 66 s rfl) (funext fun s => hf55 67 s rfl) (funext fun s => hf55 68 s rfl) (funext fun s => hf55 69 s rfl) hRU35
  have hX85 : fz_Xc H50 := fz_Xc_fr hf55 rfl hX36
  have t86 : H50 53 10 = H1 53 10 := hf55 53 10 rfl
  have t87 : H50 53 41 = H1 53 41 := hf55 53 41 rfl
  have t88 : H50 53 42 = H1 53 42 := hf55 53 42 rfl
  have t89 : H50 9 5 = H1 9 5 := hf55 9 5 rfl
  have t90 : H50 53 10 = H1 53 10 := hf55 53 10 rfl
  have t91 : H50 44 2 = H1 44 2 := hf55 44 2 rfl
  have t92 : H50 53 44 = H1 53 44 := hf55 53 44 rfl
  have t93 : H50 20 2 = H1 20 2 := hf55 20 2 rfl
  have t94 : H50 53 16 = H1 53 16 := hf55 53 16 rfl
  have t95 : H50 1 7 = H1 1 7 := hf55 1 7 rfl
  have t96 : H50 53 0 = H1 53 0 := hf55 53 0 rfl
  have t97 : H50 1 8 = H1 1 8 := hf55 1 8 rfl
  have t98 : H50 53 2 = H1 53 2 := hf55 53 2 rfl
  refine fz_pop rfl kLc31 rfl ?_
  refine fz_goto (tgt := 1817) kLc31 rfl (by decide) ?_
  have k99 := fz_back_rel hRJ f9 f57 (fz_fr_lo hf6 rfl) (fz_fr_hi hf55 rfl)
  have hRJ101 : fz_RJ H50 := k99.2
  have hRD103 : fl_RD H50 := fl_bd_rel hRD hRJ f10 f58 (fz_fr_lo hf6 rfl) (funext fun s => hf6 43 s rfl) (fz_fr_hi hf55 rfl) (funext fun s => hf55 79 s rfl)
  exact K H50 ⟨hI54, hX85, hXd61, hXh62, hXw63, (by rw [((hf55 53 10 rfl).trans (hf6 53 10 rfl))]; exact hv1), (by rw [((hf55 53 42 rfl).trans (hf6 53 42 rfl)), ((hf55 53 41 rfl).trans (hf6 53 41 rfl))]; exact hv2), (((hf55 9 5 rfl).trans (hf6 9 5 rfl)).trans (hr0.trans ((hf55 53 10 rfl).trans (hf6 53 10 rfl)).symm)), (((hf55 44 2 rfl).trans (hf6 44 2 rfl)).trans (hr1.trans ((hf55 53 44 rfl).trans (hf6 53 44 rfl)).symm)), (((hf55 20 2 rfl).trans (hf6 20 2 rfl)).trans (hr2.trans ((hf55 53 16 rfl).trans (hf6 53 16 rfl)).symm)), (((hf55 1 7 rfl).trans (hf6 1 7 rfl)).trans (hr3.trans ((hf55 53 0 rfl).trans (hf6 53 0 rfl)).symm)), (((hf55 1 8 rfl).trans (hf6 1 8 rfl)).trans (hr4.trans ((hf55 53 2 rfl).trans (hf6 53 2 rfl)).symm)), hRS64, hRP65, hRK66, hRR67, hRT68, hRE69, hR270, hR371, hR472, hR2873, hR574, hR675, hRG76, hRL77, hRC78, hRJ101, hRW79, hRV80, hRM81, hRP282, hRA83, hRU84, hRD103⟩ (funext fun s => hf60 200 s rfl)
def mLc32 : fz_M := (yL_law, code, 4, (some .boolean), [(1401, .aload_n 1, 1, 0, 0, 0), (1402, .invokevirtual 147, 3, 4192, 76, 0), (1405, .pop, 1, 0, 0, 0), (1406, .aload_n 2, 1, 0, 0, 0), (1407, .invokevirtual 150, 3, 6109, 180, 0), (1410, .pop, 1, 0, 0, 0), (1411, .goto 406, 3, 0, 0, 0)])
set_option maxRecDepth 100000 in
theorem kLc32 : fz_okM mLc32 = true := fz_okM_in (by decide +kernel) (by decide +kernel)
set_option maxHeartbeats 1000000 in
set_option maxRecDepth 100000 in
theorem lc32 (h : fz_H) (hI : fz_Iv h) (hX : fz_Xc h) (hXd : fz_Xd h) (hXh : fz_Xh h) (hXw : fz_Xw h) (hv1 : h 53 10 ≤ 10) (hv2 : h 53 42 ≤ h 53 41) (hr0 : h 9 5 = h 53 10) (hr1 : h 44 2 = h 53 44) (hr2 : h 20 2 = h 53 16) (hr3 : h 1 7 = h 53 0) (hr4 : h 1 8 = h 53 2) (hRS : fz_RS h) (hRP : fz_RP h) (hRK : fz_RK h) (hRR : fz_RR h) (hRT : fz_RT h) (hRE : fz_RE h) (hR2 : fz_R2 h) (hR3 : fz_R3 h) (hR4 : fz_R4 h) (hR28 : fz_R28 h) (hR5 : fz_R5 h) (hR6 : fz_R6 h) (hRG : fz_RG h) (hRL : fz_RL h) (hRC : fz_RC h) (hRJ : fz_RJ h) (hRW : fz_RW h) (hRV : fz_RV h) (hRM : fz_RM h) (hRP2 : fz_RP2 h) (hRA : fz_RA h) (hRU : fz_RU h) (hRD : fz_RD h) (i : Int) (hi : 0 ≤ i ∧ i + 6 ≤ h 200 100000 ∧ h 200 100000 ≤ 3072) {Q : fz_H → Option fz_V → Prop} (K : ∀ H : fz_H, fz_Gd H → H 200 = h 200 → fz_R 47 mLe 1817 [(3, fz_i i), (0, fz_r 200), (1, fz_r 0), (2, fz_r 53)] [] H Q) : fz_R 47 mLc32 1401 [(3, fz_i i), (0, fz_r 200), (1, fz_r 0), (2, fz_r 53)] [] h Q := by
  have hf : fz_fr fz_all h h := fz_fr_rf
  refine fz_aload_n kLc32 rfl rfl ?_
  refine fz_callV (d' := 4) (M' := mX10_undo) (As := []) (st := []) kLc32 rfl rfl vX10_undo rfl rfl rfl rfl (Nat.le_of_ble_eq_true rfl) (Nat.le_of_ble_eq_true rfl) (by decide) (sX10_undo h hI  (hX) hRE hRV) (fun H1 r2 q3 o4 => ?_)
  obtain ⟨hI5, hf6, hX7, hRE8, hRV9, y12, rfl, f10, f11⟩ := q3
  clear o4
  have hf13 := fz_fr_tr hf hf6 (fz_su_all rfl)
  have hXd14 : fz_Xd H1 := fz_Xd_eq (funext fun s => hf6 80 s rfl) hXd
  have hXh15 : fz_Xh H1 := fz_Xh_eq (funext fun s => hf6 83 s rfl) hXh
  have hXw16 : fz_Xw H1 := fz_Xw_eq (hf6 53 19 rfl) (funext fun s => hf6 66 s rfl) (funext fun s => hf6 67 s rfl) (funext fun s => hf6 68 s rfl) (funext fun s => hf6 69 s rfl) hXw
  have hRS17 : fz_RS H1 := fz_RS_eq (funext fun s => hf6 48 s rfl) (funext fun s => hf6 49 s rfl) (funext fun s => hf6 50 s rfl) (funext fun s => hf6 51 s rfl) (funext fun s => hf6 83 s rfl) (funext fun s => hf6 84 s rfl) (hf6 44 2 rfl) hRS
  have hRP18 : fz_RP H1 := fz_RP_eq (funext fun s => hf6 52 s rfl) (funext fun s => hf6 85 s rfl) hRP
  have hRK19 : fz_RK H1 := fz_RK_eq (funext fun s => hf6 45 s rfl) (funext fun s => hf6 81 s rfl) hRK
  have hRR20 : fz_RR H1 := fz_RR_eq (hf6 44 3 rfl) (hf6 53 46 rfl) (funext fun s => hf6 46 s rfl) (funext fun s => hf6 82 s rfl) hRR
  have hRT21 : fz_RT H1 := fz_RT_eq (funext fun s => hf6 41 s rfl) (funext fun s => hf6 42 s rfl) (hf6 1 7 rfl) hRT
  have hR522 : fz_R5 H1 := fz_R5_eq (funext fun s => hf6 5 s rfl) (funext fun s => hf6 55 s rfl) hR5
  have hR623 : fz_R6 H1 := fz_R6_eq (funext fun s => hf6 6 s rfl) (funext fun s => hf6 56 s rfl) hR6
  have hRJ24 : fz_RJ H1 := fz_RJ_eq (hf6 40 1 rfl) (hf6 53 34 rfl) (funext fun s => hf6 41 s rfl) (funext fun s => hf6 76 s rfl) (hf6 40 6 rfl) (hf6 53 37 rfl) (funext fun s => hf6 42 s rfl) (funext fun s => hf6 78 s rfl) (hf6 43 0 rfl) (hf6 53 38 rfl) hRJ
  have hRW25 : fz_RW H1 := fz_RW_eq (funext fun s => hf6 10 s rfl) (funext fun s => hf6 60 s rfl) (hf6 9 5 rfl) hRW
  have hRM26 : fz_RM H1 := fz_RM_eq (funext fun s => hf6 55 s rfl) (funext fun s => hf6 56 s rfl) (hf6 53 0 rfl) (hf6 53 2 rfl) hRM
  have hRP227 : fz_RP2 H1 := fz_RP2_eq (funext fun s => hf6 11 s rfl) (hf6 9 5 rfl) (hf6 1 7 rfl) hRP2
  have hRA28 : fl_RA H1 := fl_RA_eq (funext fun s => hf6 26 s rfl) (funext fun s => hf6 65 s rfl) (hf6 20 2 rfl) hRA
  have hRU29 : fl_RU H1 := fl_RU_eq (hf6 15 4 rfl) (funext fun s => hf6 16 s rfl) (funext fun s => hf6 17 s rfl) (hf6 53 18 rfl) (hf6 53 19 rfl) (funext fun s => hf6 66 s rfl) (funext fun s => hf6 67 s rfl) (funext fun s => hf6 68 s rfl) (funext fun s => hf6 69 s rfl) hRU
  have hRD30 : fl_RD H1 := fl_RD_eq (hf6 40 2 rfl) (hf6 40 3 rfl) (hf6 40 4 rfl) (hf6 40 5 rfl) (funext fun s => hf6 77 s rfl) (hf6 43 1 rfl) (hf6 43 2 rfl) (hf6 43 3 rfl) (hf6 43 4 rfl) (funext fun s => hf6 79 s rfl) hRD
  have t31 : H1 53 10 = h 53 10 := hf6 53 10 rfl
  have t32 : H1 53 41 = h 53 41 := hf6 53 41 rfl
  have t33 : H1 53 42 = h 53 42 := hf6 53 42 rfl
  have t34 : H1 9 5 = h 9 5 := hf6 9 5 rfl
  have t35 : H1 53 10 = h 53 10 := hf6 53 10 rfl
  have t36 : H1 44 2 = h 44 2 := hf6 44 2 rfl
  have t37 : H1 53 44 = h 53 44 := hf6 53 44 rfl
  have t38 : H1 20 2 = h 20 2 := hf6 20 2 rfl
  have t39 : H1 53 16 = h 53 16 := hf6 53 16 rfl
  have t40 : H1 1 7 = h 1 7 := hf6 1 7 rfl
  have t41 : H1 53 0 = h 53 0 := hf6 53 0 rfl
  have t42 : H1 1 8 = h 1 8 := hf6 1 8 rfl
  have t43 : H1 53 2 = h 53 2 := hf6 53 2 rfl
  refine fz_pop rfl kLc32 rfl ?_
  refine fz_aload_n kLc32 rfl rfl ?_
  have b44 : 0 ≤ H1 53 42 ∧ H1 53 42 ≤ 40 := hI5.1 53 _
  have b45 : 0 ≤ H1 53 41 ∧ H1 53 41 ≤ 40 := hI5.1 53 _
  refine fz_callV (d' := 1) (M' := mX11_undo) (As := []) (st := []) kLc32 rfl rfl vX11_undo rfl rfl rfl rfl (Nat.le_of_ble_eq_true rfl) (Nat.le_of_ble_eq_true rfl) (by decide) (sX11_undo H1 hI5  hXd14 (by omega)) (fun H46 r47 q48 o49 => ?_)
  obtain ⟨hI50, hf51, hXd52, y56, rfl, f53, f54, f55⟩ := q48
  clear o49
  have hf57 := fz_fr_tr hf13 hf51 (fz_su_all rfl)
  have hXh58 : fz_Xh H46 := fz_Xh_eq (funext fun s => hf51 83 s rfl) hXh15
  have hXw59 : fz_Xw H46 := fz_Xw_eq (hf51 53 19 rfl) (funext fun s => hf51 66 s rfl) (funext fun s => hf51 67 s rfl) (funext fun s => hf51 68 s rfl) (funext fun s => hf51 69 s rfl) hXw16
  have hRS60 : fz_RS H46 := fz_RS_eq (funext fun s => hf51 48 s rfl) (funext fun s => hf51 49 s rfl) (funext fun s => hf51 50 s rfl) (funext fun s => hf51 51 s rfl) (funext fun s => hf51 83 s rfl) (funext fun s => hf51 84 s rfl) (hf51 44 2 rfl) hRS17
  have hRP61 : fz_RP H46 := fz_RP_eq (funext fun s => hf51 52 s rfl) (funext fun s => hf51 85 s rfl) hRP18
  have hRK62 : fz_RK H46 := fz_RK_eq (funext fun s => hf51 45 s rfl) (funext fun s => hf51 81 s rfl) hRK19
  have hRR63 : fz_RR H46 := fz_RR_eq (hf51 44 3 rfl) (hf51 53 46 rfl) (funext fun s => hf51 46 s rfl) (funext fun s => hf51 82 s rfl) hRR20
  have hRT64 : fz_RT H46 := fz_RT_eq (funext fun s => hf51 41 s rfl) (funext fun s => hf51 42 s rfl) (hf51 1 7 rfl) hRT21
  have hRE65 : fz_RE H46 := fz_RE_eq (funext fun s => hf51 5 s rfl) (funext fun s => hf51 6 s rfl) (hf51 1 8 rfl) (hf51 1 7 rfl) hRE8
  have hR566 : fz_R5 H46 := fz_R5_eq (funext fun s => hf51 5 s rfl) (funext fun s => hf51 55 s rfl) hR522
  have hR667 : fz_R6 H46 := fz_R6_eq (funext fun s => hf51 6 s rfl) (funext fun s => hf51 56 s rfl) hR623
  have hRJ68 : fz_RJ H46 := fz_RJ_eq (hf51 40 1 rfl) (hf51 53 34 rfl) (funext fun s => hf51 41 s rfl) (funext fun s => hf51 76 s rfl) (hf51 40 6 rfl) (hf51 53 37 rfl) (funext fun s => hf51 42 s rfl) (funext fun s => hf51 78 s rfl) (hf51 43 0 rfl) (hf51 53 38 rfl) hRJ24
  have hRW69 : fz_RW H46 := fz_RW_eq (funext fun s => hf51 10 s rfl) (funext fun s => hf51 60 s rfl) (hf51 9 5 rfl) hRW25
  have hRV70 : fz_RV H46 := fz_RV_eq (funext fun s => hf51 7 s rfl) (funext fun s => hf51 8 s rfl) (funext fun s => hf51 3 s rfl) (funext fun s => hf51 4 s rfl) (funext fun s => hf51 5 s rfl) (funext fun s => hf51 6 s rfl) (hf51 1 7 rfl) (hf51 1 8 rfl) hRV9
  have hRM71 : fz_RM H46 := fz_RM_eq (funext fun s => hf51 55 s rfl) (funext fun s => hf51 56 s rfl) (hf51 53 0 rfl) (hf51 53 2 rfl) hRM26
  have hRP272 : fz_RP2 H46 := fz_RP2_eq (funext fun s => hf51 11 s rfl) (hf51 9 5 rfl) (hf51 1 7 rfl) hRP227
  have hRA73 : fl_RA H46 := fl_RA_eq (funext fun s => hf51 26 s rfl) (funext fun s => hf51 65 s rfl) (hf51 20 2 rfl) hRA28
  have hRU74 : fl_RU H46 := fl_RU_eq (hf51 15 4 rfl) (funext fun s => hf51 16 s rfl) (funext fun s => hf51 17 s rfl) (hf51 53 18 rfl) (hf51 53 19 rfl) (funext fun s => hf51 66 s rfl) (funext fun s => hf51 67 s rfl) (funext fun s => hf51 68 s rfl) (funext fun s => hf51 69 s rfl) hRU29
  have hRD75 : fl_RD H46 := fl_RD_eq (hf51 40 2 rfl) (hf51 40 3 rfl) (hf51 40 4 rfl) (hf51 40 5 rfl) (funext fun s => hf51 77 s rfl) (hf51 43 1 rfl) (hf51 43 2 rfl) (hf51 43 3 rfl) (hf51 43 4 rfl) (funext fun s => hf51 79 s rfl) hRD30
  have hX76 : fz_Xc H46 := fz_Xc_fr hf51 rfl hX7
  have t77 : H46 53 10 = H1 53 10 := hf51 53 10 rfl
  have t78 : H46 53 41 = H1 53 41 := hf51 53 41 rfl
  have t79 : H46 9 5 = H1 9 5 := hf51 9 5 rfl
  have t80 : H46 53 10 = H1 53 10 := hf51 53 10 rfl
  have t81 : H46 44 2 = H1 44 2 := hf51 44 2 rfl
  have t82 : H46 53 44 = H1 53 44 := hf51 53 44 rfl
  have t83 : H46 20 2 = H1 20 2 := hf51 20 2 rfl
  have t84 : H46 53 16 = H1 53 16 := hf51 53 16 rfl
  have t85 : H46 1 7 = H1 1 7 := hf51 1 7 rfl
  have t86 : H46 53 0 = H1 53 0 := hf51 53 0 rfl
  have t87 : H46 1 8 = H1 1 8 := hf51 1 8 rfl
  have t88 : H46 53 2 = H1 53 2 := hf51 53 2 rfl
  refine fz_pop rfl kLc32 rfl ?_
  refine fz_goto (tgt := 1817) kLc32 rfl (by decide) ?_
  have k89 := fz_undo_rel hRC hR2 hR3 hR4 hR28 hRG hRL f11 f55 (fz_fr_lo hf6 rfl)
  have hR291 : fz_R2 H46 := k89.2.1
  have hR393 : fz_R3 H46 := k89.2.2.1
  have hR495 : fz_R4 H46 := k89.2.2.2.1
  have hR2897 : fz_R28 H46 := k89.2.2.2.2.1
  have hRG99 : fz_RG H46 := k89.2.2.2.2.2.1
  have hRL101 : fz_RL H46 := k89.2.2.2.2.2.2.1
  have hRC103 : fz_RC H46 := k89.2.2.2.2.2.2.2
  exact K H46 ⟨hI50, hX76, hXd52, hXh58, hXw59, (by rw [((hf51 53 10 rfl).trans (hf6 53 10 rfl))]; exact hv1), by omega, (((hf51 9 5 rfl).trans (hf6 9 5 rfl)).trans (hr0.trans ((hf51 53 10 rfl).trans (hf6 53 10 rfl)).symm)), (((hf51 44 2 rfl).trans (hf6 44 2 rfl)).trans (hr1.trans ((hf51 53 44 rfl).trans (hf6 53 44 rfl)).symm)), (((hf51 20 2 rfl).trans (hf6 20 2 rfl)).trans (hr2.trans ((hf51 53 16 rfl).trans (hf6 53 16 rfl)).symm)), (((hf51 1 7 rfl).trans (hf6 1 7 rfl)).trans (hr3.trans ((hf51 53 0 rfl).trans (hf6 53 0 rfl)).symm)), (((hf51 1 8 rfl).trans (hf6 1 8 rfl)).trans (hr4.trans ((hf51 53 2 rfl).trans (hf6 53 2 rfl)).symm)), hRS60, hRP61, hRK62, hRR63, hRT64, hRE65, hR291, hR393, hR495, hR2897, hR566, hR667, hRG99, hRL101, hRC103, hRJ68, hRW69, hRV70, hRM71, hRP272, hRA73, hRU74, hRD75⟩ (funext fun s => hf57 200 s rfl)
def mLc33 : fz_M := (yL_law, code, 4, (some .boolean), [(1414, .aload_n 1, 1, 0, 0, 0), (1415, .invokevirtual 151, 3, 4200, 64, 0), (1418, .pop, 1, 0, 0, 0), (1419, .aload_n 2, 1, 0, 0, 0), (1420, .invokevirtual 154, 3, 6113, 165, 0), (1423, .pop, 1, 0, 0, 0), (1424, .goto 393, 3, 0, 0, 0)])
set_option maxRecDepth 100000 in
theorem kLc33 : fz_okM mLc33 = true := fz_okM_in (by decide +kernel) (by decide +kernel)
set_option maxHeartbeats 1000000 in
set_option maxRecDepth 100000 in
theorem lc33 (h : fz_H) (hI : fz_Iv h) (hX : fz_Xc h) (hXd : fz_Xd h) (hXh : fz_Xh h) (hXw : fz_Xw h) (hv1 : h 53 10 ≤ 10) (hv2 : h 53 42 ≤ h 53 41) (hr0 : h 9 5 = h 53 10) (hr1 : h 44 2 = h 53 44) (hr2 : h 20 2 = h 53 16) (hr3 : h 1 7 = h 53 0) (hr4 : h 1 8 = h 53 2) (hRS : fz_RS h) (hRP : fz_RP h) (hRK : fz_RK h) (hRR : fz_RR h) (hRT : fz_RT h) (hRE : fz_RE h) (hR2 : fz_R2 h) (hR3 : fz_R3 h) (hR4 : fz_R4 h) (hR28 : fz_R28 h) (hR5 : fz_R5 h) (hR6 : fz_R6 h) (hRG : fz_RG h) (hRL : fz_RL h) (hRC : fz_RC h) (hRJ : fz_RJ h) (hRW : fz_RW h) (hRV : fz_RV h) (hRM : fz_RM h) (hRP2 : fz_RP2 h) (hRA : fz_RA h) (hRU : fz_RU h) (hRD : fz_RD h) (i : Int) (hi : 0 ≤ i ∧ i + 6 ≤ h 200 100000 ∧ h 200 100000 ≤ 3072) {Q : fz_H → Option fz_V → Prop} (K : ∀ H : fz_H, fz_Gd H → H 200 = h 200 → fz_R 47 mLe 1817 [(3, fz_i i), (0, fz_r 200), (1, fz_r 0), (2, fz_r 53)] [] H Q) : fz_R 47 mLc33 1414 [(3, fz_i i), (0, fz_r 200), (1, fz_r 0), (2, fz_r 53)] [] h Q := by
  have hf : fz_fr fz_all h h := fz_fr_rf
  refine fz_aload_n kLc33 rfl rfl ?_
  refine fz_callV (d' := 4) (M' := mX10_redo) (As := []) (st := []) kLc33 rfl rfl vX10_redo rfl rfl rfl rfl (Nat.le_of_ble_eq_true rfl) (Nat.le_of_ble_eq_true rfl) (by decide) (sX10_redo h hI  (hX) hRE hRV) (fun H1 r2 q3 o4 => ?_)
  obtain ⟨hI5, hf6, hX7, hRE8, hRV9, y12, rfl, f10, f11⟩ := q3
  clear o4
  have hf13 := fz_fr_tr hf hf6 (fz_su_all rfl)
  have hXd14 : fz_Xd H1 := fz_Xd_eq (funext fun s => hf6 80 s rfl) hXd
  have hXh15 : fz_Xh H1 := fz_Xh_eq (funext fun s => hf6 83 s rfl) hXh
  have hXw16 : fz_Xw H1 := fz_Xw_eq (hf6 53 19 rfl) (funext fun s => hf6 66 s rfl) (funext fun s => hf6 67 s rfl) (funext fun s => hf6 68 s rfl) (funext fun s => hf6 69 s rfl) hXw
  have hRS17 : fz_RS H1 := fz_RS_eq (funext fun s => hf6 48 s rfl) (funext fun s => hf6 49 s rfl) (funext fun s => hf6 50 s rfl) (funext fun s => hf6 51 s rfl) (funext fun s => hf6 83 s rfl) (funext fun s => hf6 84 s rfl) (hf6 44 2 rfl) hRS
  have hRP18 : fz_RP H1 := fz_RP_eq (funext fun s => hf6 52 s rfl) (funext fun s => hf6 85 s rfl) hRP
  have hRK19 : fz_RK H1 := fz_RK_eq (funext fun s => hf6 45 s rfl) (funext fun s => hf6 81 s rfl) hRK
  have hRR20 : fz_RR H1 := fz_RR_eq (hf6 44 3 rfl) (hf6 53 46 rfl) (funext fun s => hf6 46 s rfl) (funext fun s => hf6 82 s rfl) hRR
  have hRT21 : fz_RT H1 := fz_RT_eq (funext fun s => hf6 41 s rfl) (funext fun s => hf6 42 s rfl) (hf6 1 7 rfl) hRT
  have hR522 : fz_R5 H1 := fz_R5_eq (funext fun s => hf6 5 s rfl) (funext fun s => hf6 55 s rfl) hR5
  have hR623 : fz_R6 H1 := fz_R6_eq (funext fun s => hf6 6 s rfl) (funext fun s => hf6 56 s rfl) hR6
  have hRJ24 : fz_RJ H1 := fz_RJ_eq (hf6 40 1 rfl) (hf6 53 34 rfl) (funext fun s => hf6 41 s rfl) (funext fun s => hf6 76 s rfl) (hf6 40 6 rfl) (hf6 53 37 rfl) (funext fun s => hf6 42 s rfl) (funext fun s => hf6 78 s rfl) (hf6 43 0 rfl) (hf6 53 38 rfl) hRJ
  have hRW25 : fz_RW H1 := fz_RW_eq (funext fun s => hf6 10 s rfl) (funext fun s => hf6 60 s rfl) (hf6 9 5 rfl) hRW
  have hRM26 : fz_RM H1 := fz_RM_eq (funext fun s => hf6 55 s rfl) (funext fun s => hf6 56 s rfl) (hf6 53 0 rfl) (hf6 53 2 rfl) hRM
  have hRP227 : fz_RP2 H1 := fz_RP2_eq (funext fun s => hf6 11 s rfl) (hf6 9 5 rfl) (hf6 1 7 rfl) hRP2
  have hRA28 : fl_RA H1 := fl_RA_eq (funext fun s => hf6 26 s rfl) (funext fun s => hf6 65 s rfl) (hf6 20 2 rfl) hRA
  have hRU29 : fl_RU H1 := fl_RU_eq (hf6 15 4 rfl) (funext fun s => hf6 16 s rfl) (funext fun s => hf6 17 s rfl) (hf6 53 18 rfl) (hf6 53 19 rfl) (funext fun s => hf6 66 s rfl) (funext fun s => hf6 67 s rfl) (funext fun s => hf6 68 s rfl) (funext fun s => hf6 69 s rfl) hRU
  have hRD30 : fl_RD H1 := fl_RD_eq (hf6 40 2 rfl) (hf6 40 3 rfl) (hf6 40 4 rfl) (hf6 40 5 rfl) (funext fun s => hf6 77 s rfl) (hf6 43 1 rfl) (hf6 43 2 rfl) (hf6 43 3 rfl) (hf6 43 4 rfl) (funext fun s => hf6 79 s rfl) hRD
  have t31 : H1 53 10 = h 53 10 := hf6 53 10 rfl
  have t32 : H1 53 41 = h 53 41 := hf6 53 41 rfl
  have t33 : H1 53 42 = h 53 42 := hf6 53 42 rfl
  have t34 : H1 9 5 = h 9 5 := hf6 9 5 rfl
  have t35 : H1 53 10 = h 53 10 := hf6 53 10 rfl
  have t36 : H1 44 2 = h 44 2 := hf6 44 2 rfl
  have t37 : H1 53 44 = h 53 44 := hf6 53 44 rfl
  have t38 : H1 20 2 = h 20 2 := hf6 20 2 rfl
  have t39 : H1 53 16 = h 53 16 := hf6 53 16 rfl
  have t40 : H1 1 7 = h 1 7 := hf6 1 7 rfl
  have t41 : H1 53 0 = h 53 0 := hf6 53 0 rfl
  have t42 : H1 1 8 = h 1 8 := hf6 1 8 rfl
  have t43 : H1 53 2 = h 53 2 := hf6 53 2 rfl
  refine fz_pop rfl kLc33 rfl ?_
  refine fz_aload_n kLc33 rfl rfl ?_
  have b44 : 0 ≤ H1 53 42 ∧ H1 53 42 ≤ 40 := hI5.1 53 _
  have b45 : 0 ≤ H1 53 41 ∧ H1 53 41 ≤ 40 := hI5.1 53 _
  refine fz_callV (d' := 1) (M' := mX11_redo) (As := []) (st := []) kLc33 rfl rfl vX11_redo rfl rfl rfl rfl (Nat.le_of_ble_eq_true rfl) (Nat.le_of_ble_eq_true rfl) (by decide) (sX11_redo H1 hI5  hXd14 (by omega)) (fun H46 r47 q48 o49 => ?_)
  obtain ⟨hI50, hf51, hXd52, y56, rfl, f53, f54, f55⟩ := q48
  clear o49
  have hf57 := fz_fr_tr hf13 hf51 (fz_su_all rfl)
  have hXh58 : fz_Xh H46 := fz_Xh_eq (funext fun s => hf51 83 s rfl) hXh15
  have hXw59 : fz_Xw H46 := fz_Xw_eq (hf51 53 19 rfl) (funext fun s => hf51 66 s rfl) (funext fun s => hf51 67 s rfl) (funext fun s => hf51 68 s rfl) (funext fun s => hf51 69 s rfl) hXw16
  have hRS60 : fz_RS H46 := fz_RS_eq (funext fun s => hf51 48 s rfl) (funext fun s => hf51 49 s rfl) (funext fun s => hf51 50 s rfl) (funext fun s => hf51 51 s rfl) (funext fun s => hf51 83 s rfl) (funext fun s => hf51 84 s rfl) (hf51 44 2 rfl) hRS17
  have hRP61 : fz_RP H46 := fz_RP_eq (funext fun s => hf51 52 s rfl) (funext fun s => hf51 85 s rfl) hRP18
  have hRK62 : fz_RK H46 := fz_RK_eq (funext fun s => hf51 45 s rfl) (funext fun s => hf51 81 s rfl) hRK19
  have hRR63 : fz_RR H46 := fz_RR_eq (hf51 44 3 rfl) (hf51 53 46 rfl) (funext fun s => hf51 46 s rfl) (funext fun s => hf51 82 s rfl) hRR20
  have hRT64 : fz_RT H46 := fz_RT_eq (funext fun s => hf51 41 s rfl) (funext fun s => hf51 42 s rfl) (hf51 1 7 rfl) hRT21
  have hRE65 : fz_RE H46 := fz_RE_eq (funext fun s => hf51 5 s rfl) (funext fun s => hf51 6 s rfl) (hf51 1 8 rfl) (hf51 1 7 rfl) hRE8
  have hR566 : fz_R5 H46 := fz_R5_eq (funext fun s => hf51 5 s rfl) (funext fun s => hf51 55 s rfl) hR522
  have hR667 : fz_R6 H46 := fz_R6_eq (funext fun s => hf51 6 s rfl) (funext fun s => hf51 56 s rfl) hR623
  have hRJ68 : fz_RJ H46 := fz_RJ_eq (hf51 40 1 rfl) (hf51 53 34 rfl) (funext fun s => hf51 41 s rfl) (funext fun s => hf51 76 s rfl) (hf51 40 6 rfl) (hf51 53 37 rfl) (funext fun s => hf51 42 s rfl) (funext fun s => hf51 78 s rfl) (hf51 43 0 rfl) (hf51 53 38 rfl) hRJ24
  have hRW69 : fz_RW H46 := fz_RW_eq (funext fun s => hf51 10 s rfl) (funext fun s => hf51 60 s rfl) (hf51 9 5 rfl) hRW25
  have hRV70 : fz_RV H46 := fz_RV_eq (funext fun s => hf51 7 s rfl) (funext fun s => hf51 8 s rfl) (funext fun s => hf51 3 s rfl) (funext fun s => hf51 4 s rfl) (funext fun s => hf51 5 s rfl) (funext fun s => hf51 6 s rfl) (hf51 1 7 rfl) (hf51 1 8 rfl) hRV9
  have hRM71 : fz_RM H46 := fz_RM_eq (funext fun s => hf51 55 s rfl) (funext fun s => hf51 56 s rfl) (hf51 53 0 rfl) (hf51 53 2 rfl) hRM26
  have hRP272 : fz_RP2 H46 := fz_RP2_eq (funext fun s => hf51 11 s rfl) (hf51 9 5 rfl) (hf51 1 7 rfl) hRP227
  have hRA73 : fl_RA H46 := fl_RA_eq (funext fun s => hf51 26 s rfl) (funext fun s => hf51 65 s rfl) (hf51 20 2 rfl) hRA28
  have hRU74 : fl_RU H46 := fl_RU_eq (hf51 15 4 rfl) (funext fun s => hf51 16 s rfl) (funext fun s => hf51 17 s rfl) (hf51 53 18 rfl) (hf51 53 19 rfl) (funext fun s => hf51 66 s rfl) (funext fun s => hf51 67 s rfl) (funext fun s => hf51 68 s rfl) (funext fun s => hf51 69 s rfl) hRU29
  have hRD75 : fl_RD H46 := fl_RD_eq (hf51 40 2 rfl) (hf51 40 3 rfl) (hf51 40 4 rfl) (hf51 40 5 rfl) (funext fun s => hf51 77 s rfl) (hf51 43 1 rfl) (hf51 43 2 rfl) (hf51 43 3 rfl) (hf51 43 4 rfl) (funext fun s => hf51 79 s rfl) hRD30
  have hX76 : fz_Xc H46 := fz_Xc_fr hf51 rfl hX7
  have t77 : H46 53 10 = H1 53 10 := hf51 53 10 rfl
  have t78 : H46 53 41 = H1 53 41 := hf51 53 41 rfl
  have t79 : H46 9 5 = H1 9 5 := hf51 9 5 rfl
  have t80 : H46 53 10 = H1 53 10 := hf51 53 10 rfl
  have t81 : H46 44 2 = H1 44 2 := hf51 44 2 rfl
  have t82 : H46 53 44 = H1 53 44 := hf51 53 44 rfl
  have t83 : H46 20 2 = H1 20 2 := hf51 20 2 rfl
  have t84 : H46 53 16 = H1 53 16 := hf51 53 16 rfl
  have t85 : H46 1 7 = H1 1 7 := hf51 1 7 rfl
  have t86 : H46 53 0 = H1 53 0 := hf51 53 0 rfl
  have t87 : H46 1 8 = H1 1 8 := hf51 1 8 rfl
  have t88 : H46 53 2 = H1 53 2 := hf51 53 2 rfl
  refine fz_pop rfl kLc33 rfl ?_
  refine fz_goto (tgt := 1817) kLc33 rfl (by decide) ?_
  have k89 := fz_redo_rel hRC hR2 hR3 hR4 hR28 hRG hRL f11 f55 (fz_fr_lo hf6 rfl)
  have hR291 : fz_R2 H46 := k89.2.1
  have hR393 : fz_R3 H46 := k89.2.2.1
  have hR495 : fz_R4 H46 := k89.2.2.2.1
  have hR2897 : fz_R28 H46 := k89.2.2.2.2.1
  have hRG99 : fz_RG H46 := k89.2.2.2.2.2.1
  have hRL101 : fz_RL H46 := k89.2.2.2.2.2.2.1
  have hRC103 : fz_RC H46 := k89.2.2.2.2.2.2.2
  exact K H46 ⟨hI50, hX76, hXd52, hXh58, hXw59, (by rw [((hf51 53 10 rfl).trans (hf6 53 10 rfl))]; exact hv1), by omega, (((hf51 9 5 rfl).trans (hf6 9 5 rfl)).trans (hr0.trans ((hf51 53 10 rfl).trans (hf6 53 10 rfl)).symm)), (((hf51 44 2 rfl).trans (hf6 44 2 rfl)).trans (hr1.trans ((hf51 53 44 rfl).trans (hf6 53 44 rfl)).symm)), (((hf51 20 2 rfl).trans (hf6 20 2 rfl)).trans (hr2.trans ((hf51 53 16 rfl).trans (hf6 53 16 rfl)).symm)), (((hf51 1 7 rfl).trans (hf6 1 7 rfl)).trans (hr3.trans ((hf51 53 0 rfl).trans (hf6 53 0 rfl)).symm)), (((hf51 1 8 rfl).trans (hf6 1 8 rfl)).trans (hr4.trans ((hf51 53 2 rfl).trans (hf6 53 2 rfl)).symm)), hRS60, hRP61, hRK62, hRR63, hRT64, hRE65, hR291, hR393, hR495, hR2897, hR566, hR667, hRG99, hRL101, hRC103, hRJ68, hRW69, hRV70, hRM71, hRP272, hRA73, hRU74, hRD75⟩ (funext fun s => hf57 200 s rfl)
def mLc34 : fz_M := (yL_law, code, 4, (some .boolean), [(1427, .aload_n 1, 1, 0, 0, 0), (1428, .aload_n 0, 1, 0, 0, 0), (1429, .iload_n 3, 1, 0, 0, 0), (1430, .iconst 1, 1, 0, 0, 0), (1431, .iadd, 1, 0, 0, 0), (1432, .iaload, 1, 0, 0, 0), (1433, .invokevirtual 155, 3, 4208, 21, 0), (1436, .pop, 1, 0, 0, 0), (1437, .aload_n 2, 1, 0, 0, 0), (1438, .aload_n 0, 1, 0, 0, 0), (1439, .iload_n 3, 1, 0, 0, 0), (1440, .iconst 1, 1, 0, 0, 0), (1441, .iadd, 1, 0, 0, 0), (1442, .iaload, 1, 0, 0, 0), (1443, .invokevirtual 158, 3, 7133, 88, 0), (1446, .pop, 1, 0, 0, 0), (1447, .goto 370, 3, 0, 0, 0)])
set_option maxRecDepth 100000 in
theorem kLc34 : fz_okM mLc34 = true := fz_okM_in (by decide +kernel) (by decide +kernel)
set_option maxHeartbeats 1000000 in
set_option maxRecDepth 100000 in
theorem lc34 (h : fz_H) (hI : fz_Iv h) (hX : fz_Xc h) (hXd : fz_Xd h) (hXh : fz_Xh h) (hXw : fz_Xw h) (hv1 : h 53 10 ≤ 10) (hv2 : h 53 42 ≤ h 53 41) (hr0 : h 9 5 = h 53 10) (hr1 : h 44 2 = h 53 44) (hr2 : h 20 2 = h 53 16) (hr3 : h 1 7 = h 53 0) (hr4 : h 1 8 = h 53 2) (hRS : fz_RS h) (hRP : fz_RP h) (hRK : fz_RK h) (hRR : fz_RR h) (hRT : fz_RT h) (hRE : fz_RE h) (hR2 : fz_R2 h) (hR3 : fz_R3 h) (hR4 : fz_R4 h) (hR28 : fz_R28 h) (hR5 : fz_R5 h) (hR6 : fz_R6 h) (hRG : fz_RG h) (hRL : fz_RL h) (hRC : fz_RC h) (hRJ : fz_RJ h) (hRW : fz_RW h) (hRV : fz_RV h) (hRM : fz_RM h) (hRP2 : fz_RP2 h) (hRA : fz_RA h) (hRU : fz_RU h) (hRD : fz_RD h) (i : Int) (hi : 0 ≤ i ∧ i + 6 ≤ h 200 100000 ∧ h 200 100000 ≤ 3072) {Q : fz_H → Option fz_V → Prop} (K : ∀ H : fz_H, fz_Gd H → H 200 = h 200 → fz_R 47 mLe 1817 [(3, fz_i i), (0, fz_r 200), (1, fz_r 0), (2, fz_r 53)] [] H Q) : fz_R 47 mLc34 1427 [(3, fz_i i), (0, fz_r 200), (1, fz_r 0), (2, fz_r 53)] [] h Q := by
  have hf : fz_fr fz_all h h := fz_fr_rf
  refine fz_aload_n kLc34 rfl rfl ?_
  refine fz_aload_n kLc34 rfl rfl ?_
  refine fz_iload_n kLc34 rfl rfl ?_
  refine fz_iconst ⟨by decide, by decide⟩ kLc34 rfl ?_
  refine fz_iaddN kLc34 rfl (by omega) ?_
  obtain ⟨a1, e2⟩ : ∃ z, h 200 ((i + 1)).toNat = z := ⟨_, rfl⟩
  refine fz_taldV (v := a1) kLc34 rfl ⟨by decide, by decide⟩ (by omega) (by omega) e2 ?_
  have b3 : 0 ≤ h 44 2 ∧ h 44 2 ≤ 50 := hI.1 44 _
  refine fz_callV (d' := 1) (M' := mX10_body) (As := [fz_i a1]) (st := []) kLc34 rfl rfl vX10_body rfl rfl rfl rfl (Nat.le_of_ble_eq_true rfl) (Nat.le_of_ble_eq_true rfl) (by decide) (sX10_body h hI a1 ) (fun H4 r5 q6 o7 => ?_)
  obtain ⟨hI8, hf9, y13, rfl, f10, f11, f12⟩ := q6
  clear o7
  have hf14 := fz_fr_tr hf hf9 (fz_su_all rfl)
  have hXd15 : fz_Xd H4 := fz_Xd_eq (funext fun s => hf9 80 s rfl) hXd
  have hXh16 : fz_Xh H4 := fz_Xh_eq (funext fun s => hf9 83 s rfl) hXh
  have hXw17 : fz_Xw H4 := fz_Xw_eq (hf9 53 19 rfl) (funext fun s => hf9 66 s rfl) (funext fun s => hf9 67 s rfl) (funext fun s => hf9 68 s rfl) (funext fun s => hf9 69 s rfl) hXw
  have hRP18 : fz_RP H4 := fz_RP_eq (funext fun s => hf9 52 s rfl) (funext fun s => hf9 85 s rfl) hRP
  have hRR19 : fz_RR H4 := fz_RR_eq (hf9 44 3 rfl) (hf9 53 46 rfl) (funext fun s => hf9 46 s rfl) (funext fun s => hf9 82 s rfl) hRR
  have hRT20 : fz_RT H4 := fz_RT_eq (funext fun s => hf9 41 s rfl) (funext fun s => hf9 42 s rfl) (hf9 1 7 rfl) hRT
  have hRE21 : fz_RE H4 := fz_RE_eq (funext fun s => hf9 5 s rfl) (funext fun s => hf9 6 s rfl) (hf9 1 8 rfl) (hf9 1 7 rfl) hRE
  have hR222 : fz_R2 H4 := fz_R2_eq (funext fun s => hf9 2 s rfl) (funext fun s => hf9 54 s rfl) hR2
  have hR323 : fz_R3 H4 := fz_R3_eq (funext fun s => hf9 3 s rfl) (funext fun s => hf9 57 s rfl) hR3
  have hR424 : fz_R4 H4 := fz_R4_eq (funext fun s => hf9 4 s rfl) (funext fun s => hf9 58 s rfl) hR4
  have hR2825 : fz_R28 H4 := fz_R28_eq (funext fun s => hf9 28 s rfl) (funext fun s => hf9 59 s rfl) hR28
  have hR526 : fz_R5 H4 := fz_R5_eq (funext fun s => hf9 5 s rfl) (funext fun s => hf9 55 s rfl) hR5
  have hR627 : fz_R6 H4 := fz_R6_eq (funext fun s => hf9 6 s rfl) (funext fun s => hf9 56 s rfl) hR6
  have hRG28 : fz_RG H4 := fz_RG_eq (hf9 27 8 rfl) (hf9 27 9 rfl) (hf9 53 8 rfl) (hf9 53 9 rfl) hRG
  have hRL29 : fz_RL H4 := fz_RL_eq (funext fun s => hf9 11 s rfl) (funext fun s => hf9 12 s rfl) (funext fun s => hf9 13 s rfl) (funext fun s => hf9 14 s rfl) (funext fun s => hf9 61 s rfl) (funext fun s => hf9 62 s rfl) (funext fun s => hf9 63 s rfl) (funext fun s => hf9 64 s rfl) (hf9 9 5 rfl) hRL
  have hRC30 : fz_RC H4 := fz_RC_eq (hf9 35 4 rfl) (hf9 35 5 rfl) (hf9 53 41 rfl) (hf9 53 42 rfl) (funext fun s => hf9 36 s rfl) (funext fun s => hf9 37 s rfl) (funext fun s => hf9 38 s rfl) (funext fun s => hf9 39 s rfl) (funext fun s => hf9 80 s rfl) (hf9 1 7 rfl) (hf9 1 8 rfl) (hf9 9 5 rfl) hRC
  have hRJ31 : fz_RJ H4 := fz_RJ_eq (hf9 40 1 rfl) (hf9 53 34 rfl) (funext fun s => hf9 41 s rfl) (funext fun s => hf9 76 s rfl) (hf9 40 6 rfl) (hf9 53 37 rfl) (funext fun s => hf9 42 s rfl) (funext fun s => hf9 78 s rfl) (hf9 43 0 rfl) (hf9 53 38 rfl) hRJ
  have hRW32 : fz_RW H4 := fz_RW_eq (funext fun s => hf9 10 s rfl) (funext fun s => hf9 60 s rfl) (hf9 9 5 rfl) hRW
  have hRV33 : fz_RV H4 := fz_RV_eq (funext fun s => hf9 7 s rfl) (funext fun s => hf9 8 s rfl) (funext fun s => hf9 3 s rfl) (funext fun s => hf9 4 s rfl) (funext fun s => hf9 5 s rfl) (funext fun s => hf9 6 s rfl) (hf9 1 7 rfl) (hf9 1 8 rfl) hRV
  have hRM34 : fz_RM H4 := fz_RM_eq (funext fun s => hf9 55 s rfl) (funext fun s => hf9 56 s rfl) (hf9 53 0 rfl) (hf9 53 2 rfl) hRM
  have hRP235 : fz_RP2 H4 := fz_RP2_eq (funext fun s => hf9 11 s rfl) (hf9 9 5 rfl) (hf9 1 7 rfl) hRP2
  have hRA36 : fl_RA H4 := fl_RA_eq (funext fun s => hf9 26 s rfl) (funext fun s => hf9 65 s rfl) (hf9 20 2 rfl) hRA
  have hRU37 : fl_RU H4 := fl_RU_eq (hf9 15 4 rfl) (funext fun s => hf9 16 s rfl) (funext fun s => hf9 17 s rfl) (hf9 53 18 rfl) (hf9 53 19 rfl) (funext fun s => hf9 66 s rfl) (funext fun s => hf9 67 s rfl) (funext fun s => hf9 68 s rfl) (funext fun s => hf9 69 s rfl) hRU
  have hRD38 : fl_RD H4 := fl_RD_eq (hf9 40 2 rfl) (hf9 40 3 rfl) (hf9 40 4 rfl) (hf9 40 5 rfl) (funext fun s => hf9 77 s rfl) (hf9 43 1 rfl) (hf9 43 2 rfl) (hf9 43 3 rfl) (hf9 43 4 rfl) (funext fun s => hf9 79 s rfl) hRD
  have hX39 : fz_Xc H4 := fz_Xc_fr hf9 rfl hX
  have t40 : H4 53 10 = h 53 10 := hf9 53 10 rfl
  have t41 : H4 53 41 = h 53 41 := hf9 53 41 rfl
  have t42 : H4 53 42 = h 53 42 := hf9 53 42 rfl
  have t43 : H4 9 5 = h 9 5 := hf9 9 5 rfl
  have t44 : H4 53 10 = h 53 10 := hf9 53 10 rfl
  have t45 : H4 53 44 = h 53 44 := hf9 53 44 rfl
  have t46 : H4 20 2 = h 20 2 := hf9 20 2 rfl
  have t47 : H4 53 16 = h 53 16 := hf9 53 16 rfl
  have t48 : H4 1 7 = h 1 7 := hf9 1 7 rfl
  have t49 : H4 53 0 = h 53 0 := hf9 53 0 rfl
  have t50 : H4 1 8 = h 1 8 := hf9 1 8 rfl
  have t51 : H4 53 2 = h 53 2 := hf9 53 2 rfl
  refine fz_pop rfl kLc34 rfl ?_
  refine fz_aload_n kLc34 rfl rfl ?_
  refine fz_aload_n kLc34 rfl rfl ?_
  refine fz_iload_n kLc34 rfl rfl ?_
  refine fz_iconst ⟨by decide, by decide⟩ kLc34 rfl ?_
  refine fz_iaddN kLc34 rfl (by omega) ?_
  refine fz_taldV (v := a1) kLc34 rfl ⟨by decide, by decide⟩ (by omega) (by rw [hf14 200 _ rfl]; omega) ((hf14 200 _ rfl).trans e2) ?_
  have b52 : 0 ≤ H4 53 44 ∧ H4 53 44 ≤ 50 := hI8.1 53 _
  refine fz_callV (d' := 1) (M' := mX11_body) (As := [fz_i a1]) (st := []) kLc34 rfl rfl vX11_body rfl rfl rfl rfl (Nat.le_of_ble_eq_true rfl) (Nat.le_of_ble_eq_true rfl) (by decide) (sX11_body H4 hI8 a1 ) (fun H53 r54 q55 o56 => ?_)
  obtain ⟨hI57, hf58, y62, rfl, f59, f60, f61⟩ := q55
  clear o56
  have hf63 := fz_fr_tr hf14 hf58 (fz_su_all rfl)
  have hXd64 : fz_Xd H53 := fz_Xd_eq (funext fun s => hf58 80 s rfl) hXd15
  have hXh65 : fz_Xh H53 := fz_Xh_eq (funext fun s => hf58 83 s rfl) hXh16
  have hXw66 : fz_Xw H53 := fz_Xw_eq (hf58 53 19 rfl) (funext fun s => hf58 66 s rfl) (funext fun s => hf58 67 s rfl) (funext fun s => hf58 68 s rfl) (funext fun s => hf58 69 s rfl) hXw17
  have hRP67 : fz_RP H53 := fz_RP_eq (funext fun s => hf58 52 s rfl) (funext fun s => hf58 85 s rfl) hRP18
  have hRR68 : fz_RR H53 := fz_RR_eq (hf58 44 3 rfl) (hf58 53 46 rfl) (funext fun s => hf58 46 s rfl) (funext fun s => hf58 82 s rfl) hRR19
  have hRT69 : fz_RT H53 := fz_RT_eq (funext fun s => hf58 41 s rfl) (funext fun s => hf58 42 s rfl) (hf58 1 7 rfl) hRT20
  have hRE70 : fz_RE H53 := fz_RE_eq (funext fun s => hf58 5 s rfl) (funext fun s => hf58 6 s rfl) (hf58 1 8 rfl) (hf58 1 7 rfl) hRE21
  have hR271 : fz_R2 H53 := fz_R2_eq (funext fun s => hf58 2 s rfl) (funext fun s => hf58 54 s rfl) hR222
  have hR372 : fz_R3 H53 := fz_R3_eq (funext fun s => hf58 3 s rfl) (funext fun s => hf58 57 s rfl) hR323
  have hR473 : fz_R4 H53 := fz_R4_eq (funext fun s => hf58 4 s rfl) (funext fun s => hf58 58 s rfl) hR424
  have hR2874 : fz_R28 H53 := fz_R28_eq (funext fun s => hf58 28 s rfl) (funext fun s => hf58 59 s rfl) hR2825
  have hR575 : fz_R5 H53 := fz_R5_eq (funext fun s => hf58 5 s rfl) (funext fun s => hf58 55 s rfl) hR526
  have hR676 : fz_R6 H53 := fz_R6_eq (funext fun s => hf58 6 s rfl) (funext fun s => hf58 56 s rfl) hR627
  have hRG77 : fz_RG H53 := fz_RG_eq (hf58 27 8 rfl) (hf58 27 9 rfl) (hf58 53 8 rfl) (hf58 53 9 rfl) hRG28
  have hRL78 : fz_RL H53 := fz_RL_eq (funext fun s => hf58 11 s rfl) (funext fun s => hf58 12 s rfl) (funext fun s => hf58 13 s rfl) (funext fun s => hf58 14 s rfl) (funext fun s => hf58 61 s rfl) (funext fun s => hf58 62 s rfl) (funext fun s => hf58 63 s rfl) (funext fun s => hf58 64 s rfl) (hf58 9 5 rfl) hRL29
  have hRC79 : fz_RC H53 := fz_RC_eq (hf58 35 4 rfl) (hf58 35 5 rfl) (hf58 53 41 rfl) (hf58 53 42 rfl) (funext fun s => hf58 36 s rfl) (funext fun s => hf58 37 s rfl) (funext fun s => hf58 38 s rfl) (funext fun s => hf58 39 s rfl) (funext fun s => hf58 80 s rfl) (hf58 1 7 rfl) (hf58 1 8 rfl) (hf58 9 5 rfl) hRC30
  have hRJ80 : fz_RJ H53 := fz_RJ_eq (hf58 40 1 rfl) (hf58 53 34 rfl) (funext fun s => hf58 41 s rfl) (funext fun s => hf58 76 s rfl) (hf58 40 6 rfl) (hf58 53 37 rfl) (funext fun s => hf58 42 s rfl) (funext fun s => hf58 78 s rfl) (hf58 43 0 rfl) (hf58 53 38 rfl) hRJ31
  have hRW81 : fz_RW H53 := fz_RW_eq (funext fun s => hf58 10 s rfl) (funext fun s => hf58 60 s rfl) (hf58 9 5 rfl) hRW32
  have hRV82 : fz_RV H53 := fz_RV_eq (funext fun s => hf58 7 s rfl) (funext fun s => hf58 8 s rfl) (funext fun s => hf58 3 s rfl) (funext fun s => hf58 4 s rfl) (funext fun s => hf58 5 s rfl) (funext fun s => hf58 6 s rfl) (hf58 1 7 rfl) (hf58 1 8 rfl) hRV33
  have hRM83 : fz_RM H53 := fz_RM_eq (funext fun s => hf58 55 s rfl) (funext fun s => hf58 56 s rfl) (hf58 53 0 rfl) (hf58 53 2 rfl) hRM34
  have hRP284 : fz_RP2 H53 := fz_RP2_eq (funext fun s => hf58 11 s rfl) (hf58 9 5 rfl) (hf58 1 7 rfl) hRP235
  have hRA85 : fl_RA H53 := fl_RA_eq (funext fun s => hf58 26 s rfl) (funext fun s => hf58 65 s rfl) (hf58 20 2 rfl) hRA36
  have hRU86 : fl_RU H53 := fl_RU_eq (hf58 15 4 rfl) (funext fun s => hf58 16 s rfl) (funext fun s => hf58 17 s rfl) (hf58 53 18 rfl) (hf58 53 19 rfl) (funext fun s => hf58 66 s rfl) (funext fun s => hf58 67 s rfl) (funext fun s => hf58 68 s rfl) (funext fun s => hf58 69 s rfl) hRU37
  have hRD87 : fl_RD H53 := fl_RD_eq (hf58 40 2 rfl) (hf58 40 3 rfl) (hf58 40 4 rfl) (hf58 40 5 rfl) (funext fun s => hf58 77 s rfl) (hf58 43 1 rfl) (hf58 43 2 rfl) (hf58 43 3 rfl) (hf58 43 4 rfl) (funext fun s => hf58 79 s rfl) hRD38
  have hX88 : fz_Xc H53 := fz_Xc_fr hf58 rfl hX39
  have t89 : H53 53 10 = H4 53 10 := hf58 53 10 rfl
  have t90 : H53 53 41 = H4 53 41 := hf58 53 41 rfl
  have t91 : H53 53 42 = H4 53 42 := hf58 53 42 rfl
  have t92 : H53 9 5 = H4 9 5 := hf58 9 5 rfl
  have t93 : H53 53 10 = H4 53 10 := hf58 53 10 rfl
  have t94 : H53 44 2 = H4 44 2 := hf58 44 2 rfl
  have t95 : H53 20 2 = H4 20 2 := hf58 20 2 rfl
  have t96 : H53 53 16 = H4 53 16 := hf58 53 16 rfl
  have t97 : H53 1 7 = H4 1 7 := hf58 1 7 rfl
  have t98 : H53 53 0 = H4 53 0 := hf58 53 0 rfl
  have t99 : H53 1 8 = H4 1 8 := hf58 1 8 rfl
  have t100 : H53 53 2 = H4 53 2 := hf58 53 2 rfl
  refine fz_pop rfl kLc34 rfl ?_
  refine fz_goto (tgt := 1817) kLc34 rfl (by decide) ?_
  have hRS101 : fz_RS H53 := fz_RS_b (funext fun s => (hf58 48 s rfl).trans (hf9 48 s rfl)) (funext fun s => (hf58 49 s rfl).trans (hf9 49 s rfl)) (funext fun s => (hf58 50 s rfl).trans (hf9 50 s rfl)) (funext fun s => (hf58 51 s rfl).trans (hf9 51 s rfl)) (funext fun s => (hf58 83 s rfl).trans (hf9 83 s rfl)) (funext fun s => (hf58 84 s rfl).trans (hf9 84 s rfl)) (by omega) hRS
  have hRK103 : fz_RK H53 := fz_RK_body hRK f12 f61 (by omega) (funext fun s => hf9 81 s rfl) (funext fun s => hf58 45 s rfl)
  exact K H53 ⟨hI57, hX88, hXd64, hXh65, hXw66, (by rw [((hf58 53 10 rfl).trans (hf9 53 10 rfl))]; exact hv1), (by rw [((hf58 53 42 rfl).trans (hf9 53 42 rfl)), ((hf58 53 41 rfl).trans (hf9 53 41 rfl))]; exact hv2), (((hf58 9 5 rfl).trans (hf9 9 5 rfl)).trans (hr0.trans ((hf58 53 10 rfl).trans (hf9 53 10 rfl)).symm)), by omega, (((hf58 20 2 rfl).trans (hf9 20 2 rfl)).trans (hr2.trans ((hf58 53 16 rfl).trans (hf9 53 16 rfl)).symm)), (((hf58 1 7 rfl).trans (hf9 1 7 rfl)).trans (hr3.trans ((hf58 53 0 rfl).trans (hf9 53 0 rfl)).symm)), (((hf58 1 8 rfl).trans (hf9 1 8 rfl)).trans (hr4.trans ((hf58 53 2 rfl).trans (hf9 53 2 rfl)).symm)), hRS101, hRP67, hRK103, hRR68, hRT69, hRE70, hR271, hR372, hR473, hR2874, hR575, hR676, hRG77, hRL78, hRC79, hRJ80, hRW81, hRV82, hRM83, hRP284, hRA85, hRU86, hRD87⟩ (funext fun s => hf63 200 s rfl)
def mLc35 : fz_M := (yL_law, code, 4, (some .boolean), [(1450, .aload_n 1, 1, 0, 0, 0), (1451, .aload_n 0, 1, 0, 0, 0), (1452, .iload_n 3, 1, 0, 0, 0), (1453, .iconst 1, 1, 0, 0, 0), (1454, .iadd, 1, 0, 0, 0), (1455, .iaload, 1, 0, 0, 0), (1456, .aload_n 0, 1, 0, 0, 0), (1457, .iload_n 3, 1, 0, 0, 0), (1458, .iconst 2, 1, 0, 0, 0), (1459, .iadd, 1, 0, 0, 0), (1460, .iaload, 1, 0, 0, 0), (1461, .aload_n 0, 1, 0, 0, 0), (1462, .iload_n 3, 1, 0, 0, 0), (1463, .iconst 3, 1, 0, 0, 0), (1464, .iadd, 1, 0, 0, 0), (1465, .iaload, 1, 0, 0, 0), (1466, .invokevirtual 159, 3, 4220, 13, 0), (1469, .pop, 1, 0, 0, 0), (1470, .aload_n 2, 1, 0, 0, 0), (1471, .aload_n 0, 1, 0, 0, 0), (1472, .iload_n 3, 1, 0, 0, 0), (1473, .iconst 1, 1, 0, 0, 0), (1474, .iadd, 1, 0, 0, 0), (1475, .iaload, 1, 0, 0, 0), (1476, .aload_n 0, 1, 0, 0, 0), (1477, .iload_n 3, 1, 0, 0, 0), (1478, .iconst 2, 1, 0, 0, 0), (1479, .iadd, 1, 0, 0, 0), (1480, .iaload, 1, 0, 0, 0), (1481, .aload_n 0, 1, 0, 0, 0), (1482, .iload_n 3, 1, 0, 0, 0), (1483, .iconst 3, 1, 0, 0, 0), (1484, .iadd, 1, 0, 0, 0), (1485, .iaload, 1, 0, 0, 0), (1486, .invokevirtual 162, 3, 7137, 81, 0), (1489, .pop, 1, 0, 0, 0), (1490, .goto 327, 3, 0, 0, 0)])
set_option maxRecDepth 100000 in
theorem kLc35 : fz_okM mLc35 = true := fz_okM_in (by decide +kernel) (by decide +kernel)
set_option maxHeartbeats 1000000 in
set_option maxRecDepth 100000 in
theorem lc35 (h : fz_H) (hI : fz_Iv h) (hX : fz_Xc h) (hXd : fz_Xd h) (hXh : fz_Xh h) (hXw : fz_Xw h) (hv1 : h 53 10 ≤ 10) (hv2 : h 53 42 ≤ h 53 41) (hr0 : h 9 5 = h 53 10) (hr1 : h 44 2 = h 53 44) (hr2 : h 20 2 = h 53 16) (hr3 : h 1 7 = h 53 0) (hr4 : h 1 8 = h 53 2) (hRS : fz_RS h) (hRP : fz_RP h) (hRK : fz_RK h) (hRR : fz_RR h) (hRT : fz_RT h) (hRE : fz_RE h) (hR2 : fz_R2 h) (hR3 : fz_R3 h) (hR4 : fz_R4 h) (hR28 : fz_R28 h) (hR5 : fz_R5 h) (hR6 : fz_R6 h) (hRG : fz_RG h) (hRL : fz_RL h) (hRC : fz_RC h) (hRJ : fz_RJ h) (hRW : fz_RW h) (hRV : fz_RV h) (hRM : fz_RM h) (hRP2 : fz_RP2 h) (hRA : fz_RA h) (hRU : fz_RU h) (hRD : fz_RD h) (i : Int) (hi : 0 ≤ i ∧ i + 6 ≤ h 200 100000 ∧ h 200 100000 ≤ 3072) {Q : fz_H → Option fz_V → Prop} (K : ∀ H : fz_H, fz_Gd H → H 200 = h 200 → fz_R 47 mLe 1817 [(3, fz_i i), (0, fz_r 200), (1, fz_r 0), (2, fz_r 53)] [] H Q) : fz_R 47 mLc35 1450 [(3, fz_i i), (0, fz_r 200), (1, fz_r 0), (2, fz_r 53)] [] h Q := by
  have hf : fz_fr fz_all h h := fz_fr_rf
  refine fz_aload_n kLc35 rfl rfl ?_
  refine fz_aload_n kLc35 rfl rfl ?_
  refine fz_iload_n kLc35 rfl rfl ?_
  refine fz_iconst ⟨by decide, by decide⟩ kLc35 rfl ?_
  refine fz_iaddN kLc35 rfl (by omega) ?_
  obtain ⟨a1, e2⟩ : ∃ z, h 200 ((i + 1)).toNat = z := ⟨_, rfl⟩
  refine fz_taldV (v := a1) kLc35 rfl ⟨by decide, by decide⟩ (by omega) (by omega) e2 ?_
  refine fz_aload_n kLc35 rfl rfl ?_
  refine fz_iload_n kLc35 rfl rfl ?_
  refine fz_iconst ⟨by decide, by decide⟩ kLc35 rfl ?_
  refine fz_iaddN kLc35 rfl (by omega) ?_
  obtain ⟨a3, e4⟩ : ∃ z, h 200 ((i + 2)).toNat = z := ⟨_, rfl⟩
  refine fz_taldV (v := a3) kLc35 rfl ⟨by decide, by decide⟩ (by omega) (by omega) e4 ?_
  refine fz_aload_n kLc35 rfl rfl ?_
  refine fz_iload_n kLc35 rfl rfl ?_
  refine fz_iconst ⟨by decide, by decide⟩ kLc35 rfl ?_
  refine fz_iaddN kLc35 rfl (by omega) ?_
  obtain ⟨a5, e6⟩ : ∃ z, h 200 ((i + 3)).toNat = z := ⟨_, rfl⟩
  refine fz_taldV (v := a5) kLc35 rfl ⟨by decide, by decide⟩ (by omega) (by omega) e6 ?_
  have b7 : 0 ≤ h 44 2 ∧ h 44 2 ≤ 50 := hI.1 44 _
  refine fz_callV (d' := 8) (M' := mX10_act) (As := [fz_i a1, fz_i a3, fz_i a5]) (st := []) kLc35 rfl rfl vX10_act rfl rfl rfl rfl (Nat.le_of_ble_eq_true rfl) (Nat.le_of_ble_eq_true rfl) (by decide) (sX10_act h hI a1 a3 a5 ) (fun H8 r9 q10 o11 => ?_)
  obtain ⟨hI12, hf13, y16, rfl, f14, f15⟩ := q10
  clear o11
  have hf17 := fz_fr_tr hf hf13 (fz_su_all rfl)
  have hXd18 : fz_Xd H8 := fz_Xd_eq (funext fun s => hf13 80 s rfl) hXd
  have hXh19 : fz_Xh H8 := fz_Xh_eq (funext fun s => hf13 83 s rfl) hXh
  have hXw20 : fz_Xw H8 := fz_Xw_eq (hf13 53 19 rfl) (funext fun s => hf13 66 s rfl) (funext fun s => hf13 67 s rfl) (funext fun s => hf13 68 s rfl) (funext fun s => hf13 69 s rfl) hXw
  have hRS21 : fz_RS H8 := fz_RS_eq (funext fun s => hf13 48 s rfl) (funext fun s => hf13 49 s rfl) (funext fun s => hf13 50 s rfl) (funext fun s => hf13 51 s rfl) (funext fun s => hf13 83 s rfl) (funext fun s => hf13 84 s rfl) (hf13 44 2 rfl) hRS
  have hRP22 : fz_RP H8 := fz_RP_eq (funext fun s => hf13 52 s rfl) (funext fun s => hf13 85 s rfl) hRP
  have hRK23 : fz_RK H8 := fz_RK_eq (funext fun s => hf13 45 s rfl) (funext fun s => hf13 81 s rfl) hRK
  have hRT24 : fz_RT H8 := fz_RT_eq (funext fun s => hf13 41 s rfl) (funext fun s => hf13 42 s rfl) (hf13 1 7 rfl) hRT
  have hRE25 : fz_RE H8 := fz_RE_eq (funext fun s => hf13 5 s rfl) (funext fun s => hf13 6 s rfl) (hf13 1 8 rfl) (hf13 1 7 rfl) hRE
  have hR226 : fz_R2 H8 := fz_R2_eq (funext fun s => hf13 2 s rfl) (funext fun s => hf13 54 s rfl) hR2
  have hR327 : fz_R3 H8 := fz_R3_eq (funext fun s => hf13 3 s rfl) (funext fun s => hf13 57 s rfl) hR3
  have hR428 : fz_R4 H8 := fz_R4_eq (funext fun s => hf13 4 s rfl) (funext fun s => hf13 58 s rfl) hR4
  have hR2829 : fz_R28 H8 := fz_R28_eq (funext fun s => hf13 28 s rfl) (funext fun s => hf13 59 s rfl) hR28
  have hR530 : fz_R5 H8 := fz_R5_eq (funext fun s => hf13 5 s rfl) (funext fun s => hf13 55 s rfl) hR5
  have hR631 : fz_R6 H8 := fz_R6_eq (funext fun s => hf13 6 s rfl) (funext fun s => hf13 56 s rfl) hR6
  have hRG32 : fz_RG H8 := fz_RG_eq (hf13 27 8 rfl) (hf13 27 9 rfl) (hf13 53 8 rfl) (hf13 53 9 rfl) hRG
  have hRL33 : fz_RL H8 := fz_RL_eq (funext fun s => hf13 11 s rfl) (funext fun s => hf13 12 s rfl) (funext fun s => hf13 13 s rfl) (funext fun s => hf13 14 s rfl) (funext fun s => hf13 61 s rfl) (funext fun s => hf13 62 s rfl) (funext fun s => hf13 63 s rfl) (funext fun s => hf13 64 s rfl) (hf13 9 5 rfl) hRL
  have hRC34 : fz_RC H8 := fz_RC_eq (hf13 35 4 rfl) (hf13 35 5 rfl) (hf13 53 41 rfl) (hf13 53 42 rfl) (funext fun s => hf13 36 s rfl) (funext fun s => hf13 37 s rfl) (funext fun s => hf13 38 s rfl) (funext fun s => hf13 39 s rfl) (funext fun s => hf13 80 s rfl) (hf13 1 7 rfl) (hf13 1 8 rfl) (hf13 9 5 rfl) hRC
  have hRJ35 : fz_RJ H8 := fz_RJ_eq (hf13 40 1 rfl) (hf13 53 34 rfl) (funext fun s => hf13 41 s rfl) (funext fun s => hf13 76 s rfl) (hf13 40 6 rfl) (hf13 53 37 rfl) (funext fun s => hf13 42 s rfl) (funext fun s => hf13 78 s rfl) (hf13 43 0 rfl) (hf13 53 38 rfl) hRJ
  have hRW36 : fz_RW H8 := fz_RW_eq (funext fun s => hf13 10 s rfl) (funext fun s => hf13 60 s rfl) (hf13 9 5 rfl) hRW
  have hRV37 : fz_RV H8 := fz_RV_eq (funext fun s => hf13 7 s rfl) (funext fun s => hf13 8 s rfl) (funext fun s => hf13 3 s rfl) (funext fun s => hf13 4 s rfl) (funext fun s => hf13 5 s rfl) (funext fun s => hf13 6 s rfl) (hf13 1 7 rfl) (hf13 1 8 rfl) hRV
  have hRM38 : fz_RM H8 := fz_RM_eq (funext fun s => hf13 55 s rfl) (funext fun s => hf13 56 s rfl) (hf13 53 0 rfl) (hf13 53 2 rfl) hRM
  have hRP239 : fz_RP2 H8 := fz_RP2_eq (funext fun s => hf13 11 s rfl) (hf13 9 5 rfl) (hf13 1 7 rfl) hRP2
  have hRA40 : fl_RA H8 := fl_RA_eq (funext fun s => hf13 26 s rfl) (funext fun s => hf13 65 s rfl) (hf13 20 2 rfl) hRA
  have hRU41 : fl_RU H8 := fl_RU_eq (hf13 15 4 rfl) (funext fun s => hf13 16 s rfl) (funext fun s => hf13 17 s rfl) (hf13 53 18 rfl) (hf13 53 19 rfl) (funext fun s => hf13 66 s rfl) (funext fun s => hf13 67 s rfl) (funext fun s => hf13 68 s rfl) (funext fun s => hf13 69 s rfl) hRU
  have hRD42 : fl_RD H8 := fl_RD_eq (hf13 40 2 rfl) (hf13 40 3 rfl) (hf13 40 4 rfl) (hf13 40 5 rfl) (funext fun s => hf13 77 s rfl) (hf13 43 1 rfl) (hf13 43 2 rfl) (hf13 43 3 rfl) (hf13 43 4 rfl) (funext fun s => hf13 79 s rfl) hRD
  have hX43 : fz_Xc H8 := fz_Xc_fr hf13 rfl hX
  have t44 : H8 53 10 = h 53 10 := hf13 53 10 rfl
  have t45 : H8 53 41 = h 53 41 := hf13 53 41 rfl
  have t46 : H8 53 42 = h 53 42 := hf13 53 42 rfl
  have t47 : H8 9 5 = h 9 5 := hf13 9 5 rfl
  have t48 : H8 53 10 = h 53 10 := hf13 53 10 rfl
  have t49 : H8 44 2 = h 44 2 := hf13 44 2 rfl
  have t50 : H8 53 44 = h 53 44 := hf13 53 44 rfl
  have t51 : H8 20 2 = h 20 2 := hf13 20 2 rfl
  have t52 : H8 53 16 = h 53 16 := hf13 53 16 rfl
  have t53 : H8 1 7 = h 1 7 := hf13 1 7 rfl
  have t54 : H8 53 0 = h 53 0 := hf13 53 0 rfl
  have t55 : H8 1 8 = h 1 8 := hf13 1 8 rfl
  have t56 : H8 53 2 = h 53 2 := hf13 53 2 rfl
  refine fz_pop rfl kLc35 rfl ?_
  refine fz_aload_n kLc35 rfl rfl ?_
  refine fz_aload_n kLc35 rfl rfl ?_
  refine fz_iload_n kLc35 rfl rfl ?_
  refine fz_iconst ⟨by decide, by decide⟩ kLc35 rfl ?_
  refine fz_iaddN kLc35 rfl (by omega) ?_
  refine fz_taldV (v := a1) kLc35 rfl ⟨by decide, by decide⟩ (by omega) (by rw [hf17 200 _ rfl]; omega) ((hf17 200 _ rfl).trans e2) ?_
  refine fz_aload_n kLc35 rfl rfl ?_
  refine fz_iload_n kLc35 rfl rfl ?_
  refine fz_iconst ⟨by decide, by decide⟩ kLc35 rfl ?_
  refine fz_iaddN kLc35 rfl (by omega) ?_
  refine fz_taldV (v := a3) kLc35 rfl ⟨by decide, by decide⟩ (by omega) (by rw [hf17 200 _ rfl]; omega) ((hf17 200 _ rfl).trans e4) ?_
  refine fz_aload_n kLc35 rfl rfl ?_
  refine fz_iload_n kLc35 rfl rfl ?_
  refine fz_iconst ⟨by decide, by decide⟩ kLc35 rfl ?_
  refine fz_iaddN kLc35 rfl (by omega) ?_
  refine fz_taldV (v := a5) kLc35 rfl ⟨by decide, by decide⟩ (by omega) (by rw [hf17 200 _ rfl]; omega) ((hf17 200 _ rfl).trans e6) ?_
  have b57 : 0 ≤ H8 53 44 ∧ H8 53 44 ≤ 50 := hI12.1 53 _
  refine fz_callV (d' := 13) (M' := mX11_act) (As := [fz_i a1, fz_i a3, fz_i a5]) (st := []) kLc35 rfl rfl vX11_act rfl rfl rfl rfl (Nat.le_of_ble_eq_true rfl) (Nat.le_of_ble_eq_true rfl) (by decide) (sX11_act H8 hI12 a1 a3 a5 ) (fun H58 r59 q60 o61 => ?_)
  obtain ⟨hI62, hf63, y66, rfl, f64, f65⟩ := q60
  clear o61
  have hf67 := fz_fr_tr hf17 hf63 (fz_su_all rfl)
  have hXd68 : fz_Xd H58 := fz_Xd_eq (funext fun s => hf63 80 s rfl) hXd18
  have hXh69 : fz_Xh H58 := fz_Xh_eq (funext fun s => hf63 83 s rfl) hXh19
  have hXw70 : fz_Xw H58 := fz_Xw_eq (hf63 53 19 rfl) (funext fun s => hf63 66 s rfl) (funext fun s => hf63 67 s rfl) (funext fun s => hf63 68 s rfl) (funext fun s => hf63 69 s rfl) hXw20
  have hRS71 : fz_RS H58 := fz_RS_eq (funext fun s => hf63 48 s rfl) (funext fun s => hf63 49 s rfl) (funext fun s => hf63 50 s rfl) (funext fun s => hf63 51 s rfl) (funext fun s => hf63 83 s rfl) (funext fun s => hf63 84 s rfl) (hf63 44 2 rfl) hRS21
  have hRP72 : fz_RP H58 := fz_RP_eq (funext fun s => hf63 52 s rfl) (funext fun s => hf63 85 s rfl) hRP22
  have hRK73 : fz_RK H58 := fz_RK_eq (funext fun s => hf63 45 s rfl) (funext fun s => hf63 81 s rfl) hRK23
  have hRT74 : fz_RT H58 := fz_RT_eq (funext fun s => hf63 41 s rfl) (funext fun s => hf63 42 s rfl) (hf63 1 7 rfl) hRT24
  have hRE75 : fz_RE H58 := fz_RE_eq (funext fun s => hf63 5 s rfl) (funext fun s => hf63 6 s rfl) (hf63 1 8 rfl) (hf63 1 7 rfl) hRE25
  have hR276 : fz_R2 H58 := fz_R2_eq (funext fun s => hf63 2 s rfl) (funext fun s => hf63 54 s rfl) hR226
  have hR377 : fz_R3 H58 := fz_R3_eq (funext fun s => hf63 3 s rfl) (funext fun s => hf63 57 s rfl) hR327
  have hR478 : fz_R4 H58 := fz_R4_eq (funext fun s => hf63 4 s rfl) (funext fun s => hf63 58 s rfl) hR428
  have hR2879 : fz_R28 H58 := fz_R28_eq (funext fun s => hf63 28 s rfl) (funext fun s => hf63 59 s rfl) hR2829
  have hR580 : fz_R5 H58 := fz_R5_eq (funext fun s => hf63 5 s rfl) (funext fun s => hf63 55 s rfl) hR530
  have hR681 : fz_R6 H58 := fz_R6_eq (funext fun s => hf63 6 s rfl) (funext fun s => hf63 56 s rfl) hR631
  have hRG82 : fz_RG H58 := fz_RG_eq (hf63 27 8 rfl) (hf63 27 9 rfl) (hf63 53 8 rfl) (hf63 53 9 rfl) hRG32
  have hRL83 : fz_RL H58 := fz_RL_eq (funext fun s => hf63 11 s rfl) (funext fun s => hf63 12 s rfl) (funext fun s => hf63 13 s rfl) (funext fun s => hf63 14 s rfl) (funext fun s => hf63 61 s rfl) (funext fun s => hf63 62 s rfl) (funext fun s => hf63 63 s rfl) (funext fun s => hf63 64 s rfl) (hf63 9 5 rfl) hRL33
  have hRC84 : fz_RC H58 := fz_RC_eq (hf63 35 4 rfl) (hf63 35 5 rfl) (hf63 53 41 rfl) (hf63 53 42 rfl) (funext fun s => hf63 36 s rfl) (funext fun s => hf63 37 s rfl) (funext fun s => hf63 38 s rfl) (funext fun s => hf63 39 s rfl) (funext fun s => hf63 80 s rfl) (hf63 1 7 rfl) (hf63 1 8 rfl) (hf63 9 5 rfl) hRC34
  have hRJ85 : fz_RJ H58 := fz_RJ_eq (hf63 40 1 rfl) (hf63 53 34 rfl) (funext fun s => hf63 41 s rfl) (funext fun s => hf63 76 s rfl) (hf63 40 6 rfl) (hf63 53 37 rfl) (funext fun s => hf63 42 s rfl) (funext fun s => hf63 78 s rfl) (hf63 43 0 rfl) (hf63 53 38 rfl) hRJ35
  have hRW86 : fz_RW H58 := fz_RW_eq (funext fun s => hf63 10 s rfl) (funext fun s => hf63 60 s rfl) (hf63 9 5 rfl) hRW36
  have hRV87 : fz_RV H58 := fz_RV_eq (funext fun s => hf63 7 s rfl) (funext fun s => hf63 8 s rfl) (funext fun s => hf63 3 s rfl) (funext fun s => hf63 4 s rfl) (funext fun s => hf63 5 s rfl) (funext fun s => hf63 6 s rfl) (hf63 1 7 rfl) (hf63 1 8 rfl) hRV37
  have hRM88 : fz_RM H58 := fz_RM_eq (funext fun s => hf63 55 s rfl) (funext fun s => hf63 56 s rfl) (hf63 53 0 rfl) (hf63 53 2 rfl) hRM38
  have hRP289 : fz_RP2 H58 := fz_RP2_eq (funext fun s => hf63 11 s rfl) (hf63 9 5 rfl) (hf63 1 7 rfl) hRP239
  have hRA90 : fl_RA H58 := fl_RA_eq (funext fun s => hf63 26 s rfl) (funext fun s => hf63 65 s rfl) (hf63 20 2 rfl) hRA40
  have hRU91 : fl_RU H58 := fl_RU_eq (hf63 15 4 rfl) (funext fun s => hf63 16 s rfl) (funext fun s => hf63 17 s rfl) (hf63 53 18 rfl) (hf63 53 19 rfl) (funext fun s => hf63 66 s rfl) (funext fun s => hf63 67 s rfl) (funext fun s => hf63 68 s rfl) (funext fun s => hf63 69 s rfl) hRU41
  have hRD92 : fl_RD H58 := fl_RD_eq (hf63 40 2 rfl) (hf63 40 3 rfl) (hf63 40 4 rfl) (hf63 40 5 rfl) (funext fun s => hf63 77 s rfl) (hf63 43 1 rfl) (hf63 43 2 rfl) (hf63 43 3 rfl) (hf63 43 4 rfl) (funext fun s => hf63 79 s rfl) hRD42
  have hX93 : fz_Xc H58 := fz_Xc_fr hf63 rfl hX43
  have t94 : H58 53 10 = H8 53 10 := hf63 53 10 rfl
  have t95 : H58 53 41 = H8 53 41 := hf63 53 41 rfl
  have t96 : H58 53 42 = H8 53 42 := hf63 53 42 rfl
  have t97 : H58 9 5 = H8 9 5 := hf63 9 5 rfl
  have t98 : H58 53 10 = H8 53 10 := hf63 53 10 rfl
  have t99 : H58 44 2 = H8 44 2 := hf63 44 2 rfl
  have t100 : H58 53 44 = H8 53 44 := hf63 53 44 rfl
  have t101 : H58 20 2 = H8 20 2 := hf63 20 2 rfl
  have t102 : H58 53 16 = H8 53 16 := hf63 53 16 rfl
  have t103 : H58 1 7 = H8 1 7 := hf63 1 7 rfl
  have t104 : H58 53 0 = H8 53 0 := hf63 53 0 rfl
  have t105 : H58 1 8 = H8 1 8 := hf63 1 8 rfl
  have t106 : H58 53 2 = H8 53 2 := hf63 53 2 rfl
  refine fz_pop rfl kLc35 rfl ?_
  refine fz_goto (tgt := 1817) kLc35 rfl (by decide) ?_
  have hRR107 : fz_RR H58 := fz_RR_act f15 f65 (fz_atr_eq (by omega) ((hf13 81 _ rfl).trans (congrFun hRK.symm _))) (hf63 44 3 rfl) (funext fun s => hf63 46 s rfl)
  exact K H58 ⟨hI62, hX93, hXd68, hXh69, hXw70, (by rw [((hf63 53 10 rfl).trans (hf13 53 10 rfl))]; exact hv1), (by rw [((hf63 53 42 rfl).trans (hf13 53 42 rfl)), ((hf63 53 41 rfl).trans (hf13 53 41 rfl))]; exact hv2), (((hf63 9 5 rfl).trans (hf13 9 5 rfl)).trans (hr0.trans ((hf63 53 10 rfl).trans (hf13 53 10 rfl)).symm)), (((hf63 44 2 rfl).trans (hf13 44 2 rfl)).trans (hr1.trans ((hf63 53 44 rfl).trans (hf13 53 44 rfl)).symm)), (((hf63 20 2 rfl).trans (hf13 20 2 rfl)).trans (hr2.trans ((hf63 53 16 rfl).trans (hf13 53 16 rfl)).symm)), (((hf63 1 7 rfl).trans (hf13 1 7 rfl)).trans (hr3.trans ((hf63 53 0 rfl).trans (hf13 53 0 rfl)).symm)), (((hf63 1 8 rfl).trans (hf13 1 8 rfl)).trans (hr4.trans ((hf63 53 2 rfl).trans (hf13 53 2 rfl)).symm)), hRS71, hRP72, hRK73, hRR107, hRT74, hRE75, hR276, hR377, hR478, hR2879, hR580, hR681, hRG82, hRL83, hRC84, hRJ85, hRW86, hRV87, hRM88, hRP289, hRA90, hRU91, hRD92⟩ (funext fun s => hf67 200 s rfl)
def mLc36 : fz_M := (yL_law, code, 4, (some .boolean), [(1493, .aload_n 1, 1, 0, 0, 0), (1494, .aload_n 0, 1, 0, 0, 0), (1495, .iload_n 3, 1, 0, 0, 0), (1496, .iconst 1, 1, 0, 0, 0), (1497, .iadd, 1, 0, 0, 0), (1498, .iaload, 1, 0, 0, 0), (1499, .invokevirtual 163, 3, 5008, 75, 0), (1502, .pop, 1, 0, 0, 0), (1503, .aload_n 2, 1, 0, 0, 0), (1504, .aload_n 0, 1, 0, 0, 0), (1505, .iload_n 3, 1, 0, 0, 0), (1506, .iconst 1, 1, 0, 0, 0), (1507, .iadd, 1, 0, 0, 0), (1508, .iaload, 1, 0, 0, 0), (1509, .invokevirtual 166, 3, 7164, 178, 0), (1512, .pop, 1, 0, 0, 0), (1513, .goto 304, 3, 0, 0, 0)])
set_option maxRecDepth 100000 in
theorem kLc36 : fz_okM mLc36 = true := fz_okM_in (by decide +kernel) (by decide +kernel)
set_option maxHeartbeats 1000000 in
set_option maxRecDepth 100000 in
theorem lc36 (h : fz_H) (hI : fz_Iv h) (hX : fz_Xc h) (hXd : fz_Xd h) (hXh : fz_Xh h) (hXw : fz_Xw h) (hv1 : h 53 10 ≤ 10) (hv2 : h 53 42 ≤ h 53 41) (hr0 : h 9 5 = h 53 10) (hr1 : h 44 2 = h 53 44) (hr2 : h 20 2 = h 53 16) (hr3 : h 1 7 = h 53 0) (hr4 : h 1 8 = h 53 2) (hRS : fz_RS h) (hRP : fz_RP h) (hRK : fz_RK h) (hRR : fz_RR h) (hRT : fz_RT h) (hRE : fz_RE h) (hR2 : fz_R2 h) (hR3 : fz_R3 h) (hR4 : fz_R4 h) (hR28 : fz_R28 h) (hR5 : fz_R5 h) (hR6 : fz_R6 h) (hRG : fz_RG h) (hRL : fz_RL h) (hRC : fz_RC h) (hRJ : fz_RJ h) (hRW : fz_RW h) (hRV : fz_RV h) (hRM : fz_RM h) (hRP2 : fz_RP2 h) (hRA : fz_RA h) (hRU : fz_RU h) (hRD : fz_RD h) (i : Int) (hi : 0 ≤ i ∧ i + 6 ≤ h 200 100000 ∧ h 200 100000 ≤ 3072) {Q : fz_H → Option fz_V → Prop} (K : ∀ H : fz_H, fz_Gd H → H 200 = h 200 → fz_R 47 mLe 1817 [(3, fz_i i), (0, fz_r 200), (1, fz_r 0), (2, fz_r 53)] [] H Q) : fz_R 47 mLc36 1493 [(3, fz_i i), (0, fz_r 200), (1, fz_r 0), (2, fz_r 53)] [] h Q := by
  have hf : fz_fr fz_all h h := fz_fr_rf
  refine fz_aload_n kLc36 rfl rfl ?_
  refine fz_aload_n kLc36 rfl rfl ?_
  refine fz_iload_n kLc36 rfl rfl ?_
  refine fz_iconst ⟨by decide, by decide⟩ kLc36 rfl ?_
  refine fz_iaddN kLc36 rfl (by omega) ?_
  obtain ⟨a1, e2⟩ : ∃ z, h 200 ((i + 1)).toNat = z := ⟨_, rfl⟩
  refine fz_taldV (v := a1) kLc36 rfl ⟨by decide, by decide⟩ (by omega) (by omega) e2 ?_
  have b3 : (-2147483648) ≤ h 44 3 ∧ h 44 3 ≤ 2147483647 := hI.1 44 _
  refine fz_callV (d' := 1) (M' := mX10_trace) (As := [fz_i a1]) (st := []) kLc36 rfl rfl vX10_trace rfl rfl rfl rfl (Nat.le_of_ble_eq_true rfl) (Nat.le_of_ble_eq_true rfl) (by decide) (sX10_trace h hI a1 ) (fun H4 r5 q6 o7 => ?_)
  obtain ⟨e8, y11, rfl, f9, f10⟩ := q6
  subst H4
  clear o7
  refine fz_pop rfl kLc36 rfl ?_
  refine fz_aload_n kLc36 rfl rfl ?_
  refine fz_aload_n kLc36 rfl rfl ?_
  refine fz_iload_n kLc36 rfl rfl ?_
  refine fz_iconst ⟨by decide, by decide⟩ kLc36 rfl ?_
  refine fz_iaddN kLc36 rfl (by omega) ?_
  refine fz_taldV (v := a1) kLc36 rfl ⟨by decide, by decide⟩ (by omega) (by omega) e2 ?_
  have b12 : 0 ≤ h 53 46 ∧ h 53 46 ≤ 1000 := hI.1 53 _
  refine fz_callV (d' := 1) (M' := mX11_trace) (As := [fz_i a1]) (st := []) kLc36 rfl rfl vX11_trace rfl rfl rfl rfl (Nat.le_of_ble_eq_true rfl) (Nat.le_of_ble_eq_true rfl) (by decide) (sX11_trace h hI a1 ) (fun H13 r14 q15 o16 => ?_)
  obtain ⟨e17, y20, rfl, f18, f19⟩ := q15
  subst H13
  clear o16
  refine fz_pop rfl kLc36 rfl ?_
  refine fz_goto (tgt := 1817) kLc36 rfl (by decide) ?_
  exact K h ⟨hI, hX, hXd, hXh, hXw, hv1, hv2, hr0, hr1, hr2, hr3, hr4, hRS, hRP, hRK, hRR, hRT, hRE, hR2, hR3, hR4, hR28, hR5, hR6, hRG, hRL, hRC, hRJ, hRW, hRV, hRM, hRP2, hRA, hRU, hRD⟩ rfl
def mLc37 : fz_M := (yL_law, code, 4, (some .boolean), [(1516, .aload_n 1, 1, 0, 0, 0), (1517, .aload_n 0, 1, 0, 0, 0), (1518, .iload_n 3, 1, 0, 0, 0), (1519, .iconst 1, 1, 0, 0, 0), (1520, .iadd, 1, 0, 0, 0), (1521, .iaload, 1, 0, 0, 0), (1522, .aload_n 0, 1, 0, 0, 0), (1523, .iload_n 3, 1, 0, 0, 0), (1524, .iconst 2, 1, 0, 0, 0), (1525, .iadd, 1, 0, 0, 0), (1526, .iaload, 1, 0, 0, 0), (1527, .invokevirtual 167, 3, 5013, 51, 0), (1530, .pop, 1, 0, 0, 0), (1531, .aload_n 2, 1, 0, 0, 0), (1532, .aload_n 0, 1, 0, 0, 0), (1533, .iload_n 3, 1, 0, 0, 0), (1534, .iconst 1, 1, 0, 0, 0), (1535, .iadd, 1, 0, 0, 0), (1536, .iaload, 1, 0, 0, 0), (1537, .aload_n 0, 1, 0, 0, 0), (1538, .iload_n 3, 1, 0, 0, 0), (1539, .iconst 2, 1, 0, 0, 0), (1540, .iadd, 1, 0, 0, 0), (1541, .iaload, 1, 0, 0, 0), (1542, .invokevirtual 170, 3, 7168, 142, 0), (1545, .pop, 1, 0, 0, 0), (1546, .goto 271, 3, 0, 0, 0)])
set_option maxRecDepth 100000 in
theorem kLc37 : fz_okM mLc37 = true := fz_okM_in (by decide +kernel) (by decide +kernel)
set_option maxHeartbeats 1000000 in
set_option maxRecDepth 100000 in
theorem lc37 (h : fz_H) (hI : fz_Iv h) (hX : fz_Xc h) (hXd : fz_Xd h) (hXh : fz_Xh h) (hXw : fz_Xw h) (hv1 : h 53 10 ≤ 10) (hv2 : h 53 42 ≤ h 53 41) (hr0 : h 9 5 = h 53 10) (hr1 : h 44 2 = h 53 44) (hr2 : h 20 2 = h 53 16) (hr3 : h 1 7 = h 53 0) (hr4 : h 1 8 = h 53 2) (hRS : fz_RS h) (hRP : fz_RP h) (hRK : fz_RK h) (hRR : fz_RR h) (hRT : fz_RT h) (hRE : fz_RE h) (hR2 : fz_R2 h) (hR3 : fz_R3 h) (hR4 : fz_R4 h) (hR28 : fz_R28 h) (hR5 : fz_R5 h) (hR6 : fz_R6 h) (hRG : fz_RG h) (hRL : fz_RL h) (hRC : fz_RC h) (hRJ : fz_RJ h) (hRW : fz_RW h) (hRV : fz_RV h) (hRM : fz_RM h) (hRP2 : fz_RP2 h) (hRA : fz_RA h) (hRU : fz_RU h) (hRD : fz_RD h) (i : Int) (hi : 0 ≤ i ∧ i + 6 ≤ h 200 100000 ∧ h 200 100000 ≤ 3072) {Q : fz_H → Option fz_V → Prop} (K : ∀ H : fz_H, fz_Gd H → H 200 = h 200 → fz_R 47 mLe 1817 [(3, fz_i i), (0, fz_r 200), (1, fz_r 0), (2, fz_r 53)] [] H Q) : fz_R 47 mLc37 1516 [(3, fz_i i), (0, fz_r 200), (1, fz_r 0), (2, fz_r 53)] [] h Q := by
  have hf : fz_fr fz_all h h := fz_fr_rf
  refine fz_aload_n kLc37 rfl rfl ?_
  refine fz_aload_n kLc37 rfl rfl ?_
  refine fz_iload_n kLc37 rfl rfl ?_
  refine fz_iconst ⟨by decide, by decide⟩ kLc37 rfl ?_
  refine fz_iaddN kLc37 rfl (by omega) ?_
  obtain ⟨a1, e2⟩ : ∃ z, h 200 ((i + 1)).toNat = z := ⟨_, rfl⟩
  refine fz_taldV (v := a1) kLc37 rfl ⟨by decide, by decide⟩ (by omega) (by omega) e2 ?_
  refine fz_aload_n kLc37 rfl rfl ?_
  refine fz_iload_n kLc37 rfl rfl ?_
  refine fz_iconst ⟨by decide, by decide⟩ kLc37 rfl ?_
  refine fz_iaddN kLc37 rfl (by omega) ?_
  obtain ⟨a3, e4⟩ : ∃ z, h 200 ((i + 2)).toNat = z := ⟨_, rfl⟩
  refine fz_taldV (v := a3) kLc37 rfl ⟨by decide, by decide⟩ (by omega) (by omega) e4 ?_
  have b5 : 0 ≤ h 44 2 ∧ h 44 2 ≤ 50 := hI.1 44 _
  refine fz_callV (d' := 1) (M' := mX10_keep) (As := [fz_i a1, fz_i a3]) (st := []) kLc37 rfl rfl vX10_keep rfl rfl rfl rfl (Nat.le_of_ble_eq_true rfl) (Nat.le_of_ble_eq_true rfl) (by decide) (sX10_keep h hI a1 a3 ) (fun H6 r7 q8 o9 => ?_)
  obtain ⟨hI10, hf11, y15, rfl, f12, f13, f14⟩ := q8
  clear o9
  have hf16 := fz_fr_tr hf hf11 (fz_su_all rfl)
  have hXd17 : fz_Xd H6 := fz_Xd_eq (funext fun s => hf11 80 s rfl) hXd
  have hXh18 : fz_Xh H6 := fz_Xh_eq (funext fun s => hf11 83 s rfl) hXh
  have hXw19 : fz_Xw H6 := fz_Xw_eq (hf11 53 19 rfl) (funext fun s => hf11 66 s rfl) (funext fun s => hf11 67 s rfl) (funext fun s => hf11 68 s rfl) (funext fun s => hf11 69 s rfl) hXw
  have hRP20 : fz_RP H6 := fz_RP_eq (funext fun s => hf11 52 s rfl) (funext fun s => hf11 85 s rfl) hRP
  have hRK21 : fz_RK H6 := fz_RK_eq (funext fun s => hf11 45 s rfl) (funext fun s => hf11 81 s rfl) hRK
  have hRR22 : fz_RR H6 := fz_RR_eq (hf11 44 3 rfl) (hf11 53 46 rfl) (funext fun s => hf11 46 s rfl) (funext fun s => hf11 82 s rfl) hRR
  have hRT23 : fz_RT H6 := fz_RT_eq (funext fun s => hf11 41 s rfl) (funext fun s => hf11 42 s rfl) (hf11 1 7 rfl) hRT
  have hRE24 : fz_RE H6 := fz_RE_eq (funext fun s => hf11 5 s rfl) (funext fun s => hf11 6 s rfl) (hf11 1 8 rfl) (hf11 1 7 rfl) hRE
  have hR225 : fz_R2 H6 := fz_R2_eq (funext fun s => hf11 2 s rfl) (funext fun s => hf11 54 s rfl) hR2
  have hR326 : fz_R3 H6 := fz_R3_eq (funext fun s => hf11 3 s rfl) (funext fun s => hf11 57 s rfl) hR3
  have hR427 : fz_R4 H6 := fz_R4_eq (funext fun s => hf11 4 s rfl) (funext fun s => hf11 58 s rfl) hR4
  have hR2828 : fz_R28 H6 := fz_R28_eq (funext fun s => hf11 28 s rfl) (funext fun s => hf11 59 s rfl) hR28
  have hR529 : fz_R5 H6 := fz_R5_eq (funext fun s => hf11 5 s rfl) (funext fun s => hf11 55 s rfl) hR5
  have hR630 : fz_R6 H6 := fz_R6_eq (funext fun s => hf11 6 s rfl) (funext fun s => hf11 56 s rfl) hR6
  have hRG31 : fz_RG H6 := fz_RG_eq (hf11 27 8 rfl) (hf11 27 9 rfl) (hf11 53 8 rfl) (hf11 53 9 rfl) hRG
  have hRL32 : fz_RL H6 := fz_RL_eq (funext fun s => hf11 11 s rfl) (funext fun s => hf11 12 s rfl) (funext fun s => hf11 13 s rfl) (funext fun s => hf11 14 s rfl) (funext fun s => hf11 61 s rfl) (funext fun s => hf11 62 s rfl) (funext fun s => hf11 63 s rfl) (funext fun s => hf11 64 s rfl) (hf11 9 5 rfl) hRL
  have hRC33 : fz_RC H6 := fz_RC_eq (hf11 35 4 rfl) (hf11 35 5 rfl) (hf11 53 41 rfl) (hf11 53 42 rfl) (funext fun s => hf11 36 s rfl) (funext fun s => hf11 37 s rfl) (funext fun s => hf11 38 s rfl) (funext fun s => hf11 39 s rfl) (funext fun s => hf11 80 s rfl) (hf11 1 7 rfl) (hf11 1 8 rfl) (hf11 9 5 rfl) hRC
  have hRJ34 : fz_RJ H6 := fz_RJ_eq (hf11 40 1 rfl) (hf11 53 34 rfl) (funext fun s => hf11 41 s rfl) (funext fun s => hf11 76 s rfl) (hf11 40 6 rfl) (hf11 53 37 rfl) (funext fun s => hf11 42 s rfl) (funext fun s => hf11 78 s rfl) (hf11 43 0 rfl) (hf11 53 38 rfl) hRJ
  have hRW35 : fz_RW H6 := fz_RW_eq (funext fun s => hf11 10 s rfl) (funext fun s => hf11 60 s rfl) (hf11 9 5 rfl) hRW
  have hRV36 : fz_RV H6 := fz_RV_eq (funext fun s => hf11 7 s rfl) (funext fun s => hf11 8 s rfl) (funext fun s => hf11 3 s rfl) (funext fun s => hf11 4 s rfl) (funext fun s => hf11 5 s rfl) (funext fun s => hf11 6 s rfl) (hf11 1 7 rfl) (hf11 1 8 rfl) hRV
  have hRM37 : fz_RM H6 := fz_RM_eq (funext fun s => hf11 55 s rfl) (funext fun s => hf11 56 s rfl) (hf11 53 0 rfl) (hf11 53 2 rfl) hRM
  have hRP238 : fz_RP2 H6 := fz_RP2_eq (funext fun s => hf11 11 s rfl) (hf11 9 5 rfl) (hf11 1 7 rfl) hRP2
  have hRA39 : fl_RA H6 := fl_RA_eq (funext fun s => hf11 26 s rfl) (funext fun s => hf11 65 s rfl) (hf11 20 2 rfl) hRA
  have hRU40 : fl_RU H6 := fl_RU_eq (hf11 15 4 rfl) (funext fun s => hf11 16 s rfl) (funext fun s => hf11 17 s rfl) (hf11 53 18 rfl) (hf11 53 19 rfl) (funext fun s => hf11 66 s rfl) (funext fun s => hf11 67 s rfl) (funext fun s => hf11 68 s rfl) (funext fun s => hf11 69 s rfl) hRU
  have hRD41 : fl_RD H6 := fl_RD_eq (hf11 40 2 rfl) (hf11 40 3 rfl) (hf11 40 4 rfl) (hf11 40 5 rfl) (funext fun s => hf11 77 s rfl) (hf11 43 1 rfl) (hf11 43 2 rfl) (hf11 43 3 rfl) (hf11 43 4 rfl) (funext fun s => hf11 79 s rfl) hRD
  have hX42 : fz_Xc H6 := fz_Xc_fr hf11 rfl hX
  have t43 : H6 53 10 = h 53 10 := hf11 53 10 rfl
  have t44 : H6 53 41 = h 53 41 := hf11 53 41 rfl
  have t45 : H6 53 42 = h 53 42 := hf11 53 42 rfl
  have t46 : H6 9 5 = h 9 5 := hf11 9 5 rfl
  have t47 : H6 53 10 = h 53 10 := hf11 53 10 rfl
  have t48 : H6 44 2 = h 44 2 := hf11 44 2 rfl
  have t49 : H6 53 44 = h 53 44 := hf11 53 44 rfl
  have t50 : H6 20 2 = h 20 2 := hf11 20 2 rfl
  have t51 : H6 53 16 = h 53 16 := hf11 53 16 rfl
  have t52 : H6 1 7 = h 1 7 := hf11 1 7 rfl
  have t53 : H6 53 0 = h 53 0 := hf11 53 0 rfl
  have t54 : H6 1 8 = h 1 8 := hf11 1 8 rfl
  have t55 : H6 53 2 = h 53 2 := hf11 53 2 rfl
  refine fz_pop rfl kLc37 rfl ?_
  refine fz_aload_n kLc37 rfl rfl ?_
  refine fz_aload_n kLc37 rfl rfl ?_
  refine fz_iload_n kLc37 rfl rfl ?_
  refine fz_iconst ⟨by decide, by decide⟩ kLc37 rfl ?_
  refine fz_iaddN kLc37 rfl (by omega) ?_
  refine fz_taldV (v := a1) kLc37 rfl ⟨by decide, by decide⟩ (by omega) (by rw [hf16 200 _ rfl]; omega) ((hf16 200 _ rfl).trans e2) ?_
  refine fz_aload_n kLc37 rfl rfl ?_
  refine fz_iload_n kLc37 rfl rfl ?_
  refine fz_iconst ⟨by decide, by decide⟩ kLc37 rfl ?_
  refine fz_iaddN kLc37 rfl (by omega) ?_
  refine fz_taldV (v := a3) kLc37 rfl ⟨by decide, by decide⟩ (by omega) (by rw [hf16 200 _ rfl]; omega) ((hf16 200 _ rfl).trans e4) ?_
  have b56 : 0 ≤ H6 53 44 ∧ H6 53 44 ≤ 50 := hI10.1 53 _
  refine fz_callV (d' := 2) (M' := mX11_keep) (As := [fz_i a1, fz_i a3]) (st := []) kLc37 rfl rfl vX11_keep rfl rfl rfl rfl (Nat.le_of_ble_eq_true rfl) (Nat.le_of_ble_eq_true rfl) (by decide) (sX11_keep H6 hI10 a1 a3 hXh18) (fun H57 r58 q59 o60 => ?_)
  obtain ⟨hI61, hf62, hXh63, y67, rfl, f64, f65, f66⟩ := q59
  clear o60
  have hf68 := fz_fr_tr hf16 hf62 (fz_su_all rfl)
  have hXd69 : fz_Xd H57 := fz_Xd_eq (funext fun s => hf62 80 s rfl) hXd17
  have hXw70 : fz_Xw H57 := fz_Xw_eq (hf62 53 19 rfl) (funext fun s => hf62 66 s rfl) (funext fun s => hf62 67 s rfl) (funext fun s => hf62 68 s rfl) (funext fun s => hf62 69 s rfl) hXw19
  have hRP71 : fz_RP H57 := fz_RP_eq (funext fun s => hf62 52 s rfl) (funext fun s => hf62 85 s rfl) hRP20
  have hRK72 : fz_RK H57 := fz_RK_eq (funext fun s => hf62 45 s rfl) (funext fun s => hf62 81 s rfl) hRK21
  have hRR73 : fz_RR H57 := fz_RR_eq (hf62 44 3 rfl) (hf62 53 46 rfl) (funext fun s => hf62 46 s rfl) (funext fun s => hf62 82 s rfl) hRR22
  have hRT74 : fz_RT H57 := fz_RT_eq (funext fun s => hf62 41 s rfl) (funext fun s => hf62 42 s rfl) (hf62 1 7 rfl) hRT23
  have hRE75 : fz_RE H57 := fz_RE_eq (funext fun s => hf62 5 s rfl) (funext fun s => hf62 6 s rfl) (hf62 1 8 rfl) (hf62 1 7 rfl) hRE24
  have hR276 : fz_R2 H57 := fz_R2_eq (funext fun s => hf62 2 s rfl) (funext fun s => hf62 54 s rfl) hR225
  have hR377 : fz_R3 H57 := fz_R3_eq (funext fun s => hf62 3 s rfl) (funext fun s => hf62 57 s rfl) hR326
  have hR478 : fz_R4 H57 := fz_R4_eq (funext fun s => hf62 4 s rfl) (funext fun s => hf62 58 s rfl) hR427
  have hR2879 : fz_R28 H57 := fz_R28_eq (funext fun s => hf62 28 s rfl) (funext fun s => hf62 59 s rfl) hR2828
  have hR580 : fz_R5 H57 := fz_R5_eq (funext fun s => hf62 5 s rfl) (funext fun s => hf62 55 s rfl) hR529
  have hR681 : fz_R6 H57 := fz_R6_eq (funext fun s => hf62 6 s rfl) (funext fun s => hf62 56 s rfl) hR630
  have hRG82 : fz_RG H57 := fz_RG_eq (hf62 27 8 rfl) (hf62 27 9 rfl) (hf62 53 8 rfl) (hf62 53 9 rfl) hRG31
  have hRL83 : fz_RL H57 := fz_RL_eq (funext fun s => hf62 11 s rfl) (funext fun s => hf62 12 s rfl) (funext fun s => hf62 13 s rfl) (funext fun s => hf62 14 s rfl) (funext fun s => hf62 61 s rfl) (funext fun s => hf62 62 s rfl) (funext fun s => hf62 63 s rfl) (funext fun s => hf62 64 s rfl) (hf62 9 5 rfl) hRL32
  have hRC84 : fz_RC H57 := fz_RC_eq (hf62 35 4 rfl) (hf62 35 5 rfl) (hf62 53 41 rfl) (hf62 53 42 rfl) (funext fun s => hf62 36 s rfl) (funext fun s => hf62 37 s rfl) (funext fun s => hf62 38 s rfl) (funext fun s => hf62 39 s rfl) (funext fun s => hf62 80 s rfl) (hf62 1 7 rfl) (hf62 1 8 rfl) (hf62 9 5 rfl) hRC33
  have hRJ85 : fz_RJ H57 := fz_RJ_eq (hf62 40 1 rfl) (hf62 53 34 rfl) (funext fun s => hf62 41 s rfl) (funext fun s => hf62 76 s rfl) (hf62 40 6 rfl) (hf62 53 37 rfl) (funext fun s => hf62 42 s rfl) (funext fun s => hf62 78 s rfl) (hf62 43 0 rfl) (hf62 53 38 rfl) hRJ34
  have hRW86 : fz_RW H57 := fz_RW_eq (funext fun s => hf62 10 s rfl) (funext fun s => hf62 60 s rfl) (hf62 9 5 rfl) hRW35
  have hRV87 : fz_RV H57 := fz_RV_eq (funext fun s => hf62 7 s rfl) (funext fun s => hf62 8 s rfl) (funext fun s => hf62 3 s rfl) (funext fun s => hf62 4 s rfl) (funext fun s => hf62 5 s rfl) (funext fun s => hf62 6 s rfl) (hf62 1 7 rfl) (hf62 1 8 rfl) hRV36
  have hRM88 : fz_RM H57 := fz_RM_eq (funext fun s => hf62 55 s rfl) (funext fun s => hf62 56 s rfl) (hf62 53 0 rfl) (hf62 53 2 rfl) hRM37
  have hRP289 : fz_RP2 H57 := fz_RP2_eq (funext fun s => hf62 11 s rfl) (hf62 9 5 rfl) (hf62 1 7 rfl) hRP238
  have hRA90 : fl_RA H57 := fl_RA_eq (funext fun s => hf62 26 s rfl) (funext fun s => hf62 65 s rfl) (hf62 20 2 rfl) hRA39
  have hRU91 : fl_RU H57 := fl_RU_eq (hf62 15 4 rfl) (funext fun s => hf62 16 s rfl) (funext fun s => hf62 17 s rfl) (hf62 53 18 rfl) (hf62 53 19 rfl) (funext fun s => hf62 66 s rfl) (funext fun s => hf62 67 s rfl) (funext fun s => hf62 68 s rfl) (funext fun s => hf62 69 s rfl) hRU40
  have hRD92 : fl_RD H57 := fl_RD_eq (hf62 40 2 rfl) (hf62 40 3 rfl) (hf62 40 4 rfl) (hf62 40 5 rfl) (funext fun s => hf62 77 s rfl) (hf62 43 1 rfl) (hf62 43 2 rfl) (hf62 43 3 rfl) (hf62 43 4 rfl) (funext fun s => hf62 79 s rfl) hRD41
  have hX93 : fz_Xc H57 := fz_Xc_fr hf62 rfl hX42
  have t94 : H57 53 10 = H6 53 10 := hf62 53 10 rfl
  have t95 : H57 53 41 = H6 53 41 := hf62 53 41 rfl
  have t96 : H57 53 42 = H6 53 42 := hf62 53 42 rfl
  have t97 : H57 9 5 = H6 9 5 := hf62 9 5 rfl
  have t98 : H57 53 10 = H6 53 10 := hf62 53 10 rfl
  have t99 : H57 44 2 = H6 44 2 := hf62 44 2 rfl
  have t100 : H57 53 44 = H6 53 44 := hf62 53 44 rfl
  have t101 : H57 20 2 = H6 20 2 := hf62 20 2 rfl
  have t102 : H57 53 16 = H6 53 16 := hf62 53 16 rfl
  have t103 : H57 1 7 = H6 1 7 := hf62 1 7 rfl
  have t104 : H57 53 0 = H6 53 0 := hf62 53 0 rfl
  have t105 : H57 1 8 = H6 1 8 := hf62 1 8 rfl
  have t106 : H57 53 2 = H6 53 2 := hf62 53 2 rfl
  refine fz_pop rfl kLc37 rfl ?_
  refine fz_goto (tgt := 1817) kLc37 rfl (by decide) ?_
  have hRS107 : fz_RS H57 := fz_RS_keep hRS f14 f66 (by omega)
  exact K H57 ⟨hI61, hX93, hXd69, hXh63, hXw70, (by rw [((hf62 53 10 rfl).trans (hf11 53 10 rfl))]; exact hv1), (by rw [((hf62 53 42 rfl).trans (hf11 53 42 rfl)), ((hf62 53 41 rfl).trans (hf11 53 41 rfl))]; exact hv2), (((hf62 9 5 rfl).trans (hf11 9 5 rfl)).trans (hr0.trans ((hf62 53 10 rfl).trans (hf11 53 10 rfl)).symm)), (((hf62 44 2 rfl).trans (hf11 44 2 rfl)).trans (hr1.trans ((hf62 53 44 rfl).trans (hf11 53 44 rfl)).symm)), (((hf62 20 2 rfl).trans (hf11 20 2 rfl)).trans (hr2.trans ((hf62 53 16 rfl).trans (hf11 53 16 rfl)).symm)), (((hf62 1 7 rfl).trans (hf11 1 7 rfl)).trans (hr3.trans ((hf62 53 0 rfl).trans (hf11 53 0 rfl)).symm)), (((hf62 1 8 rfl).trans (hf11 1 8 rfl)).trans (hr4.trans ((hf62 53 2 rfl).trans (hf11 53 2 rfl)).symm)), hRS107, hRP71, hRK72, hRR73, hRT74, hRE75, hR276, hR377, hR478, hR2879, hR580, hR681, hRG82, hRL83, hRC84, hRJ85, hRW86, hRV87, hRM88, hRP289, hRA90, hRU91, hRD92⟩ (funext fun s => hf68 200 s rfl)
def mLc38 : fz_M := (yL_law, code, 4, (some .boolean), [(1549, .aload_n 1, 1, 0, 0, 0), (1550, .aload_n 0, 1, 0, 0, 0), (1551, .iload_n 3, 1, 0, 0, 0), (1552, .iconst 1, 1, 0, 0, 0), (1553, .iadd, 1, 0, 0, 0), (1554, .iaload, 1, 0, 0, 0), (1555, .aload_n 0, 1, 0, 0, 0), (1556, .iload_n 3, 1, 0, 0, 0), (1557, .iconst 2, 1, 0, 0, 0), (1558, .iadd, 1, 0, 0, 0), (1559, .iaload, 1, 0, 0, 0), (1560, .aload_n 0, 1, 0, 0, 0), (1561, .iload_n 3, 1, 0, 0, 0), (1562, .iconst 3, 1, 0, 0, 0), (1563, .iadd, 1, 0, 0, 0), (1564, .iaload, 1, 0, 0, 0), (1565, .invokevirtual 171, 3, 5022, 69, 0), (1568, .pop, 1, 0, 0, 0), (1569, .aload_n 2, 1, 0, 0, 0), (1570, .aload_n 0, 1, 0, 0, 0), (1571, .iload_n 3, 1, 0, 0, 0), (1572, .iconst 1, 1, 0, 0, 0), (1573, .iadd, 1, 0, 0, 0), (1574, .iaload, 1, 0, 0, 0), (1575, .aload_n 0, 1, 0, 0, 0), (1576, .iload_n 3, 1, 0, 0, 0), (1577, .iconst 2, 1, 0, 0, 0), (1578, .iadd, 1, 0, 0, 0), (1579, .iaload, 1, 0, 0, 0), (1580, .aload_n 0, 1, 0, 0, 0), (1581, .iload_n 3, 1, 0, 0, 0), (1582, .iconst 3, 1, 0, 0, 0), (1583, .iadd, 1, 0, 0, 0), (1584, .iaload, 1, 0, 0, 0), (1585, .invokevirtual 174, 3, 7172, 169, 0), (1588, .pop, 1, 0, 0, 0), (1589, .goto 228, 3, 0, 0, 0)])
set_option maxRecDepth 100000 in
theorem kLc38 : fz_okM mLc38 = true := fz_okM_in (by decide +kernel) (by decide +kernel)
set_option maxHeartbeats 1000000 in
set_option maxRecDepth 100000 in
theorem lc38 (h : fz_H) (hI : fz_Iv h) (hX : fz_Xc h) (hXd : fz_Xd h) (hXh : fz_Xh h) (hXw : fz_Xw h) (hv1 : h 53 10 ≤ 10) (hv2 : h 53 42 ≤ h 53 41) (hr0 : h 9 5 = h 53 10) (hr1 : h 44 2 = h 53 44) (hr2 : h 20 2 = h 53 16) (hr3 : h 1 7 = h 53 0) (hr4 : h 1 8 = h 53 2) (hRS : fz_RS h) (hRP : fz_RP h) (hRK : fz_RK h) (hRR : fz_RR h) (hRT : fz_RT h) (hRE : fz_RE h) (hR2 : fz_R2 h) (hR3 : fz_R3 h) (hR4 : fz_R4 h) (hR28 : fz_R28 h) (hR5 : fz_R5 h) (hR6 : fz_R6 h) (hRG : fz_RG h) (hRL : fz_RL h) (hRC : fz_RC h) (hRJ : fz_RJ h) (hRW : fz_RW h) (hRV : fz_RV h) (hRM : fz_RM h) (hRP2 : fz_RP2 h) (hRA : fz_RA h) (hRU : fz_RU h) (hRD : fz_RD h) (i : Int) (hi : 0 ≤ i ∧ i + 6 ≤ h 200 100000 ∧ h 200 100000 ≤ 3072) {Q : fz_H → Option fz_V → Prop} (K : ∀ H : fz_H, fz_Gd H → H 200 = h 200 → fz_R 47 mLe 1817 [(3, fz_i i), (0, fz_r 200), (1, fz_r 0), (2, fz_r 53)] [] H Q) : fz_R 47 mLc38 1549 [(3, fz_i i), (0, fz_r 200), (1, fz_r 0), (2, fz_r 53)] [] h Q := by
  have hf : fz_fr fz_all h h := fz_fr_rf
  refine fz_aload_n kLc38 rfl rfl ?_
  refine fz_aload_n kLc38 rfl rfl ?_
  refine fz_iload_n kLc38 rfl rfl ?_
  refine fz_iconst ⟨by decide, by decide⟩ kLc38 rfl ?_
  refine fz_iaddN kLc38 rfl (by omega) ?_
  obtain ⟨a1, e2⟩ : ∃ z, h 200 ((i + 1)).toNat = z := ⟨_, rfl⟩
  refine fz_taldV (v := a1) kLc38 rfl ⟨by decide, by decide⟩ (by omega) (by omega) e2 ?_
  refine fz_aload_n kLc38 rfl rfl ?_
  refine fz_iload_n kLc38 rfl rfl ?_
  refine fz_iconst ⟨by decide, by decide⟩ kLc38 rfl ?_
  refine fz_iaddN kLc38 rfl (by omega) ?_
  obtain ⟨a3, e4⟩ : ∃ z, h 200 ((i + 2)).toNat = z := ⟨_, rfl⟩
  refine fz_taldV (v := a3) kLc38 rfl ⟨by decide, by decide⟩ (by omega) (by omega) e4 ?_
  refine fz_aload_n kLc38 rfl rfl ?_
  refine fz_iload_n kLc38 rfl rfl ?_
  refine fz_iconst ⟨by decide, by decide⟩ kLc38 rfl ?_
  refine fz_iaddN kLc38 rfl (by omega) ?_
  obtain ⟨a5, e6⟩ : ∃ z, h 200 ((i + 3)).toNat = z := ⟨_, rfl⟩
  refine fz_taldV (v := a5) kLc38 rfl ⟨by decide, by decide⟩ (by omega) (by omega) e6 ?_
  refine fz_callV (d' := 3) (M' := mX10_row) (As := [fz_i a1, fz_i a3, fz_i a5]) (st := []) kLc38 rfl rfl vX10_row rfl rfl rfl rfl (Nat.le_of_ble_eq_true rfl) (Nat.le_of_ble_eq_true rfl) (by decide) (sX10_row h hI a1 a3 a5 ) (fun H7 r8 q9 o10 => ?_)
  obtain ⟨hI11, hf12, y16, rfl, f13, f14, f15⟩ := q9
  clear o10
  have hf17 := fz_fr_tr hf hf12 (fz_su_all rfl)
  have hXd18 : fz_Xd H7 := fz_Xd_eq (funext fun s => hf12 80 s rfl) hXd
  have hXh19 : fz_Xh H7 := fz_Xh_eq (funext fun s => hf12 83 s rfl) hXh
  have hXw20 : fz_Xw H7 := fz_Xw_eq (hf12 53 19 rfl) (funext fun s => hf12 66 s rfl) (funext fun s => hf12 67 s rfl) (funext fun s => hf12 68 s rfl) (funext fun s => hf12 69 s rfl) hXw
  have hRK21 : fz_RK H7 := fz_RK_eq (funext fun s => hf12 45 s rfl) (funext fun s => hf12 81 s rfl) hRK
  have hRR22 : fz_RR H7 := fz_RR_eq (hf12 44 3 rfl) (hf12 53 46 rfl) (funext fun s => hf12 46 s rfl) (funext fun s => hf12 82 s rfl) hRR
  have hRT23 : fz_RT H7 := fz_RT_eq (funext fun s => hf12 41 s rfl) (funext fun s => hf12 42 s rfl) (hf12 1 7 rfl) hRT
  have hRE24 : fz_RE H7 := fz_RE_eq (funext fun s => hf12 5 s rfl) (funext fun s => hf12 6 s rfl) (hf12 1 8 rfl) (hf12 1 7 rfl) hRE
  have hR225 : fz_R2 H7 := fz_R2_eq (funext fun s => hf12 2 s rfl) (funext fun s => hf12 54 s rfl) hR2
  have hR326 : fz_R3 H7 := fz_R3_eq (funext fun s => hf12 3 s rfl) (funext fun s => hf12 57 s rfl) hR3
  have hR427 : fz_R4 H7 := fz_R4_eq (funext fun s => hf12 4 s rfl) (funext fun s => hf12 58 s rfl) hR4
  have hR2828 : fz_R28 H7 := fz_R28_eq (funext fun s => hf12 28 s rfl) (funext fun s => hf12 59 s rfl) hR28
  have hR529 : fz_R5 H7 := fz_R5_eq (funext fun s => hf12 5 s rfl) (funext fun s => hf12 55 s rfl) hR5
  have hR630 : fz_R6 H7 := fz_R6_eq (funext fun s => hf12 6 s rfl) (funext fun s => hf12 56 s rfl) hR6
  have hRG31 : fz_RG H7 := fz_RG_eq (hf12 27 8 rfl) (hf12 27 9 rfl) (hf12 53 8 rfl) (hf12 53 9 rfl) hRG
  have hRL32 : fz_RL H7 := fz_RL_eq (funext fun s => hf12 11 s rfl) (funext fun s => hf12 12 s rfl) (funext fun s => hf12 13 s rfl) (funext fun s => hf12 14 s rfl) (funext fun s => hf12 61 s rfl) (funext fun s => hf12 62 s rfl) (funext fun s => hf12 63 s rfl) (funext fun s => hf12 64 s rfl) (hf12 9 5 rfl) hRL
  have hRC33 : fz_RC H7 := fz_RC_eq (hf12 35 4 rfl) (hf12 35 5 rfl) (hf12 53 41 rfl) (hf12 53 42 rfl) (funext fun s => hf12 36 s rfl) (funext fun s => hf12 37 s rfl) (funext fun s => hf12 38 s rfl) (funext fun s => hf12 39 s rfl) (funext fun s => hf12 80 s rfl) (hf12 1 7 rfl) (hf12 1 8 rfl) (hf12 9 5 rfl) hRC
  have hRJ34 : fz_RJ H7 := fz_RJ_eq (hf12 40 1 rfl) (hf12 53 34 rfl) (funext fun s => hf12 41 s rfl) (funext fun s => hf12 76 s rfl) (hf12 40 6 rfl) (hf12 53 37 rfl) (funext fun s => hf12 42 s rfl) (funext fun s => hf12 78 s rfl) (hf12 43 0 rfl) (hf12 53 38 rfl) hRJ
  have hRW35 : fz_RW H7 := fz_RW_eq (funext fun s => hf12 10 s rfl) (funext fun s => hf12 60 s rfl) (hf12 9 5 rfl) hRW
  have hRV36 : fz_RV H7 := fz_RV_eq (funext fun s => hf12 7 s rfl) (funext fun s => hf12 8 s rfl) (funext fun s => hf12 3 s rfl) (funext fun s => hf12 4 s rfl) (funext fun s => hf12 5 s rfl) (funext fun s => hf12 6 s rfl) (hf12 1 7 rfl) (hf12 1 8 rfl) hRV
  have hRM37 : fz_RM H7 := fz_RM_eq (funext fun s => hf12 55 s rfl) (funext fun s => hf12 56 s rfl) (hf12 53 0 rfl) (hf12 53 2 rfl) hRM
  have hRP238 : fz_RP2 H7 := fz_RP2_eq (funext fun s => hf12 11 s rfl) (hf12 9 5 rfl) (hf12 1 7 rfl) hRP2
  have hRA39 : fl_RA H7 := fl_RA_eq (funext fun s => hf12 26 s rfl) (funext fun s => hf12 65 s rfl) (hf12 20 2 rfl) hRA
  have hRU40 : fl_RU H7 := fl_RU_eq (hf12 15 4 rfl) (funext fun s => hf12 16 s rfl) (funext fun s => hf12 17 s rfl) (hf12 53 18 rfl) (hf12 53 19 rfl) (funext fun s => hf12 66 s rfl) (funext fun s => hf12 67 s rfl) (funext fun s => hf12 68 s rfl) (funext fun s => hf12 69 s rfl) hRU
  have hRD41 : fl_RD H7 := fl_RD_eq (hf12 40 2 rfl) (hf12 40 3 rfl) (hf12 40 4 rfl) (hf12 40 5 rfl) (funext fun s => hf12 77 s rfl) (hf12 43 1 rfl) (hf12 43 2 rfl) (hf12 43 3 rfl) (hf12 43 4 rfl) (funext fun s => hf12 79 s rfl) hRD
  have hX42 : fz_Xc H7 := fz_Xc_fr hf12 rfl hX
  have t43 : H7 53 10 = h 53 10 := hf12 53 10 rfl
  have t44 : H7 53 41 = h 53 41 := hf12 53 41 rfl
  have t45 : H7 53 42 = h 53 42 := hf12 53 42 rfl
  have t46 : H7 9 5 = h 9 5 := hf12 9 5 rfl
  have t47 : H7 53 10 = h 53 10 := hf12 53 10 rfl
  have t48 : H7 44 2 = h 44 2 := hf12 44 2 rfl
  have t49 : H7 53 44 = h 53 44 := hf12 53 44 rfl
  have t50 : H7 20 2 = h 20 2 := hf12 20 2 rfl
  have t51 : H7 53 16 = h 53 16 := hf12 53 16 rfl
  have t52 : H7 1 7 = h 1 7 := hf12 1 7 rfl
  have t53 : H7 53 0 = h 53 0 := hf12 53 0 rfl
  have t54 : H7 1 8 = h 1 8 := hf12 1 8 rfl
  have t55 : H7 53 2 = h 53 2 := hf12 53 2 rfl
  refine fz_pop rfl kLc38 rfl ?_
  refine fz_aload_n kLc38 rfl rfl ?_
  refine fz_aload_n kLc38 rfl rfl ?_
  refine fz_iload_n kLc38 rfl rfl ?_
  refine fz_iconst ⟨by decide, by decide⟩ kLc38 rfl ?_
  refine fz_iaddN kLc38 rfl (by omega) ?_
  refine fz_taldV (v := a1) kLc38 rfl ⟨by decide, by decide⟩ (by omega) (by rw [hf17 200 _ rfl]; omega) ((hf17 200 _ rfl).trans e2) ?_
  refine fz_aload_n kLc38 rfl rfl ?_
  refine fz_iload_n kLc38 rfl rfl ?_
  refine fz_iconst ⟨by decide, by decide⟩ kLc38 rfl ?_
  refine fz_iaddN kLc38 rfl (by omega) ?_
  refine fz_taldV (v := a3) kLc38 rfl ⟨by decide, by decide⟩ (by omega) (by rw [hf17 200 _ rfl]; omega) ((hf17 200 _ rfl).trans e4) ?_
  refine fz_aload_n kLc38 rfl rfl ?_
  refine fz_iload_n kLc38 rfl rfl ?_
  refine fz_iconst ⟨by decide, by decide⟩ kLc38 rfl ?_
  refine fz_iaddN kLc38 rfl (by omega) ?_
  refine fz_taldV (v := a5) kLc38 rfl ⟨by decide, by decide⟩ (by omega) (by rw [hf17 200 _ rfl]; omega) ((hf17 200 _ rfl).trans e6) ?_
  refine fz_callV (d' := 2) (M' := mX11_row) (As := [fz_i a1, fz_i a3, fz_i a5]) (st := []) kLc38 rfl rfl vX11_row rfl rfl rfl rfl (Nat.le_of_ble_eq_true rfl) (Nat.le_of_ble_eq_true rfl) (by decide) (sX11_row H7 hI11 a1 a3 a5 hXh19) (fun H56 r57 q58 o59 => ?_)
  obtain ⟨hI60, hf61, hXh62, y66, rfl, f63, f64, f65⟩ := q58
  clear o59
  have hf67 := fz_fr_tr hf17 hf61 (fz_su_all rfl)
  have hXd68 : fz_Xd H56 := fz_Xd_eq (funext fun s => hf61 80 s rfl) hXd18
  have hXw69 : fz_Xw H56 := fz_Xw_eq (hf61 53 19 rfl) (funext fun s => hf61 66 s rfl) (funext fun s => hf61 67 s rfl) (funext fun s => hf61 68 s rfl) (funext fun s => hf61 69 s rfl) hXw20
  have hRK70 : fz_RK H56 := fz_RK_eq (funext fun s => hf61 45 s rfl) (funext fun s => hf61 81 s rfl) hRK21
  have hRR71 : fz_RR H56 := fz_RR_eq (hf61 44 3 rfl) (hf61 53 46 rfl) (funext fun s => hf61 46 s rfl) (funext fun s => hf61 82 s rfl) hRR22
  have hRT72 : fz_RT H56 := fz_RT_eq (funext fun s => hf61 41 s rfl) (funext fun s => hf61 42 s rfl) (hf61 1 7 rfl) hRT23
  have hRE73 : fz_RE H56 := fz_RE_eq (funext fun s => hf61 5 s rfl) (funext fun s => hf61 6 s rfl) (hf61 1 8 rfl) (hf61 1 7 rfl) hRE24
  have hR274 : fz_R2 H56 := fz_R2_eq (funext fun s => hf61 2 s rfl) (funext fun s => hf61 54 s rfl) hR225
  have hR375 : fz_R3 H56 := fz_R3_eq (funext fun s => hf61 3 s rfl) (funext fun s => hf61 57 s rfl) hR326
  have hR476 : fz_R4 H56 := fz_R4_eq (funext fun s => hf61 4 s rfl) (funext fun s => hf61 58 s rfl) hR427
  have hR2877 : fz_R28 H56 := fz_R28_eq (funext fun s => hf61 28 s rfl) (funext fun s => hf61 59 s rfl) hR2828
  have hR578 : fz_R5 H56 := fz_R5_eq (funext fun s => hf61 5 s rfl) (funext fun s => hf61 55 s rfl) hR529
  have hR679 : fz_R6 H56 := fz_R6_eq (funext fun s => hf61 6 s rfl) (funext fun s => hf61 56 s rfl) hR630
  have hRG80 : fz_RG H56 := fz_RG_eq (hf61 27 8 rfl) (hf61 27 9 rfl) (hf61 53 8 rfl) (hf61 53 9 rfl) hRG31
  have hRL81 : fz_RL H56 := fz_RL_eq (funext fun s => hf61 11 s rfl) (funext fun s => hf61 12 s rfl) (funext fun s => hf61 13 s rfl) (funext fun s => hf61 14 s rfl) (funext fun s => hf61 61 s rfl) (funext fun s => hf61 62 s rfl) (funext fun s => hf61 63 s rfl) (funext fun s => hf61 64 s rfl) (hf61 9 5 rfl) hRL32
  have hRC82 : fz_RC H56 := fz_RC_eq (hf61 35 4 rfl) (hf61 35 5 rfl) (hf61 53 41 rfl) (hf61 53 42 rfl) (funext fun s => hf61 36 s rfl) (funext fun s => hf61 37 s rfl) (funext fun s => hf61 38 s rfl) (funext fun s => hf61 39 s rfl) (funext fun s => hf61 80 s rfl) (hf61 1 7 rfl) (hf61 1 8 rfl) (hf61 9 5 rfl) hRC33
  have hRJ83 : fz_RJ H56 := fz_RJ_eq (hf61 40 1 rfl) (hf61 53 34 rfl) (funext fun s => hf61 41 s rfl) (funext fun s => hf61 76 s rfl) (hf61 40 6 rfl) (hf61 53 37 rfl) (funext fun s => hf61 42 s rfl) (funext fun s => hf61 78 s rfl) (hf61 43 0 rfl) (hf61 53 38 rfl) hRJ34
  have hRW84 : fz_RW H56 := fz_RW_eq (funext fun s => hf61 10 s rfl) (funext fun s => hf61 60 s rfl) (hf61 9 5 rfl) hRW35
  have hRV85 : fz_RV H56 := fz_RV_eq (funext fun s => hf61 7 s rfl) (funext fun s => hf61 8 s rfl) (funext fun s => hf61 3 s rfl) (funext fun s => hf61 4 s rfl) (funext fun s => hf61 5 s rfl) (funext fun s => hf61 6 s rfl) (hf61 1 7 rfl) (hf61 1 8 rfl) hRV36
  have hRM86 : fz_RM H56 := fz_RM_eq (funext fun s => hf61 55 s rfl) (funext fun s => hf61 56 s rfl) (hf61 53 0 rfl) (hf61 53 2 rfl) hRM37
  have hRP287 : fz_RP2 H56 := fz_RP2_eq (funext fun s => hf61 11 s rfl) (hf61 9 5 rfl) (hf61 1 7 rfl) hRP238
  have hRA88 : fl_RA H56 := fl_RA_eq (funext fun s => hf61 26 s rfl) (funext fun s => hf61 65 s rfl) (hf61 20 2 rfl) hRA39
  have hRU89 : fl_RU H56 := fl_RU_eq (hf61 15 4 rfl) (funext fun s => hf61 16 s rfl) (funext fun s => hf61 17 s rfl) (hf61 53 18 rfl) (hf61 53 19 rfl) (funext fun s => hf61 66 s rfl) (funext fun s => hf61 67 s rfl) (funext fun s => hf61 68 s rfl) (funext fun s => hf61 69 s rfl) hRU40
  have hRD90 : fl_RD H56 := fl_RD_eq (hf61 40 2 rfl) (hf61 40 3 rfl) (hf61 40 4 rfl) (hf61 40 5 rfl) (funext fun s => hf61 77 s rfl) (hf61 43 1 rfl) (hf61 43 2 rfl) (hf61 43 3 rfl) (hf61 43 4 rfl) (funext fun s => hf61 79 s rfl) hRD41
  have hX91 : fz_Xc H56 := fz_Xc_fr hf61 rfl hX42
  have t92 : H56 53 10 = H7 53 10 := hf61 53 10 rfl
  have t93 : H56 53 41 = H7 53 41 := hf61 53 41 rfl
  have t94 : H56 53 42 = H7 53 42 := hf61 53 42 rfl
  have t95 : H56 9 5 = H7 9 5 := hf61 9 5 rfl
  have t96 : H56 53 10 = H7 53 10 := hf61 53 10 rfl
  have t97 : H56 44 2 = H7 44 2 := hf61 44 2 rfl
  have t98 : H56 53 44 = H7 53 44 := hf61 53 44 rfl
  have t99 : H56 20 2 = H7 20 2 := hf61 20 2 rfl
  have t100 : H56 53 16 = H7 53 16 := hf61 53 16 rfl
  have t101 : H56 1 7 = H7 1 7 := hf61 1 7 rfl
  have t102 : H56 53 0 = H7 53 0 := hf61 53 0 rfl
  have t103 : H56 1 8 = H7 1 8 := hf61 1 8 rfl
  have t104 : H56 53 2 = H7 53 2 := hf61 53 2 rfl
  refine fz_pop rfl kLc38 rfl ?_
  refine fz_goto (tgt := 1817) kLc38 rfl (by decide) ?_
  have hRS105 : fz_RS H56 := fz_RS_row hRS f15 f65
  have hRP107 : fz_RP H56 := fz_RP_row hRP f15 f65
  exact K H56 ⟨hI60, hX91, hXd68, hXh62, hXw69, (by rw [((hf61 53 10 rfl).trans (hf12 53 10 rfl))]; exact hv1), (by rw [((hf61 53 42 rfl).trans (hf12 53 42 rfl)), ((hf61 53 41 rfl).trans (hf12 53 41 rfl))]; exact hv2), (((hf61 9 5 rfl).trans (hf12 9 5 rfl)).trans (hr0.trans ((hf61 53 10 rfl).trans (hf12 53 10 rfl)).symm)), (((hf61 44 2 rfl).trans (hf12 44 2 rfl)).trans (hr1.trans ((hf61 53 44 rfl).trans (hf12 53 44 rfl)).symm)), (((hf61 20 2 rfl).trans (hf12 20 2 rfl)).trans (hr2.trans ((hf61 53 16 rfl).trans (hf12 53 16 rfl)).symm)), (((hf61 1 7 rfl).trans (hf12 1 7 rfl)).trans (hr3.trans ((hf61 53 0 rfl).trans (hf12 53 0 rfl)).symm)), (((hf61 1 8 rfl).trans (hf12 1 8 rfl)).trans (hr4.trans ((hf61 53 2 rfl).trans (hf12 53 2 rfl)).symm)), hRS105, hRP107, hRK70, hRR71, hRT72, hRE73, hR274, hR375, hR476, hR2877, hR578, hR679, hRG80, hRL81, hRC82, hRJ83, hRW84, hRV85, hRM86, hRP287, hRA88, hRU89, hRD90⟩ (funext fun s => hf67 200 s rfl)
def mLc39 : fz_M := (yL_law, code, 4, (some .boolean), [(1592, .aload_n 1, 1, 0, 0, 0), (1593, .aload_n 0, 1, 0, 0, 0), (1594, .iload_n 3, 1, 0, 0, 0), (1595, .iconst 1, 1, 0, 0, 0), (1596, .iadd, 1, 0, 0, 0), (1597, .iaload, 1, 0, 0, 0), (1598, .aload_n 0, 1, 0, 0, 0), (1599, .iload_n 3, 1, 0, 0, 0), (1600, .iconst 2, 1, 0, 0, 0), (1601, .iadd, 1, 0, 0, 0), (1602, .iaload, 1, 0, 0, 0), (1603, .aload_n 0, 1, 0, 0, 0), (1604, .iload_n 3, 1, 0, 0, 0), (1605, .iconst 3, 1, 0, 0, 0), (1606, .iadd, 1, 0, 0, 0), (1607, .iaload, 1, 0, 0, 0), (1608, .i2l, 1, 0, 0, 0), (1609, .bipush 32, 2, 0, 0, 0), (1611, .lshl, 1, 0, 0, 0), (1612, .aload_n 0, 1, 0, 0, 0), (1613, .iload_n 3, 1, 0, 0, 0), (1614, .iconst 4, 1, 0, 0, 0), (1615, .iadd, 1, 0, 0, 0), (1616, .iaload, 1, 0, 0, 0), (1617, .i2l, 1, 0, 0, 0), (1618, .ldc2_w 175, 3, 7203, 0, 0), (1621, .land, 1, 0, 0, 0), (1622, .lor, 1, 0, 0, 0), (1623, .invokevirtual 177, 3, 5036, 62, 0), (1626, .pop, 1, 0, 0, 0), (1627, .aload_n 2, 1, 0, 0, 0), (1628, .aload_n 0, 1, 0, 0, 0), (1629, .iload_n 3, 1, 0, 0, 0), (1630, .iconst 1, 1, 0, 0, 0), (1631, .iadd, 1, 0, 0, 0), (1632, .iaload, 1, 0, 0, 0), (1633, .aload_n 0, 1, 0, 0, 0), (1634, .iload_n 3, 1, 0, 0, 0), (1635, .iconst 2, 1, 0, 0, 0), (1636, .iadd, 1, 0, 0, 0), (1637, .iaload, 1, 0, 0, 0), (1638, .aload_n 0, 1, 0, 0, 0), (1639, .iload_n 3, 1, 0, 0, 0), (1640, .iconst 3, 1, 0, 0, 0), (1641, .iadd, 1, 0, 0, 0), (1642, .iaload, 1, 0, 0, 0), (1643, .i2l, 1, 0, 0, 0), (1644, .bipush 32, 2, 0, 0, 0), (1646, .lshl, 1, 0, 0, 0), (1647, .aload_n 0, 1, 0, 0, 0), (1648, .iload_n 3, 1, 0, 0, 0), (1649, .iconst 4, 1, 0, 0, 0), (1650, .iadd, 1, 0, 0, 0), (1651, .iaload, 1, 0, 0, 0), (1652, .i2l, 1, 0, 0, 0), (1653, .ldc2_w 175, 3, 7203, 0, 0), (1656, .land, 1, 0, 0, 0), (1657, .lor, 1, 0, 0, 0), (1658, .invokevirtual 181, 3, 7176, 161, 0), (1661, .pop, 1, 0, 0, 0), (1662, .goto 155, 3, 0, 0, 0)])
set_option maxRecDepth 100000 in
theorem kLc39 : fz_okM mLc39 = true := fz_okM_in (by decide +kernel) (by decide +kernel)
set_option maxHeartbeats 1000000 in
set_option maxRecDepth 100000 in
theorem lc39 (h : fz_H) (hI : fz_Iv h) (hX : fz_Xc h) (hXd : fz_Xd h) (hXh : fz_Xh h) (hXw : fz_Xw h) (hv1 : h 53 10 ≤ 10) (hv2 : h 53 42 ≤ h 53 41) (hr0 : h 9 5 = h 53 10) (hr1 : h 44 2 = h 53 44) (hr2 : h 20 2 = h 53 16) (hr3 : h 1 7 = h 53 0) (hr4 : h 1 8 = h 53 2) (hRS : fz_RS h) (hRP : fz_RP h) (hRK : fz_RK h) (hRR : fz_RR h) (hRT : fz_RT h) (hRE : fz_RE h) (hR2 : fz_R2 h) (hR3 : fz_R3 h) (hR4 : fz_R4 h) (hR28 : fz_R28 h) (hR5 : fz_R5 h) (hR6 : fz_R6 h) (hRG : fz_RG h) (hRL : fz_RL h) (hRC : fz_RC h) (hRJ : fz_RJ h) (hRW : fz_RW h) (hRV : fz_RV h) (hRM : fz_RM h) (hRP2 : fz_RP2 h) (hRA : fz_RA h) (hRU : fz_RU h) (hRD : fz_RD h) (i : Int) (hi : 0 ≤ i ∧ i + 6 ≤ h 200 100000 ∧ h 200 100000 ≤ 3072) {Q : fz_H → Option fz_V → Prop} (K : ∀ H : fz_H, fz_Gd H → H 200 = h 200 → fz_R 47 mLe 1817 [(3, fz_i i), (0, fz_r 200), (1, fz_r 0), (2, fz_r 53)] [] H Q) : fz_R 47 mLc39 1592 [(3, fz_i i), (0, fz_r 200), (1, fz_r 0), (2, fz_r 53)] [] h Q := by
  have hf : fz_fr fz_all h h := fz_fr_rf
  refine fz_aload_n kLc39 rfl rfl ?_
  refine fz_aload_n kLc39 rfl rfl ?_
  refine fz_iload_n kLc39 rfl rfl ?_
  refine fz_iconst ⟨by decide, by decide⟩ kLc39 rfl ?_
  refine fz_iaddN kLc39 rfl (by omega) ?_
  obtain ⟨a1, e2⟩ : ∃ z, h 200 ((i + 1)).toNat = z := ⟨_, rfl⟩
  refine fz_taldV (v := a1) kLc39 rfl ⟨by decide, by decide⟩ (by omega) (by omega) e2 ?_
  refine fz_aload_n kLc39 rfl rfl ?_
  refine fz_iload_n kLc39 rfl rfl ?_
  refine fz_iconst ⟨by decide, by decide⟩ kLc39 rfl ?_
  refine fz_iaddN kLc39 rfl (by omega) ?_
  obtain ⟨a3, e4⟩ : ∃ z, h 200 ((i + 2)).toNat = z := ⟨_, rfl⟩
  refine fz_taldV (v := a3) kLc39 rfl ⟨by decide, by decide⟩ (by omega) (by omega) e4 ?_
  refine fz_aload_n kLc39 rfl rfl ?_
  refine fz_iload_n kLc39 rfl rfl ?_
  refine fz_iconst ⟨by decide, by decide⟩ kLc39 rfl ?_
  refine fz_iaddN kLc39 rfl (by omega) ?_
  obtain ⟨a5, e6⟩ : ∃ z, h 200 ((i + 3)).toNat = z := ⟨_, rfl⟩
  refine fz_taldV (v := a5) kLc39 rfl ⟨by decide, by decide⟩ (by omega) (by omega) e6 ?_
  refine fz_i2l kLc39 rfl ?_
  refine fz_bipush ⟨by decide, by decide⟩ kLc39 rfl ?_
  refine fz_lshl kLc39 rfl ?_
  refine fz_aload_n kLc39 rfl rfl ?_
  refine fz_iload_n kLc39 rfl rfl ?_
  refine fz_iconst ⟨by decide, by decide⟩ kLc39 rfl ?_
  refine fz_iaddN kLc39 rfl (by omega) ?_
  obtain ⟨a7, e8⟩ : ∃ z, h 200 ((i + 4)).toNat = z := ⟨_, rfl⟩
  refine fz_taldV (v := a7) kLc39 rfl ⟨by decide, by decide⟩ (by omega) (by omega) e8 ?_
  refine fz_i2l kLc39 rfl ?_
  refine fz_ldc2 (x := 4294967295) kLc39 rfl rfl rfl ?_
  refine fz_land kLc39 rfl ?_
  refine fz_lor kLc39 rfl ?_
  refine fz_callV (d' := 3) (M' := mX10_put) (As := [fz_i a1, fz_i a3, fz_l (fz_orl (fz_shll a5 32) (fz_andl a7 4294967295))]) (st := []) kLc39 rfl rfl vX10_put rfl rfl rfl rfl (Nat.le_of_ble_eq_true rfl) (Nat.le_of_ble_eq_true rfl) (by decide) (sX10_put h hI a1 a3 (fz_orl (fz_shll a5 32) (fz_andl a7 4294967295)) ) (fun H9 r10 q11 o12 => ?_)
  obtain ⟨hI13, hf14, y18, rfl, f15, f16, f17⟩ := q11
  clear o12
  have hf19 := fz_fr_tr hf hf14 (fz_su_all rfl)
  have hXd20 : fz_Xd H9 := fz_Xd_eq (funext fun s => hf14 80 s rfl) hXd
  have hXh21 : fz_Xh H9 := fz_Xh_eq (funext fun s => hf14 83 s rfl) hXh
  have hXw22 : fz_Xw H9 := fz_Xw_eq (hf14 53 19 rfl) (funext fun s => hf14 66 s rfl) (funext fun s => hf14 67 s rfl) (funext fun s => hf14 68 s rfl) (funext fun s => hf14 69 s rfl) hXw
  have hRS23 : fz_RS H9 := fz_RS_eq (funext fun s => hf14 48 s rfl) (funext fun s => hf14 49 s rfl) (funext fun s => hf14 50 s rfl) (funext fun s => hf14 51 s rfl) (funext fun s => hf14 83 s rfl) (funext fun s => hf14 84 s rfl) (hf14 44 2 rfl) hRS
  have hRK24 : fz_RK H9 := fz_RK_eq (funext fun s => hf14 45 s rfl) (funext fun s => hf14 81 s rfl) hRK
  have hRR25 : fz_RR H9 := fz_RR_eq (hf14 44 3 rfl) (hf14 53 46 rfl) (funext fun s => hf14 46 s rfl) (funext fun s => hf14 82 s rfl) hRR
  have hRT26 : fz_RT H9 := fz_RT_eq (funext fun s => hf14 41 s rfl) (funext fun s => hf14 42 s rfl) (hf14 1 7 rfl) hRT
  have hRE27 : fz_RE H9 := fz_RE_eq (funext fun s => hf14 5 s rfl) (funext fun s => hf14 6 s rfl) (hf14 1 8 rfl) (hf14 1 7 rfl) hRE
  have hR228 : fz_R2 H9 := fz_R2_eq (funext fun s => hf14 2 s rfl) (funext fun s => hf14 54 s rfl) hR2
  have hR329 : fz_R3 H9 := fz_R3_eq (funext fun s => hf14 3 s rfl) (funext fun s => hf14 57 s rfl) hR3
  have hR430 : fz_R4 H9 := fz_R4_eq (funext fun s => hf14 4 s rfl) (funext fun s => hf14 58 s rfl) hR4
  have hR2831 : fz_R28 H9 := fz_R28_eq (funext fun s => hf14 28 s rfl) (funext fun s => hf14 59 s rfl) hR28
  have hR532 : fz_R5 H9 := fz_R5_eq (funext fun s => hf14 5 s rfl) (funext fun s => hf14 55 s rfl) hR5
  have hR633 : fz_R6 H9 := fz_R6_eq (funext fun s => hf14 6 s rfl) (funext fun s => hf14 56 s rfl) hR6
  have hRG34 : fz_RG H9 := fz_RG_eq (hf14 27 8 rfl) (hf14 27 9 rfl) (hf14 53 8 rfl) (hf14 53 9 rfl) hRG
  have hRL35 : fz_RL H9 := fz_RL_eq (funext fun s => hf14 11 s rfl) (funext fun s => hf14 12 s rfl) (funext fun s => hf14 13 s rfl) (funext fun s => hf14 14 s rfl) (funext fun s => hf14 61 s rfl) (funext fun s => hf14 62 s rfl) (funext fun s => hf14 63 s rfl) (funext fun s => hf14 64 s rfl) (hf14 9 5 rfl) hRL
  have hRC36 : fz_RC H9 := fz_RC_eq (hf14 35 4 rfl) (hf14 35 5 rfl) (hf14 53 41 rfl) (hf14 53 42 rfl) (funext fun s => hf14 36 s rfl) (funext fun s => hf14 37 s rfl) (funext fun s => hf14 38 s rfl) (funext fun s => hf14 39 s rfl) (funext fun s => hf14 80 s rfl) (hf14 1 7 rfl) (hf14 1 8 rfl) (hf14 9 5 rfl) hRC
  have hRJ37 : fz_RJ H9 := fz_RJ_eq (hf14 40 1 rfl) (hf14 53 34 rfl) (funext fun s => hf14 41 s rfl) (funext fun s => hf14 76 s rfl) (hf14 40 6 rfl) (hf14 53 37 rfl) (funext fun s => hf14 42 s rfl) (funext fun s => hf14 78 s rfl) (hf14 43 0 rfl) (hf14 53 38 rfl) hRJ
  have hRW38 : fz_RW H9 := fz_RW_eq (funext fun s => hf14 10 s rfl) (funext fun s => hf14 60 s rfl) (hf14 9 5 rfl) hRW
  have hRV39 : fz_RV H9 := fz_RV_eq (funext fun s => hf14 7 s rfl) (funext fun s => hf14 8 s rfl) (funext fun s => hf14 3 s rfl) (funext fun s => hf14 4 s rfl) (funext fun s => hf14 5 s rfl) (funext fun s => hf14 6 s rfl) (hf14 1 7 rfl) (hf14 1 8 rfl) hRV
  have hRM40 : fz_RM H9 := fz_RM_eq (funext fun s => hf14 55 s rfl) (funext fun s => hf14 56 s rfl) (hf14 53 0 rfl) (hf14 53 2 rfl) hRM
  have hRP241 : fz_RP2 H9 := fz_RP2_eq (funext fun s => hf14 11 s rfl) (hf14 9 5 rfl) (hf14 1 7 rfl) hRP2
  have hRA42 : fl_RA H9 := fl_RA_eq (funext fun s => hf14 26 s rfl) (funext fun s => hf14 65 s rfl) (hf14 20 2 rfl) hRA
  have hRU43 : fl_RU H9 := fl_RU_eq (hf14 15 4 rfl) (funext fun s => hf14 16 s rfl) (funext fun s => hf14 17 s rfl) (hf14 53 18 rfl) (hf14 53 19 rfl) (funext fun s => hf14 66 s rfl) (funext fun s => hf14 67 s rfl) (funext fun s => hf14 68 s rfl) (funext fun s => hf14 69 s rfl) hRU
  have hRD44 : fl_RD H9 := fl_RD_eq (hf14 40 2 rfl) (hf14 40 3 rfl) (hf14 40 4 rfl) (hf14 40 5 rfl) (funext fun s => hf14 77 s rfl) (hf14 43 1 rfl) (hf14 43 2 rfl) (hf14 43 3 rfl) (hf14 43 4 rfl) (funext fun s => hf14 79 s rfl) hRD
  have hX45 : fz_Xc H9 := fz_Xc_fr hf14 rfl hX
  have t46 : H9 53 10 = h 53 10 := hf14 53 10 rfl
  have t47 : H9 53 41 = h 53 41 := hf14 53 41 rfl
  have t48 : H9 53 42 = h 53 42 := hf14 53 42 rfl
  have t49 : H9 9 5 = h 9 5 := hf14 9 5 rfl
  have t50 : H9 53 10 = h 53 10 := hf14 53 10 rfl
  have t51 : H9 44 2 = h 44 2 := hf14 44 2 rfl
  have t52 : H9 53 44 = h 53 44 := hf14 53 44 rfl
  have t53 : H9 20 2 = h 20 2 := hf14 20 2 rfl
  have t54 : H9 53 16 = h 53 16 := hf14 53 16 rfl
  have t55 : H9 1 7 = h 1 7 := hf14 1 7 rfl
  have t56 : H9 53 0 = h 53 0 := hf14 53 0 rfl
  have t57 : H9 1 8 = h 1 8 := hf14 1 8 rfl
  have t58 : H9 53 2 = h 53 2 := hf14 53 2 rfl
  refine fz_pop rfl kLc39 rfl ?_
  refine fz_aload_n kLc39 rfl rfl ?_
  refine fz_aload_n kLc39 rfl rfl ?_
  refine fz_iload_n kLc39 rfl rfl ?_
  refine fz_iconst ⟨by decide, by decide⟩ kLc39 rfl ?_
  refine fz_iaddN kLc39 rfl (by omega) ?_
  refine fz_taldV (v := a1) kLc39 rfl ⟨by decide, by decide⟩ (by omega) (by rw [hf19 200 _ rfl]; omega) ((hf19 200 _ rfl).trans e2) ?_
  refine fz_aload_n kLc39 rfl rfl ?_
  refine fz_iload_n kLc39 rfl rfl ?_
  refine fz_iconst ⟨by decide, by decide⟩ kLc39 rfl ?_
  refine fz_iaddN kLc39 rfl (by omega) ?_
  refine fz_taldV (v := a3) kLc39 rfl ⟨by decide, by decide⟩ (by omega) (by rw [hf19 200 _ rfl]; omega) ((hf19 200 _ rfl).trans e4) ?_
  refine fz_aload_n kLc39 rfl rfl ?_
  refine fz_iload_n kLc39 rfl rfl ?_
  refine fz_iconst ⟨by decide, by decide⟩ kLc39 rfl ?_
  refine fz_iaddN kLc39 rfl (by omega) ?_
  refine fz_taldV (v := a5) kLc39 rfl ⟨by decide, by decide⟩ (by omega) (by rw [hf19 200 _ rfl]; omega) ((hf19 200 _ rfl).trans e6) ?_
  refine fz_i2l kLc39 rfl ?_
  refine fz_bipush ⟨by decide, by decide⟩ kLc39 rfl ?_
  refine fz_lshl kLc39 rfl ?_
  refine fz_aload_n kLc39 rfl rfl ?_
  refine fz_iload_n kLc39 rfl rfl ?_
  refine fz_iconst ⟨by decide, by decide⟩ kLc39 rfl ?_
  refine fz_iaddN kLc39 rfl (by omega) ?_
  refine fz_taldV (v := a7) kLc39 rfl ⟨by decide, by decide⟩ (by omega) (by rw [hf19 200 _ rfl]; omega) ((hf19 200 _ rfl).trans e8) ?_
  refine fz_i2l kLc39 rfl ?_
  refine fz_ldc2 (x := 4294967295) kLc39 rfl rfl rfl ?_
  refine fz_land kLc39 rfl ?_
  refine fz_lor kLc39 rfl ?_
  refine fz_callV (d' := 2) (M' := mX11_put) (As := [fz_i a1, fz_i a3, fz_l (fz_orl (fz_shll a5 32) (fz_andl a7 4294967295))]) (st := []) kLc39 rfl rfl vX11_put rfl rfl rfl rfl (Nat.le_of_ble_eq_true rfl) (Nat.le_of_ble_eq_true rfl) (by decide) (sX11_put H9 hI13 a1 a3 (fz_orl (fz_shll a5 32) (fz_andl a7 4294967295)) ) (fun H59 r60 q61 o62 => ?_)
  obtain ⟨hI63, hf64, y68, rfl, f65, f66, f67⟩ := q61
  clear o62
  have hf69 := fz_fr_tr hf19 hf64 (fz_su_all rfl)
  have hXd70 : fz_Xd H59 := fz_Xd_eq (funext fun s => hf64 80 s rfl) hXd20
  have hXh71 : fz_Xh H59 := fz_Xh_eq (funext fun s => hf64 83 s rfl) hXh21
  have hXw72 : fz_Xw H59 := fz_Xw_eq (hf64 53 19 rfl) (funext fun s => hf64 66 s rfl) (funext fun s => hf64 67 s rfl) (funext fun s => hf64 68 s rfl) (funext fun s => hf64 69 s rfl) hXw22
  have hRS73 : fz_RS H59 := fz_RS_eq (funext fun s => hf64 48 s rfl) (funext fun s => hf64 49 s rfl) (funext fun s => hf64 50 s rfl) (funext fun s => hf64 51 s rfl) (funext fun s => hf64 83 s rfl) (funext fun s => hf64 84 s rfl) (hf64 44 2 rfl) hRS23
  have hRK74 : fz_RK H59 := fz_RK_eq (funext fun s => hf64 45 s rfl) (funext fun s => hf64 81 s rfl) hRK24
  have hRR75 : fz_RR H59 := fz_RR_eq (hf64 44 3 rfl) (hf64 53 46 rfl) (funext fun s => hf64 46 s rfl) (funext fun s => hf64 82 s rfl) hRR25
  have hRT76 : fz_RT H59 := fz_RT_eq (funext fun s => hf64 41 s rfl) (funext fun s => hf64 42 s rfl) (hf64 1 7 rfl) hRT26
  have hRE77 : fz_RE H59 := fz_RE_eq (funext fun s => hf64 5 s rfl) (funext fun s => hf64 6 s rfl) (hf64 1 8 rfl) (hf64 1 7 rfl) hRE27
  have hR278 : fz_R2 H59 := fz_R2_eq (funext fun s => hf64 2 s rfl) (funext fun s => hf64 54 s rfl) hR228
  have hR379 : fz_R3 H59 := fz_R3_eq (funext fun s => hf64 3 s rfl) (funext fun s => hf64 57 s rfl) hR329
  have hR480 : fz_R4 H59 := fz_R4_eq (funext fun s => hf64 4 s rfl) (funext fun s => hf64 58 s rfl) hR430
  have hR2881 : fz_R28 H59 := fz_R28_eq (funext fun s => hf64 28 s rfl) (funext fun s => hf64 59 s rfl) hR2831
  have hR582 : fz_R5 H59 := fz_R5_eq (funext fun s => hf64 5 s rfl) (funext fun s => hf64 55 s rfl) hR532
  have hR683 : fz_R6 H59 := fz_R6_eq (funext fun s => hf64 6 s rfl) (funext fun s => hf64 56 s rfl) hR633
  have hRG84 : fz_RG H59 := fz_RG_eq (hf64 27 8 rfl) (hf64 27 9 rfl) (hf64 53 8 rfl) (hf64 53 9 rfl) hRG34
  have hRL85 : fz_RL H59 := fz_RL_eq (funext fun s => hf64 11 s rfl) (funext fun s => hf64 12 s rfl) (funext fun s => hf64 13 s rfl) (funext fun s => hf64 14 s rfl) (funext fun s => hf64 61 s rfl) (funext fun s => hf64 62 s rfl) (funext fun s => hf64 63 s rfl) (funext fun s => hf64 64 s rfl) (hf64 9 5 rfl) hRL35
  have hRC86 : fz_RC H59 := fz_RC_eq (hf64 35 4 rfl) (hf64 35 5 rfl) (hf64 53 41 rfl) (hf64 53 42 rfl) (funext fun s => hf64 36 s rfl) (funext fun s => hf64 37 s rfl) (funext fun s => hf64 38 s rfl) (funext fun s => hf64 39 s rfl) (funext fun s => hf64 80 s rfl) (hf64 1 7 rfl) (hf64 1 8 rfl) (hf64 9 5 rfl) hRC36
  have hRJ87 : fz_RJ H59 := fz_RJ_eq (hf64 40 1 rfl) (hf64 53 34 rfl) (funext fun s => hf64 41 s rfl) (funext fun s => hf64 76 s rfl) (hf64 40 6 rfl) (hf64 53 37 rfl) (funext fun s => hf64 42 s rfl) (funext fun s => hf64 78 s rfl) (hf64 43 0 rfl) (hf64 53 38 rfl) hRJ37
  have hRW88 : fz_RW H59 := fz_RW_eq (funext fun s => hf64 10 s rfl) (funext fun s => hf64 60 s rfl) (hf64 9 5 rfl) hRW38
  have hRV89 : fz_RV H59 := fz_RV_eq (funext fun s => hf64 7 s rfl) (funext fun s => hf64 8 s rfl) (funext fun s => hf64 3 s rfl) (funext fun s => hf64 4 s rfl) (funext fun s => hf64 5 s rfl) (funext fun s => hf64 6 s rfl) (hf64 1 7 rfl) (hf64 1 8 rfl) hRV39
  have hRM90 : fz_RM H59 := fz_RM_eq (funext fun s => hf64 55 s rfl) (funext fun s => hf64 56 s rfl) (hf64 53 0 rfl) (hf64 53 2 rfl) hRM40
  have hRP291 : fz_RP2 H59 := fz_RP2_eq (funext fun s => hf64 11 s rfl) (hf64 9 5 rfl) (hf64 1 7 rfl) hRP241
  have hRA92 : fl_RA H59 := fl_RA_eq (funext fun s => hf64 26 s rfl) (funext fun s => hf64 65 s rfl) (hf64 20 2 rfl) hRA42
  have hRU93 : fl_RU H59 := fl_RU_eq (hf64 15 4 rfl) (funext fun s => hf64 16 s rfl) (funext fun s => hf64 17 s rfl) (hf64 53 18 rfl) (hf64 53 19 rfl) (funext fun s => hf64 66 s rfl) (funext fun s => hf64 67 s rfl) (funext fun s => hf64 68 s rfl) (funext fun s => hf64 69 s rfl) hRU43
  have hRD94 : fl_RD H59 := fl_RD_eq (hf64 40 2 rfl) (hf64 40 3 rfl) (hf64 40 4 rfl) (hf64 40 5 rfl) (funext fun s => hf64 77 s rfl) (hf64 43 1 rfl) (hf64 43 2 rfl) (hf64 43 3 rfl) (hf64 43 4 rfl) (funext fun s => hf64 79 s rfl) hRD44
  have hX95 : fz_Xc H59 := fz_Xc_fr hf64 rfl hX45
  have t96 : H59 53 10 = H9 53 10 := hf64 53 10 rfl
  have t97 : H59 53 41 = H9 53 41 := hf64 53 41 rfl
  have t98 : H59 53 42 = H9 53 42 := hf64 53 42 rfl
  have t99 : H59 9 5 = H9 9 5 := hf64 9 5 rfl
  have t100 : H59 53 10 = H9 53 10 := hf64 53 10 rfl
  have t101 : H59 44 2 = H9 44 2 := hf64 44 2 rfl
  have t102 : H59 53 44 = H9 53 44 := hf64 53 44 rfl
  have t103 : H59 20 2 = H9 20 2 := hf64 20 2 rfl
  have t104 : H59 53 16 = H9 53 16 := hf64 53 16 rfl
  have t105 : H59 1 7 = H9 1 7 := hf64 1 7 rfl
  have t106 : H59 53 0 = H9 53 0 := hf64 53 0 rfl
  have t107 : H59 1 8 = H9 1 8 := hf64 1 8 rfl
  have t108 : H59 53 2 = H9 53 2 := hf64 53 2 rfl
  refine fz_pop rfl kLc39 rfl ?_
  refine fz_goto (tgt := 1817) kLc39 rfl (by decide) ?_
  have hRP109 : fz_RP H59 := fz_RP_put hRP hRS f17 f67 (funext fun s => hf14 83 s rfl) (funext fun s => hf14 84 s rfl)
  exact K H59 ⟨hI63, hX95, hXd70, hXh71, hXw72, (by rw [((hf64 53 10 rfl).trans (hf14 53 10 rfl))]; exact hv1), (by rw [((hf64 53 42 rfl).trans (hf14 53 42 rfl)), ((hf64 53 41 rfl).trans (hf14 53 41 rfl))]; exact hv2), (((hf64 9 5 rfl).trans (hf14 9 5 rfl)).trans (hr0.trans ((hf64 53 10 rfl).trans (hf14 53 10 rfl)).symm)), (((hf64 44 2 rfl).trans (hf14 44 2 rfl)).trans (hr1.trans ((hf64 53 44 rfl).trans (hf14 53 44 rfl)).symm)), (((hf64 20 2 rfl).trans (hf14 20 2 rfl)).trans (hr2.trans ((hf64 53 16 rfl).trans (hf14 53 16 rfl)).symm)), (((hf64 1 7 rfl).trans (hf14 1 7 rfl)).trans (hr3.trans ((hf64 53 0 rfl).trans (hf14 53 0 rfl)).symm)), (((hf64 1 8 rfl).trans (hf14 1 8 rfl)).trans (hr4.trans ((hf64 53 2 rfl).trans (hf14 53 2 rfl)).symm)), hRS73, hRP109, hRK74, hRR75, hRT76, hRE77, hR278, hR379, hR480, hR2881, hR582, hR683, hRG84, hRL85, hRC86, hRJ87, hRW88, hRV89, hRM90, hRP291, hRA92, hRU93, hRD94⟩ (funext fun s => hf69 200 s rfl)
def mLc40 : fz_M := (yL_law, code, 4, (some .boolean), [(1665, .aload_n 1, 1, 0, 0, 0), (1666, .aload_n 0, 1, 0, 0, 0), (1667, .iload_n 3, 1, 0, 0, 0), (1668, .iconst 1, 1, 0, 0, 0), (1669, .iadd, 1, 0, 0, 0), (1670, .iaload, 1, 0, 0, 0), (1671, .aload_n 0, 1, 0, 0, 0), (1672, .iload_n 3, 1, 0, 0, 0), (1673, .iconst 2, 1, 0, 0, 0), (1674, .iadd, 1, 0, 0, 0), (1675, .iaload, 1, 0, 0, 0), (1676, .invokevirtual 182, 3, 5052, 29, 0), (1679, .pop2, 1, 0, 0, 0), (1680, .aload_n 2, 1, 0, 0, 0), (1681, .aload_n 0, 1, 0, 0, 0), (1682, .iload_n 3, 1, 0, 0, 0), (1683, .iconst 1, 1, 0, 0, 0), (1684, .iadd, 1, 0, 0, 0), (1685, .iaload, 1, 0, 0, 0), (1686, .aload_n 0, 1, 0, 0, 0), (1687, .iload_n 3, 1, 0, 0, 0), (1688, .iconst 2, 1, 0, 0, 0), (1689, .iadd, 1, 0, 0, 0), (1690, .iaload, 1, 0, 0, 0), (1691, .invokevirtual 186, 3, 7187, 98, 0), (1694, .pop2, 1, 0, 0, 0), (1695, .goto 122, 3, 0, 0, 0)])
set_option maxRecDepth 100000 in
theorem kLc40 : fz_okM mLc40 = true := fz_okM_in (by decide +kernel) (by decide +kernel)
set_option maxHeartbeats 1000000 in
set_option maxRecDepth 100000 in
theorem lc40 (h : fz_H) (hI : fz_Iv h) (hX : fz_Xc h) (hXd : fz_Xd h) (hXh : fz_Xh h) (hXw : fz_Xw h) (hv1 : h 53 10 ≤ 10) (hv2 : h 53 42 ≤ h 53 41) (hr0 : h 9 5 = h 53 10) (hr1 : h 44 2 = h 53 44) (hr2 : h 20 2 = h 53 16) (hr3 : h 1 7 = h 53 0) (hr4 : h 1 8 = h 53 2) (hRS : fz_RS h) (hRP : fz_RP h) (hRK : fz_RK h) (hRR : fz_RR h) (hRT : fz_RT h) (hRE : fz_RE h) (hR2 : fz_R2 h) (hR3 : fz_R3 h) (hR4 : fz_R4 h) (hR28 : fz_R28 h) (hR5 : fz_R5 h) (hR6 : fz_R6 h) (hRG : fz_RG h) (hRL : fz_RL h) (hRC : fz_RC h) (hRJ : fz_RJ h) (hRW : fz_RW h) (hRV : fz_RV h) (hRM : fz_RM h) (hRP2 : fz_RP2 h) (hRA : fz_RA h) (hRU : fz_RU h) (hRD : fz_RD h) (i : Int) (hi : 0 ≤ i ∧ i + 6 ≤ h 200 100000 ∧ h 200 100000 ≤ 3072) {Q : fz_H → Option fz_V → Prop} (K : ∀ H : fz_H, fz_Gd H → H 200 = h 200 → fz_R 47 mLe 1817 [(3, fz_i i), (0, fz_r 200), (1, fz_r 0), (2, fz_r 53)] [] H Q) : fz_R 47 mLc40 1665 [(3, fz_i i), (0, fz_r 200), (1, fz_r 0), (2, fz_r 53)] [] h Q := by
  have hf : fz_fr fz_all h h := fz_fr_rf
  refine fz_aload_n kLc40 rfl rfl ?_
  refine fz_aload_n kLc40 rfl rfl ?_
  refine fz_iload_n kLc40 rfl rfl ?_
  refine fz_iconst ⟨by decide, by decide⟩ kLc40 rfl ?_
  refine fz_iaddN kLc40 rfl (by omega) ?_
  obtain ⟨a1, e2⟩ : ∃ z, h 200 ((i + 1)).toNat = z := ⟨_, rfl⟩
  refine fz_taldV (v := a1) kLc40 rfl ⟨by decide, by decide⟩ (by omega) (by omega) e2 ?_
  refine fz_aload_n kLc40 rfl rfl ?_
  refine fz_iload_n kLc40 rfl rfl ?_
  refine fz_iconst ⟨by decide, by decide⟩ kLc40 rfl ?_
  refine fz_iaddN kLc40 rfl (by omega) ?_
  obtain ⟨a3, e4⟩ : ∃ z, h 200 ((i + 2)).toNat = z := ⟨_, rfl⟩
  refine fz_taldV (v := a3) kLc40 rfl ⟨by decide, by decide⟩ (by omega) (by omega) e4 ?_
  refine fz_callV (d' := 3) (M' := mX10_element) (As := [fz_i a1, fz_i a3]) (st := []) kLc40 rfl rfl vX10_element rfl rfl rfl rfl (Nat.le_of_ble_eq_true rfl) (Nat.le_of_ble_eq_true rfl) (by decide) (sX10_element h hI a1 a3 ) (fun H5 r6 q7 o8 => ?_)
  obtain ⟨e9, y12, rfl, f10, f11⟩ := q7
  subst H5
  clear o8
  refine fz_pop2 kLc40 rfl ?_
  refine fz_aload_n kLc40 rfl rfl ?_
  refine fz_aload_n kLc40 rfl rfl ?_
  refine fz_iload_n kLc40 rfl rfl ?_
  refine fz_iconst ⟨by decide, by decide⟩ kLc40 rfl ?_
  refine fz_iaddN kLc40 rfl (by omega) ?_
  refine fz_taldV (v := a1) kLc40 rfl ⟨by decide, by decide⟩ (by omega) (by omega) e2 ?_
  refine fz_aload_n kLc40 rfl rfl ?_
  refine fz_iload_n kLc40 rfl rfl ?_
  refine fz_iconst ⟨by decide, by decide⟩ kLc40 rfl ?_
  refine fz_iaddN kLc40 rfl (by omega) ?_
  refine fz_taldV (v := a3) kLc40 rfl ⟨by decide, by decide⟩ (by omega) (by omega) e4 ?_
  refine fz_callV (d' := 2) (M' := mX11_element) (As := [fz_i a1, fz_i a3]) (st := []) kLc40 rfl rfl vX11_element rfl rfl rfl rfl (Nat.le_of_ble_eq_true rfl) (Nat.le_of_ble_eq_true rfl) (by decide) (sX11_element h hI a1 a3 ) (fun H13 r14 q15 o16 => ?_)
  obtain ⟨e17, y20, rfl, f18, f19⟩ := q15
  subst H13
  clear o16
  refine fz_pop2 kLc40 rfl ?_
  refine fz_goto (tgt := 1817) kLc40 rfl (by decide) ?_
  exact K h ⟨hI, hX, hXd, hXh, hXw, hv1, hv2, hr0, hr1, hr2, hr3, hr4, hRS, hRP, hRK, hRR, hRT, hRE, hR2, hR3, hR4, hR28, hR5, hR6, hRG, hRL, hRC, hRJ, hRW, hRV, hRM, hRP2, hRA, hRU, hRD⟩ rfl
def mLc41 : fz_M := (yL_law, code, 4, (some .boolean), [(1698, .aload_n 1, 1, 0, 0, 0), (1699, .aload_n 0, 1, 0, 0, 0), (1700, .iload_n 3, 1, 0, 0, 0), (1701, .iconst 1, 1, 0, 0, 0), (1702, .iadd, 1, 0, 0, 0), (1703, .iaload, 1, 0, 0, 0), (1704, .aload_n 0, 1, 0, 0, 0), (1705, .iload_n 3, 1, 0, 0, 0), (1706, .iconst 2, 1, 0, 0, 0), (1707, .iadd, 1, 0, 0, 0), (1708, .iaload, 1, 0, 0, 0), (1709, .aload_n 0, 1, 0, 0, 0), (1710, .iload_n 3, 1, 0, 0, 0), (1711, .iconst 3, 1, 0, 0, 0), (1712, .iadd, 1, 0, 0, 0), (1713, .iaload, 1, 0, 0, 0), (1714, .aload_n 0, 1, 0, 0, 0), (1715, .iload_n 3, 1, 0, 0, 0), (1716, .iconst 4, 1, 0, 0, 0), (1717, .iadd, 1, 0, 0, 0), (1718, .iaload, 1, 0, 0, 0), (1719, .aload_n 0, 1, 0, 0, 0), (1720, .iload_n 3, 1, 0, 0, 0), (1721, .iconst 5, 1, 0, 0, 0), (1722, .iadd, 1, 0, 0, 0), (1723, .iaload, 1, 0, 0, 0), (1724, .invokevirtual 187, 3, 5056, 71, 0), (1727, .pop, 1, 0, 0, 0), (1728, .aload_n 2, 1, 0, 0, 0), (1729, .aload_n 0, 1, 0, 0, 0), (1730, .iload_n 3, 1, 0, 0, 0), (1731, .iconst 1, 1, 0, 0, 0), (1732, .iadd, 1, 0, 0, 0), (1733, .iaload, 1, 0, 0, 0), (1734, .aload_n 0, 1, 0, 0, 0), (1735, .iload_n 3, 1, 0, 0, 0), (1736, .iconst 2, 1, 0, 0, 0), (1737, .iadd, 1, 0, 0, 0), (1738, .iaload, 1, 0, 0, 0), (1739, .aload_n 0, 1, 0, 0, 0), (1740, .iload_n 3, 1, 0, 0, 0), (1741, .iconst 3, 1, 0, 0, 0), (1742, .iadd, 1, 0, 0, 0), (1743, .iaload, 1, 0, 0, 0), (1744, .aload_n 0, 1, 0, 0, 0), (1745, .iload_n 3, 1, 0, 0, 0), (1746, .iconst 4, 1, 0, 0, 0), (1747, .iadd, 1, 0, 0, 0), (1748, .iaload, 1, 0, 0, 0), (1749, .aload_n 0, 1, 0, 0, 0), (1750, .iload_n 3, 1, 0, 0, 0), (1751, .iconst 5, 1, 0, 0, 0), (1752, .iadd, 1, 0, 0, 0), (1753, .iaload, 1, 0, 0, 0), (1754, .invokevirtual 191, 3, 7191, 173, 0), (1757, .pop, 1, 0, 0, 0), (1758, .goto 59, 3, 0, 0, 0)])
set_option maxRecDepth 100000 in
theorem kLc41 : fz_okM mLc41 = true := fz_okM_in (by decide +kernel) (by decide +kernel)
set_option maxHeartbeats 1000000 in
set_option maxRecDepth 100000 in
theorem lc41 (h : fz_H) (hI : fz_Iv h) (hX : fz_Xc h) (hXd : fz_Xd h) (hXh : fz_Xh h) (hXw : fz_Xw h) (hv1 : h 53 10 ≤ 10) (hv2 : h 53 42 ≤ h 53 41) (hr0 : h 9 5 = h 53 10) (hr1 : h 44 2 = h 53 44) (hr2 : h 20 2 = h 53 16) (hr3 : h 1 7 = h 53 0) (hr4 : h 1 8 = h 53 2) (hRS : fz_RS h) (hRP : fz_RP h) (hRK : fz_RK h) (hRR : fz_RR h) (hRT : fz_RT h) (hRE : fz_RE h) (hR2 : fz_R2 h) (hR3 : fz_R3 h) (hR4 : fz_R4 h) (hR28 : fz_R28 h) (hR5 : fz_R5 h) (hR6 : fz_R6 h) (hRG : fz_RG h) (hRL : fz_RL h) (hRC : fz_RC h) (hRJ : fz_RJ h) (hRW : fz_RW h) (hRV : fz_RV h) (hRM : fz_RM h) (hRP2 : fz_RP2 h) (hRA : fz_RA h) (hRU : fz_RU h) (hRD : fz_RD h) (i : Int) (hi : 0 ≤ i ∧ i + 6 ≤ h 200 100000 ∧ h 200 100000 ≤ 3072) {Q : fz_H → Option fz_V → Prop} (K : ∀ H : fz_H, fz_Gd H → H 200 = h 200 → fz_R 47 mLe 1817 [(3, fz_i i), (0, fz_r 200), (1, fz_r 0), (2, fz_r 53)] [] H Q) : fz_R 47 mLc41 1698 [(3, fz_i i), (0, fz_r 200), (1, fz_r 0), (2, fz_r 53)] [] h Q := by
  have hf : fz_fr fz_all h h := fz_fr_rf
  refine fz_aload_n kLc41 rfl rfl ?_
  refine fz_aload_n kLc41 rfl rfl ?_
  refine fz_iload_n kLc41 rfl rfl ?_
  refine fz_iconst ⟨by decide, by decide⟩ kLc41 rfl ?_
  refine fz_iaddN kLc41 rfl (by omega) ?_
  obtain ⟨a1, e2⟩ : ∃ z, h 200 ((i + 1)).toNat = z := ⟨_, rfl⟩
  refine fz_taldV (v := a1) kLc41 rfl ⟨by decide, by decide⟩ (by omega) (by omega) e2 ?_
  refine fz_aload_n kLc41 rfl rfl ?_
  refine fz_iload_n kLc41 rfl rfl ?_
  refine fz_iconst ⟨by decide, by decide⟩ kLc41 rfl ?_
  refine fz_iaddN kLc41 rfl (by omega) ?_
  obtain ⟨a3, e4⟩ : ∃ z, h 200 ((i + 2)).toNat = z := ⟨_, rfl⟩
  refine fz_taldV (v := a3) kLc41 rfl ⟨by decide, by decide⟩ (by omega) (by omega) e4 ?_
  refine fz_aload_n kLc41 rfl rfl ?_
  refine fz_iload_n kLc41 rfl rfl ?_
  refine fz_iconst ⟨by decide, by decide⟩ kLc41 rfl ?_
  refine fz_iaddN kLc41 rfl (by omega) ?_
  obtain ⟨a5, e6⟩ : ∃ z, h 200 ((i + 3)).toNat = z := ⟨_, rfl⟩
  refine fz_taldV (v := a5) kLc41 rfl ⟨by decide, by decide⟩ (by omega) (by omega) e6 ?_
  refine fz_aload_n kLc41 rfl rfl ?_
  refine fz_iload_n kLc41 rfl rfl ?_
  refine fz_iconst ⟨by decide, by decide⟩ kLc41 rfl ?_
  refine fz_iaddN kLc41 rfl (by omega) ?_
  obtain ⟨a7, e8⟩ : ∃ z, h 200 ((i + 4)).toNat = z := ⟨_, rfl⟩
  refine fz_taldV (v := a7) kLc41 rfl ⟨by decide, by decide⟩ (by omega) (by omega) e8 ?_
  refine fz_aload_n kLc41 rfl rfl ?_
  refine fz_iload_n kLc41 rfl rfl ?_
  refine fz_iconst ⟨by decide, by decide⟩ kLc41 rfl ?_
  refine fz_iaddN kLc41 rfl (by omega) ?_
  obtain ⟨a9, e10⟩ : ∃ z, h 200 ((i + 5)).toNat = z := ⟨_, rfl⟩
  refine fz_taldV (v := a9) kLc41 rfl ⟨by decide, by decide⟩ (by omega) (by omega) e10 ?_
  refine fz_callV (d' := 2) (M' := mX10_shift) (As := [fz_i a1, fz_i a3, fz_i a5, fz_i a7, fz_i a9]) (st := []) kLc41 rfl rfl vX10_shift rfl rfl rfl rfl (Nat.le_of_ble_eq_true rfl) (Nat.le_of_ble_eq_true rfl) (by decide) (sX10_shift h hI a1 a3 a5 a7 a9 ) (fun H11 r12 q13 o14 => ?_)
  obtain ⟨hI15, hf16, y20, rfl, f17, f18, f19⟩ := q13
  clear o14
  have hf21 := fz_fr_tr hf hf16 (fz_su_all rfl)
  have hXd22 : fz_Xd H11 := fz_Xd_eq (funext fun s => hf16 80 s rfl) hXd
  have hXh23 : fz_Xh H11 := fz_Xh_eq (funext fun s => hf16 83 s rfl) hXh
  have hXw24 : fz_Xw H11 := fz_Xw_eq (hf16 53 19 rfl) (funext fun s => hf16 66 s rfl) (funext fun s => hf16 67 s rfl) (funext fun s => hf16 68 s rfl) (funext fun s => hf16 69 s rfl) hXw
  have hRS25 : fz_RS H11 := fz_RS_eq (funext fun s => hf16 48 s rfl) (funext fun s => hf16 49 s rfl) (funext fun s => hf16 50 s rfl) (funext fun s => hf16 51 s rfl) (funext fun s => hf16 83 s rfl) (funext fun s => hf16 84 s rfl) (hf16 44 2 rfl) hRS
  have hRK26 : fz_RK H11 := fz_RK_eq (funext fun s => hf16 45 s rfl) (funext fun s => hf16 81 s rfl) hRK
  have hRR27 : fz_RR H11 := fz_RR_eq (hf16 44 3 rfl) (hf16 53 46 rfl) (funext fun s => hf16 46 s rfl) (funext fun s => hf16 82 s rfl) hRR
  have hRT28 : fz_RT H11 := fz_RT_eq (funext fun s => hf16 41 s rfl) (funext fun s => hf16 42 s rfl) (hf16 1 7 rfl) hRT
  have hRE29 : fz_RE H11 := fz_RE_eq (funext fun s => hf16 5 s rfl) (funext fun s => hf16 6 s rfl) (hf16 1 8 rfl) (hf16 1 7 rfl) hRE
  have hR230 : fz_R2 H11 := fz_R2_eq (funext fun s => hf16 2 s rfl) (funext fun s => hf16 54 s rfl) hR2
  have hR331 : fz_R3 H11 := fz_R3_eq (funext fun s => hf16 3 s rfl) (funext fun s => hf16 57 s rfl) hR3
  have hR432 : fz_R4 H11 := fz_R4_eq (funext fun s => hf16 4 s rfl) (funext fun s => hf16 58 s rfl) hR4
  have hR2833 : fz_R28 H11 := fz_R28_eq (funext fun s => hf16 28 s rfl) (funext fun s => hf16 59 s rfl) hR28
  have hR534 : fz_R5 H11 := fz_R5_eq (funext fun s => hf16 5 s rfl) (funext fun s => hf16 55 s rfl) hR5
  have hR635 : fz_R6 H11 := fz_R6_eq (funext fun s => hf16 6 s rfl) (funext fun s => hf16 56 s rfl) hR6
  have hRG36 : fz_RG H11 := fz_RG_eq (hf16 27 8 rfl) (hf16 27 9 rfl) (hf16 53 8 rfl) (hf16 53 9 rfl) hRG
  have hRL37 : fz_RL H11 := fz_RL_eq (funext fun s => hf16 11 s rfl) (funext fun s => hf16 12 s rfl) (funext fun s => hf16 13 s rfl) (funext fun s => hf16 14 s rfl) (funext fun s => hf16 61 s rfl) (funext fun s => hf16 62 s rfl) (funext fun s => hf16 63 s rfl) (funext fun s => hf16 64 s rfl) (hf16 9 5 rfl) hRL
  have hRC38 : fz_RC H11 := fz_RC_eq (hf16 35 4 rfl) (hf16 35 5 rfl) (hf16 53 41 rfl) (hf16 53 42 rfl) (funext fun s => hf16 36 s rfl) (funext fun s => hf16 37 s rfl) (funext fun s => hf16 38 s rfl) (funext fun s => hf16 39 s rfl) (funext fun s => hf16 80 s rfl) (hf16 1 7 rfl) (hf16 1 8 rfl) (hf16 9 5 rfl) hRC
  have hRJ39 : fz_RJ H11 := fz_RJ_eq (hf16 40 1 rfl) (hf16 53 34 rfl) (funext fun s => hf16 41 s rfl) (funext fun s => hf16 76 s rfl) (hf16 40 6 rfl) (hf16 53 37 rfl) (funext fun s => hf16 42 s rfl) (funext fun s => hf16 78 s rfl) (hf16 43 0 rfl) (hf16 53 38 rfl) hRJ
  have hRW40 : fz_RW H11 := fz_RW_eq (funext fun s => hf16 10 s rfl) (funext fun s => hf16 60 s rfl) (hf16 9 5 rfl) hRW
  have hRV41 : fz_RV H11 := fz_RV_eq (funext fun s => hf16 7 s rfl) (funext fun s => hf16 8 s rfl) (funext fun s => hf16 3 s rfl) (funext fun s => hf16 4 s rfl) (funext fun s => hf16 5 s rfl) (funext fun s => hf16 6 s rfl) (hf16 1 7 rfl) (hf16 1 8 rfl) hRV
  have hRM42 : fz_RM H11 := fz_RM_eq (funext fun s => hf16 55 s rfl) (funext fun s => hf16 56 s rfl) (hf16 53 0 rfl) (hf16 53 2 rfl) hRM
  have hRP243 : fz_RP2 H11 := fz_RP2_eq (funext fun s => hf16 11 s rfl) (hf16 9 5 rfl) (hf16 1 7 rfl) hRP2
  have hRA44 : fl_RA H11 := fl_RA_eq (funext fun s => hf16 26 s rfl) (funext fun s => hf16 65 s rfl) (hf16 20 2 rfl) hRA
  have hRU45 : fl_RU H11 := fl_RU_eq (hf16 15 4 rfl) (funext fun s => hf16 16 s rfl) (funext fun s => hf16 17 s rfl) (hf16 53 18 rfl) (hf16 53 19 rfl) (funext fun s => hf16 66 s rfl) (funext fun s => hf16 67 s rfl) (funext fun s => hf16 68 s rfl) (funext fun s => hf16 69 s rfl) hRU
  have hRD46 : fl_RD H11 := fl_RD_eq (hf16 40 2 rfl) (hf16 40 3 rfl) (hf16 40 4 rfl) (hf16 40 5 rfl) (funext fun s => hf16 77 s rfl) (hf16 43 1 rfl) (hf16 43 2 rfl) (hf16 43 3 rfl) (hf16 43 4 rfl) (funext fun s => hf16 79 s rfl) hRD
  have hX47 : fz_Xc H11 := fz_Xc_fr hf16 rfl hX
  have t48 : H11 53 10 = h 53 10 := hf16 53 10 rfl
  have t49 : H11 53 41 = h 53 41 := hf16 53 41 rfl
  have t50 : H11 53 42 = h 53 42 := hf16 53 42 rfl
  have t51 : H11 9 5 = h 9 5 := hf16 9 5 rfl
  have t52 : H11 53 10 = h 53 10 := hf16 53 10 rfl
  have t53 : H11 44 2 = h 44 2 := hf16 44 2 rfl
  have t54 : H11 53 44 = h 53 44 := hf16 53 44 rfl
  have t55 : H11 20 2 = h 20 2 := hf16 20 2 rfl
  have t56 : H11 53 16 = h 53 16 := hf16 53 16 rfl
  have t57 : H11 1 7 = h 1 7 := hf16 1 7 rfl
  have t58 : H11 53 0 = h 53 0 := hf16 53 0 rfl
  have t59 : H11 1 8 = h 1 8 := hf16 1 8 rfl
  have t60 : H11 53 2 = h 53 2 := hf16 53 2 rfl
  refine fz_pop rfl kLc41 rfl ?_
  refine fz_aload_n kLc41 rfl rfl ?_
  refine fz_aload_n kLc41 rfl rfl ?_
  refine fz_iload_n kLc41 rfl rfl ?_
  refine fz_iconst ⟨by decide, by decide⟩ kLc41 rfl ?_
  refine fz_iaddN kLc41 rfl (by omega) ?_
  refine fz_taldV (v := a1) kLc41 rfl ⟨by decide, by decide⟩ (by omega) (by rw [hf21 200 _ rfl]; omega) ((hf21 200 _ rfl).trans e2) ?_
  refine fz_aload_n kLc41 rfl rfl ?_
  refine fz_iload_n kLc41 rfl rfl ?_
  refine fz_iconst ⟨by decide, by decide⟩ kLc41 rfl ?_
  refine fz_iaddN kLc41 rfl (by omega) ?_
  refine fz_taldV (v := a3) kLc41 rfl ⟨by decide, by decide⟩ (by omega) (by rw [hf21 200 _ rfl]; omega) ((hf21 200 _ rfl).trans e4) ?_
  refine fz_aload_n kLc41 rfl rfl ?_
  refine fz_iload_n kLc41 rfl rfl ?_
  refine fz_iconst ⟨by decide, by decide⟩ kLc41 rfl ?_
  refine fz_iaddN kLc41 rfl (by omega) ?_
  refine fz_taldV (v := a5) kLc41 rfl ⟨by decide, by decide⟩ (by omega) (by rw [hf21 200 _ rfl]; omega) ((hf21 200 _ rfl).trans e6) ?_
  refine fz_aload_n kLc41 rfl rfl ?_
  refine fz_iload_n kLc41 rfl rfl ?_
  refine fz_iconst ⟨by decide, by decide⟩ kLc41 rfl ?_
  refine fz_iaddN kLc41 rfl (by omega) ?_
  refine fz_taldV (v := a7) kLc41 rfl ⟨by decide, by decide⟩ (by omega) (by rw [hf21 200 _ rfl]; omega) ((hf21 200 _ rfl).trans e8) ?_
  refine fz_aload_n kLc41 rfl rfl ?_
  refine fz_iload_n kLc41 rfl rfl ?_
  refine fz_iconst ⟨by decide, by decide⟩ kLc41 rfl ?_
  refine fz_iaddN kLc41 rfl (by omega) ?_
  refine fz_taldV (v := a9) kLc41 rfl ⟨by decide, by decide⟩ (by omega) (by rw [hf21 200 _ rfl]; omega) ((hf21 200 _ rfl).trans e10) ?_
  refine fz_callV (d' := 2) (M' := mX11_shift) (As := [fz_i a1, fz_i a3, fz_i a5, fz_i a7, fz_i a9]) (st := []) kLc41 rfl rfl vX11_shift rfl rfl rfl rfl (Nat.le_of_ble_eq_true rfl) (Nat.le_of_ble_eq_true rfl) (by decide) (sX11_shift H11 hI15 a1 a3 a5 a7 a9 ) (fun H61 r62 q63 o64 => ?_)
  obtain ⟨hI65, hf66, y70, rfl, f67, f68, f69⟩ := q63
  clear o64
  have hf71 := fz_fr_tr hf21 hf66 (fz_su_all rfl)
  have hXd72 : fz_Xd H61 := fz_Xd_eq (funext fun s => hf66 80 s rfl) hXd22
  have hXh73 : fz_Xh H61 := fz_Xh_eq (funext fun s => hf66 83 s rfl) hXh23
  have hXw74 : fz_Xw H61 := fz_Xw_eq (hf66 53 19 rfl) (funext fun s => hf66 66 s rfl) (funext fun s => hf66 67 s rfl) (funext fun s => hf66 68 s rfl) (funext fun s => hf66 69 s rfl) hXw24
  have hRS75 : fz_RS H61 := fz_RS_eq (funext fun s => hf66 48 s rfl) (funext fun s => hf66 49 s rfl) (funext fun s => hf66 50 s rfl) (funext fun s => hf66 51 s rfl) (funext fun s => hf66 83 s rfl) (funext fun s => hf66 84 s rfl) (hf66 44 2 rfl) hRS25
  have hRK76 : fz_RK H61 := fz_RK_eq (funext fun s => hf66 45 s rfl) (funext fun s => hf66 81 s rfl) hRK26
  have hRR77 : fz_RR H61 := fz_RR_eq (hf66 44 3 rfl) (hf66 53 46 rfl) (funext fun s => hf66 46 s rfl) (funext fun s => hf66 82 s rfl) hRR27
  have hRT78 : fz_RT H61 := fz_RT_eq (funext fun s => hf66 41 s rfl) (funext fun s => hf66 42 s rfl) (hf66 1 7 rfl) hRT28
  have hRE79 : fz_RE H61 := fz_RE_eq (funext fun s => hf66 5 s rfl) (funext fun s => hf66 6 s rfl) (hf66 1 8 rfl) (hf66 1 7 rfl) hRE29
  have hR280 : fz_R2 H61 := fz_R2_eq (funext fun s => hf66 2 s rfl) (funext fun s => hf66 54 s rfl) hR230
  have hR381 : fz_R3 H61 := fz_R3_eq (funext fun s => hf66 3 s rfl) (funext fun s => hf66 57 s rfl) hR331
  have hR482 : fz_R4 H61 := fz_R4_eq (funext fun s => hf66 4 s rfl) (funext fun s => hf66 58 s rfl) hR432
  have hR2883 : fz_R28 H61 := fz_R28_eq (funext fun s => hf66 28 s rfl) (funext fun s => hf66 59 s rfl) hR2833
  have hR584 : fz_R5 H61 := fz_R5_eq (funext fun s => hf66 5 s rfl) (funext fun s => hf66 55 s rfl) hR534
  have hR685 : fz_R6 H61 := fz_R6_eq (funext fun s => hf66 6 s rfl) (funext fun s => hf66 56 s rfl) hR635
  have hRG86 : fz_RG H61 := fz_RG_eq (hf66 27 8 rfl) (hf66 27 9 rfl) (hf66 53 8 rfl) (hf66 53 9 rfl) hRG36
  have hRL87 : fz_RL H61 := fz_RL_eq (funext fun s => hf66 11 s rfl) (funext fun s => hf66 12 s rfl) (funext fun s => hf66 13 s rfl) (funext fun s => hf66 14 s rfl) (funext fun s => hf66 61 s rfl) (funext fun s => hf66 62 s rfl) (funext fun s => hf66 63 s rfl) (funext fun s => hf66 64 s rfl) (hf66 9 5 rfl) hRL37
  have hRC88 : fz_RC H61 := fz_RC_eq (hf66 35 4 rfl) (hf66 35 5 rfl) (hf66 53 41 rfl) (hf66 53 42 rfl) (funext fun s => hf66 36 s rfl) (funext fun s => hf66 37 s rfl) (funext fun s => hf66 38 s rfl) (funext fun s => hf66 39 s rfl) (funext fun s => hf66 80 s rfl) (hf66 1 7 rfl) (hf66 1 8 rfl) (hf66 9 5 rfl) hRC38
  have hRJ89 : fz_RJ H61 := fz_RJ_eq (hf66 40 1 rfl) (hf66 53 34 rfl) (funext fun s => hf66 41 s rfl) (funext fun s => hf66 76 s rfl) (hf66 40 6 rfl) (hf66 53 37 rfl) (funext fun s => hf66 42 s rfl) (funext fun s => hf66 78 s rfl) (hf66 43 0 rfl) (hf66 53 38 rfl) hRJ39
  have hRW90 : fz_RW H61 := fz_RW_eq (funext fun s => hf66 10 s rfl) (funext fun s => hf66 60 s rfl) (hf66 9 5 rfl) hRW40
  have hRV91 : fz_RV H61 := fz_RV_eq (funext fun s => hf66 7 s rfl) (funext fun s => hf66 8 s rfl) (funext fun s => hf66 3 s rfl) (funext fun s => hf66 4 s rfl) (funext fun s => hf66 5 s rfl) (funext fun s => hf66 6 s rfl) (hf66 1 7 rfl) (hf66 1 8 rfl) hRV41
  have hRM92 : fz_RM H61 := fz_RM_eq (funext fun s => hf66 55 s rfl) (funext fun s => hf66 56 s rfl) (hf66 53 0 rfl) (hf66 53 2 rfl) hRM42
  have hRP293 : fz_RP2 H61 := fz_RP2_eq (funext fun s => hf66 11 s rfl) (hf66 9 5 rfl) (hf66 1 7 rfl) hRP243
  have hRA94 : fl_RA H61 := fl_RA_eq (funext fun s => hf66 26 s rfl) (funext fun s => hf66 65 s rfl) (hf66 20 2 rfl) hRA44
  have hRU95 : fl_RU H61 := fl_RU_eq (hf66 15 4 rfl) (funext fun s => hf66 16 s rfl) (funext fun s => hf66 17 s rfl) (hf66 53 18 rfl) (hf66 53 19 rfl) (funext fun s => hf66 66 s rfl) (funext fun s => hf66 67 s rfl) (funext fun s => hf66 68 s rfl) (funext fun s => hf66 69 s rfl) hRU45
  have hRD96 : fl_RD H61 := fl_RD_eq (hf66 40 2 rfl) (hf66 40 3 rfl) (hf66 40 4 rfl) (hf66 40 5 rfl) (funext fun s => hf66 77 s rfl) (hf66 43 1 rfl) (hf66 43 2 rfl) (hf66 43 3 rfl) (hf66 43 4 rfl) (funext fun s => hf66 79 s rfl) hRD46
  have hX97 : fz_Xc H61 := fz_Xc_fr hf66 rfl hX47
  have t98 : H61 53 10 = H11 53 10 := hf66 53 10 rfl
  have t99 : H61 53 41 = H11 53 41 := hf66 53 41 rfl
  have t100 : H61 53 42 = H11 53 42 := hf66 53 42 rfl
  have t101 : H61 9 5 = H11 9 5 := hf66 9 5 rfl
  have t102 : H61 53 10 = H11 53 10 := hf66 53 10 rfl
  have t103 : H61 44 2 = H11 44 2 := hf66 44 2 rfl
  have t104 : H61 53 44 = H11 53 44 := hf66 53 44 rfl
  have t105 : H61 20 2 = H11 20 2 := hf66 20 2 rfl
  have t106 : H61 53 16 = H11 53 16 := hf66 53 16 rfl
  have t107 : H61 1 7 = H11 1 7 := hf66 1 7 rfl
  have t108 : H61 53 0 = H11 53 0 := hf66 53 0 rfl
  have t109 : H61 1 8 = H11 1 8 := hf66 1 8 rfl
  have t110 : H61 53 2 = H11 53 2 := hf66 53 2 rfl
  refine fz_pop rfl kLc41 rfl ?_
  refine fz_goto (tgt := 1817) kLc41 rfl (by decide) ?_
  have hRP111 : fz_RP H61 := fz_RP_shift hRP hRS f19 f69 (funext fun s => hf16 83 s rfl) (funext fun s => hf16 84 s rfl)
  exact K H61 ⟨hI65, hX97, hXd72, hXh73, hXw74, (by rw [((hf66 53 10 rfl).trans (hf16 53 10 rfl))]; exact hv1), (by rw [((hf66 53 42 rfl).trans (hf16 53 42 rfl)), ((hf66 53 41 rfl).trans (hf16 53 41 rfl))]; exact hv2), (((hf66 9 5 rfl).trans (hf16 9 5 rfl)).trans (hr0.trans ((hf66 53 10 rfl).trans (hf16 53 10 rfl)).symm)), (((hf66 44 2 rfl).trans (hf16 44 2 rfl)).trans (hr1.trans ((hf66 53 44 rfl).trans (hf16 53 44 rfl)).symm)), (((hf66 20 2 rfl).trans (hf16 20 2 rfl)).trans (hr2.trans ((hf66 53 16 rfl).trans (hf16 53 16 rfl)).symm)), (((hf66 1 7 rfl).trans (hf16 1 7 rfl)).trans (hr3.trans ((hf66 53 0 rfl).trans (hf16 53 0 rfl)).symm)), (((hf66 1 8 rfl).trans (hf16 1 8 rfl)).trans (hr4.trans ((hf66 53 2 rfl).trans (hf16 53 2 rfl)).symm)), hRS75, hRP111, hRK76, hRR77, hRT78, hRE79, hR280, hR381, hR482, hR2883, hR584, hR685, hRG86, hRL87, hRC88, hRJ89, hRW90, hRV91, hRM92, hRP293, hRA94, hRU95, hRD96⟩ (funext fun s => hf71 200 s rfl)
def mLc42 : fz_M := (yL_law, code, 4, (some .boolean), [(1761, .aload_n 1, 1, 0, 0, 0), (1762, .aload_n 0, 1, 0, 0, 0), (1763, .iload_n 3, 1, 0, 0, 0), (1764, .iconst 1, 1, 0, 0, 0), (1765, .iadd, 1, 0, 0, 0), (1766, .iaload, 1, 0, 0, 0), (1767, .aload_n 0, 1, 0, 0, 0), (1768, .iload_n 3, 1, 0, 0, 0), (1769, .iconst 2, 1, 0, 0, 0), (1770, .iadd, 1, 0, 0, 0), (1771, .iaload, 1, 0, 0, 0), (1772, .invokevirtual 192, 3, 5065, 72, 0), (1775, .pop, 1, 0, 0, 0), (1776, .aload_n 2, 1, 0, 0, 0), (1777, .aload_n 0, 1, 0, 0, 0), (1778, .iload_n 3, 1, 0, 0, 0), (1779, .iconst 1, 1, 0, 0, 0), (1780, .iadd, 1, 0, 0, 0), (1781, .iaload, 1, 0, 0, 0), (1782, .aload_n 0, 1, 0, 0, 0), (1783, .iload_n 3, 1, 0, 0, 0), (1784, .iconst 2, 1, 0, 0, 0), (1785, .iadd, 1, 0, 0, 0), (1786, .iaload, 1, 0, 0, 0), (1787, .invokevirtual 195, 3, 7195, 175, 0), (1790, .pop, 1, 0, 0, 0), (1791, .goto 26, 3, 0, 0, 0)])
set_option maxRecDepth 100000 in
theorem kLc42 : fz_okM mLc42 = true := fz_okM_in (by decide +kernel) (by decide +kernel)
set_option maxHeartbeats 1000000 in
set_option maxRecDepth 100000 in
theorem lc42 (h : fz_H) (hI : fz_Iv h) (hX : fz_Xc h) (hXd : fz_Xd h) (hXh : fz_Xh h) (hXw : fz_Xw h) (hv1 : h 53 10 ≤ 10) (hv2 : h 53 42 ≤ h 53 41) (hr0 : h 9 5 = h 53 10) (hr1 : h 44 2 = h 53 44) (hr2 : h 20 2 = h 53 16) (hr3 : h 1 7 = h 53 0) (hr4 : h 1 8 = h 53 2) (hRS : fz_RS h) (hRP : fz_RP h) (hRK : fz_RK h) (hRR : fz_RR h) (hRT : fz_RT h) (hRE : fz_RE h) (hR2 : fz_R2 h) (hR3 : fz_R3 h) (hR4 : fz_R4 h) (hR28 : fz_R28 h) (hR5 : fz_R5 h) (hR6 : fz_R6 h) (hRG : fz_RG h) (hRL : fz_RL h) (hRC : fz_RC h) (hRJ : fz_RJ h) (hRW : fz_RW h) (hRV : fz_RV h) (hRM : fz_RM h) (hRP2 : fz_RP2 h) (hRA : fz_RA h) (hRU : fz_RU h) (hRD : fz_RD h) (i : Int) (hi : 0 ≤ i ∧ i + 6 ≤ h 200 100000 ∧ h 200 100000 ≤ 3072) {Q : fz_H → Option fz_V → Prop} (K : ∀ H : fz_H, fz_Gd H → H 200 = h 200 → fz_R 47 mLe 1817 [(3, fz_i i), (0, fz_r 200), (1, fz_r 0), (2, fz_r 53)] [] H Q) : fz_R 47 mLc42 1761 [(3, fz_i i), (0, fz_r 200), (1, fz_r 0), (2, fz_r 53)] [] h Q := by
  have hf : fz_fr fz_all h h := fz_fr_rf
  refine fz_aload_n kLc42 rfl rfl ?_
  refine fz_aload_n kLc42 rfl rfl ?_
  refine fz_iload_n kLc42 rfl rfl ?_
  refine fz_iconst ⟨by decide, by decide⟩ kLc42 rfl ?_
  refine fz_iaddN kLc42 rfl (by omega) ?_
  obtain ⟨a1, e2⟩ : ∃ z, h 200 ((i + 1)).toNat = z := ⟨_, rfl⟩
  refine fz_taldV (v := a1) kLc42 rfl ⟨by decide, by decide⟩ (by omega) (by omega) e2 ?_
  refine fz_aload_n kLc42 rfl rfl ?_
  refine fz_iload_n kLc42 rfl rfl ?_
  refine fz_iconst ⟨by decide, by decide⟩ kLc42 rfl ?_
  refine fz_iaddN kLc42 rfl (by omega) ?_
  obtain ⟨a3, e4⟩ : ∃ z, h 200 ((i + 2)).toNat = z := ⟨_, rfl⟩
  refine fz_taldV (v := a3) kLc42 rfl ⟨by decide, by decide⟩ (by omega) (by omega) e4 ?_
  have b5 : 0 ≤ h 44 2 ∧ h 44 2 ≤ 50 := hI.1 44 _
  refine fz_callV (d' := 2) (M' := mX10_taken) (As := [fz_i a1, fz_i a3]) (st := []) kLc42 rfl rfl vX10_taken rfl rfl rfl rfl (Nat.le_of_ble_eq_true rfl) (Nat.le_of_ble_eq_true rfl) (by decide) (sX10_taken h hI a1 a3 ) (fun H6 r7 q8 o9 => ?_)
  obtain ⟨e10, y13, rfl, f11, f12⟩ := q8
  subst H6
  clear o9
  refine fz_pop rfl kLc42 rfl ?_
  refine fz_aload_n kLc42 rfl rfl ?_
  refine fz_aload_n kLc42 rfl rfl ?_
  refine fz_iload_n kLc42 rfl rfl ?_
  refine fz_iconst ⟨by decide, by decide⟩ kLc42 rfl ?_
  refine fz_iaddN kLc42 rfl (by omega) ?_
  refine fz_taldV (v := a1) kLc42 rfl ⟨by decide, by decide⟩ (by omega) (by omega) e2 ?_
  refine fz_aload_n kLc42 rfl rfl ?_
  refine fz_iload_n kLc42 rfl rfl ?_
  refine fz_iconst ⟨by decide, by decide⟩ kLc42 rfl ?_
  refine fz_iaddN kLc42 rfl (by omega) ?_
  refine fz_taldV (v := a3) kLc42 rfl ⟨by decide, by decide⟩ (by omega) (by omega) e4 ?_
  refine fz_callV (d' := 2) (M' := mX11_taken) (As := [fz_i a1, fz_i a3]) (st := []) kLc42 rfl rfl vX11_taken rfl rfl rfl rfl (Nat.le_of_ble_eq_true rfl) (Nat.le_of_ble_eq_true rfl) (by decide) (sX11_taken_x h hI a1 a3 hXh) (fun H14 r15 q16 o17 => ?_)
  obtain ⟨e18, y21, rfl, f19, f20⟩ := q16
  subst H14
  clear o17
  refine fz_pop rfl kLc42 rfl ?_
  refine fz_goto (tgt := 1817) kLc42 rfl (by decide) ?_
  exact K h ⟨hI, hX, hXd, hXh, hXw, hv1, hv2, hr0, hr1, hr2, hr3, hr4, hRS, hRP, hRK, hRR, hRT, hRE, hR2, hR3, hR4, hR28, hR5, hR6, hRG, hRL, hRC, hRJ, hRW, hRV, hRM, hRP2, hRA, hRU, hRD⟩ rfl
def mLc43 : fz_M := (yL_law, code, 4, (some .boolean), [(1794, .aload_n 1, 1, 0, 0, 0), (1795, .aload_n 0, 1, 0, 0, 0), (1796, .iload_n 3, 1, 0, 0, 0), (1797, .iconst 1, 1, 0, 0, 0), (1798, .iadd, 1, 0, 0, 0), (1799, .iaload, 1, 0, 0, 0), (1800, .invokevirtual 196, 3, 5077, 23, 0), (1803, .pop, 1, 0, 0, 0), (1804, .aload_n 2, 1, 0, 0, 0), (1805, .aload_n 0, 1, 0, 0, 0), (1806, .iload_n 3, 1, 0, 0, 0), (1807, .iconst 1, 1, 0, 0, 0), (1808, .iadd, 1, 0, 0, 0), (1809, .iaload, 1, 0, 0, 0), (1810, .invokevirtual 199, 3, 7199, 91, 0), (1813, .pop, 1, 0, 0, 0), (1814, .goto 3, 3, 0, 0, 0)])
set_option maxRecDepth 100000 in
theorem kLc43 : fz_okM mLc43 = true := fz_okM_in (by decide +kernel) (by decide +kernel)
set_option maxHeartbeats 1000000 in
set_option maxRecDepth 100000 in
theorem lc43 (h : fz_H) (hI : fz_Iv h) (hX : fz_Xc h) (hXd : fz_Xd h) (hXh : fz_Xh h) (hXw : fz_Xw h) (hv1 : h 53 10 ≤ 10) (hv2 : h 53 42 ≤ h 53 41) (hr0 : h 9 5 = h 53 10) (hr1 : h 44 2 = h 53 44) (hr2 : h 20 2 = h 53 16) (hr3 : h 1 7 = h 53 0) (hr4 : h 1 8 = h 53 2) (hRS : fz_RS h) (hRP : fz_RP h) (hRK : fz_RK h) (hRR : fz_RR h) (hRT : fz_RT h) (hRE : fz_RE h) (hR2 : fz_R2 h) (hR3 : fz_R3 h) (hR4 : fz_R4 h) (hR28 : fz_R28 h) (hR5 : fz_R5 h) (hR6 : fz_R6 h) (hRG : fz_RG h) (hRL : fz_RL h) (hRC : fz_RC h) (hRJ : fz_RJ h) (hRW : fz_RW h) (hRV : fz_RV h) (hRM : fz_RM h) (hRP2 : fz_RP2 h) (hRA : fz_RA h) (hRU : fz_RU h) (hRD : fz_RD h) (i : Int) (hi : 0 ≤ i ∧ i + 6 ≤ h 200 100000 ∧ h 200 100000 ≤ 3072) {Q : fz_H → Option fz_V → Prop} (K : ∀ H : fz_H, fz_Gd H → H 200 = h 200 → fz_R 47 mLe 1817 [(3, fz_i i), (0, fz_r 200), (1, fz_r 0), (2, fz_r 53)] [] H Q) : fz_R 47 mLc43 1794 [(3, fz_i i), (0, fz_r 200), (1, fz_r 0), (2, fz_r 53)] [] h Q := by
  have hf : fz_fr fz_all h h := fz_fr_rf
  refine fz_aload_n kLc43 rfl rfl ?_
  refine fz_aload_n kLc43 rfl rfl ?_
  refine fz_iload_n kLc43 rfl rfl ?_
  refine fz_iconst ⟨by decide, by decide⟩ kLc43 rfl ?_
  refine fz_iaddN kLc43 rfl (by omega) ?_
  obtain ⟨a1, e2⟩ : ∃ z, h 200 ((i + 1)).toNat = z := ⟨_, rfl⟩
  refine fz_taldV (v := a1) kLc43 rfl ⟨by decide, by decide⟩ (by omega) (by omega) e2 ?_
  have b3 : 0 ≤ h 1 7 ∧ h 1 7 ≤ 8 := hI.1 1 _
  have b4 : 0 ≤ h 1 8 ∧ h 1 8 ≤ 12 := hI.1 1 _
  have b5 : 0 ≤ h 9 5 ∧ h 9 5 ≤ 10 := hI.1 9 _
  have b6 : 0 ≤ h 20 2 ∧ h 20 2 ≤ 120 := hI.1 20 _
  have b7 : 0 ≤ h 35 4 ∧ h 35 4 ≤ 40 := hI.1 35 _
  have b8 : 0 ≤ h 44 2 ∧ h 44 2 ≤ 50 := hI.1 44 _
  have b9 : (-2147483648) ≤ h 44 3 ∧ h 44 3 ≤ 2147483647 := hI.1 44 _
  refine fz_callV (d' := 0) (M' := mX10_count) (As := [fz_i a1]) (st := []) kLc43 rfl rfl vX10_count rfl rfl rfl rfl (Nat.le_of_ble_eq_true rfl) (Nat.le_of_ble_eq_true rfl) (by decide) (sX10_count h hI a1 ) (fun H10 r11 q12 o13 => ?_)
  obtain ⟨e14, y17, rfl, f15, f16⟩ := q12
  subst H10
  clear o13
  refine fz_pop rfl kLc43 rfl ?_
  refine fz_aload_n kLc43 rfl rfl ?_
  refine fz_aload_n kLc43 rfl rfl ?_
  refine fz_iload_n kLc43 rfl rfl ?_
  refine fz_iconst ⟨by decide, by decide⟩ kLc43 rfl ?_
  refine fz_iaddN kLc43 rfl (by omega) ?_
  refine fz_taldV (v := a1) kLc43 rfl ⟨by decide, by decide⟩ (by omega) (by omega) e2 ?_
  have b18 : 0 ≤ h 53 0 ∧ h 53 0 ≤ 8 := hI.1 53 _
  have b19 : 0 ≤ h 53 2 ∧ h 53 2 ≤ 12 := hI.1 53 _
  have b20 : 0 ≤ h 53 10 ∧ h 53 10 ≤ 11 := hI.1 53 _
  have b21 : 0 ≤ h 53 16 ∧ h 53 16 ≤ 120 := hI.1 53 _
  have b22 : 0 ≤ h 53 42 ∧ h 53 42 ≤ 40 := hI.1 53 _
  have b23 : 0 ≤ h 53 44 ∧ h 53 44 ≤ 50 := hI.1 53 _
  have b24 : 0 ≤ h 53 46 ∧ h 53 46 ≤ 1000 := hI.1 53 _
  refine fz_callV (d' := 0) (M' := mX11_count) (As := [fz_i a1]) (st := []) kLc43 rfl rfl vX11_count rfl rfl rfl rfl (Nat.le_of_ble_eq_true rfl) (Nat.le_of_ble_eq_true rfl) (by decide) (sX11_count h hI a1 ) (fun H25 r26 q27 o28 => ?_)
  obtain ⟨e29, y32, rfl, f30, f31⟩ := q27
  subst H25
  clear o28
  refine fz_pop rfl kLc43 rfl ?_
  refine fz_goto (tgt := 1817) kLc43 rfl (by decide) ?_
  exact K h ⟨hI, hX, hXd, hXh, hXw, hv1, hv2, hr0, hr1, hr2, hr3, hr4, hRS, hRP, hRK, hRR, hRT, hRE, hR2, hR3, hR4, hR28, hR5, hR6, hRG, hRL, hRC, hRJ, hRW, hRV, hRM, hRP2, hRA, hRU, hRD⟩ rfl
