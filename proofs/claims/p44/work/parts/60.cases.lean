/-! ===== the law, case by case ===== -/
theorem fz_qC_le {h h' : fz_H} {s i n r : Int} (c : fz_qC h h' s i n r) : h 9 5 ≤ h' 9 5 := by
  rcases c with ⟨c0, c1, c2⟩ | ⟨c0, c1, c2⟩ | ⟨c0, c1, c2, c3⟩ | ⟨c0, c1, c2, c3, c4⟩
  · have := c1.1; omega
  · omega
  · omega
  · omega
def fz_all : List (Nat × Nat) := [(0, 99999), (1, 99999), (2, 99999), (3, 99999), (4, 99999), (5, 99999), (6, 99999), (7, 99999), (8, 99999), (9, 99999), (10, 99999), (11, 99999), (12, 99999), (13, 99999), (14, 99999), (15, 99999), (16, 99999), (17, 99999), (18, 99999), (19, 99999), (20, 99999), (21, 99999), (22, 99999), (23, 99999), (24, 99999), (25, 99999), (26, 99999), (27, 99999), (28, 99999), (29, 99999), (30, 99999), (31, 99999), (32, 99999), (33, 99999), (34, 99999), (35, 99999), (36, 99999), (37, 99999), (38, 99999), (39, 99999), (40, 99999), (41, 99999), (42, 99999), (43, 99999), (44, 99999), (45, 99999), (46, 99999), (47, 99999), (48, 99999), (49, 99999), (50, 99999), (51, 99999), (52, 99999), (53, 99999), (54, 99999), (55, 99999), (56, 99999), (57, 99999), (58, 99999), (59, 99999), (60, 99999), (61, 99999), (62, 99999), (63, 99999), (64, 99999), (65, 99999), (66, 99999), (67, 99999), (68, 99999), (69, 99999), (70, 99999), (71, 99999), (72, 99999), (73, 99999), (74, 99999), (75, 99999), (76, 99999), (77, 99999), (78, 99999), (79, 99999), (80, 99999), (81, 99999), (82, 99999), (83, 99999), (84, 99999), (85, 99999), (86, 99999), (87, 99999), (88, 99999), (89, 99999), (90, 99999)]
/-- what holds between two calls -/
def fz_Gd (h : fz_H) : Prop := fz_Iv h ∧ fz_Xc h ∧ fz_Xd h ∧ fz_Xh h ∧ fz_Xw h ∧ h 53 10 ≤ 10 ∧ h 53 42 ≤ h 53 41 ∧ h 9 5 = h 53 10 ∧ h 44 2 = h 53 44 ∧ h 20 2 = h 53 16 ∧ h 1 7 = h 53 0 ∧ h 1 8 = h 53 2 ∧ fz_RS h ∧ fz_RP h ∧ fz_RK h ∧ fz_RR h ∧ fz_RT h ∧ fz_RE h ∧ fz_R2 h ∧ fz_R3 h ∧ fz_R4 h ∧ fz_R28 h ∧ fz_R5 h ∧ fz_R6 h ∧ fz_RG h ∧ fz_RL h ∧ fz_RC h ∧ fz_RJ h ∧ fz_RW h
theorem fz_su_all {S : List (Nat × Nat)} (h : S.all (fun q => Nat.blt q.1 91) = true) : fz_su S fz_all = true := by
  have key : ∀ n, n < 91 → (n, 99999) ∈ fz_all := by decide +kernel
  refine List.all_eq_true.mpr (fun q hq => List.any_eq_true.mpr ⟨_, key q.1 (by have h1 := List.all_eq_true.mp h q hq; exact Nat.le_of_ble_eq_true h1), ?_⟩)
  simp
theorem fz_sw {y : MethodName} {c : ByteArray} {n : Nat} {r : Option FieldType} {L L' : List fz_I} {d pc : Nat} {ls : List (Nat × fz_V)} {st : List fz_V} {h : fz_H} {Q : fz_H → Option fz_V → Prop} (k : fz_R d (y, c, n, r, L') pc ls st h Q) : fz_R d (y, c, n, r, L) pc ls st h Q := k
def mLe : fz_M := (yL_law, code, 4, (some .boolean), [(1816, .iinc 3 6, 3, 0, 0, 0), (1819, .goto (-1801), 3, 0, 0, 0), (1822, .iconst 1, 1, 0, 0, 0), (1823, .ireturn, 1, 0, 0, 0)])
set_option maxRecDepth 100000 in
theorem kLe : fz_okM mLe = true := fz_okM_in (by decide +kernel) (by decide +kernel)
def mLc0 : fz_M := (yL_law, code, 4, (some .boolean), [(224, .aload_n 1, 1, 0, 0, 0), (225, .aload_n 0, 1, 0, 0, 0), (226, .iload_n 3, 1, 0, 0, 0), (227, .iconst 1, 1, 0, 0, 0), (228, .iadd, 1, 0, 0, 0), (229, .iaload, 1, 0, 0, 0), (230, .invokevirtual 13, 3, 2142, 73, 0), (233, .pop, 1, 0, 0, 0), (234, .aload_n 2, 1, 0, 0, 0), (235, .aload_n 0, 1, 0, 0, 0), (236, .iload_n 3, 1, 0, 0, 0), (237, .iconst 1, 1, 0, 0, 0), (238, .iadd, 1, 0, 0, 0), (239, .iaload, 1, 0, 0, 0), (240, .invokevirtual 17, 3, 6022, 177, 0), (243, .pop, 1, 0, 0, 0), (244, .goto 1572, 3, 0, 0, 0)])
set_option maxRecDepth 100000 in
theorem kLc0 : fz_okM mLc0 = true := fz_okM_in (by decide +kernel) (by decide +kernel)
set_option maxHeartbeats 1000000 in
set_option maxRecDepth 100000 in
theorem lc0 (h : fz_H) (hI : fz_Iv h) (hX : fz_Xc h) (hXd : fz_Xd h) (hXh : fz_Xh h) (hXw : fz_Xw h) (hv1 : h 53 10 ≤ 10) (hv2 : h 53 42 ≤ h 53 41) (hr0 : h 9 5 = h 53 10) (hr1 : h 44 2 = h 53 44) (hr2 : h 20 2 = h 53 16) (hr3 : h 1 7 = h 53 0) (hr4 : h 1 8 = h 53 2) (hRS : fz_RS h) (hRP : fz_RP h) (hRK : fz_RK h) (hRR : fz_RR h) (hRT : fz_RT h) (hRE : fz_RE h) (hR2 : fz_R2 h) (hR3 : fz_R3 h) (hR4 : fz_R4 h) (hR28 : fz_R28 h) (hR5 : fz_R5 h) (hR6 : fz_R6 h) (hRG : fz_RG h) (hRL : fz_RL h) (hRC : fz_RC h) (hRJ : fz_RJ h) (hRW : fz_RW h) (i : Int) (hi : 0 ≤ i ∧ i + 6 ≤ h 200 100000 ∧ h 200 100000 ≤ 3072) {Q : fz_H → Option fz_V → Prop} (K : ∀ H : fz_H, fz_Gd H → H 200 = h 200 → fz_R 47 mLe 1816 [(3, fz_i i), (0, fz_r 200), (1, fz_r 0), (2, fz_r 53)] [] H Q) : fz_R 47 mLc0 224 [(3, fz_i i), (0, fz_r 200), (1, fz_r 0), (2, fz_r 53)] [] h Q := by
  have hf : fz_fr fz_all h h := fz_fr_rf
  refine fz_aload_n kLc0 rfl rfl ?_
  refine fz_aload_n kLc0 rfl rfl ?_
  refine fz_iload_n kLc0 rfl rfl ?_
  refine fz_iconst ⟨by decide, by decide⟩ kLc0 rfl ?_
  refine fz_iaddN kLc0 rfl (by omega) ?_
  obtain ⟨a1, e2⟩ : ∃ z, h 200 ((i + 1)).toNat = z := ⟨_, rfl⟩
  refine fz_taldV (v := a1) kLc0 rfl ⟨by decide, by decide⟩ (by omega) (by omega) e2 ?_
  have b3 : 0 ≤ h 1 7 ∧ h 1 7 ≤ 8 := hI.1 1 _
  refine fz_callV (d' := 4) (M' := mX10_town) (As := [fz_i a1]) (st := []) kLc0 rfl rfl vX10_town rfl rfl rfl rfl (Nat.le_of_ble_eq_true rfl) (Nat.le_of_ble_eq_true rfl) (by decide) (sX10_town h hI a1 ) (fun H4 r5 q6 o7 => ?_)
  obtain ⟨hI8, hf9, y13, rfl, f10, f11, f12⟩ := q6
  clear o7
  have hf14 := fz_fr_tr hf hf9 (fz_su_all rfl)
  have hXd15 : fz_Xd H4 := fz_Xd_eq (funext fun s => hf9 80 s rfl) hXd
  have hXh16 : fz_Xh H4 := fz_Xh_eq (funext fun s => hf9 83 s rfl) hXh
  have hXw17 : fz_Xw H4 := fz_Xw_eq (hf9 53 19 rfl) (funext fun s => hf9 66 s rfl) (funext fun s => hf9 67 s rfl) (funext fun s => hf9 68 s rfl) (funext fun s => hf9 69 s rfl) hXw
  have hRS18 : fz_RS H4 := fz_RS_eq (funext fun s => hf9 48 s rfl) (funext fun s => hf9 49 s rfl) (funext fun s => hf9 50 s rfl) (funext fun s => hf9 51 s rfl) (funext fun s => hf9 83 s rfl) (funext fun s => hf9 84 s rfl) (hf9 44 2 rfl) hRS
  have hRP19 : fz_RP H4 := fz_RP_eq (funext fun s => hf9 52 s rfl) (funext fun s => hf9 85 s rfl) hRP
  have hRK20 : fz_RK H4 := fz_RK_eq (funext fun s => hf9 45 s rfl) (funext fun s => hf9 81 s rfl) hRK
  have hRR21 : fz_RR H4 := fz_RR_eq (hf9 44 3 rfl) (hf9 53 46 rfl) (funext fun s => hf9 46 s rfl) (funext fun s => hf9 82 s rfl) hRR
  have hR322 : fz_R3 H4 := fz_R3_eq (funext fun s => hf9 3 s rfl) (funext fun s => hf9 57 s rfl) hR3
  have hR423 : fz_R4 H4 := fz_R4_eq (funext fun s => hf9 4 s rfl) (funext fun s => hf9 58 s rfl) hR4
  have hR2824 : fz_R28 H4 := fz_R28_eq (funext fun s => hf9 28 s rfl) (funext fun s => hf9 59 s rfl) hR28
  have hR525 : fz_R5 H4 := fz_R5_eq (funext fun s => hf9 5 s rfl) (funext fun s => hf9 55 s rfl) hR5
  have hR626 : fz_R6 H4 := fz_R6_eq (funext fun s => hf9 6 s rfl) (funext fun s => hf9 56 s rfl) hR6
  have hRG27 : fz_RG H4 := fz_RG_eq (hf9 27 8 rfl) (hf9 27 9 rfl) (hf9 53 8 rfl) (hf9 53 9 rfl) hRG
  have hRL28 : fz_RL H4 := fz_RL_eq (funext fun s => hf9 11 s rfl) (funext fun s => hf9 12 s rfl) (funext fun s => hf9 13 s rfl) (funext fun s => hf9 14 s rfl) (funext fun s => hf9 61 s rfl) (funext fun s => hf9 62 s rfl) (funext fun s => hf9 63 s rfl) (funext fun s => hf9 64 s rfl) (hf9 9 5 rfl) hRL
  have hRJ29 : fz_RJ H4 := fz_RJ_eq (hf9 40 1 rfl) (hf9 53 34 rfl) (funext fun s => hf9 41 s rfl) (funext fun s => hf9 76 s rfl) (hf9 40 6 rfl) (hf9 53 37 rfl) (funext fun s => hf9 42 s rfl) (funext fun s => hf9 78 s rfl) (hf9 43 0 rfl) (hf9 53 38 rfl) hRJ
  have hRW30 : fz_RW H4 := fz_RW_eq (funext fun s => hf9 10 s rfl) (funext fun s => hf9 60 s rfl) (hf9 9 5 rfl) hRW
  have hX31 : fz_Xc H4 := fz_Xc_fr hf9 rfl hX
  have t32 : H4 53 10 = h 53 10 := hf9 53 10 rfl
  have t33 : H4 53 41 = h 53 41 := hf9 53 41 rfl
  have t34 : H4 53 42 = h 53 42 := hf9 53 42 rfl
  have t35 : H4 9 5 = h 9 5 := hf9 9 5 rfl
  have t36 : H4 53 10 = h 53 10 := hf9 53 10 rfl
  have t37 : H4 44 2 = h 44 2 := hf9 44 2 rfl
  have t38 : H4 53 44 = h 53 44 := hf9 53 44 rfl
  have t39 : H4 20 2 = h 20 2 := hf9 20 2 rfl
  have t40 : H4 53 16 = h 53 16 := hf9 53 16 rfl
  have t41 : H4 53 0 = h 53 0 := hf9 53 0 rfl
  have t42 : H4 1 8 = h 1 8 := hf9 1 8 rfl
  have t43 : H4 53 2 = h 53 2 := hf9 53 2 rfl
  refine fz_pop rfl kLc0 rfl ?_
  refine fz_aload_n kLc0 rfl rfl ?_
  refine fz_aload_n kLc0 rfl rfl ?_
  refine fz_iload_n kLc0 rfl rfl ?_
  refine fz_iconst ⟨by decide, by decide⟩ kLc0 rfl ?_
  refine fz_iaddN kLc0 rfl (by omega) ?_
  refine fz_taldV (v := a1) kLc0 rfl ⟨by decide, by decide⟩ (by omega) (by rw [hf14 200 _ rfl]; omega) ((hf14 200 _ rfl).trans e2) ?_
  have b44 : 0 ≤ H4 53 0 ∧ H4 53 0 ≤ 8 := hI8.1 53 _
  refine fz_callV (d' := 1) (M' := mX11_town) (As := [fz_i a1]) (st := []) kLc0 rfl rfl vX11_town rfl rfl rfl rfl (Nat.le_of_ble_eq_true rfl) (Nat.le_of_ble_eq_true rfl) (by decide) (sX11_town H4 hI8 a1 ) (fun H45 r46 q47 o48 => ?_)
  obtain ⟨hI49, hf50, y54, rfl, f51, f52, f53⟩ := q47
  clear o48
  have hf55 := fz_fr_tr hf14 hf50 (fz_su_all rfl)
  have hXd56 : fz_Xd H45 := fz_Xd_eq (funext fun s => hf50 80 s rfl) hXd15
  have hXh57 : fz_Xh H45 := fz_Xh_eq (funext fun s => hf50 83 s rfl) hXh16
  have hXw58 : fz_Xw H45 := fz_Xw_eq (hf50 53 19 rfl) (funext fun s => hf50 66 s rfl) (funext fun s => hf50 67 s rfl) (funext fun s => hf50 68 s rfl) (funext fun s => hf50 69 s rfl) hXw17
  have hRS59 : fz_RS H45 := fz_RS_eq (funext fun s => hf50 48 s rfl) (funext fun s => hf50 49 s rfl) (funext fun s => hf50 50 s rfl) (funext fun s => hf50 51 s rfl) (funext fun s => hf50 83 s rfl) (funext fun s => hf50 84 s rfl) (hf50 44 2 rfl) hRS18
  have hRP60 : fz_RP H45 := fz_RP_eq (funext fun s => hf50 52 s rfl) (funext fun s => hf50 85 s rfl) hRP19
  have hRK61 : fz_RK H45 := fz_RK_eq (funext fun s => hf50 45 s rfl) (funext fun s => hf50 81 s rfl) hRK20
  have hRR62 : fz_RR H45 := fz_RR_eq (hf50 44 3 rfl) (hf50 53 46 rfl) (funext fun s => hf50 46 s rfl) (funext fun s => hf50 82 s rfl) hRR21
  have hR363 : fz_R3 H45 := fz_R3_eq (funext fun s => hf50 3 s rfl) (funext fun s => hf50 57 s rfl) hR322
  have hR464 : fz_R4 H45 := fz_R4_eq (funext fun s => hf50 4 s rfl) (funext fun s => hf50 58 s rfl) hR423
  have hR2865 : fz_R28 H45 := fz_R28_eq (funext fun s => hf50 28 s rfl) (funext fun s => hf50 59 s rfl) hR2824
  have hR566 : fz_R5 H45 := fz_R5_eq (funext fun s => hf50 5 s rfl) (funext fun s => hf50 55 s rfl) hR525
  have hR667 : fz_R6 H45 := fz_R6_eq (funext fun s => hf50 6 s rfl) (funext fun s => hf50 56 s rfl) hR626
  have hRG68 : fz_RG H45 := fz_RG_eq (hf50 27 8 rfl) (hf50 27 9 rfl) (hf50 53 8 rfl) (hf50 53 9 rfl) hRG27
  have hRL69 : fz_RL H45 := fz_RL_eq (funext fun s => hf50 11 s rfl) (funext fun s => hf50 12 s rfl) (funext fun s => hf50 13 s rfl) (funext fun s => hf50 14 s rfl) (funext fun s => hf50 61 s rfl) (funext fun s => hf50 62 s rfl) (funext fun s => hf50 63 s rfl) (funext fun s => hf50 64 s rfl) (hf50 9 5 rfl) hRL28
  have hRJ70 : fz_RJ H45 := fz_RJ_eq (hf50 40 1 rfl) (hf50 53 34 rfl) (funext fun s => hf50 41 s rfl) (funext fun s => hf50 76 s rfl) (hf50 40 6 rfl) (hf50 53 37 rfl) (funext fun s => hf50 42 s rfl) (funext fun s => hf50 78 s rfl) (hf50 43 0 rfl) (hf50 53 38 rfl) hRJ29
  have hRW71 : fz_RW H45 := fz_RW_eq (funext fun s => hf50 10 s rfl) (funext fun s => hf50 60 s rfl) (hf50 9 5 rfl) hRW30
  have hX72 : fz_Xc H45 := fz_Xc_fr hf50 rfl hX31
  have t73 : H45 53 10 = H4 53 10 := hf50 53 10 rfl
  have t74 : H45 53 41 = H4 53 41 := hf50 53 41 rfl
  have t75 : H45 53 42 = H4 53 42 := hf50 53 42 rfl
  have t76 : H45 9 5 = H4 9 5 := hf50 9 5 rfl
  have t77 : H45 53 10 = H4 53 10 := hf50 53 10 rfl
  have t78 : H45 44 2 = H4 44 2 := hf50 44 2 rfl
  have t79 : H45 53 44 = H4 53 44 := hf50 53 44 rfl
  have t80 : H45 20 2 = H4 20 2 := hf50 20 2 rfl
  have t81 : H45 53 16 = H4 53 16 := hf50 53 16 rfl
  have t82 : H45 1 7 = H4 1 7 := hf50 1 7 rfl
  have t83 : H45 1 8 = H4 1 8 := hf50 1 8 rfl
  have t84 : H45 53 2 = H4 53 2 := hf50 53 2 rfl
  refine fz_pop rfl kLc0 rfl ?_
  refine fz_goto (tgt := 1816) kLc0 rfl (by decide) ?_
  have hRT85 : fz_RT H45 := fz_RT_t (funext fun s => (hf50 41 s rfl).trans (hf9 41 s rfl)) (funext fun s => (hf50 42 s rfl).trans (hf9 42 s rfl)) (by omega) hRT
  have hRE87 : fz_RE H45 := fz_RE_t (funext fun s => (hf50 5 s rfl).trans (hf9 5 s rfl)) (funext fun s => (hf50 6 s rfl).trans (hf9 6 s rfl)) ((hf50 1 8 rfl).trans (hf9 1 8 rfl)) (by omega) hRE
  have hR289 : fz_R2 H45 := fz_R2_town hR2 f12 f53 (by omega) (funext fun s => hf9 54 s rfl) (funext fun s => hf50 2 s rfl)
  have hRC91 : fz_RC H45 := fz_RC_t ((hf50 35 4 rfl).trans (hf9 35 4 rfl)) ((hf50 35 5 rfl).trans (hf9 35 5 rfl)) ((hf50 53 41 rfl).trans (hf9 53 41 rfl)) ((hf50 53 42 rfl).trans (hf9 53 42 rfl)) (funext fun s => (hf50 36 s rfl).trans (hf9 36 s rfl)) (funext fun s => (hf50 37 s rfl).trans (hf9 37 s rfl)) (funext fun s => (hf50 38 s rfl).trans (hf9 38 s rfl)) (funext fun s => (hf50 39 s rfl).trans (hf9 39 s rfl)) (funext fun s => (hf50 80 s rfl).trans (hf9 80 s rfl)) (by omega) (by omega) (by omega) hRC
  exact K H45 ⟨hI49, hX72, hXd56, hXh57, hXw58, (by rw [((hf50 53 10 rfl).trans (hf9 53 10 rfl))]; exact hv1), (by rw [((hf50 53 42 rfl).trans (hf9 53 42 rfl)), ((hf50 53 41 rfl).trans (hf9 53 41 rfl))]; exact hv2), (((hf50 9 5 rfl).trans (hf9 9 5 rfl)).trans (hr0.trans ((hf50 53 10 rfl).trans (hf9 53 10 rfl)).symm)), (((hf50 44 2 rfl).trans (hf9 44 2 rfl)).trans (hr1.trans ((hf50 53 44 rfl).trans (hf9 53 44 rfl)).symm)), (((hf50 20 2 rfl).trans (hf9 20 2 rfl)).trans (hr2.trans ((hf50 53 16 rfl).trans (hf9 53 16 rfl)).symm)), by omega, (((hf50 1 8 rfl).trans (hf9 1 8 rfl)).trans (hr4.trans ((hf50 53 2 rfl).trans (hf9 53 2 rfl)).symm)), hRS59, hRP60, hRK61, hRR62, hRT85, hRE87, hR289, hR363, hR464, hR2865, hR566, hR667, hRG68, hRL69, hRC91, hRJ70, hRW71⟩ (funext fun s => hf55 200 s rfl)
def mLc1 : fz_M := (yL_law, code, 4, (some .boolean), [(247, .aload_n 1, 1, 0, 0, 0), (248, .aload_n 0, 1, 0, 0, 0), (249, .iload_n 3, 1, 0, 0, 0), (250, .iconst 1, 1, 0, 0, 0), (251, .iadd, 1, 0, 0, 0), (252, .iaload, 1, 0, 0, 0), (253, .aload_n 0, 1, 0, 0, 0), (254, .iload_n 3, 1, 0, 0, 0), (255, .iconst 2, 1, 0, 0, 0), (256, .iadd, 1, 0, 0, 0), (257, .iaload, 1, 0, 0, 0), (258, .invokevirtual 18, 3, 2173, 67, 0), (261, .pop, 1, 0, 0, 0), (262, .aload_n 2, 1, 0, 0, 0), (263, .aload_n 0, 1, 0, 0, 0), (264, .iload_n 3, 1, 0, 0, 0), (265, .iconst 1, 1, 0, 0, 0), (266, .iadd, 1, 0, 0, 0), (267, .iaload, 1, 0, 0, 0), (268, .aload_n 0, 1, 0, 0, 0), (269, .iload_n 3, 1, 0, 0, 0), (270, .iconst 2, 1, 0, 0, 0), (271, .iadd, 1, 0, 0, 0), (272, .iaload, 1, 0, 0, 0), (273, .invokevirtual 22, 3, 6033, 166, 0), (276, .pop, 1, 0, 0, 0), (277, .goto 1539, 3, 0, 0, 0)])
set_option maxRecDepth 100000 in
theorem kLc1 : fz_okM mLc1 = true := fz_okM_in (by decide +kernel) (by decide +kernel)
set_option maxHeartbeats 1000000 in
set_option maxRecDepth 100000 in
theorem lc1 (h : fz_H) (hI : fz_Iv h) (hX : fz_Xc h) (hXd : fz_Xd h) (hXh : fz_Xh h) (hXw : fz_Xw h) (hv1 : h 53 10 ≤ 10) (hv2 : h 53 42 ≤ h 53 41) (hr0 : h 9 5 = h 53 10) (hr1 : h 44 2 = h 53 44) (hr2 : h 20 2 = h 53 16) (hr3 : h 1 7 = h 53 0) (hr4 : h 1 8 = h 53 2) (hRS : fz_RS h) (hRP : fz_RP h) (hRK : fz_RK h) (hRR : fz_RR h) (hRT : fz_RT h) (hRE : fz_RE h) (hR2 : fz_R2 h) (hR3 : fz_R3 h) (hR4 : fz_R4 h) (hR28 : fz_R28 h) (hR5 : fz_R5 h) (hR6 : fz_R6 h) (hRG : fz_RG h) (hRL : fz_RL h) (hRC : fz_RC h) (hRJ : fz_RJ h) (hRW : fz_RW h) (i : Int) (hi : 0 ≤ i ∧ i + 6 ≤ h 200 100000 ∧ h 200 100000 ≤ 3072) {Q : fz_H → Option fz_V → Prop} (K : ∀ H : fz_H, fz_Gd H → H 200 = h 200 → fz_R 47 mLe 1816 [(3, fz_i i), (0, fz_r 200), (1, fz_r 0), (2, fz_r 53)] [] H Q) : fz_R 47 mLc1 247 [(3, fz_i i), (0, fz_r 200), (1, fz_r 0), (2, fz_r 53)] [] h Q := by
  have hf : fz_fr fz_all h h := fz_fr_rf
  refine fz_aload_n kLc1 rfl rfl ?_
  refine fz_aload_n kLc1 rfl rfl ?_
  refine fz_iload_n kLc1 rfl rfl ?_
  refine fz_iconst ⟨by decide, by decide⟩ kLc1 rfl ?_
  refine fz_iaddN kLc1 rfl (by omega) ?_
  obtain ⟨a1, e2⟩ : ∃ z, h 200 ((i + 1)).toNat = z := ⟨_, rfl⟩
  refine fz_taldV (v := a1) kLc1 rfl ⟨by decide, by decide⟩ (by omega) (by omega) e2 ?_
  refine fz_aload_n kLc1 rfl rfl ?_
  refine fz_iload_n kLc1 rfl rfl ?_
  refine fz_iconst ⟨by decide, by decide⟩ kLc1 rfl ?_
  refine fz_iaddN kLc1 rfl (by omega) ?_
  obtain ⟨a3, e4⟩ : ∃ z, h 200 ((i + 2)).toNat = z := ⟨_, rfl⟩
  refine fz_taldV (v := a3) kLc1 rfl ⟨by decide, by decide⟩ (by omega) (by omega) e4 ?_
  have b5 : 0 ≤ h 1 7 ∧ h 1 7 ≤ 8 := hI.1 1 _
  have b6 : 0 ≤ h 1 8 ∧ h 1 8 ≤ 12 := hI.1 1 _
  refine fz_callV (d' := 4) (M' := mX10_road) (As := [fz_i a1, fz_i a3]) (st := []) kLc1 rfl rfl vX10_road rfl rfl rfl rfl (Nat.le_of_ble_eq_true rfl) (Nat.le_of_ble_eq_true rfl) (by decide) (sX10_road h hI a1 a3 hRE) (fun H7 r8 q9 o10 => ?_)
  obtain ⟨hI11, hf12, hRE13, y17, rfl, f14, f15, f16⟩ := q9
  clear o10
  have hf18 := fz_fr_tr hf hf12 (fz_su_all rfl)
  have hXd19 : fz_Xd H7 := fz_Xd_eq (funext fun s => hf12 80 s rfl) hXd
  have hXh20 : fz_Xh H7 := fz_Xh_eq (funext fun s => hf12 83 s rfl) hXh
  have hXw21 : fz_Xw H7 := fz_Xw_eq (hf12 53 19 rfl) (funext fun s => hf12 66 s rfl) (funext fun s => hf12 67 s rfl) (funext fun s => hf12 68 s rfl) (funext fun s => hf12 69 s rfl) hXw
  have hRS22 : fz_RS H7 := fz_RS_eq (funext fun s => hf12 48 s rfl) (funext fun s => hf12 49 s rfl) (funext fun s => hf12 50 s rfl) (funext fun s => hf12 51 s rfl) (funext fun s => hf12 83 s rfl) (funext fun s => hf12 84 s rfl) (hf12 44 2 rfl) hRS
  have hRP23 : fz_RP H7 := fz_RP_eq (funext fun s => hf12 52 s rfl) (funext fun s => hf12 85 s rfl) hRP
  have hRK24 : fz_RK H7 := fz_RK_eq (funext fun s => hf12 45 s rfl) (funext fun s => hf12 81 s rfl) hRK
  have hRR25 : fz_RR H7 := fz_RR_eq (hf12 44 3 rfl) (hf12 53 46 rfl) (funext fun s => hf12 46 s rfl) (funext fun s => hf12 82 s rfl) hRR
  have hRT26 : fz_RT H7 := fz_RT_eq (funext fun s => hf12 41 s rfl) (funext fun s => hf12 42 s rfl) (hf12 1 7 rfl) hRT
  have hR227 : fz_R2 H7 := fz_R2_eq (funext fun s => hf12 2 s rfl) (funext fun s => hf12 54 s rfl) hR2
  have hR2828 : fz_R28 H7 := fz_R28_eq (funext fun s => hf12 28 s rfl) (funext fun s => hf12 59 s rfl) hR28
  have hRG29 : fz_RG H7 := fz_RG_eq (hf12 27 8 rfl) (hf12 27 9 rfl) (hf12 53 8 rfl) (hf12 53 9 rfl) hRG
  have hRL30 : fz_RL H7 := fz_RL_eq (funext fun s => hf12 11 s rfl) (funext fun s => hf12 12 s rfl) (funext fun s => hf12 13 s rfl) (funext fun s => hf12 14 s rfl) (funext fun s => hf12 61 s rfl) (funext fun s => hf12 62 s rfl) (funext fun s => hf12 63 s rfl) (funext fun s => hf12 64 s rfl) (hf12 9 5 rfl) hRL
  have hRJ31 : fz_RJ H7 := fz_RJ_eq (hf12 40 1 rfl) (hf12 53 34 rfl) (funext fun s => hf12 41 s rfl) (funext fun s => hf12 76 s rfl) (hf12 40 6 rfl) (hf12 53 37 rfl) (funext fun s => hf12 42 s rfl) (funext fun s => hf12 78 s rfl) (hf12 43 0 rfl) (hf12 53 38 rfl) hRJ
  have hRW32 : fz_RW H7 := fz_RW_eq (funext fun s => hf12 10 s rfl) (funext fun s => hf12 60 s rfl) (hf12 9 5 rfl) hRW
  have hX33 : fz_Xc H7 := fz_Xc_fr hf12 rfl hX
  have t34 : H7 53 10 = h 53 10 := hf12 53 10 rfl
  have t35 : H7 53 41 = h 53 41 := hf12 53 41 rfl
  have t36 : H7 53 42 = h 53 42 := hf12 53 42 rfl
  have t37 : H7 9 5 = h 9 5 := hf12 9 5 rfl
  have t38 : H7 53 10 = h 53 10 := hf12 53 10 rfl
  have t39 : H7 44 2 = h 44 2 := hf12 44 2 rfl
  have t40 : H7 53 44 = h 53 44 := hf12 53 44 rfl
  have t41 : H7 20 2 = h 20 2 := hf12 20 2 rfl
  have t42 : H7 53 16 = h 53 16 := hf12 53 16 rfl
  have t43 : H7 1 7 = h 1 7 := hf12 1 7 rfl
  have t44 : H7 53 0 = h 53 0 := hf12 53 0 rfl
  have t45 : H7 53 2 = h 53 2 := hf12 53 2 rfl
  refine fz_pop rfl kLc1 rfl ?_
  refine fz_aload_n kLc1 rfl rfl ?_
  refine fz_aload_n kLc1 rfl rfl ?_
  refine fz_iload_n kLc1 rfl rfl ?_
  refine fz_iconst ⟨by decide, by decide⟩ kLc1 rfl ?_
  refine fz_iaddN kLc1 rfl (by omega) ?_
  refine fz_taldV (v := a1) kLc1 rfl ⟨by decide, by decide⟩ (by omega) (by rw [hf18 200 _ rfl]; omega) ((hf18 200 _ rfl).trans e2) ?_
  refine fz_aload_n kLc1 rfl rfl ?_
  refine fz_iload_n kLc1 rfl rfl ?_
  refine fz_iconst ⟨by decide, by decide⟩ kLc1 rfl ?_
  refine fz_iaddN kLc1 rfl (by omega) ?_
  refine fz_taldV (v := a3) kLc1 rfl ⟨by decide, by decide⟩ (by omega) (by rw [hf18 200 _ rfl]; omega) ((hf18 200 _ rfl).trans e4) ?_
  have b46 : 0 ≤ H7 53 0 ∧ H7 53 0 ≤ 8 := hI11.1 53 _
  have b47 : 0 ≤ H7 53 2 ∧ H7 53 2 ≤ 12 := hI11.1 53 _
  refine fz_callV (d' := 3) (M' := mX11_road) (As := [fz_i a1, fz_i a3]) (st := []) kLc1 rfl rfl vX11_road rfl rfl rfl rfl (Nat.le_of_ble_eq_true rfl) (Nat.le_of_ble_eq_true rfl) (by decide) (sX11_road H7 hI11 a1 a3 ) (fun H48 r49 q50 o51 => ?_)
  obtain ⟨hI52, hf53, y57, rfl, f54, f55, f56⟩ := q50
  clear o51
  have hf58 := fz_fr_tr hf18 hf53 (fz_su_all rfl)
  have hXd59 : fz_Xd H48 := fz_Xd_eq (funext fun s => hf53 80 s rfl) hXd19
  have hXh60 : fz_Xh H48 := fz_Xh_eq (funext fun s => hf53 83 s rfl) hXh20
  have hXw61 : fz_Xw H48 := fz_Xw_eq (hf53 53 19 rfl) (funext fun s => hf53 66 s rfl) (funext fun s => hf53 67 s rfl) (funext fun s => hf53 68 s rfl) (funext fun s => hf53 69 s rfl) hXw21
  have hRS62 : fz_RS H48 := fz_RS_eq (funext fun s => hf53 48 s rfl) (funext fun s => hf53 49 s rfl) (funext fun s => hf53 50 s rfl) (funext fun s => hf53 51 s rfl) (funext fun s => hf53 83 s rfl) (funext fun s => hf53 84 s rfl) (hf53 44 2 rfl) hRS22
  have hRP63 : fz_RP H48 := fz_RP_eq (funext fun s => hf53 52 s rfl) (funext fun s => hf53 85 s rfl) hRP23
  have hRK64 : fz_RK H48 := fz_RK_eq (funext fun s => hf53 45 s rfl) (funext fun s => hf53 81 s rfl) hRK24
  have hRR65 : fz_RR H48 := fz_RR_eq (hf53 44 3 rfl) (hf53 53 46 rfl) (funext fun s => hf53 46 s rfl) (funext fun s => hf53 82 s rfl) hRR25
  have hRT66 : fz_RT H48 := fz_RT_eq (funext fun s => hf53 41 s rfl) (funext fun s => hf53 42 s rfl) (hf53 1 7 rfl) hRT26
  have hRE67 : fz_RE H48 := fz_RE_eq (funext fun s => hf53 5 s rfl) (funext fun s => hf53 6 s rfl) (hf53 1 8 rfl) (hf53 1 7 rfl) hRE13
  have hR268 : fz_R2 H48 := fz_R2_eq (funext fun s => hf53 2 s rfl) (funext fun s => hf53 54 s rfl) hR227
  have hR2869 : fz_R28 H48 := fz_R28_eq (funext fun s => hf53 28 s rfl) (funext fun s => hf53 59 s rfl) hR2828
  have hRG70 : fz_RG H48 := fz_RG_eq (hf53 27 8 rfl) (hf53 27 9 rfl) (hf53 53 8 rfl) (hf53 53 9 rfl) hRG29
  have hRL71 : fz_RL H48 := fz_RL_eq (funext fun s => hf53 11 s rfl) (funext fun s => hf53 12 s rfl) (funext fun s => hf53 13 s rfl) (funext fun s => hf53 14 s rfl) (funext fun s => hf53 61 s rfl) (funext fun s => hf53 62 s rfl) (funext fun s => hf53 63 s rfl) (funext fun s => hf53 64 s rfl) (hf53 9 5 rfl) hRL30
  have hRJ72 : fz_RJ H48 := fz_RJ_eq (hf53 40 1 rfl) (hf53 53 34 rfl) (funext fun s => hf53 41 s rfl) (funext fun s => hf53 76 s rfl) (hf53 40 6 rfl) (hf53 53 37 rfl) (funext fun s => hf53 42 s rfl) (funext fun s => hf53 78 s rfl) (hf53 43 0 rfl) (hf53 53 38 rfl) hRJ31
  have hRW73 : fz_RW H48 := fz_RW_eq (funext fun s => hf53 10 s rfl) (funext fun s => hf53 60 s rfl) (hf53 9 5 rfl) hRW32
  have hX74 : fz_Xc H48 := fz_Xc_fr hf53 rfl hX33
  have t75 : H48 53 10 = H7 53 10 := hf53 53 10 rfl
  have t76 : H48 53 41 = H7 53 41 := hf53 53 41 rfl
  have t77 : H48 53 42 = H7 53 42 := hf53 53 42 rfl
  have t78 : H48 9 5 = H7 9 5 := hf53 9 5 rfl
  have t79 : H48 53 10 = H7 53 10 := hf53 53 10 rfl
  have t80 : H48 44 2 = H7 44 2 := hf53 44 2 rfl
  have t81 : H48 53 44 = H7 53 44 := hf53 53 44 rfl
  have t82 : H48 20 2 = H7 20 2 := hf53 20 2 rfl
  have t83 : H48 53 16 = H7 53 16 := hf53 53 16 rfl
  have t84 : H48 1 7 = H7 1 7 := hf53 1 7 rfl
  have t85 : H48 53 0 = H7 53 0 := hf53 53 0 rfl
  have t86 : H48 1 8 = H7 1 8 := hf53 1 8 rfl
  refine fz_pop rfl kLc1 rfl ?_
  refine fz_goto (tgt := 1816) kLc1 rfl (by decide) ?_
  have k87 := fz_R_road hR5 hR6 hR3 hR4 f16 f56 (by omega) (by omega) (funext fun s => hf12 55 s rfl) (funext fun s => hf12 56 s rfl) (funext fun s => hf12 57 s rfl) (funext fun s => hf12 58 s rfl) (funext fun s => hf53 5 s rfl) (funext fun s => hf53 6 s rfl) (funext fun s => hf53 3 s rfl) (funext fun s => hf53 4 s rfl)
  have hR589 : fz_R5 H48 := k87.1
  have hR691 : fz_R6 H48 := k87.2.1
  have hR393 : fz_R3 H48 := k87.2.2.1
  have hR495 : fz_R4 H48 := k87.2.2.2
  have hRC97 : fz_RC H48 := fz_RC_t ((hf53 35 4 rfl).trans (hf12 35 4 rfl)) ((hf53 35 5 rfl).trans (hf12 35 5 rfl)) ((hf53 53 41 rfl).trans (hf12 53 41 rfl)) ((hf53 53 42 rfl).trans (hf12 53 42 rfl)) (funext fun s => (hf53 36 s rfl).trans (hf12 36 s rfl)) (funext fun s => (hf53 37 s rfl).trans (hf12 37 s rfl)) (funext fun s => (hf53 38 s rfl).trans (hf12 38 s rfl)) (funext fun s => (hf53 39 s rfl).trans (hf12 39 s rfl)) (funext fun s => (hf53 80 s rfl).trans (hf12 80 s rfl)) (by omega) (by omega) (by omega) hRC
  exact K H48 ⟨hI52, hX74, hXd59, hXh60, hXw61, (by rw [((hf53 53 10 rfl).trans (hf12 53 10 rfl))]; exact hv1), (by rw [((hf53 53 42 rfl).trans (hf12 53 42 rfl)), ((hf53 53 41 rfl).trans (hf12 53 41 rfl))]; exact hv2), (((hf53 9 5 rfl).trans (hf12 9 5 rfl)).trans (hr0.trans ((hf53 53 10 rfl).trans (hf12 53 10 rfl)).symm)), (((hf53 44 2 rfl).trans (hf12 44 2 rfl)).trans (hr1.trans ((hf53 53 44 rfl).trans (hf12 53 44 rfl)).symm)), (((hf53 20 2 rfl).trans (hf12 20 2 rfl)).trans (hr2.trans ((hf53 53 16 rfl).trans (hf12 53 16 rfl)).symm)), (((hf53 1 7 rfl).trans (hf12 1 7 rfl)).trans (hr3.trans ((hf53 53 0 rfl).trans (hf12 53 0 rfl)).symm)), by omega, hRS62, hRP63, hRK64, hRR65, hRT66, hRE67, hR268, hR393, hR495, hR2869, hR589, hR691, hRG70, hRL71, hRC97, hRJ72, hRW73⟩ (funext fun s => hf58 200 s rfl)
def mLc2 : fz_M := (yL_law, code, 4, (some .boolean), [(280, .aload_n 1, 1, 0, 0, 0), (281, .aload_n 0, 1, 0, 0, 0), (282, .iload_n 3, 1, 0, 0, 0), (283, .iconst 1, 1, 0, 0, 0), (284, .iadd, 1, 0, 0, 0), (285, .iaload, 1, 0, 0, 0), (286, .aload_n 0, 1, 0, 0, 0), (287, .iload_n 3, 1, 0, 0, 0), (288, .iconst 2, 1, 0, 0, 0), (289, .iadd, 1, 0, 0, 0), (290, .iaload, 1, 0, 0, 0), (291, .aload_n 0, 1, 0, 0, 0), (292, .iload_n 3, 1, 0, 0, 0), (293, .iconst 3, 1, 0, 0, 0), (294, .iadd, 1, 0, 0, 0), (295, .iaload, 1, 0, 0, 0), (296, .invokevirtual 23, 3, 2189, 25, 0), (299, .pop, 1, 0, 0, 0), (300, .aload_n 2, 1, 0, 0, 0), (301, .aload_n 0, 1, 0, 0, 0), (302, .iload_n 3, 1, 0, 0, 0), (303, .iconst 1, 1, 0, 0, 0), (304, .iadd, 1, 0, 0, 0), (305, .iaload, 1, 0, 0, 0), (306, .aload_n 0, 1, 0, 0, 0), (307, .iload_n 3, 1, 0, 0, 0), (308, .iconst 2, 1, 0, 0, 0), (309, .iadd, 1, 0, 0, 0), (310, .iaload, 1, 0, 0, 0), (311, .aload_n 0, 1, 0, 0, 0), (312, .iload_n 3, 1, 0, 0, 0), (313, .iconst 3, 1, 0, 0, 0), (314, .iadd, 1, 0, 0, 0), (315, .iaload, 1, 0, 0, 0), (316, .invokevirtual 27, 3, 6045, 93, 0), (319, .pop, 1, 0, 0, 0), (320, .goto 1496, 3, 0, 0, 0)])
set_option maxRecDepth 100000 in
theorem kLc2 : fz_okM mLc2 = true := fz_okM_in (by decide +kernel) (by decide +kernel)
set_option maxHeartbeats 1000000 in
set_option maxRecDepth 100000 in
theorem lc2 (h : fz_H) (hI : fz_Iv h) (hX : fz_Xc h) (hXd : fz_Xd h) (hXh : fz_Xh h) (hXw : fz_Xw h) (hv1 : h 53 10 ≤ 10) (hv2 : h 53 42 ≤ h 53 41) (hr0 : h 9 5 = h 53 10) (hr1 : h 44 2 = h 53 44) (hr2 : h 20 2 = h 53 16) (hr3 : h 1 7 = h 53 0) (hr4 : h 1 8 = h 53 2) (hRS : fz_RS h) (hRP : fz_RP h) (hRK : fz_RK h) (hRR : fz_RR h) (hRT : fz_RT h) (hRE : fz_RE h) (hR2 : fz_R2 h) (hR3 : fz_R3 h) (hR4 : fz_R4 h) (hR28 : fz_R28 h) (hR5 : fz_R5 h) (hR6 : fz_R6 h) (hRG : fz_RG h) (hRL : fz_RL h) (hRC : fz_RC h) (hRJ : fz_RJ h) (hRW : fz_RW h) (i : Int) (hi : 0 ≤ i ∧ i + 6 ≤ h 200 100000 ∧ h 200 100000 ≤ 3072) {Q : fz_H → Option fz_V → Prop} (K : ∀ H : fz_H, fz_Gd H → H 200 = h 200 → fz_R 47 mLe 1816 [(3, fz_i i), (0, fz_r 200), (1, fz_r 0), (2, fz_r 53)] [] H Q) : fz_R 47 mLc2 280 [(3, fz_i i), (0, fz_r 200), (1, fz_r 0), (2, fz_r 53)] [] h Q := by
  have hf : fz_fr fz_all h h := fz_fr_rf
  refine fz_aload_n kLc2 rfl rfl ?_
  refine fz_aload_n kLc2 rfl rfl ?_
  refine fz_iload_n kLc2 rfl rfl ?_
  refine fz_iconst ⟨by decide, by decide⟩ kLc2 rfl ?_
  refine fz_iaddN kLc2 rfl (by omega) ?_
  obtain ⟨a1, e2⟩ : ∃ z, h 200 ((i + 1)).toNat = z := ⟨_, rfl⟩
  refine fz_taldV (v := a1) kLc2 rfl ⟨by decide, by decide⟩ (by omega) (by omega) e2 ?_
  refine fz_aload_n kLc2 rfl rfl ?_
  refine fz_iload_n kLc2 rfl rfl ?_
  refine fz_iconst ⟨by decide, by decide⟩ kLc2 rfl ?_
  refine fz_iaddN kLc2 rfl (by omega) ?_
  obtain ⟨a3, e4⟩ : ∃ z, h 200 ((i + 2)).toNat = z := ⟨_, rfl⟩
  refine fz_taldV (v := a3) kLc2 rfl ⟨by decide, by decide⟩ (by omega) (by omega) e4 ?_
  refine fz_aload_n kLc2 rfl rfl ?_
  refine fz_iload_n kLc2 rfl rfl ?_
  refine fz_iconst ⟨by decide, by decide⟩ kLc2 rfl ?_
  refine fz_iaddN kLc2 rfl (by omega) ?_
  obtain ⟨a5, e6⟩ : ∃ z, h 200 ((i + 3)).toNat = z := ⟨_, rfl⟩
  refine fz_taldV (v := a5) kLc2 rfl ⟨by decide, by decide⟩ (by omega) (by omega) e6 ?_
  have b7 : 0 ≤ h 1 7 ∧ h 1 7 ≤ 8 := hI.1 1 _
  have b8 : 0 ≤ h 9 5 ∧ h 9 5 ≤ 10 := hI.1 9 _
  refine fz_callV (d' := 2) (M' := mX10_deed) (As := [fz_i a1, fz_i a3, fz_i a5]) (st := []) kLc2 rfl rfl vX10_deed rfl rfl rfl rfl (Nat.le_of_ble_eq_true rfl) (Nat.le_of_ble_eq_true rfl) (by decide) (sX10_deed h hI a1 a3 a5 ) (fun H9 r10 q11 o12 => ?_)
  obtain ⟨hI13, hf14, y18, rfl, f15, f16, f17⟩ := q11
  clear o12
  have hf19 := fz_fr_tr hf hf14 (fz_su_all rfl)
  have hXd20 : fz_Xd H9 := fz_Xd_eq (funext fun s => hf14 80 s rfl) hXd
  have hXh21 : fz_Xh H9 := fz_Xh_eq (funext fun s => hf14 83 s rfl) hXh
  have hXw22 : fz_Xw H9 := fz_Xw_eq (hf14 53 19 rfl) (funext fun s => hf14 66 s rfl) (funext fun s => hf14 67 s rfl) (funext fun s => hf14 68 s rfl) (funext fun s => hf14 69 s rfl) hXw
  have hRS23 : fz_RS H9 := fz_RS_eq (funext fun s => hf14 48 s rfl) (funext fun s => hf14 49 s rfl) (funext fun s => hf14 50 s rfl) (funext fun s => hf14 51 s rfl) (funext fun s => hf14 83 s rfl) (funext fun s => hf14 84 s rfl) (hf14 44 2 rfl) hRS
  have hRP24 : fz_RP H9 := fz_RP_eq (funext fun s => hf14 52 s rfl) (funext fun s => hf14 85 s rfl) hRP
  have hRK25 : fz_RK H9 := fz_RK_eq (funext fun s => hf14 45 s rfl) (funext fun s => hf14 81 s rfl) hRK
  have hRR26 : fz_RR H9 := fz_RR_eq (hf14 44 3 rfl) (hf14 53 46 rfl) (funext fun s => hf14 46 s rfl) (funext fun s => hf14 82 s rfl) hRR
  have hRT27 : fz_RT H9 := fz_RT_eq (funext fun s => hf14 41 s rfl) (funext fun s => hf14 42 s rfl) (hf14 1 7 rfl) hRT
  have hRE28 : fz_RE H9 := fz_RE_eq (funext fun s => hf14 5 s rfl) (funext fun s => hf14 6 s rfl) (hf14 1 8 rfl) (hf14 1 7 rfl) hRE
  have hR229 : fz_R2 H9 := fz_R2_eq (funext fun s => hf14 2 s rfl) (funext fun s => hf14 54 s rfl) hR2
  have hR330 : fz_R3 H9 := fz_R3_eq (funext fun s => hf14 3 s rfl) (funext fun s => hf14 57 s rfl) hR3
  have hR431 : fz_R4 H9 := fz_R4_eq (funext fun s => hf14 4 s rfl) (funext fun s => hf14 58 s rfl) hR4
  have hR2832 : fz_R28 H9 := fz_R28_eq (funext fun s => hf14 28 s rfl) (funext fun s => hf14 59 s rfl) hR28
  have hR533 : fz_R5 H9 := fz_R5_eq (funext fun s => hf14 5 s rfl) (funext fun s => hf14 55 s rfl) hR5
  have hR634 : fz_R6 H9 := fz_R6_eq (funext fun s => hf14 6 s rfl) (funext fun s => hf14 56 s rfl) hR6
  have hRG35 : fz_RG H9 := fz_RG_eq (hf14 27 8 rfl) (hf14 27 9 rfl) (hf14 53 8 rfl) (hf14 53 9 rfl) hRG
  have hRJ36 : fz_RJ H9 := fz_RJ_eq (hf14 40 1 rfl) (hf14 53 34 rfl) (funext fun s => hf14 41 s rfl) (funext fun s => hf14 76 s rfl) (hf14 40 6 rfl) (hf14 53 37 rfl) (funext fun s => hf14 42 s rfl) (funext fun s => hf14 78 s rfl) (hf14 43 0 rfl) (hf14 53 38 rfl) hRJ
  have hX37 : fz_Xc H9 := fz_Xc_fr hf14 rfl hX
  have t38 : H9 53 10 = h 53 10 := hf14 53 10 rfl
  have t39 : H9 53 41 = h 53 41 := hf14 53 41 rfl
  have t40 : H9 53 42 = h 53 42 := hf14 53 42 rfl
  have t41 : H9 53 10 = h 53 10 := hf14 53 10 rfl
  have t42 : H9 44 2 = h 44 2 := hf14 44 2 rfl
  have t43 : H9 53 44 = h 53 44 := hf14 53 44 rfl
  have t44 : H9 20 2 = h 20 2 := hf14 20 2 rfl
  have t45 : H9 53 16 = h 53 16 := hf14 53 16 rfl
  have t46 : H9 1 7 = h 1 7 := hf14 1 7 rfl
  have t47 : H9 53 0 = h 53 0 := hf14 53 0 rfl
  have t48 : H9 1 8 = h 1 8 := hf14 1 8 rfl
  have t49 : H9 53 2 = h 53 2 := hf14 53 2 rfl
  refine fz_pop rfl kLc2 rfl ?_
  refine fz_aload_n kLc2 rfl rfl ?_
  refine fz_aload_n kLc2 rfl rfl ?_
  refine fz_iload_n kLc2 rfl rfl ?_
  refine fz_iconst ⟨by decide, by decide⟩ kLc2 rfl ?_
  refine fz_iaddN kLc2 rfl (by omega) ?_
  refine fz_taldV (v := a1) kLc2 rfl ⟨by decide, by decide⟩ (by omega) (by rw [hf19 200 _ rfl]; omega) ((hf19 200 _ rfl).trans e2) ?_
  refine fz_aload_n kLc2 rfl rfl ?_
  refine fz_iload_n kLc2 rfl rfl ?_
  refine fz_iconst ⟨by decide, by decide⟩ kLc2 rfl ?_
  refine fz_iaddN kLc2 rfl (by omega) ?_
  refine fz_taldV (v := a3) kLc2 rfl ⟨by decide, by decide⟩ (by omega) (by rw [hf19 200 _ rfl]; omega) ((hf19 200 _ rfl).trans e4) ?_
  refine fz_aload_n kLc2 rfl rfl ?_
  refine fz_iload_n kLc2 rfl rfl ?_
  refine fz_iconst ⟨by decide, by decide⟩ kLc2 rfl ?_
  refine fz_iaddN kLc2 rfl (by omega) ?_
  refine fz_taldV (v := a5) kLc2 rfl ⟨by decide, by decide⟩ (by omega) (by rw [hf19 200 _ rfl]; omega) ((hf19 200 _ rfl).trans e6) ?_
  have b50 : 0 ≤ H9 53 10 ∧ H9 53 10 ≤ 11 := hI13.1 53 _
  have b51 : 0 ≤ H9 53 0 ∧ H9 53 0 ≤ 8 := hI13.1 53 _
  refine fz_callV (d' := 3) (M' := mX11_deed) (As := [fz_i a1, fz_i a3, fz_i a5]) (st := []) kLc2 rfl rfl vX11_deed rfl rfl rfl rfl (Nat.le_of_ble_eq_true rfl) (Nat.le_of_ble_eq_true rfl) (by decide) (sX11_deed H9 hI13 a1 a3 a5 (by omega)) (fun H52 r53 q54 o55 => ?_)
  obtain ⟨hI56, hf57, y62, rfl, f58, f59, f60, f61⟩ := q54
  clear o55
  have hf63 := fz_fr_tr hf19 hf57 (fz_su_all rfl)
  have hXd64 : fz_Xd H52 := fz_Xd_eq (funext fun s => hf57 80 s rfl) hXd20
  have hXh65 : fz_Xh H52 := fz_Xh_eq (funext fun s => hf57 83 s rfl) hXh21
  have hXw66 : fz_Xw H52 := fz_Xw_eq (hf57 53 19 rfl) (funext fun s => hf57 66 s rfl) (funext fun s => hf57 67 s rfl) (funext fun s => hf57 68 s rfl) (funext fun s => hf57 69 s rfl) hXw22
  have hRS67 : fz_RS H52 := fz_RS_eq (funext fun s => hf57 48 s rfl) (funext fun s => hf57 49 s rfl) (funext fun s => hf57 50 s rfl) (funext fun s => hf57 51 s rfl) (funext fun s => hf57 83 s rfl) (funext fun s => hf57 84 s rfl) (hf57 44 2 rfl) hRS23
  have hRP68 : fz_RP H52 := fz_RP_eq (funext fun s => hf57 52 s rfl) (funext fun s => hf57 85 s rfl) hRP24
  have hRK69 : fz_RK H52 := fz_RK_eq (funext fun s => hf57 45 s rfl) (funext fun s => hf57 81 s rfl) hRK25
  have hRR70 : fz_RR H52 := fz_RR_eq (hf57 44 3 rfl) (hf57 53 46 rfl) (funext fun s => hf57 46 s rfl) (funext fun s => hf57 82 s rfl) hRR26
  have hRT71 : fz_RT H52 := fz_RT_eq (funext fun s => hf57 41 s rfl) (funext fun s => hf57 42 s rfl) (hf57 1 7 rfl) hRT27
  have hRE72 : fz_RE H52 := fz_RE_eq (funext fun s => hf57 5 s rfl) (funext fun s => hf57 6 s rfl) (hf57 1 8 rfl) (hf57 1 7 rfl) hRE28
  have hR273 : fz_R2 H52 := fz_R2_eq (funext fun s => hf57 2 s rfl) (funext fun s => hf57 54 s rfl) hR229
  have hR374 : fz_R3 H52 := fz_R3_eq (funext fun s => hf57 3 s rfl) (funext fun s => hf57 57 s rfl) hR330
  have hR475 : fz_R4 H52 := fz_R4_eq (funext fun s => hf57 4 s rfl) (funext fun s => hf57 58 s rfl) hR431
  have hR2876 : fz_R28 H52 := fz_R28_eq (funext fun s => hf57 28 s rfl) (funext fun s => hf57 59 s rfl) hR2832
  have hR577 : fz_R5 H52 := fz_R5_eq (funext fun s => hf57 5 s rfl) (funext fun s => hf57 55 s rfl) hR533
  have hR678 : fz_R6 H52 := fz_R6_eq (funext fun s => hf57 6 s rfl) (funext fun s => hf57 56 s rfl) hR634
  have hRG79 : fz_RG H52 := fz_RG_eq (hf57 27 8 rfl) (hf57 27 9 rfl) (hf57 53 8 rfl) (hf57 53 9 rfl) hRG35
  have hRJ80 : fz_RJ H52 := fz_RJ_eq (hf57 40 1 rfl) (hf57 53 34 rfl) (funext fun s => hf57 41 s rfl) (funext fun s => hf57 76 s rfl) (hf57 40 6 rfl) (hf57 53 37 rfl) (funext fun s => hf57 42 s rfl) (funext fun s => hf57 78 s rfl) (hf57 43 0 rfl) (hf57 53 38 rfl) hRJ36
  have hX81 : fz_Xc H52 := fz_Xc_fr hf57 rfl hX37
  have t82 : H52 53 41 = H9 53 41 := hf57 53 41 rfl
  have t83 : H52 53 42 = H9 53 42 := hf57 53 42 rfl
  have t84 : H52 9 5 = H9 9 5 := hf57 9 5 rfl
  have t85 : H52 44 2 = H9 44 2 := hf57 44 2 rfl
  have t86 : H52 53 44 = H9 53 44 := hf57 53 44 rfl
  have t87 : H52 20 2 = H9 20 2 := hf57 20 2 rfl
  have t88 : H52 53 16 = H9 53 16 := hf57 53 16 rfl
  have t89 : H52 1 7 = H9 1 7 := hf57 1 7 rfl
  have t90 : H52 53 0 = H9 53 0 := hf57 53 0 rfl
  have t91 : H52 1 8 = H9 1 8 := hf57 1 8 rfl
  have t92 : H52 53 2 = H9 53 2 := hf57 53 2 rfl
  refine fz_pop rfl kLc2 rfl ?_
  refine fz_goto (tgt := 1816) kLc2 rfl (by decide) ?_
  have hRL93 : fz_RL H52 := fz_RL_ap hRL f17 f61 (by omega) ⟨(funext fun s => hf14 61 s rfl), (funext fun s => hf14 62 s rfl), (funext fun s => hf14 63 s rfl), (funext fun s => hf14 64 s rfl)⟩ ⟨(funext fun s => hf57 11 s rfl), (funext fun s => hf57 12 s rfl), (funext fun s => hf57 13 s rfl), (funext fun s => hf57 14 s rfl)⟩ (by omega) (by omega) (show 0 ≤ h 9 5 from (hI.1 9 _).1) (fun _ _ _ => rfl)
  have hRW95 : fz_RW H52 := fz_RW_ap hRW f17 f61 (by omega) (funext fun s => hf14 60 s rfl) (funext fun s => hf57 10 s rfl) (by omega) (by omega) (show 0 ≤ h 9 5 from (hI.1 9 _).1) (fun _ _ _ => rfl)
  have hRC97 : fz_RC H52 := fz_RC_t ((hf57 35 4 rfl).trans (hf14 35 4 rfl)) ((hf57 35 5 rfl).trans (hf14 35 5 rfl)) ((hf57 53 41 rfl).trans (hf14 53 41 rfl)) ((hf57 53 42 rfl).trans (hf14 53 42 rfl)) (funext fun s => (hf57 36 s rfl).trans (hf14 36 s rfl)) (funext fun s => (hf57 37 s rfl).trans (hf14 37 s rfl)) (funext fun s => (hf57 38 s rfl).trans (hf14 38 s rfl)) (funext fun s => (hf57 39 s rfl).trans (hf14 39 s rfl)) (funext fun s => (hf57 80 s rfl).trans (hf14 80 s rfl)) (by omega) (by omega) (by omega) hRC
  exact K H52 ⟨hI56, hX81, hXd64, hXh65, hXw66, by omega, (by rw [((hf57 53 42 rfl).trans (hf14 53 42 rfl)), ((hf57 53 41 rfl).trans (hf14 53 41 rfl))]; exact hv2), by omega, (((hf57 44 2 rfl).trans (hf14 44 2 rfl)).trans (hr1.trans ((hf57 53 44 rfl).trans (hf14 53 44 rfl)).symm)), (((hf57 20 2 rfl).trans (hf14 20 2 rfl)).trans (hr2.trans ((hf57 53 16 rfl).trans (hf14 53 16 rfl)).symm)), (((hf57 1 7 rfl).trans (hf14 1 7 rfl)).trans (hr3.trans ((hf57 53 0 rfl).trans (hf14 53 0 rfl)).symm)), (((hf57 1 8 rfl).trans (hf14 1 8 rfl)).trans (hr4.trans ((hf57 53 2 rfl).trans (hf14 53 2 rfl)).symm)), hRS67, hRP68, hRK69, hRR70, hRT71, hRE72, hR273, hR374, hR475, hR2876, hR577, hR678, hRG79, hRL93, hRC97, hRJ80, hRW95⟩ (funext fun s => hf63 200 s rfl)
def mLc3 : fz_M := (yL_law, code, 4, (some .boolean), [(323, .aload_n 1, 1, 0, 0, 0), (324, .aload_n 0, 1, 0, 0, 0), (325, .iload_n 3, 1, 0, 0, 0), (326, .iconst 1, 1, 0, 0, 0), (327, .iadd, 1, 0, 0, 0), (328, .iaload, 1, 0, 0, 0), (329, .aload_n 0, 1, 0, 0, 0), (330, .iload_n 3, 1, 0, 0, 0), (331, .iconst 2, 1, 0, 0, 0), (332, .iadd, 1, 0, 0, 0), (333, .iaload, 1, 0, 0, 0), (334, .aload_n 0, 1, 0, 0, 0), (335, .iload_n 3, 1, 0, 0, 0), (336, .iconst 3, 1, 0, 0, 0), (337, .iadd, 1, 0, 0, 0), (338, .iaload, 1, 0, 0, 0), (339, .invokevirtual 28, 3, 2217, 26, 0), (342, .pop, 1, 0, 0, 0), (343, .aload_n 2, 1, 0, 0, 0), (344, .aload_n 0, 1, 0, 0, 0), (345, .iload_n 3, 1, 0, 0, 0), (346, .iconst 1, 1, 0, 0, 0), (347, .iadd, 1, 0, 0, 0), (348, .iaload, 1, 0, 0, 0), (349, .aload_n 0, 1, 0, 0, 0), (350, .iload_n 3, 1, 0, 0, 0), (351, .iconst 2, 1, 0, 0, 0), (352, .iadd, 1, 0, 0, 0), (353, .iaload, 1, 0, 0, 0), (354, .aload_n 0, 1, 0, 0, 0), (355, .iload_n 3, 1, 0, 0, 0), (356, .iconst 3, 1, 0, 0, 0), (357, .iadd, 1, 0, 0, 0), (358, .iaload, 1, 0, 0, 0), (359, .invokevirtual 31, 3, 6066, 94, 0), (362, .pop, 1, 0, 0, 0), (363, .goto 1453, 3, 0, 0, 0)])
set_option maxRecDepth 100000 in
theorem kLc3 : fz_okM mLc3 = true := fz_okM_in (by decide +kernel) (by decide +kernel)
set_option maxHeartbeats 1000000 in
set_option maxRecDepth 100000 in
theorem lc3 (h : fz_H) (hI : fz_Iv h) (hX : fz_Xc h) (hXd : fz_Xd h) (hXh : fz_Xh h) (hXw : fz_Xw h) (hv1 : h 53 10 ≤ 10) (hv2 : h 53 42 ≤ h 53 41) (hr0 : h 9 5 = h 53 10) (hr1 : h 44 2 = h 53 44) (hr2 : h 20 2 = h 53 16) (hr3 : h 1 7 = h 53 0) (hr4 : h 1 8 = h 53 2) (hRS : fz_RS h) (hRP : fz_RP h) (hRK : fz_RK h) (hRR : fz_RR h) (hRT : fz_RT h) (hRE : fz_RE h) (hR2 : fz_R2 h) (hR3 : fz_R3 h) (hR4 : fz_R4 h) (hR28 : fz_R28 h) (hR5 : fz_R5 h) (hR6 : fz_R6 h) (hRG : fz_RG h) (hRL : fz_RL h) (hRC : fz_RC h) (hRJ : fz_RJ h) (hRW : fz_RW h) (i : Int) (hi : 0 ≤ i ∧ i + 6 ≤ h 200 100000 ∧ h 200 100000 ≤ 3072) {Q : fz_H → Option fz_V → Prop} (K : ∀ H : fz_H, fz_Gd H → H 200 = h 200 → fz_R 47 mLe 1816 [(3, fz_i i), (0, fz_r 200), (1, fz_r 0), (2, fz_r 53)] [] H Q) : fz_R 47 mLc3 323 [(3, fz_i i), (0, fz_r 200), (1, fz_r 0), (2, fz_r 53)] [] h Q := by
  have hf : fz_fr fz_all h h := fz_fr_rf
  refine fz_aload_n kLc3 rfl rfl ?_
  refine fz_aload_n kLc3 rfl rfl ?_
  refine fz_iload_n kLc3 rfl rfl ?_
  refine fz_iconst ⟨by decide, by decide⟩ kLc3 rfl ?_
  refine fz_iaddN kLc3 rfl (by omega) ?_
  obtain ⟨a1, e2⟩ : ∃ z, h 200 ((i + 1)).toNat = z := ⟨_, rfl⟩
  refine fz_taldV (v := a1) kLc3 rfl ⟨by decide, by decide⟩ (by omega) (by omega) e2 ?_
  refine fz_aload_n kLc3 rfl rfl ?_
  refine fz_iload_n kLc3 rfl rfl ?_
  refine fz_iconst ⟨by decide, by decide⟩ kLc3 rfl ?_
  refine fz_iaddN kLc3 rfl (by omega) ?_
  obtain ⟨a3, e4⟩ : ∃ z, h 200 ((i + 2)).toNat = z := ⟨_, rfl⟩
  refine fz_taldV (v := a3) kLc3 rfl ⟨by decide, by decide⟩ (by omega) (by omega) e4 ?_
  refine fz_aload_n kLc3 rfl rfl ?_
  refine fz_iload_n kLc3 rfl rfl ?_
  refine fz_iconst ⟨by decide, by decide⟩ kLc3 rfl ?_
  refine fz_iaddN kLc3 rfl (by omega) ?_
  obtain ⟨a5, e6⟩ : ∃ z, h 200 ((i + 3)).toNat = z := ⟨_, rfl⟩
  refine fz_taldV (v := a5) kLc3 rfl ⟨by decide, by decide⟩ (by omega) (by omega) e6 ?_
  have b7 : 0 ≤ h 9 5 ∧ h 9 5 ≤ 10 := hI.1 9 _
  refine fz_callV (d' := 3) (M' := mX10_deeds) (As := [fz_i a1, fz_i a3, fz_i a5]) (st := []) kLc3 rfl rfl vX10_deeds rfl rfl rfl rfl (Nat.le_of_ble_eq_true rfl) (Nat.le_of_ble_eq_true rfl) (by decide) (sX10_deeds h hI a1 a3 a5 ) (fun H8 r9 q10 o11 => ?_)
  obtain ⟨hI12, hf13, y17, rfl, f14, f15, f16⟩ := q10
  clear o11
  have hf18 := fz_fr_tr hf hf13 (fz_su_all rfl)
  have hXd19 : fz_Xd H8 := fz_Xd_eq (funext fun s => hf13 80 s rfl) hXd
  have hXh20 : fz_Xh H8 := fz_Xh_eq (funext fun s => hf13 83 s rfl) hXh
  have hXw21 : fz_Xw H8 := fz_Xw_eq (hf13 53 19 rfl) (funext fun s => hf13 66 s rfl) (funext fun s => hf13 67 s rfl) (funext fun s => hf13 68 s rfl) (funext fun s => hf13 69 s rfl) hXw
  have hRS22 : fz_RS H8 := fz_RS_eq (funext fun s => hf13 48 s rfl) (funext fun s => hf13 49 s rfl) (funext fun s => hf13 50 s rfl) (funext fun s => hf13 51 s rfl) (funext fun s => hf13 83 s rfl) (funext fun s => hf13 84 s rfl) (hf13 44 2 rfl) hRS
  have hRP23 : fz_RP H8 := fz_RP_eq (funext fun s => hf13 52 s rfl) (funext fun s => hf13 85 s rfl) hRP
  have hRK24 : fz_RK H8 := fz_RK_eq (funext fun s => hf13 45 s rfl) (funext fun s => hf13 81 s rfl) hRK
  have hRR25 : fz_RR H8 := fz_RR_eq (hf13 44 3 rfl) (hf13 53 46 rfl) (funext fun s => hf13 46 s rfl) (funext fun s => hf13 82 s rfl) hRR
  have hRT26 : fz_RT H8 := fz_RT_eq (funext fun s => hf13 41 s rfl) (funext fun s => hf13 42 s rfl) (hf13 1 7 rfl) hRT
  have hRE27 : fz_RE H8 := fz_RE_eq (funext fun s => hf13 5 s rfl) (funext fun s => hf13 6 s rfl) (hf13 1 8 rfl) (hf13 1 7 rfl) hRE
  have hR228 : fz_R2 H8 := fz_R2_eq (funext fun s => hf13 2 s rfl) (funext fun s => hf13 54 s rfl) hR2
  have hR329 : fz_R3 H8 := fz_R3_eq (funext fun s => hf13 3 s rfl) (funext fun s => hf13 57 s rfl) hR3
  have hR430 : fz_R4 H8 := fz_R4_eq (funext fun s => hf13 4 s rfl) (funext fun s => hf13 58 s rfl) hR4
  have hR2831 : fz_R28 H8 := fz_R28_eq (funext fun s => hf13 28 s rfl) (funext fun s => hf13 59 s rfl) hR28
  have hR532 : fz_R5 H8 := fz_R5_eq (funext fun s => hf13 5 s rfl) (funext fun s => hf13 55 s rfl) hR5
  have hR633 : fz_R6 H8 := fz_R6_eq (funext fun s => hf13 6 s rfl) (funext fun s => hf13 56 s rfl) hR6
  have hRG34 : fz_RG H8 := fz_RG_eq (hf13 27 8 rfl) (hf13 27 9 rfl) (hf13 53 8 rfl) (hf13 53 9 rfl) hRG
  have hRJ35 : fz_RJ H8 := fz_RJ_eq (hf13 40 1 rfl) (hf13 53 34 rfl) (funext fun s => hf13 41 s rfl) (funext fun s => hf13 76 s rfl) (hf13 40 6 rfl) (hf13 53 37 rfl) (funext fun s => hf13 42 s rfl) (funext fun s => hf13 78 s rfl) (hf13 43 0 rfl) (hf13 53 38 rfl) hRJ
  have hX36 : fz_Xc H8 := fz_Xc_fr hf13 rfl hX
  have t37 : H8 53 10 = h 53 10 := hf13 53 10 rfl
  have t38 : H8 53 41 = h 53 41 := hf13 53 41 rfl
  have t39 : H8 53 42 = h 53 42 := hf13 53 42 rfl
  have t40 : H8 53 10 = h 53 10 := hf13 53 10 rfl
  have t41 : H8 44 2 = h 44 2 := hf13 44 2 rfl
  have t42 : H8 53 44 = h 53 44 := hf13 53 44 rfl
  have t43 : H8 20 2 = h 20 2 := hf13 20 2 rfl
  have t44 : H8 53 16 = h 53 16 := hf13 53 16 rfl
  have t45 : H8 1 7 = h 1 7 := hf13 1 7 rfl
  have t46 : H8 53 0 = h 53 0 := hf13 53 0 rfl
  have t47 : H8 1 8 = h 1 8 := hf13 1 8 rfl
  have t48 : H8 53 2 = h 53 2 := hf13 53 2 rfl
  refine fz_pop rfl kLc3 rfl ?_
  refine fz_aload_n kLc3 rfl rfl ?_
  refine fz_aload_n kLc3 rfl rfl ?_
  refine fz_iload_n kLc3 rfl rfl ?_
  refine fz_iconst ⟨by decide, by decide⟩ kLc3 rfl ?_
  refine fz_iaddN kLc3 rfl (by omega) ?_
  refine fz_taldV (v := a1) kLc3 rfl ⟨by decide, by decide⟩ (by omega) (by rw [hf18 200 _ rfl]; omega) ((hf18 200 _ rfl).trans e2) ?_
  refine fz_aload_n kLc3 rfl rfl ?_
  refine fz_iload_n kLc3 rfl rfl ?_
  refine fz_iconst ⟨by decide, by decide⟩ kLc3 rfl ?_
  refine fz_iaddN kLc3 rfl (by omega) ?_
  refine fz_taldV (v := a3) kLc3 rfl ⟨by decide, by decide⟩ (by omega) (by rw [hf18 200 _ rfl]; omega) ((hf18 200 _ rfl).trans e4) ?_
  refine fz_aload_n kLc3 rfl rfl ?_
  refine fz_iload_n kLc3 rfl rfl ?_
  refine fz_iconst ⟨by decide, by decide⟩ kLc3 rfl ?_
  refine fz_iaddN kLc3 rfl (by omega) ?_
  refine fz_taldV (v := a5) kLc3 rfl ⟨by decide, by decide⟩ (by omega) (by rw [hf18 200 _ rfl]; omega) ((hf18 200 _ rfl).trans e6) ?_
  have b49 : 0 ≤ H8 53 10 ∧ H8 53 10 ≤ 11 := hI12.1 53 _
  refine fz_callV (d' := 2) (M' := mX11_deeds) (As := [fz_i a1, fz_i a3, fz_i a5]) (st := []) kLc3 rfl rfl vX11_deeds rfl rfl rfl rfl (Nat.le_of_ble_eq_true rfl) (Nat.le_of_ble_eq_true rfl) (by decide) (sX11_deeds H8 hI12 a1 a3 a5 (by omega)) (fun H50 r51 q52 o53 => ?_)
  obtain ⟨hI54, hf55, y60, rfl, f56, f57, f58, f59⟩ := q52
  clear o53
  have hf61 := fz_fr_tr hf18 hf55 (fz_su_all rfl)
  have hXd62 : fz_Xd H50 := fz_Xd_eq (funext fun s => hf55 80 s rfl) hXd19
  have hXh63 : fz_Xh H50 := fz_Xh_eq (funext fun s => hf55 83 s rfl) hXh20
  have hXw64 : fz_Xw H50 := fz_Xw_eq (hf55 53 19 rfl) (funext fun s => hf55 66 s rfl) (funext fun s => hf55 67 s rfl) (funext fun s => hf55 68 s rfl) (funext fun s => hf55 69 s rfl) hXw21
  have hRS65 : fz_RS H50 := fz_RS_eq (funext fun s => hf55 48 s rfl) (funext fun s => hf55 49 s rfl) (funext fun s => hf55 50 s rfl) (funext fun s => hf55 51 s rfl) (funext fun s => hf55 83 s rfl) (funext fun s => hf55 84 s rfl) (hf55 44 2 rfl) hRS22
  have hRP66 : fz_RP H50 := fz_RP_eq (funext fun s => hf55 52 s rfl) (funext fun s => hf55 85 s rfl) hRP23
  have hRK67 : fz_RK H50 := fz_RK_eq (funext fun s => hf55 45 s rfl) (funext fun s => hf55 81 s rfl) hRK24
  have hRR68 : fz_RR H50 := fz_RR_eq (hf55 44 3 rfl) (hf55 53 46 rfl) (funext fun s => hf55 46 s rfl) (funext fun s => hf55 82 s rfl) hRR25
  have hRT69 : fz_RT H50 := fz_RT_eq (funext fun s => hf55 41 s rfl) (funext fun s => hf55 42 s rfl) (hf55 1 7 rfl) hRT26
  have hRE70 : fz_RE H50 := fz_RE_eq (funext fun s => hf55 5 s rfl) (funext fun s => hf55 6 s rfl) (hf55 1 8 rfl) (hf55 1 7 rfl) hRE27
  have hR271 : fz_R2 H50 := fz_R2_eq (funext fun s => hf55 2 s rfl) (funext fun s => hf55 54 s rfl) hR228
  have hR372 : fz_R3 H50 := fz_R3_eq (funext fun s => hf55 3 s rfl) (funext fun s => hf55 57 s rfl) hR329
  have hR473 : fz_R4 H50 := fz_R4_eq (funext fun s => hf55 4 s rfl) (funext fun s => hf55 58 s rfl) hR430
  have hR2874 : fz_R28 H50 := fz_R28_eq (funext fun s => hf55 28 s rfl) (funext fun s => hf55 59 s rfl) hR2831
  have hR575 : fz_R5 H50 := fz_R5_eq (funext fun s => hf55 5 s rfl) (funext fun s => hf55 55 s rfl) hR532
  have hR676 : fz_R6 H50 := fz_R6_eq (funext fun s => hf55 6 s rfl) (funext fun s => hf55 56 s rfl) hR633
  have hRG77 : fz_RG H50 := fz_RG_eq (hf55 27 8 rfl) (hf55 27 9 rfl) (hf55 53 8 rfl) (hf55 53 9 rfl) hRG34
  have hRJ78 : fz_RJ H50 := fz_RJ_eq (hf55 40 1 rfl) (hf55 53 34 rfl) (funext fun s => hf55 41 s rfl) (funext fun s => hf55 76 s rfl) (hf55 40 6 rfl) (hf55 53 37 rfl) (funext fun s => hf55 42 s rfl) (funext fun s => hf55 78 s rfl) (hf55 43 0 rfl) (hf55 53 38 rfl) hRJ35
  have hX79 : fz_Xc H50 := fz_Xc_fr hf55 rfl hX36
  have t80 : H50 53 41 = H8 53 41 := hf55 53 41 rfl
  have t81 : H50 53 42 = H8 53 42 := hf55 53 42 rfl
  have t82 : H50 9 5 = H8 9 5 := hf55 9 5 rfl
  have t83 : H50 44 2 = H8 44 2 := hf55 44 2 rfl
  have t84 : H50 53 44 = H8 53 44 := hf55 53 44 rfl
  have t85 : H50 20 2 = H8 20 2 := hf55 20 2 rfl
  have t86 : H50 53 16 = H8 53 16 := hf55 53 16 rfl
  have t87 : H50 1 7 = H8 1 7 := hf55 1 7 rfl
  have t88 : H50 53 0 = H8 53 0 := hf55 53 0 rfl
  have t89 : H50 1 8 = H8 1 8 := hf55 1 8 rfl
  have t90 : H50 53 2 = H8 53 2 := hf55 53 2 rfl
  refine fz_pop rfl kLc3 rfl ?_
  refine fz_goto (tgt := 1816) kLc3 rfl (by decide) ?_
  have k91 := fz_q_eq hRS hRP f15 f58 (by omega) (by omega) (funext fun s => hf13 83 s rfl) (funext fun s => hf13 84 s rfl) (funext fun s => hf13 85 s rfl)
  have k92 := fz_qC_le f15
  have hRL93 : fz_RL H50 := fz_RL_ap hRL f16 f59 (by omega) ⟨(funext fun s => hf13 61 s rfl), (funext fun s => hf13 62 s rfl), (funext fun s => hf13 63 s rfl), (funext fun s => hf13 64 s rfl)⟩ ⟨(funext fun s => hf55 11 s rfl), (funext fun s => hf55 12 s rfl), (funext fun s => hf55 13 s rfl), (funext fun s => hf55 14 s rfl)⟩ (by omega) (by omega) (show 0 ≤ h 9 5 from (hI.1 9 _).1) (fun _ _ _ => fz_row5_eq (show h 52 = H8 85 from Eq.trans hRP (funext fun s => hf13 85 s rfl).symm))
  have hRW95 : fz_RW H50 := fz_RW_ap hRW f16 f59 (by omega) (funext fun s => hf13 60 s rfl) (funext fun s => hf55 10 s rfl) (by omega) (by omega) (show 0 ≤ h 9 5 from (hI.1 9 _).1) (fun _ _ _ => fz_row5_eq (show h 52 = H8 85 from Eq.trans hRP (funext fun s => hf13 85 s rfl).symm))
  have hRC97 : fz_RC H50 := fz_RC_t ((hf55 35 4 rfl).trans (hf13 35 4 rfl)) ((hf55 35 5 rfl).trans (hf13 35 5 rfl)) ((hf55 53 41 rfl).trans (hf13 53 41 rfl)) ((hf55 53 42 rfl).trans (hf13 53 42 rfl)) (funext fun s => (hf55 36 s rfl).trans (hf13 36 s rfl)) (funext fun s => (hf55 37 s rfl).trans (hf13 37 s rfl)) (funext fun s => (hf55 38 s rfl).trans (hf13 38 s rfl)) (funext fun s => (hf55 39 s rfl).trans (hf13 39 s rfl)) (funext fun s => (hf55 80 s rfl).trans (hf13 80 s rfl)) (by omega) (by omega) (by omega) hRC
  exact K H50 ⟨hI54, hX79, hXd62, hXh63, hXw64, by omega, (by rw [((hf55 53 42 rfl).trans (hf13 53 42 rfl)), ((hf55 53 41 rfl).trans (hf13 53 41 rfl))]; exact hv2), by omega, (((hf55 44 2 rfl).trans (hf13 44 2 rfl)).trans (hr1.trans ((hf55 53 44 rfl).trans (hf13 53 44 rfl)).symm)), (((hf55 20 2 rfl).trans (hf13 20 2 rfl)).trans (hr2.trans ((hf55 53 16 rfl).trans (hf13 53 16 rfl)).symm)), (((hf55 1 7 rfl).trans (hf13 1 7 rfl)).trans (hr3.trans ((hf55 53 0 rfl).trans (hf13 53 0 rfl)).symm)), (((hf55 1 8 rfl).trans (hf13 1 8 rfl)).trans (hr4.trans ((hf55 53 2 rfl).trans (hf13 53 2 rfl)).symm)), hRS65, hRP66, hRK67, hRR68, hRT69, hRE70, hR271, hR372, hR473, hR2874, hR575, hR676, hRG77, hRL93, hRC97, hRJ78, hRW95⟩ (funext fun s => hf61 200 s rfl)
def mLc4 : fz_M := (yL_law, code, 4, (some .boolean), [(366, .aload_n 1, 1, 0, 0, 0), (367, .aload_n 0, 1, 0, 0, 0), (368, .iload_n 3, 1, 0, 0, 0), (369, .iconst 1, 1, 0, 0, 0), (370, .iadd, 1, 0, 0, 0), (371, .iaload, 1, 0, 0, 0), (372, .aload_n 0, 1, 0, 0, 0), (373, .iload_n 3, 1, 0, 0, 0), (374, .iconst 2, 1, 0, 0, 0), (375, .iadd, 1, 0, 0, 0), (376, .iaload, 1, 0, 0, 0), (377, .aload_n 0, 1, 0, 0, 0), (378, .iload_n 3, 1, 0, 0, 0), (379, .iconst 3, 1, 0, 0, 0), (380, .iadd, 1, 0, 0, 0), (381, .iaload, 1, 0, 0, 0), (382, .invokevirtual 32, 3, 3013, 56, 0), (385, .pop, 1, 0, 0, 0), (386, .aload_n 2, 1, 0, 0, 0), (387, .aload_n 0, 1, 0, 0, 0), (388, .iload_n 3, 1, 0, 0, 0), (389, .iconst 1, 1, 0, 0, 0), (390, .iadd, 1, 0, 0, 0), (391, .iaload, 1, 0, 0, 0), (392, .aload_n 0, 1, 0, 0, 0), (393, .iload_n 3, 1, 0, 0, 0), (394, .iconst 2, 1, 0, 0, 0), (395, .iadd, 1, 0, 0, 0), (396, .iaload, 1, 0, 0, 0), (397, .aload_n 0, 1, 0, 0, 0), (398, .iload_n 3, 1, 0, 0, 0), (399, .iconst 3, 1, 0, 0, 0), (400, .iadd, 1, 0, 0, 0), (401, .iaload, 1, 0, 0, 0), (402, .invokevirtual 35, 3, 6077, 152, 0), (405, .pop, 1, 0, 0, 0), (406, .goto 1410, 3, 0, 0, 0)])
set_option maxRecDepth 100000 in
theorem kLc4 : fz_okM mLc4 = true := fz_okM_in (by decide +kernel) (by decide +kernel)
set_option maxHeartbeats 1000000 in
set_option maxRecDepth 100000 in
theorem lc4 (h : fz_H) (hI : fz_Iv h) (hX : fz_Xc h) (hXd : fz_Xd h) (hXh : fz_Xh h) (hXw : fz_Xw h) (hv1 : h 53 10 ≤ 10) (hv2 : h 53 42 ≤ h 53 41) (hr0 : h 9 5 = h 53 10) (hr1 : h 44 2 = h 53 44) (hr2 : h 20 2 = h 53 16) (hr3 : h 1 7 = h 53 0) (hr4 : h 1 8 = h 53 2) (hRS : fz_RS h) (hRP : fz_RP h) (hRK : fz_RK h) (hRR : fz_RR h) (hRT : fz_RT h) (hRE : fz_RE h) (hR2 : fz_R2 h) (hR3 : fz_R3 h) (hR4 : fz_R4 h) (hR28 : fz_R28 h) (hR5 : fz_R5 h) (hR6 : fz_R6 h) (hRG : fz_RG h) (hRL : fz_RL h) (hRC : fz_RC h) (hRJ : fz_RJ h) (hRW : fz_RW h) (i : Int) (hi : 0 ≤ i ∧ i + 6 ≤ h 200 100000 ∧ h 200 100000 ≤ 3072) {Q : fz_H → Option fz_V → Prop} (K : ∀ H : fz_H, fz_Gd H → H 200 = h 200 → fz_R 47 mLe 1816 [(3, fz_i i), (0, fz_r 200), (1, fz_r 0), (2, fz_r 53)] [] H Q) : fz_R 47 mLc4 366 [(3, fz_i i), (0, fz_r 200), (1, fz_r 0), (2, fz_r 53)] [] h Q := by
  have hf : fz_fr fz_all h h := fz_fr_rf
  refine fz_aload_n kLc4 rfl rfl ?_
  refine fz_aload_n kLc4 rfl rfl ?_
  refine fz_iload_n kLc4 rfl rfl ?_
  refine fz_iconst ⟨by decide, by decide⟩ kLc4 rfl ?_
  refine fz_iaddN kLc4 rfl (by omega) ?_
  obtain ⟨a1, e2⟩ : ∃ z, h 200 ((i + 1)).toNat = z := ⟨_, rfl⟩
  refine fz_taldV (v := a1) kLc4 rfl ⟨by decide, by decide⟩ (by omega) (by omega) e2 ?_
  refine fz_aload_n kLc4 rfl rfl ?_
  refine fz_iload_n kLc4 rfl rfl ?_
  refine fz_iconst ⟨by decide, by decide⟩ kLc4 rfl ?_
  refine fz_iaddN kLc4 rfl (by omega) ?_
  obtain ⟨a3, e4⟩ : ∃ z, h 200 ((i + 2)).toNat = z := ⟨_, rfl⟩
  refine fz_taldV (v := a3) kLc4 rfl ⟨by decide, by decide⟩ (by omega) (by omega) e4 ?_
  refine fz_aload_n kLc4 rfl rfl ?_
  refine fz_iload_n kLc4 rfl rfl ?_
  refine fz_iconst ⟨by decide, by decide⟩ kLc4 rfl ?_
  refine fz_iaddN kLc4 rfl (by omega) ?_
  obtain ⟨a5, e6⟩ : ∃ z, h 200 ((i + 3)).toNat = z := ⟨_, rfl⟩
  refine fz_taldV (v := a5) kLc4 rfl ⟨by decide, by decide⟩ (by omega) (by omega) e6 ?_
  refine fz_callV (d' := 4) (M' := mX10_mend) (As := [fz_i a1, fz_i a3, fz_i a5]) (st := []) kLc4 rfl rfl vX10_mend rfl rfl rfl rfl (Nat.le_of_ble_eq_true rfl) (Nat.le_of_ble_eq_true rfl) (by decide) (sX10_mend h hI a1 a3 a5 (hX)) (fun H7 r8 q9 o10 => ?_)
  obtain ⟨hI11, hf12, hX13, y16, rfl, f14, f15⟩ := q9
  clear o10
  have hf17 := fz_fr_tr hf hf12 (fz_su_all rfl)
  have hXd18 : fz_Xd H7 := fz_Xd_eq (funext fun s => hf12 80 s rfl) hXd
  have hXh19 : fz_Xh H7 := fz_Xh_eq (funext fun s => hf12 83 s rfl) hXh
  have hXw20 : fz_Xw H7 := fz_Xw_eq (hf12 53 19 rfl) (funext fun s => hf12 66 s rfl) (funext fun s => hf12 67 s rfl) (funext fun s => hf12 68 s rfl) (funext fun s => hf12 69 s rfl) hXw
  have hRS21 : fz_RS H7 := fz_RS_eq (funext fun s => hf12 48 s rfl) (funext fun s => hf12 49 s rfl) (funext fun s => hf12 50 s rfl) (funext fun s => hf12 51 s rfl) (funext fun s => hf12 83 s rfl) (funext fun s => hf12 84 s rfl) (hf12 44 2 rfl) hRS
  have hRP22 : fz_RP H7 := fz_RP_eq (funext fun s => hf12 52 s rfl) (funext fun s => hf12 85 s rfl) hRP
  have hRK23 : fz_RK H7 := fz_RK_eq (funext fun s => hf12 45 s rfl) (funext fun s => hf12 81 s rfl) hRK
  have hRR24 : fz_RR H7 := fz_RR_eq (hf12 44 3 rfl) (hf12 53 46 rfl) (funext fun s => hf12 46 s rfl) (funext fun s => hf12 82 s rfl) hRR
  have hRT25 : fz_RT H7 := fz_RT_eq (funext fun s => hf12 41 s rfl) (funext fun s => hf12 42 s rfl) (hf12 1 7 rfl) hRT
  have hRE26 : fz_RE H7 := fz_RE_eq (funext fun s => hf12 5 s rfl) (funext fun s => hf12 6 s rfl) (hf12 1 8 rfl) (hf12 1 7 rfl) hRE
  have hR527 : fz_R5 H7 := fz_R5_eq (funext fun s => hf12 5 s rfl) (funext fun s => hf12 55 s rfl) hR5
  have hR628 : fz_R6 H7 := fz_R6_eq (funext fun s => hf12 6 s rfl) (funext fun s => hf12 56 s rfl) hR6
  have hRJ29 : fz_RJ H7 := fz_RJ_eq (hf12 40 1 rfl) (hf12 53 34 rfl) (funext fun s => hf12 41 s rfl) (funext fun s => hf12 76 s rfl) (hf12 40 6 rfl) (hf12 53 37 rfl) (funext fun s => hf12 42 s rfl) (funext fun s => hf12 78 s rfl) (hf12 43 0 rfl) (hf12 53 38 rfl) hRJ
  have hRW30 : fz_RW H7 := fz_RW_eq (funext fun s => hf12 10 s rfl) (funext fun s => hf12 60 s rfl) (hf12 9 5 rfl) hRW
  have t31 : H7 53 10 = h 53 10 := hf12 53 10 rfl
  have t32 : H7 53 41 = h 53 41 := hf12 53 41 rfl
  have t33 : H7 53 42 = h 53 42 := hf12 53 42 rfl
  have t34 : H7 9 5 = h 9 5 := hf12 9 5 rfl
  have t35 : H7 53 10 = h 53 10 := hf12 53 10 rfl
  have t36 : H7 44 2 = h 44 2 := hf12 44 2 rfl
  have t37 : H7 53 44 = h 53 44 := hf12 53 44 rfl
  have t38 : H7 20 2 = h 20 2 := hf12 20 2 rfl
  have t39 : H7 53 16 = h 53 16 := hf12 53 16 rfl
  have t40 : H7 1 7 = h 1 7 := hf12 1 7 rfl
  have t41 : H7 53 0 = h 53 0 := hf12 53 0 rfl
  have t42 : H7 1 8 = h 1 8 := hf12 1 8 rfl
  have t43 : H7 53 2 = h 53 2 := hf12 53 2 rfl
  refine fz_pop rfl kLc4 rfl ?_
  refine fz_aload_n kLc4 rfl rfl ?_
  refine fz_aload_n kLc4 rfl rfl ?_
  refine fz_iload_n kLc4 rfl rfl ?_
  refine fz_iconst ⟨by decide, by decide⟩ kLc4 rfl ?_
  refine fz_iaddN kLc4 rfl (by omega) ?_
  refine fz_taldV (v := a1) kLc4 rfl ⟨by decide, by decide⟩ (by omega) (by rw [hf17 200 _ rfl]; omega) ((hf17 200 _ rfl).trans e2) ?_
  refine fz_aload_n kLc4 rfl rfl ?_
  refine fz_iload_n kLc4 rfl rfl ?_
  refine fz_iconst ⟨by decide, by decide⟩ kLc4 rfl ?_
  refine fz_iaddN kLc4 rfl (by omega) ?_
  refine fz_taldV (v := a3) kLc4 rfl ⟨by decide, by decide⟩ (by omega) (by rw [hf17 200 _ rfl]; omega) ((hf17 200 _ rfl).trans e4) ?_
  refine fz_aload_n kLc4 rfl rfl ?_
  refine fz_iload_n kLc4 rfl rfl ?_
  refine fz_iconst ⟨by decide, by decide⟩ kLc4 rfl ?_
  refine fz_iaddN kLc4 rfl (by omega) ?_
  refine fz_taldV (v := a5) kLc4 rfl ⟨by decide, by decide⟩ (by omega) (by rw [hf17 200 _ rfl]; omega) ((hf17 200 _ rfl).trans e6) ?_
  have b44 : 0 ≤ H7 53 42 ∧ H7 53 42 ≤ 40 := hI11.1 53 _
  have b45 : 0 ≤ H7 53 41 ∧ H7 53 41 ≤ 40 := hI11.1 53 _
  refine fz_callV (d' := 3) (M' := mX11_mend) (As := [fz_i a1, fz_i a3, fz_i a5]) (st := []) kLc4 rfl rfl vX11_mend rfl rfl rfl rfl (Nat.le_of_ble_eq_true rfl) (Nat.le_of_ble_eq_true rfl) (by decide) (sX11_mend H7 hI11 a1 a3 a5 hXd18 (by omega)) (fun H46 r47 q48 o49 => ?_)
  obtain ⟨hI50, hf51, hXd52, y56, rfl, f53, f54, f55⟩ := q48
  clear o49
  have hf57 := fz_fr_tr hf17 hf51 (fz_su_all rfl)
  have hXh58 : fz_Xh H46 := fz_Xh_eq (funext fun s => hf51 83 s rfl) hXh19
  have hXw59 : fz_Xw H46 := fz_Xw_eq (hf51 53 19 rfl) (funext fun s => hf51 66 s rfl) (funext fun s => hf51 67 s rfl) (funext fun s => hf51 68 s rfl) (funext fun s => hf51 69 s rfl) hXw20
  have hRS60 : fz_RS H46 := fz_RS_eq (funext fun s => hf51 48 s rfl) (funext fun s => hf51 49 s rfl) (funext fun s => hf51 50 s rfl) (funext fun s => hf51 51 s rfl) (funext fun s => hf51 83 s rfl) (funext fun s => hf51 84 s rfl) (hf51 44 2 rfl) hRS21
  have hRP61 : fz_RP H46 := fz_RP_eq (funext fun s => hf51 52 s rfl) (funext fun s => hf51 85 s rfl) hRP22
  have hRK62 : fz_RK H46 := fz_RK_eq (funext fun s => hf51 45 s rfl) (funext fun s => hf51 81 s rfl) hRK23
  have hRR63 : fz_RR H46 := fz_RR_eq (hf51 44 3 rfl) (hf51 53 46 rfl) (funext fun s => hf51 46 s rfl) (funext fun s => hf51 82 s rfl) hRR24
  have hRT64 : fz_RT H46 := fz_RT_eq (funext fun s => hf51 41 s rfl) (funext fun s => hf51 42 s rfl) (hf51 1 7 rfl) hRT25
  have hRE65 : fz_RE H46 := fz_RE_eq (funext fun s => hf51 5 s rfl) (funext fun s => hf51 6 s rfl) (hf51 1 8 rfl) (hf51 1 7 rfl) hRE26
  have hR566 : fz_R5 H46 := fz_R5_eq (funext fun s => hf51 5 s rfl) (funext fun s => hf51 55 s rfl) hR527
  have hR667 : fz_R6 H46 := fz_R6_eq (funext fun s => hf51 6 s rfl) (funext fun s => hf51 56 s rfl) hR628
  have hRJ68 : fz_RJ H46 := fz_RJ_eq (hf51 40 1 rfl) (hf51 53 34 rfl) (funext fun s => hf51 41 s rfl) (funext fun s => hf51 76 s rfl) (hf51 40 6 rfl) (hf51 53 37 rfl) (funext fun s => hf51 42 s rfl) (funext fun s => hf51 78 s rfl) (hf51 43 0 rfl) (hf51 53 38 rfl) hRJ29
  have hRW69 : fz_RW H46 := fz_RW_eq (funext fun s => hf51 10 s rfl) (funext fun s => hf51 60 s rfl) (hf51 9 5 rfl) hRW30
  have hX70 : fz_Xc H46 := fz_Xc_fr hf51 rfl hX13
  have t71 : H46 53 10 = H7 53 10 := hf51 53 10 rfl
  have t72 : H46 9 5 = H7 9 5 := hf51 9 5 rfl
  have t73 : H46 53 10 = H7 53 10 := hf51 53 10 rfl
  have t74 : H46 44 2 = H7 44 2 := hf51 44 2 rfl
  have t75 : H46 53 44 = H7 53 44 := hf51 53 44 rfl
  have t76 : H46 20 2 = H7 20 2 := hf51 20 2 rfl
  have t77 : H46 53 16 = H7 53 16 := hf51 53 16 rfl
  have t78 : H46 1 7 = H7 1 7 := hf51 1 7 rfl
  have t79 : H46 53 0 = H7 53 0 := hf51 53 0 rfl
  have t80 : H46 1 8 = H7 1 8 := hf51 1 8 rfl
  have t81 : H46 53 2 = H7 53 2 := hf51 53 2 rfl
  refine fz_pop rfl kLc4 rfl ?_
  refine fz_goto (tgt := 1816) kLc4 rfl (by decide) ?_
  have k82 := fz_mend_rel hI hRC hR2 hR3 hR4 hR28 hRG hRL hr3 hr4 hr0 (hI.1 53 _).2 (hI.1 53 _).2 hv1 f15 f55 (fz_fr_lo hf12 rfl)
  have hR284 : fz_R2 H46 := k82.2.1
  have hR386 : fz_R3 H46 := k82.2.2.1
  have hR488 : fz_R4 H46 := k82.2.2.2.1
  have hR2890 : fz_R28 H46 := k82.2.2.2.2.1
  have hRG92 : fz_RG H46 := k82.2.2.2.2.2.1
  have hRL94 : fz_RL H46 := k82.2.2.2.2.2.2.1
  have hRC96 : fz_RC H46 := k82.2.2.2.2.2.2.2
  exact K H46 ⟨hI50, hX70, hXd52, hXh58, hXw59, (by rw [((hf51 53 10 rfl).trans (hf12 53 10 rfl))]; exact hv1), by omega, (((hf51 9 5 rfl).trans (hf12 9 5 rfl)).trans (hr0.trans ((hf51 53 10 rfl).trans (hf12 53 10 rfl)).symm)), (((hf51 44 2 rfl).trans (hf12 44 2 rfl)).trans (hr1.trans ((hf51 53 44 rfl).trans (hf12 53 44 rfl)).symm)), (((hf51 20 2 rfl).trans (hf12 20 2 rfl)).trans (hr2.trans ((hf51 53 16 rfl).trans (hf12 53 16 rfl)).symm)), (((hf51 1 7 rfl).trans (hf12 1 7 rfl)).trans (hr3.trans ((hf51 53 0 rfl).trans (hf12 53 0 rfl)).symm)), (((hf51 1 8 rfl).trans (hf12 1 8 rfl)).trans (hr4.trans ((hf51 53 2 rfl).trans (hf12 53 2 rfl)).symm)), hRS60, hRP61, hRK62, hRR63, hRT64, hRE65, hR284, hR386, hR488, hR2890, hR566, hR667, hRG92, hRL94, hRC96, hRJ68, hRW69⟩ (funext fun s => hf57 200 s rfl)
def mLc5 : fz_M := (yL_law, code, 4, (some .boolean), [(409, .aload_n 1, 1, 0, 0, 0), (410, .aload_n 0, 1, 0, 0, 0), (411, .iload_n 3, 1, 0, 0, 0), (412, .iconst 1, 1, 0, 0, 0), (413, .iadd, 1, 0, 0, 0), (414, .iaload, 1, 0, 0, 0), (415, .aload_n 0, 1, 0, 0, 0), (416, .iload_n 3, 1, 0, 0, 0), (417, .iconst 2, 1, 0, 0, 0), (418, .iadd, 1, 0, 0, 0), (419, .iaload, 1, 0, 0, 0), (420, .invokevirtual 36, 3, 3054, 61, 0), (423, .pop, 1, 0, 0, 0), (424, .aload_n 2, 1, 0, 0, 0), (425, .aload_n 0, 1, 0, 0, 0), (426, .iload_n 3, 1, 0, 0, 0), (427, .iconst 1, 1, 0, 0, 0), (428, .iadd, 1, 0, 0, 0), (429, .iaload, 1, 0, 0, 0), (430, .aload_n 0, 1, 0, 0, 0), (431, .iload_n 3, 1, 0, 0, 0), (432, .iconst 2, 1, 0, 0, 0), (433, .iadd, 1, 0, 0, 0), (434, .iaload, 1, 0, 0, 0), (435, .invokevirtual 39, 3, 6105, 160, 0), (438, .pop, 1, 0, 0, 0), (439, .goto 1377, 3, 0, 0, 0)])
set_option maxRecDepth 100000 in
theorem kLc5 : fz_okM mLc5 = true := fz_okM_in (by decide +kernel) (by decide +kernel)
set_option maxHeartbeats 1000000 in
set_option maxRecDepth 100000 in
theorem lc5 (h : fz_H) (hI : fz_Iv h) (hX : fz_Xc h) (hXd : fz_Xd h) (hXh : fz_Xh h) (hXw : fz_Xw h) (hv1 : h 53 10 ≤ 10) (hv2 : h 53 42 ≤ h 53 41) (hr0 : h 9 5 = h 53 10) (hr1 : h 44 2 = h 53 44) (hr2 : h 20 2 = h 53 16) (hr3 : h 1 7 = h 53 0) (hr4 : h 1 8 = h 53 2) (hRS : fz_RS h) (hRP : fz_RP h) (hRK : fz_RK h) (hRR : fz_RR h) (hRT : fz_RT h) (hRE : fz_RE h) (hR2 : fz_R2 h) (hR3 : fz_R3 h) (hR4 : fz_R4 h) (hR28 : fz_R28 h) (hR5 : fz_R5 h) (hR6 : fz_R6 h) (hRG : fz_RG h) (hRL : fz_RL h) (hRC : fz_RC h) (hRJ : fz_RJ h) (hRW : fz_RW h) (i : Int) (hi : 0 ≤ i ∧ i + 6 ≤ h 200 100000 ∧ h 200 100000 ≤ 3072) {Q : fz_H → Option fz_V → Prop} (K : ∀ H : fz_H, fz_Gd H → H 200 = h 200 → fz_R 47 mLe 1816 [(3, fz_i i), (0, fz_r 200), (1, fz_r 0), (2, fz_r 53)] [] H Q) : fz_R 47 mLc5 409 [(3, fz_i i), (0, fz_r 200), (1, fz_r 0), (2, fz_r 53)] [] h Q := by
  have hf : fz_fr fz_all h h := fz_fr_rf
  refine fz_aload_n kLc5 rfl rfl ?_
  refine fz_aload_n kLc5 rfl rfl ?_
  refine fz_iload_n kLc5 rfl rfl ?_
  refine fz_iconst ⟨by decide, by decide⟩ kLc5 rfl ?_
  refine fz_iaddN kLc5 rfl (by omega) ?_
  obtain ⟨a1, e2⟩ : ∃ z, h 200 ((i + 1)).toNat = z := ⟨_, rfl⟩
  refine fz_taldV (v := a1) kLc5 rfl ⟨by decide, by decide⟩ (by omega) (by omega) e2 ?_
  refine fz_aload_n kLc5 rfl rfl ?_
  refine fz_iload_n kLc5 rfl rfl ?_
  refine fz_iconst ⟨by decide, by decide⟩ kLc5 rfl ?_
  refine fz_iaddN kLc5 rfl (by omega) ?_
  obtain ⟨a3, e4⟩ : ∃ z, h 200 ((i + 2)).toNat = z := ⟨_, rfl⟩
  refine fz_taldV (v := a3) kLc5 rfl ⟨by decide, by decide⟩ (by omega) (by omega) e4 ?_
  refine fz_callV (d' := 3) (M' := mX10_of) (As := [fz_i a1, fz_i a3]) (st := []) kLc5 rfl rfl vX10_of rfl rfl rfl rfl (Nat.le_of_ble_eq_true rfl) (Nat.le_of_ble_eq_true rfl) (by decide) (sX10_of h hI a1 a3 ) (fun H5 r6 q7 o8 => ?_)
  obtain ⟨e9, y12, rfl, f10, f11⟩ := q7
  subst H5
  clear o8
  refine fz_pop rfl kLc5 rfl ?_
  refine fz_aload_n kLc5 rfl rfl ?_
  refine fz_aload_n kLc5 rfl rfl ?_
  refine fz_iload_n kLc5 rfl rfl ?_
  refine fz_iconst ⟨by decide, by decide⟩ kLc5 rfl ?_
  refine fz_iaddN kLc5 rfl (by omega) ?_
  refine fz_taldV (v := a1) kLc5 rfl ⟨by decide, by decide⟩ (by omega) (by omega) e2 ?_
  refine fz_aload_n kLc5 rfl rfl ?_
  refine fz_iload_n kLc5 rfl rfl ?_
  refine fz_iconst ⟨by decide, by decide⟩ kLc5 rfl ?_
  refine fz_iaddN kLc5 rfl (by omega) ?_
  refine fz_taldV (v := a3) kLc5 rfl ⟨by decide, by decide⟩ (by omega) (by omega) e4 ?_
  refine fz_callV (d' := 3) (M' := mX11_of) (As := [fz_i a1, fz_i a3]) (st := []) kLc5 rfl rfl vX11_of rfl rfl rfl rfl (Nat.le_of_ble_eq_true rfl) (Nat.le_of_ble_eq_true rfl) (by decide) (sX11_of h hI a1 a3 ) (fun H13 r14 q15 o16 => ?_)
  obtain ⟨e17, y20, rfl, f18, f19⟩ := q15
  subst H13
  clear o16
  refine fz_pop rfl kLc5 rfl ?_
  refine fz_goto (tgt := 1816) kLc5 rfl (by decide) ?_
  exact K h ⟨hI, hX, hXd, hXh, hXw, hv1, hv2, hr0, hr1, hr2, hr3, hr4, hRS, hRP, hRK, hRR, hRT, hRE, hR2, hR3, hR4, hR28, hR5, hR6, hRG, hRL, hRC, hRJ, hRW⟩ rfl
def mLc6 : fz_M := (yL_law, code, 4, (some .boolean), [(442, .aload_n 1, 1, 0, 0, 0), (443, .aload_n 0, 1, 0, 0, 0), (444, .iload_n 3, 1, 0, 0, 0), (445, .iconst 1, 1, 0, 0, 0), (446, .iadd, 1, 0, 0, 0), (447, .iaload, 1, 0, 0, 0), (448, .invokevirtual 40, 3, 3058, 31, 0), (451, .pop, 1, 0, 0, 0), (452, .aload_n 2, 1, 0, 0, 0), (453, .aload_n 0, 1, 0, 0, 0), (454, .iload_n 3, 1, 0, 0, 0), (455, .iconst 1, 1, 0, 0, 0), (456, .iadd, 1, 0, 0, 0), (457, .iaload, 1, 0, 0, 0), (458, .invokevirtual 43, 3, 6117, 100, 0), (461, .pop, 1, 0, 0, 0), (462, .goto 1354, 3, 0, 0, 0)])
set_option maxRecDepth 100000 in
theorem kLc6 : fz_okM mLc6 = true := fz_okM_in (by decide +kernel) (by decide +kernel)
set_option maxHeartbeats 1000000 in
set_option maxRecDepth 100000 in
theorem lc6 (h : fz_H) (hI : fz_Iv h) (hX : fz_Xc h) (hXd : fz_Xd h) (hXh : fz_Xh h) (hXw : fz_Xw h) (hv1 : h 53 10 ≤ 10) (hv2 : h 53 42 ≤ h 53 41) (hr0 : h 9 5 = h 53 10) (hr1 : h 44 2 = h 53 44) (hr2 : h 20 2 = h 53 16) (hr3 : h 1 7 = h 53 0) (hr4 : h 1 8 = h 53 2) (hRS : fz_RS h) (hRP : fz_RP h) (hRK : fz_RK h) (hRR : fz_RR h) (hRT : fz_RT h) (hRE : fz_RE h) (hR2 : fz_R2 h) (hR3 : fz_R3 h) (hR4 : fz_R4 h) (hR28 : fz_R28 h) (hR5 : fz_R5 h) (hR6 : fz_R6 h) (hRG : fz_RG h) (hRL : fz_RL h) (hRC : fz_RC h) (hRJ : fz_RJ h) (hRW : fz_RW h) (i : Int) (hi : 0 ≤ i ∧ i + 6 ≤ h 200 100000 ∧ h 200 100000 ≤ 3072) {Q : fz_H → Option fz_V → Prop} (K : ∀ H : fz_H, fz_Gd H → H 200 = h 200 → fz_R 47 mLe 1816 [(3, fz_i i), (0, fz_r 200), (1, fz_r 0), (2, fz_r 53)] [] H Q) : fz_R 47 mLc6 442 [(3, fz_i i), (0, fz_r 200), (1, fz_r 0), (2, fz_r 53)] [] h Q := by
  have hf : fz_fr fz_all h h := fz_fr_rf
  refine fz_aload_n kLc6 rfl rfl ?_
  refine fz_aload_n kLc6 rfl rfl ?_
  refine fz_iload_n kLc6 rfl rfl ?_
  refine fz_iconst ⟨by decide, by decide⟩ kLc6 rfl ?_
  refine fz_iaddN kLc6 rfl (by omega) ?_
  obtain ⟨a1, e2⟩ : ∃ z, h 200 ((i + 1)).toNat = z := ⟨_, rfl⟩
  refine fz_taldV (v := a1) kLc6 rfl ⟨by decide, by decide⟩ (by omega) (by omega) e2 ?_
  have b3 : 0 ≤ h 20 2 ∧ h 20 2 ≤ 120 := hI.1 20 _
  refine fz_callV (d' := 1) (M' := mX10_feed) (As := [fz_i a1]) (st := []) kLc6 rfl rfl vX10_feed rfl rfl rfl rfl (Nat.le_of_ble_eq_true rfl) (Nat.le_of_ble_eq_true rfl) (by decide) (sX10_feed h hI a1 ) (fun H4 r5 q6 o7 => ?_)
  obtain ⟨hI8, hf9, y12, rfl, f10, f11⟩ := q6
  clear o7
  have hf13 := fz_fr_tr hf hf9 (fz_su_all rfl)
  have hXd14 : fz_Xd H4 := fz_Xd_eq (funext fun s => hf9 80 s rfl) hXd
  have hXh15 : fz_Xh H4 := fz_Xh_eq (funext fun s => hf9 83 s rfl) hXh
  have hXw16 : fz_Xw H4 := fz_Xw_eq (hf9 53 19 rfl) (funext fun s => hf9 66 s rfl) (funext fun s => hf9 67 s rfl) (funext fun s => hf9 68 s rfl) (funext fun s => hf9 69 s rfl) hXw
  have hRS17 : fz_RS H4 := fz_RS_eq (funext fun s => hf9 48 s rfl) (funext fun s => hf9 49 s rfl) (funext fun s => hf9 50 s rfl) (funext fun s => hf9 51 s rfl) (funext fun s => hf9 83 s rfl) (funext fun s => hf9 84 s rfl) (hf9 44 2 rfl) hRS
  have hRP18 : fz_RP H4 := fz_RP_eq (funext fun s => hf9 52 s rfl) (funext fun s => hf9 85 s rfl) hRP
  have hRK19 : fz_RK H4 := fz_RK_eq (funext fun s => hf9 45 s rfl) (funext fun s => hf9 81 s rfl) hRK
  have hRR20 : fz_RR H4 := fz_RR_eq (hf9 44 3 rfl) (hf9 53 46 rfl) (funext fun s => hf9 46 s rfl) (funext fun s => hf9 82 s rfl) hRR
  have hRT21 : fz_RT H4 := fz_RT_eq (funext fun s => hf9 41 s rfl) (funext fun s => hf9 42 s rfl) (hf9 1 7 rfl) hRT
  have hRE22 : fz_RE H4 := fz_RE_eq (funext fun s => hf9 5 s rfl) (funext fun s => hf9 6 s rfl) (hf9 1 8 rfl) (hf9 1 7 rfl) hRE
  have hR223 : fz_R2 H4 := fz_R2_eq (funext fun s => hf9 2 s rfl) (funext fun s => hf9 54 s rfl) hR2
  have hR324 : fz_R3 H4 := fz_R3_eq (funext fun s => hf9 3 s rfl) (funext fun s => hf9 57 s rfl) hR3
  have hR425 : fz_R4 H4 := fz_R4_eq (funext fun s => hf9 4 s rfl) (funext fun s => hf9 58 s rfl) hR4
  have hR2826 : fz_R28 H4 := fz_R28_eq (funext fun s => hf9 28 s rfl) (funext fun s => hf9 59 s rfl) hR28
  have hR527 : fz_R5 H4 := fz_R5_eq (funext fun s => hf9 5 s rfl) (funext fun s => hf9 55 s rfl) hR5
  have hR628 : fz_R6 H4 := fz_R6_eq (funext fun s => hf9 6 s rfl) (funext fun s => hf9 56 s rfl) hR6
  have hRG29 : fz_RG H4 := fz_RG_eq (hf9 27 8 rfl) (hf9 27 9 rfl) (hf9 53 8 rfl) (hf9 53 9 rfl) hRG
  have hRL30 : fz_RL H4 := fz_RL_eq (funext fun s => hf9 11 s rfl) (funext fun s => hf9 12 s rfl) (funext fun s => hf9 13 s rfl) (funext fun s => hf9 14 s rfl) (funext fun s => hf9 61 s rfl) (funext fun s => hf9 62 s rfl) (funext fun s => hf9 63 s rfl) (funext fun s => hf9 64 s rfl) (hf9 9 5 rfl) hRL
  have hRC31 : fz_RC H4 := fz_RC_eq (hf9 35 4 rfl) (hf9 35 5 rfl) (hf9 53 41 rfl) (hf9 53 42 rfl) (funext fun s => hf9 36 s rfl) (funext fun s => hf9 37 s rfl) (funext fun s => hf9 38 s rfl) (funext fun s => hf9 39 s rfl) (funext fun s => hf9 80 s rfl) (hf9 1 7 rfl) (hf9 1 8 rfl) (hf9 9 5 rfl) hRC
  have hRJ32 : fz_RJ H4 := fz_RJ_eq (hf9 40 1 rfl) (hf9 53 34 rfl) (funext fun s => hf9 41 s rfl) (funext fun s => hf9 76 s rfl) (hf9 40 6 rfl) (hf9 53 37 rfl) (funext fun s => hf9 42 s rfl) (funext fun s => hf9 78 s rfl) (hf9 43 0 rfl) (hf9 53 38 rfl) hRJ
  have hRW33 : fz_RW H4 := fz_RW_eq (funext fun s => hf9 10 s rfl) (funext fun s => hf9 60 s rfl) (hf9 9 5 rfl) hRW
  have hX34 : fz_Xc H4 := fz_Xc_fr hf9 rfl hX
  have t35 : H4 53 10 = h 53 10 := hf9 53 10 rfl
  have t36 : H4 53 41 = h 53 41 := hf9 53 41 rfl
  have t37 : H4 53 42 = h 53 42 := hf9 53 42 rfl
  have t38 : H4 9 5 = h 9 5 := hf9 9 5 rfl
  have t39 : H4 53 10 = h 53 10 := hf9 53 10 rfl
  have t40 : H4 44 2 = h 44 2 := hf9 44 2 rfl
  have t41 : H4 53 44 = h 53 44 := hf9 53 44 rfl
  have t42 : H4 53 16 = h 53 16 := hf9 53 16 rfl
  have t43 : H4 1 7 = h 1 7 := hf9 1 7 rfl
  have t44 : H4 53 0 = h 53 0 := hf9 53 0 rfl
  have t45 : H4 1 8 = h 1 8 := hf9 1 8 rfl
  have t46 : H4 53 2 = h 53 2 := hf9 53 2 rfl
  refine fz_pop rfl kLc6 rfl ?_
  refine fz_aload_n kLc6 rfl rfl ?_
  refine fz_aload_n kLc6 rfl rfl ?_
  refine fz_iload_n kLc6 rfl rfl ?_
  refine fz_iconst ⟨by decide, by decide⟩ kLc6 rfl ?_
  refine fz_iaddN kLc6 rfl (by omega) ?_
  refine fz_taldV (v := a1) kLc6 rfl ⟨by decide, by decide⟩ (by omega) (by rw [hf13 200 _ rfl]; omega) ((hf13 200 _ rfl).trans e2) ?_
  have b47 : 0 ≤ H4 53 16 ∧ H4 53 16 ≤ 120 := hI8.1 53 _
  refine fz_callV (d' := 1) (M' := mX11_feed) (As := [fz_i a1]) (st := []) kLc6 rfl rfl vX11_feed rfl rfl rfl rfl (Nat.le_of_ble_eq_true rfl) (Nat.le_of_ble_eq_true rfl) (by decide) (sX11_feed H4 hI8 a1 ) (fun H48 r49 q50 o51 => ?_)
  obtain ⟨hI52, hf53, y56, rfl, f54, f55⟩ := q50
  clear o51
  have hf57 := fz_fr_tr hf13 hf53 (fz_su_all rfl)
  have hXd58 : fz_Xd H48 := fz_Xd_eq (funext fun s => hf53 80 s rfl) hXd14
  have hXh59 : fz_Xh H48 := fz_Xh_eq (funext fun s => hf53 83 s rfl) hXh15
  have hXw60 : fz_Xw H48 := fz_Xw_eq (hf53 53 19 rfl) (funext fun s => hf53 66 s rfl) (funext fun s => hf53 67 s rfl) (funext fun s => hf53 68 s rfl) (funext fun s => hf53 69 s rfl) hXw16
  have hRS61 : fz_RS H48 := fz_RS_eq (funext fun s => hf53 48 s rfl) (funext fun s => hf53 49 s rfl) (funext fun s => hf53 50 s rfl) (funext fun s => hf53 51 s rfl) (funext fun s => hf53 83 s rfl) (funext fun s => hf53 84 s rfl) (hf53 44 2 rfl) hRS17
  have hRP62 : fz_RP H48 := fz_RP_eq (funext fun s => hf53 52 s rfl) (funext fun s => hf53 85 s rfl) hRP18
  have hRK63 : fz_RK H48 := fz_RK_eq (funext fun s => hf53 45 s rfl) (funext fun s => hf53 81 s rfl) hRK19
  have hRR64 : fz_RR H48 := fz_RR_eq (hf53 44 3 rfl) (hf53 53 46 rfl) (funext fun s => hf53 46 s rfl) (funext fun s => hf53 82 s rfl) hRR20
  have hRT65 : fz_RT H48 := fz_RT_eq (funext fun s => hf53 41 s rfl) (funext fun s => hf53 42 s rfl) (hf53 1 7 rfl) hRT21
  have hRE66 : fz_RE H48 := fz_RE_eq (funext fun s => hf53 5 s rfl) (funext fun s => hf53 6 s rfl) (hf53 1 8 rfl) (hf53 1 7 rfl) hRE22
  have hR267 : fz_R2 H48 := fz_R2_eq (funext fun s => hf53 2 s rfl) (funext fun s => hf53 54 s rfl) hR223
  have hR368 : fz_R3 H48 := fz_R3_eq (funext fun s => hf53 3 s rfl) (funext fun s => hf53 57 s rfl) hR324
  have hR469 : fz_R4 H48 := fz_R4_eq (funext fun s => hf53 4 s rfl) (funext fun s => hf53 58 s rfl) hR425
  have hR2870 : fz_R28 H48 := fz_R28_eq (funext fun s => hf53 28 s rfl) (funext fun s => hf53 59 s rfl) hR2826
  have hR571 : fz_R5 H48 := fz_R5_eq (funext fun s => hf53 5 s rfl) (funext fun s => hf53 55 s rfl) hR527
  have hR672 : fz_R6 H48 := fz_R6_eq (funext fun s => hf53 6 s rfl) (funext fun s => hf53 56 s rfl) hR628
  have hRG73 : fz_RG H48 := fz_RG_eq (hf53 27 8 rfl) (hf53 27 9 rfl) (hf53 53 8 rfl) (hf53 53 9 rfl) hRG29
  have hRL74 : fz_RL H48 := fz_RL_eq (funext fun s => hf53 11 s rfl) (funext fun s => hf53 12 s rfl) (funext fun s => hf53 13 s rfl) (funext fun s => hf53 14 s rfl) (funext fun s => hf53 61 s rfl) (funext fun s => hf53 62 s rfl) (funext fun s => hf53 63 s rfl) (funext fun s => hf53 64 s rfl) (hf53 9 5 rfl) hRL30
  have hRC75 : fz_RC H48 := fz_RC_eq (hf53 35 4 rfl) (hf53 35 5 rfl) (hf53 53 41 rfl) (hf53 53 42 rfl) (funext fun s => hf53 36 s rfl) (funext fun s => hf53 37 s rfl) (funext fun s => hf53 38 s rfl) (funext fun s => hf53 39 s rfl) (funext fun s => hf53 80 s rfl) (hf53 1 7 rfl) (hf53 1 8 rfl) (hf53 9 5 rfl) hRC31
  have hRJ76 : fz_RJ H48 := fz_RJ_eq (hf53 40 1 rfl) (hf53 53 34 rfl) (funext fun s => hf53 41 s rfl) (funext fun s => hf53 76 s rfl) (hf53 40 6 rfl) (hf53 53 37 rfl) (funext fun s => hf53 42 s rfl) (funext fun s => hf53 78 s rfl) (hf53 43 0 rfl) (hf53 53 38 rfl) hRJ32
  have hRW77 : fz_RW H48 := fz_RW_eq (funext fun s => hf53 10 s rfl) (funext fun s => hf53 60 s rfl) (hf53 9 5 rfl) hRW33
  have hX78 : fz_Xc H48 := fz_Xc_fr hf53 rfl hX34
  have t79 : H48 53 10 = H4 53 10 := hf53 53 10 rfl
  have t80 : H48 53 41 = H4 53 41 := hf53 53 41 rfl
  have t81 : H48 53 42 = H4 53 42 := hf53 53 42 rfl
  have t82 : H48 9 5 = H4 9 5 := hf53 9 5 rfl
  have t83 : H48 53 10 = H4 53 10 := hf53 53 10 rfl
  have t84 : H48 44 2 = H4 44 2 := hf53 44 2 rfl
  have t85 : H48 53 44 = H4 53 44 := hf53 53 44 rfl
  have t86 : H48 20 2 = H4 20 2 := hf53 20 2 rfl
  have t87 : H48 1 7 = H4 1 7 := hf53 1 7 rfl
  have t88 : H48 53 0 = H4 53 0 := hf53 53 0 rfl
  have t89 : H48 1 8 = H4 1 8 := hf53 1 8 rfl
  have t90 : H48 53 2 = H4 53 2 := hf53 53 2 rfl
  refine fz_pop rfl kLc6 rfl ?_
  refine fz_goto (tgt := 1816) kLc6 rfl (by decide) ?_
  exact K H48 ⟨hI52, hX78, hXd58, hXh59, hXw60, (by rw [((hf53 53 10 rfl).trans (hf9 53 10 rfl))]; exact hv1), (by rw [((hf53 53 42 rfl).trans (hf9 53 42 rfl)), ((hf53 53 41 rfl).trans (hf9 53 41 rfl))]; exact hv2), (((hf53 9 5 rfl).trans (hf9 9 5 rfl)).trans (hr0.trans ((hf53 53 10 rfl).trans (hf9 53 10 rfl)).symm)), (((hf53 44 2 rfl).trans (hf9 44 2 rfl)).trans (hr1.trans ((hf53 53 44 rfl).trans (hf9 53 44 rfl)).symm)), by omega, (((hf53 1 7 rfl).trans (hf9 1 7 rfl)).trans (hr3.trans ((hf53 53 0 rfl).trans (hf9 53 0 rfl)).symm)), (((hf53 1 8 rfl).trans (hf9 1 8 rfl)).trans (hr4.trans ((hf53 53 2 rfl).trans (hf9 53 2 rfl)).symm)), hRS61, hRP62, hRK63, hRR64, hRT65, hRE66, hR267, hR368, hR469, hR2870, hR571, hR672, hRG73, hRL74, hRC75, hRJ76, hRW77⟩ (funext fun s => hf57 200 s rfl)
def mLc7 : fz_M := (yL_law, code, 4, (some .boolean), [(465, .aload_n 1, 1, 0, 0, 0), (466, .invokevirtual 44, 3, 3066, 53, 0), (469, .pop, 1, 0, 0, 0), (470, .aload_n 2, 1, 0, 0, 0), (471, .invokevirtual 48, 3, 6121, 145, 0), (474, .pop, 1, 0, 0, 0), (475, .goto 1341, 3, 0, 0, 0)])
set_option maxRecDepth 100000 in
theorem kLc7 : fz_okM mLc7 = true := fz_okM_in (by decide +kernel) (by decide +kernel)
set_option maxHeartbeats 1000000 in
set_option maxRecDepth 100000 in
theorem lc7 (h : fz_H) (hI : fz_Iv h) (hX : fz_Xc h) (hXd : fz_Xd h) (hXh : fz_Xh h) (hXw : fz_Xw h) (hv1 : h 53 10 ≤ 10) (hv2 : h 53 42 ≤ h 53 41) (hr0 : h 9 5 = h 53 10) (hr1 : h 44 2 = h 53 44) (hr2 : h 20 2 = h 53 16) (hr3 : h 1 7 = h 53 0) (hr4 : h 1 8 = h 53 2) (hRS : fz_RS h) (hRP : fz_RP h) (hRK : fz_RK h) (hRR : fz_RR h) (hRT : fz_RT h) (hRE : fz_RE h) (hR2 : fz_R2 h) (hR3 : fz_R3 h) (hR4 : fz_R4 h) (hR28 : fz_R28 h) (hR5 : fz_R5 h) (hR6 : fz_R6 h) (hRG : fz_RG h) (hRL : fz_RL h) (hRC : fz_RC h) (hRJ : fz_RJ h) (hRW : fz_RW h) (i : Int) (hi : 0 ≤ i ∧ i + 6 ≤ h 200 100000 ∧ h 200 100000 ≤ 3072) {Q : fz_H → Option fz_V → Prop} (K : ∀ H : fz_H, fz_Gd H → H 200 = h 200 → fz_R 47 mLe 1816 [(3, fz_i i), (0, fz_r 200), (1, fz_r 0), (2, fz_r 53)] [] H Q) : fz_R 47 mLc7 465 [(3, fz_i i), (0, fz_r 200), (1, fz_r 0), (2, fz_r 53)] [] h Q := by
  have hf : fz_fr fz_all h h := fz_fr_rf
  refine fz_aload_n kLc7 rfl rfl ?_
  refine fz_callV (d' := 46) (M' := mX10_law) (As := []) (st := []) kLc7 rfl rfl vX10_law rfl rfl rfl rfl (Nat.le_of_ble_eq_true rfl) (Nat.le_of_ble_eq_true rfl) (by decide) (sX10_law h hI  ) (fun H1 r2 q3 o4 => ?_)
  obtain ⟨hI5, hf6, y9, rfl, f7, f8⟩ := q3
  clear o4
  have hf10 := fz_fr_tr hf hf6 (fz_su_all rfl)
  have hXd11 : fz_Xd H1 := fz_Xd_eq (funext fun s => hf6 80 s rfl) hXd
  have hXh12 : fz_Xh H1 := fz_Xh_eq (funext fun s => hf6 83 s rfl) hXh
  have hXw13 : fz_Xw H1 := fz_Xw_eq (hf6 53 19 rfl) (funext fun s => hf6 66 s rfl) (funext fun s => hf6 67 s rfl) (funext fun s => hf6 68 s rfl) (funext fun s => hf6 69 s rfl) hXw
  have hRS14 : fz_RS H1 := fz_RS_eq (funext fun s => hf6 48 s rfl) (funext fun s => hf6 49 s rfl) (funext fun s => hf6 50 s rfl) (funext fun s => hf6 51 s rfl) (funext fun s => hf6 83 s rfl) (funext fun s => hf6 84 s rfl) (hf6 44 2 rfl) hRS
  have hRP15 : fz_RP H1 := fz_RP_eq (funext fun s => hf6 52 s rfl) (funext fun s => hf6 85 s rfl) hRP
  have hRK16 : fz_RK H1 := fz_RK_eq (funext fun s => hf6 45 s rfl) (funext fun s => hf6 81 s rfl) hRK
  have hRR17 : fz_RR H1 := fz_RR_eq (hf6 44 3 rfl) (hf6 53 46 rfl) (funext fun s => hf6 46 s rfl) (funext fun s => hf6 82 s rfl) hRR
  have hRT18 : fz_RT H1 := fz_RT_eq (funext fun s => hf6 41 s rfl) (funext fun s => hf6 42 s rfl) (hf6 1 7 rfl) hRT
  have hRE19 : fz_RE H1 := fz_RE_eq (funext fun s => hf6 5 s rfl) (funext fun s => hf6 6 s rfl) (hf6 1 8 rfl) (hf6 1 7 rfl) hRE
  have hR220 : fz_R2 H1 := fz_R2_eq (funext fun s => hf6 2 s rfl) (funext fun s => hf6 54 s rfl) hR2
  have hR321 : fz_R3 H1 := fz_R3_eq (funext fun s => hf6 3 s rfl) (funext fun s => hf6 57 s rfl) hR3
  have hR422 : fz_R4 H1 := fz_R4_eq (funext fun s => hf6 4 s rfl) (funext fun s => hf6 58 s rfl) hR4
  have hR2823 : fz_R28 H1 := fz_R28_eq (funext fun s => hf6 28 s rfl) (funext fun s => hf6 59 s rfl) hR28
  have hR524 : fz_R5 H1 := fz_R5_eq (funext fun s => hf6 5 s rfl) (funext fun s => hf6 55 s rfl) hR5
  have hR625 : fz_R6 H1 := fz_R6_eq (funext fun s => hf6 6 s rfl) (funext fun s => hf6 56 s rfl) hR6
  have hRG26 : fz_RG H1 := fz_RG_eq (hf6 27 8 rfl) (hf6 27 9 rfl) (hf6 53 8 rfl) (hf6 53 9 rfl) hRG
  have hRL27 : fz_RL H1 := fz_RL_eq (funext fun s => hf6 11 s rfl) (funext fun s => hf6 12 s rfl) (funext fun s => hf6 13 s rfl) (funext fun s => hf6 14 s rfl) (funext fun s => hf6 61 s rfl) (funext fun s => hf6 62 s rfl) (funext fun s => hf6 63 s rfl) (funext fun s => hf6 64 s rfl) (hf6 9 5 rfl) hRL
  have hRC28 : fz_RC H1 := fz_RC_eq (hf6 35 4 rfl) (hf6 35 5 rfl) (hf6 53 41 rfl) (hf6 53 42 rfl) (funext fun s => hf6 36 s rfl) (funext fun s => hf6 37 s rfl) (funext fun s => hf6 38 s rfl) (funext fun s => hf6 39 s rfl) (funext fun s => hf6 80 s rfl) (hf6 1 7 rfl) (hf6 1 8 rfl) (hf6 9 5 rfl) hRC
  have hRJ29 : fz_RJ H1 := fz_RJ_eq (hf6 40 1 rfl) (hf6 53 34 rfl) (funext fun s => hf6 41 s rfl) (funext fun s => hf6 76 s rfl) (hf6 40 6 rfl) (hf6 53 37 rfl) (funext fun s => hf6 42 s rfl) (funext fun s => hf6 78 s rfl) (hf6 43 0 rfl) (hf6 53 38 rfl) hRJ
  have hRW30 : fz_RW H1 := fz_RW_eq (funext fun s => hf6 10 s rfl) (funext fun s => hf6 60 s rfl) (hf6 9 5 rfl) hRW
  have hX31 : fz_Xc H1 := fz_Xc_fr hf6 rfl hX
  have t32 : H1 53 10 = h 53 10 := hf6 53 10 rfl
  have t33 : H1 53 41 = h 53 41 := hf6 53 41 rfl
  have t34 : H1 53 42 = h 53 42 := hf6 53 42 rfl
  have t35 : H1 9 5 = h 9 5 := hf6 9 5 rfl
  have t36 : H1 53 10 = h 53 10 := hf6 53 10 rfl
  have t37 : H1 44 2 = h 44 2 := hf6 44 2 rfl
  have t38 : H1 53 44 = h 53 44 := hf6 53 44 rfl
  have t39 : H1 53 16 = h 53 16 := hf6 53 16 rfl
  have t40 : H1 1 7 = h 1 7 := hf6 1 7 rfl
  have t41 : H1 53 0 = h 53 0 := hf6 53 0 rfl
  have t42 : H1 1 8 = h 1 8 := hf6 1 8 rfl
  have t43 : H1 53 2 = h 53 2 := hf6 53 2 rfl
  refine fz_pop rfl kLc7 rfl ?_
  refine fz_aload_n kLc7 rfl rfl ?_
  refine fz_callV (d' := 45) (M' := mX11_law) (As := []) (st := []) kLc7 rfl rfl vX11_law rfl rfl rfl rfl (Nat.le_of_ble_eq_true rfl) (Nat.le_of_ble_eq_true rfl) (by decide) (sX11_law H1 hI5  hXw13) (fun H44 r45 q46 o47 => ?_)
  obtain ⟨hI48, hf49, hXw50, y53, rfl, f51, f52⟩ := q46
  clear o47
  have hf54 := fz_fr_tr hf10 hf49 (fz_su_all rfl)
  have k55 : H44 20 2 = 0 := (hf49 20 2 rfl).trans f8
  have hXd56 : fz_Xd H44 := fz_Xd_eq (funext fun s => hf49 80 s rfl) hXd11
  have hXh57 : fz_Xh H44 := fz_Xh_eq (funext fun s => hf49 83 s rfl) hXh12
  have hRS58 : fz_RS H44 := fz_RS_eq (funext fun s => hf49 48 s rfl) (funext fun s => hf49 49 s rfl) (funext fun s => hf49 50 s rfl) (funext fun s => hf49 51 s rfl) (funext fun s => hf49 83 s rfl) (funext fun s => hf49 84 s rfl) (hf49 44 2 rfl) hRS14
  have hRP59 : fz_RP H44 := fz_RP_eq (funext fun s => hf49 52 s rfl) (funext fun s => hf49 85 s rfl) hRP15
  have hRK60 : fz_RK H44 := fz_RK_eq (funext fun s => hf49 45 s rfl) (funext fun s => hf49 81 s rfl) hRK16
  have hRR61 : fz_RR H44 := fz_RR_eq (hf49 44 3 rfl) (hf49 53 46 rfl) (funext fun s => hf49 46 s rfl) (funext fun s => hf49 82 s rfl) hRR17
  have hRT62 : fz_RT H44 := fz_RT_eq (funext fun s => hf49 41 s rfl) (funext fun s => hf49 42 s rfl) (hf49 1 7 rfl) hRT18
  have hRE63 : fz_RE H44 := fz_RE_eq (funext fun s => hf49 5 s rfl) (funext fun s => hf49 6 s rfl) (hf49 1 8 rfl) (hf49 1 7 rfl) hRE19
  have hR264 : fz_R2 H44 := fz_R2_eq (funext fun s => hf49 2 s rfl) (funext fun s => hf49 54 s rfl) hR220
  have hR365 : fz_R3 H44 := fz_R3_eq (funext fun s => hf49 3 s rfl) (funext fun s => hf49 57 s rfl) hR321
  have hR466 : fz_R4 H44 := fz_R4_eq (funext fun s => hf49 4 s rfl) (funext fun s => hf49 58 s rfl) hR422
  have hR2867 : fz_R28 H44 := fz_R28_eq (funext fun s => hf49 28 s rfl) (funext fun s => hf49 59 s rfl) hR2823
  have hR568 : fz_R5 H44 := fz_R5_eq (funext fun s => hf49 5 s rfl) (funext fun s => hf49 55 s rfl) hR524
  have hR669 : fz_R6 H44 := fz_R6_eq (funext fun s => hf49 6 s rfl) (funext fun s => hf49 56 s rfl) hR625
  have hRG70 : fz_RG H44 := fz_RG_eq (hf49 27 8 rfl) (hf49 27 9 rfl) (hf49 53 8 rfl) (hf49 53 9 rfl) hRG26
  have hRL71 : fz_RL H44 := fz_RL_eq (funext fun s => hf49 11 s rfl) (funext fun s => hf49 12 s rfl) (funext fun s => hf49 13 s rfl) (funext fun s => hf49 14 s rfl) (funext fun s => hf49 61 s rfl) (funext fun s => hf49 62 s rfl) (funext fun s => hf49 63 s rfl) (funext fun s => hf49 64 s rfl) (hf49 9 5 rfl) hRL27
  have hRC72 : fz_RC H44 := fz_RC_eq (hf49 35 4 rfl) (hf49 35 5 rfl) (hf49 53 41 rfl) (hf49 53 42 rfl) (funext fun s => hf49 36 s rfl) (funext fun s => hf49 37 s rfl) (funext fun s => hf49 38 s rfl) (funext fun s => hf49 39 s rfl) (funext fun s => hf49 80 s rfl) (hf49 1 7 rfl) (hf49 1 8 rfl) (hf49 9 5 rfl) hRC28
  have hRJ73 : fz_RJ H44 := fz_RJ_eq (hf49 40 1 rfl) (hf49 53 34 rfl) (funext fun s => hf49 41 s rfl) (funext fun s => hf49 76 s rfl) (hf49 40 6 rfl) (hf49 53 37 rfl) (funext fun s => hf49 42 s rfl) (funext fun s => hf49 78 s rfl) (hf49 43 0 rfl) (hf49 53 38 rfl) hRJ29
  have hRW74 : fz_RW H44 := fz_RW_eq (funext fun s => hf49 10 s rfl) (funext fun s => hf49 60 s rfl) (hf49 9 5 rfl) hRW30
  have hX75 : fz_Xc H44 := fz_Xc_fr hf49 rfl hX31
  have t76 : H44 53 10 = H1 53 10 := hf49 53 10 rfl
  have t77 : H44 53 41 = H1 53 41 := hf49 53 41 rfl
  have t78 : H44 53 42 = H1 53 42 := hf49 53 42 rfl
  have t79 : H44 9 5 = H1 9 5 := hf49 9 5 rfl
  have t80 : H44 53 10 = H1 53 10 := hf49 53 10 rfl
  have t81 : H44 44 2 = H1 44 2 := hf49 44 2 rfl
  have t82 : H44 53 44 = H1 53 44 := hf49 53 44 rfl
  have t83 : H44 20 2 = H1 20 2 := hf49 20 2 rfl
  have t84 : H44 1 7 = H1 1 7 := hf49 1 7 rfl
  have t85 : H44 53 0 = H1 53 0 := hf49 53 0 rfl
  have t86 : H44 1 8 = H1 1 8 := hf49 1 8 rfl
  have t87 : H44 53 2 = H1 53 2 := hf49 53 2 rfl
  refine fz_pop rfl kLc7 rfl ?_
  refine fz_goto (tgt := 1816) kLc7 rfl (by decide) ?_
  exact K H44 ⟨hI48, hX75, hXd56, hXh57, hXw50, (by rw [((hf49 53 10 rfl).trans (hf6 53 10 rfl))]; exact hv1), (by rw [((hf49 53 42 rfl).trans (hf6 53 42 rfl)), ((hf49 53 41 rfl).trans (hf6 53 41 rfl))]; exact hv2), (((hf49 9 5 rfl).trans (hf6 9 5 rfl)).trans (hr0.trans ((hf49 53 10 rfl).trans (hf6 53 10 rfl)).symm)), (((hf49 44 2 rfl).trans (hf6 44 2 rfl)).trans (hr1.trans ((hf49 53 44 rfl).trans (hf6 53 44 rfl)).symm)), by omega, (((hf49 1 7 rfl).trans (hf6 1 7 rfl)).trans (hr3.trans ((hf49 53 0 rfl).trans (hf6 53 0 rfl)).symm)), (((hf49 1 8 rfl).trans (hf6 1 8 rfl)).trans (hr4.trans ((hf49 53 2 rfl).trans (hf6 53 2 rfl)).symm)), hRS58, hRP59, hRK60, hRR61, hRT62, hRE63, hR264, hR365, hR466, hR2867, hR568, hR669, hRG70, hRL71, hRC72, hRJ73, hRW74⟩ (funext fun s => hf54 200 s rfl)
def mLc8 : fz_M := (yL_law, code, 4, (some .boolean), [(478, .aload_n 1, 1, 0, 0, 0), (479, .aload_n 0, 1, 0, 0, 0), (480, .iload_n 3, 1, 0, 0, 0), (481, .iconst 1, 1, 0, 0, 0), (482, .iadd, 1, 0, 0, 0), (483, .iaload, 1, 0, 0, 0), (484, .aload_n 0, 1, 0, 0, 0), (485, .iload_n 3, 1, 0, 0, 0), (486, .iconst 2, 1, 0, 0, 0), (487, .iadd, 1, 0, 0, 0), (488, .iaload, 1, 0, 0, 0), (489, .invokevirtual 49, 3, 3146, 78, 0), (492, .pop, 1, 0, 0, 0), (493, .aload_n 2, 1, 0, 0, 0), (494, .aload_n 0, 1, 0, 0, 0), (495, .iload_n 3, 1, 0, 0, 0), (496, .iconst 1, 1, 0, 0, 0), (497, .iadd, 1, 0, 0, 0), (498, .iaload, 1, 0, 0, 0), (499, .aload_n 0, 1, 0, 0, 0), (500, .iload_n 3, 1, 0, 0, 0), (501, .iconst 2, 1, 0, 0, 0), (502, .iadd, 1, 0, 0, 0), (503, .iaload, 1, 0, 0, 0), (504, .invokevirtual 52, 3, 6172, 182, 0), (507, .pop, 1, 0, 0, 0), (508, .goto 1308, 3, 0, 0, 0)])
set_option maxRecDepth 100000 in
theorem kLc8 : fz_okM mLc8 = true := fz_okM_in (by decide +kernel) (by decide +kernel)
set_option maxHeartbeats 1000000 in
set_option maxRecDepth 100000 in
theorem lc8 (h : fz_H) (hI : fz_Iv h) (hX : fz_Xc h) (hXd : fz_Xd h) (hXh : fz_Xh h) (hXw : fz_Xw h) (hv1 : h 53 10 ≤ 10) (hv2 : h 53 42 ≤ h 53 41) (hr0 : h 9 5 = h 53 10) (hr1 : h 44 2 = h 53 44) (hr2 : h 20 2 = h 53 16) (hr3 : h 1 7 = h 53 0) (hr4 : h 1 8 = h 53 2) (hRS : fz_RS h) (hRP : fz_RP h) (hRK : fz_RK h) (hRR : fz_RR h) (hRT : fz_RT h) (hRE : fz_RE h) (hR2 : fz_R2 h) (hR3 : fz_R3 h) (hR4 : fz_R4 h) (hR28 : fz_R28 h) (hR5 : fz_R5 h) (hR6 : fz_R6 h) (hRG : fz_RG h) (hRL : fz_RL h) (hRC : fz_RC h) (hRJ : fz_RJ h) (hRW : fz_RW h) (i : Int) (hi : 0 ≤ i ∧ i + 6 ≤ h 200 100000 ∧ h 200 100000 ≤ 3072) {Q : fz_H → Option fz_V → Prop} (K : ∀ H : fz_H, fz_Gd H → H 200 = h 200 → fz_R 47 mLe 1816 [(3, fz_i i), (0, fz_r 200), (1, fz_r 0), (2, fz_r 53)] [] H Q) : fz_R 47 mLc8 478 [(3, fz_i i), (0, fz_r 200), (1, fz_r 0), (2, fz_r 53)] [] h Q := by
  have hf : fz_fr fz_all h h := fz_fr_rf
  refine fz_aload_n kLc8 rfl rfl ?_
  refine fz_aload_n kLc8 rfl rfl ?_
  refine fz_iload_n kLc8 rfl rfl ?_
  refine fz_iconst ⟨by decide, by decide⟩ kLc8 rfl ?_
  refine fz_iaddN kLc8 rfl (by omega) ?_
  obtain ⟨a1, e2⟩ : ∃ z, h 200 ((i + 1)).toNat = z := ⟨_, rfl⟩
  refine fz_taldV (v := a1) kLc8 rfl ⟨by decide, by decide⟩ (by omega) (by omega) e2 ?_
  refine fz_aload_n kLc8 rfl rfl ?_
  refine fz_iload_n kLc8 rfl rfl ?_
  refine fz_iconst ⟨by decide, by decide⟩ kLc8 rfl ?_
  refine fz_iaddN kLc8 rfl (by omega) ?_
  obtain ⟨a3, e4⟩ : ∃ z, h 200 ((i + 2)).toNat = z := ⟨_, rfl⟩
  refine fz_taldV (v := a3) kLc8 rfl ⟨by decide, by decide⟩ (by omega) (by omega) e4 ?_
  refine fz_callV (d' := 2) (M' := mX10_way) (As := [fz_i a1, fz_i a3]) (st := []) kLc8 rfl rfl vX10_way rfl rfl rfl rfl (Nat.le_of_ble_eq_true rfl) (Nat.le_of_ble_eq_true rfl) (by decide) (sX10_way h hI a1 a3 ) (fun H5 r6 q7 o8 => ?_)
  obtain ⟨e9, y11, rfl, f10⟩ := q7
  subst H5
  clear o8
  refine fz_pop rfl kLc8 rfl ?_
  refine fz_aload_n kLc8 rfl rfl ?_
  refine fz_aload_n kLc8 rfl rfl ?_
  refine fz_iload_n kLc8 rfl rfl ?_
  refine fz_iconst ⟨by decide, by decide⟩ kLc8 rfl ?_
  refine fz_iaddN kLc8 rfl (by omega) ?_
  refine fz_taldV (v := a1) kLc8 rfl ⟨by decide, by decide⟩ (by omega) (by omega) e2 ?_
  refine fz_aload_n kLc8 rfl rfl ?_
  refine fz_iload_n kLc8 rfl rfl ?_
  refine fz_iconst ⟨by decide, by decide⟩ kLc8 rfl ?_
  refine fz_iaddN kLc8 rfl (by omega) ?_
  refine fz_taldV (v := a3) kLc8 rfl ⟨by decide, by decide⟩ (by omega) (by omega) e4 ?_
  refine fz_callV (d' := 3) (M' := mX11_way) (As := [fz_i a1, fz_i a3]) (st := []) kLc8 rfl rfl vX11_way rfl rfl rfl rfl (Nat.le_of_ble_eq_true rfl) (Nat.le_of_ble_eq_true rfl) (by decide) (sX11_way h hI a1 a3 ) (fun H12 r13 q14 o15 => ?_)
  obtain ⟨hI16, hf17, y19, rfl, f18⟩ := q14
  clear o15
  have hf20 := fz_fr_tr hf hf17 (fz_su_all rfl)
  have hXd21 : fz_Xd H12 := fz_Xd_eq (funext fun s => hf17 80 s rfl) hXd
  have hXh22 : fz_Xh H12 := fz_Xh_eq (funext fun s => hf17 83 s rfl) hXh
  have hXw23 : fz_Xw H12 := fz_Xw_eq (hf17 53 19 rfl) (funext fun s => hf17 66 s rfl) (funext fun s => hf17 67 s rfl) (funext fun s => hf17 68 s rfl) (funext fun s => hf17 69 s rfl) hXw
  have hRS24 : fz_RS H12 := fz_RS_eq (funext fun s => hf17 48 s rfl) (funext fun s => hf17 49 s rfl) (funext fun s => hf17 50 s rfl) (funext fun s => hf17 51 s rfl) (funext fun s => hf17 83 s rfl) (funext fun s => hf17 84 s rfl) (hf17 44 2 rfl) hRS
  have hRP25 : fz_RP H12 := fz_RP_eq (funext fun s => hf17 52 s rfl) (funext fun s => hf17 85 s rfl) hRP
  have hRK26 : fz_RK H12 := fz_RK_eq (funext fun s => hf17 45 s rfl) (funext fun s => hf17 81 s rfl) hRK
  have hRR27 : fz_RR H12 := fz_RR_eq (hf17 44 3 rfl) (hf17 53 46 rfl) (funext fun s => hf17 46 s rfl) (funext fun s => hf17 82 s rfl) hRR
  have hRT28 : fz_RT H12 := fz_RT_eq (funext fun s => hf17 41 s rfl) (funext fun s => hf17 42 s rfl) (hf17 1 7 rfl) hRT
  have hRE29 : fz_RE H12 := fz_RE_eq (funext fun s => hf17 5 s rfl) (funext fun s => hf17 6 s rfl) (hf17 1 8 rfl) (hf17 1 7 rfl) hRE
  have hR230 : fz_R2 H12 := fz_R2_eq (funext fun s => hf17 2 s rfl) (funext fun s => hf17 54 s rfl) hR2
  have hR331 : fz_R3 H12 := fz_R3_eq (funext fun s => hf17 3 s rfl) (funext fun s => hf17 57 s rfl) hR3
  have hR432 : fz_R4 H12 := fz_R4_eq (funext fun s => hf17 4 s rfl) (funext fun s => hf17 58 s rfl) hR4
  have hR2833 : fz_R28 H12 := fz_R28_eq (funext fun s => hf17 28 s rfl) (funext fun s => hf17 59 s rfl) hR28
  have hR534 : fz_R5 H12 := fz_R5_eq (funext fun s => hf17 5 s rfl) (funext fun s => hf17 55 s rfl) hR5
  have hR635 : fz_R6 H12 := fz_R6_eq (funext fun s => hf17 6 s rfl) (funext fun s => hf17 56 s rfl) hR6
  have hRG36 : fz_RG H12 := fz_RG_eq (hf17 27 8 rfl) (hf17 27 9 rfl) (hf17 53 8 rfl) (hf17 53 9 rfl) hRG
  have hRL37 : fz_RL H12 := fz_RL_eq (funext fun s => hf17 11 s rfl) (funext fun s => hf17 12 s rfl) (funext fun s => hf17 13 s rfl) (funext fun s => hf17 14 s rfl) (funext fun s => hf17 61 s rfl) (funext fun s => hf17 62 s rfl) (funext fun s => hf17 63 s rfl) (funext fun s => hf17 64 s rfl) (hf17 9 5 rfl) hRL
  have hRC38 : fz_RC H12 := fz_RC_eq (hf17 35 4 rfl) (hf17 35 5 rfl) (hf17 53 41 rfl) (hf17 53 42 rfl) (funext fun s => hf17 36 s rfl) (funext fun s => hf17 37 s rfl) (funext fun s => hf17 38 s rfl) (funext fun s => hf17 39 s rfl) (funext fun s => hf17 80 s rfl) (hf17 1 7 rfl) (hf17 1 8 rfl) (hf17 9 5 rfl) hRC
  have hRJ39 : fz_RJ H12 := fz_RJ_eq (hf17 40 1 rfl) (hf17 53 34 rfl) (funext fun s => hf17 41 s rfl) (funext fun s => hf17 76 s rfl) (hf17 40 6 rfl) (hf17 53 37 rfl) (funext fun s => hf17 42 s rfl) (funext fun s => hf17 78 s rfl) (hf17 43 0 rfl) (hf17 53 38 rfl) hRJ
  have hRW40 : fz_RW H12 := fz_RW_eq (funext fun s => hf17 10 s rfl) (funext fun s => hf17 60 s rfl) (hf17 9 5 rfl) hRW
  have hX41 : fz_Xc H12 := fz_Xc_fr hf17 rfl hX
  have t42 : H12 53 10 = h 53 10 := hf17 53 10 rfl
  have t43 : H12 53 41 = h 53 41 := hf17 53 41 rfl
  have t44 : H12 53 42 = h 53 42 := hf17 53 42 rfl
  have t45 : H12 9 5 = h 9 5 := hf17 9 5 rfl
  have t46 : H12 53 10 = h 53 10 := hf17 53 10 rfl
  have t47 : H12 44 2 = h 44 2 := hf17 44 2 rfl
  have t48 : H12 53 44 = h 53 44 := hf17 53 44 rfl
  have t49 : H12 20 2 = h 20 2 := hf17 20 2 rfl
  have t50 : H12 53 16 = h 53 16 := hf17 53 16 rfl
  have t51 : H12 1 7 = h 1 7 := hf17 1 7 rfl
  have t52 : H12 53 0 = h 53 0 := hf17 53 0 rfl
  have t53 : H12 1 8 = h 1 8 := hf17 1 8 rfl
  have t54 : H12 53 2 = h 53 2 := hf17 53 2 rfl
  refine fz_pop rfl kLc8 rfl ?_
  refine fz_goto (tgt := 1816) kLc8 rfl (by decide) ?_
  exact K H12 ⟨hI16, hX41, hXd21, hXh22, hXw23, (by rw [(hf17 53 10 rfl)]; exact hv1), (by rw [(hf17 53 42 rfl), (hf17 53 41 rfl)]; exact hv2), ((hf17 9 5 rfl).trans (hr0.trans (hf17 53 10 rfl).symm)), ((hf17 44 2 rfl).trans (hr1.trans (hf17 53 44 rfl).symm)), ((hf17 20 2 rfl).trans (hr2.trans (hf17 53 16 rfl).symm)), ((hf17 1 7 rfl).trans (hr3.trans (hf17 53 0 rfl).symm)), ((hf17 1 8 rfl).trans (hr4.trans (hf17 53 2 rfl).symm)), hRS24, hRP25, hRK26, hRR27, hRT28, hRE29, hR230, hR331, hR432, hR2833, hR534, hR635, hRG36, hRL37, hRC38, hRJ39, hRW40⟩ (funext fun s => hf20 200 s rfl)
def mLc9 : fz_M := (yL_law, code, 4, (some .boolean), [(511, .aload_n 1, 1, 0, 0, 0), (512, .aload_n 0, 1, 0, 0, 0), (513, .iload_n 3, 1, 0, 0, 0), (514, .iconst 1, 1, 0, 0, 0), (515, .iadd, 1, 0, 0, 0), (516, .iaload, 1, 0, 0, 0), (517, .aload_n 0, 1, 0, 0, 0), (518, .iload_n 3, 1, 0, 0, 0), (519, .iconst 2, 1, 0, 0, 0), (520, .iadd, 1, 0, 0, 0), (521, .iaload, 1, 0, 0, 0), (522, .invokevirtual 53, 3, 3158, 37, 0), (525, .pop, 1, 0, 0, 0), (526, .aload_n 2, 1, 0, 0, 0), (527, .aload_n 0, 1, 0, 0, 0), (528, .iload_n 3, 1, 0, 0, 0), (529, .iconst 1, 1, 0, 0, 0), (530, .iadd, 1, 0, 0, 0), (531, .iaload, 1, 0, 0, 0), (532, .aload_n 0, 1, 0, 0, 0), (533, .iload_n 3, 1, 0, 0, 0), (534, .iconst 2, 1, 0, 0, 0), (535, .iadd, 1, 0, 0, 0), (536, .iaload, 1, 0, 0, 0), (537, .invokevirtual 56, 3, 6188, 109, 0), (540, .pop, 1, 0, 0, 0), (541, .goto 1275, 3, 0, 0, 0)])
set_option maxRecDepth 100000 in
theorem kLc9 : fz_okM mLc9 = true := fz_okM_in (by decide +kernel) (by decide +kernel)
set_option maxHeartbeats 1000000 in
set_option maxRecDepth 100000 in
theorem lc9 (h : fz_H) (hI : fz_Iv h) (hX : fz_Xc h) (hXd : fz_Xd h) (hXh : fz_Xh h) (hXw : fz_Xw h) (hv1 : h 53 10 ≤ 10) (hv2 : h 53 42 ≤ h 53 41) (hr0 : h 9 5 = h 53 10) (hr1 : h 44 2 = h 53 44) (hr2 : h 20 2 = h 53 16) (hr3 : h 1 7 = h 53 0) (hr4 : h 1 8 = h 53 2) (hRS : fz_RS h) (hRP : fz_RP h) (hRK : fz_RK h) (hRR : fz_RR h) (hRT : fz_RT h) (hRE : fz_RE h) (hR2 : fz_R2 h) (hR3 : fz_R3 h) (hR4 : fz_R4 h) (hR28 : fz_R28 h) (hR5 : fz_R5 h) (hR6 : fz_R6 h) (hRG : fz_RG h) (hRL : fz_RL h) (hRC : fz_RC h) (hRJ : fz_RJ h) (hRW : fz_RW h) (i : Int) (hi : 0 ≤ i ∧ i + 6 ≤ h 200 100000 ∧ h 200 100000 ≤ 3072) {Q : fz_H → Option fz_V → Prop} (K : ∀ H : fz_H, fz_Gd H → H 200 = h 200 → fz_R 47 mLe 1816 [(3, fz_i i), (0, fz_r 200), (1, fz_r 0), (2, fz_r 53)] [] H Q) : fz_R 47 mLc9 511 [(3, fz_i i), (0, fz_r 200), (1, fz_r 0), (2, fz_r 53)] [] h Q := by
  have hf : fz_fr fz_all h h := fz_fr_rf
  refine fz_aload_n kLc9 rfl rfl ?_
  refine fz_aload_n kLc9 rfl rfl ?_
  refine fz_iload_n kLc9 rfl rfl ?_
  refine fz_iconst ⟨by decide, by decide⟩ kLc9 rfl ?_
  refine fz_iaddN kLc9 rfl (by omega) ?_
  obtain ⟨a1, e2⟩ : ∃ z, h 200 ((i + 1)).toNat = z := ⟨_, rfl⟩
  refine fz_taldV (v := a1) kLc9 rfl ⟨by decide, by decide⟩ (by omega) (by omega) e2 ?_
  refine fz_aload_n kLc9 rfl rfl ?_
  refine fz_iload_n kLc9 rfl rfl ?_
  refine fz_iconst ⟨by decide, by decide⟩ kLc9 rfl ?_
  refine fz_iaddN kLc9 rfl (by omega) ?_
  obtain ⟨a3, e4⟩ : ∃ z, h 200 ((i + 2)).toNat = z := ⟨_, rfl⟩
  refine fz_taldV (v := a3) kLc9 rfl ⟨by decide, by decide⟩ (by omega) (by omega) e4 ?_
  refine fz_callV (d' := 2) (M' := mX10_heard) (As := [fz_i a1, fz_i a3]) (st := []) kLc9 rfl rfl vX10_heard rfl rfl rfl rfl (Nat.le_of_ble_eq_true rfl) (Nat.le_of_ble_eq_true rfl) (by decide) (sX10_heard h hI a1 a3 ) (fun H5 r6 q7 o8 => ?_)
  obtain ⟨e9, y11, rfl, f10⟩ := q7
  subst H5
  clear o8
  refine fz_pop rfl kLc9 rfl ?_
  refine fz_aload_n kLc9 rfl rfl ?_
  refine fz_aload_n kLc9 rfl rfl ?_
  refine fz_iload_n kLc9 rfl rfl ?_
  refine fz_iconst ⟨by decide, by decide⟩ kLc9 rfl ?_
  refine fz_iaddN kLc9 rfl (by omega) ?_
  refine fz_taldV (v := a1) kLc9 rfl ⟨by decide, by decide⟩ (by omega) (by omega) e2 ?_
  refine fz_aload_n kLc9 rfl rfl ?_
  refine fz_iload_n kLc9 rfl rfl ?_
  refine fz_iconst ⟨by decide, by decide⟩ kLc9 rfl ?_
  refine fz_iaddN kLc9 rfl (by omega) ?_
  refine fz_taldV (v := a3) kLc9 rfl ⟨by decide, by decide⟩ (by omega) (by omega) e4 ?_
  refine fz_callV (d' := 3) (M' := mX11_heard) (As := [fz_i a1, fz_i a3]) (st := []) kLc9 rfl rfl vX11_heard rfl rfl rfl rfl (Nat.le_of_ble_eq_true rfl) (Nat.le_of_ble_eq_true rfl) (by decide) (sX11_heard h hI a1 a3 ) (fun H12 r13 q14 o15 => ?_)
  obtain ⟨hI16, hf17, y19, rfl, f18⟩ := q14
  clear o15
  have hf20 := fz_fr_tr hf hf17 (fz_su_all rfl)
  have hXd21 : fz_Xd H12 := fz_Xd_eq (funext fun s => hf17 80 s rfl) hXd
  have hXh22 : fz_Xh H12 := fz_Xh_eq (funext fun s => hf17 83 s rfl) hXh
  have hXw23 : fz_Xw H12 := fz_Xw_eq (hf17 53 19 rfl) (funext fun s => hf17 66 s rfl) (funext fun s => hf17 67 s rfl) (funext fun s => hf17 68 s rfl) (funext fun s => hf17 69 s rfl) hXw
  have hRS24 : fz_RS H12 := fz_RS_eq (funext fun s => hf17 48 s rfl) (funext fun s => hf17 49 s rfl) (funext fun s => hf17 50 s rfl) (funext fun s => hf17 51 s rfl) (funext fun s => hf17 83 s rfl) (funext fun s => hf17 84 s rfl) (hf17 44 2 rfl) hRS
  have hRP25 : fz_RP H12 := fz_RP_eq (funext fun s => hf17 52 s rfl) (funext fun s => hf17 85 s rfl) hRP
  have hRK26 : fz_RK H12 := fz_RK_eq (funext fun s => hf17 45 s rfl) (funext fun s => hf17 81 s rfl) hRK
  have hRR27 : fz_RR H12 := fz_RR_eq (hf17 44 3 rfl) (hf17 53 46 rfl) (funext fun s => hf17 46 s rfl) (funext fun s => hf17 82 s rfl) hRR
  have hRT28 : fz_RT H12 := fz_RT_eq (funext fun s => hf17 41 s rfl) (funext fun s => hf17 42 s rfl) (hf17 1 7 rfl) hRT
  have hRE29 : fz_RE H12 := fz_RE_eq (funext fun s => hf17 5 s rfl) (funext fun s => hf17 6 s rfl) (hf17 1 8 rfl) (hf17 1 7 rfl) hRE
  have hR230 : fz_R2 H12 := fz_R2_eq (funext fun s => hf17 2 s rfl) (funext fun s => hf17 54 s rfl) hR2
  have hR331 : fz_R3 H12 := fz_R3_eq (funext fun s => hf17 3 s rfl) (funext fun s => hf17 57 s rfl) hR3
  have hR432 : fz_R4 H12 := fz_R4_eq (funext fun s => hf17 4 s rfl) (funext fun s => hf17 58 s rfl) hR4
  have hR2833 : fz_R28 H12 := fz_R28_eq (funext fun s => hf17 28 s rfl) (funext fun s => hf17 59 s rfl) hR28
  have hR534 : fz_R5 H12 := fz_R5_eq (funext fun s => hf17 5 s rfl) (funext fun s => hf17 55 s rfl) hR5
  have hR635 : fz_R6 H12 := fz_R6_eq (funext fun s => hf17 6 s rfl) (funext fun s => hf17 56 s rfl) hR6
  have hRG36 : fz_RG H12 := fz_RG_eq (hf17 27 8 rfl) (hf17 27 9 rfl) (hf17 53 8 rfl) (hf17 53 9 rfl) hRG
  have hRL37 : fz_RL H12 := fz_RL_eq (funext fun s => hf17 11 s rfl) (funext fun s => hf17 12 s rfl) (funext fun s => hf17 13 s rfl) (funext fun s => hf17 14 s rfl) (funext fun s => hf17 61 s rfl) (funext fun s => hf17 62 s rfl) (funext fun s => hf17 63 s rfl) (funext fun s => hf17 64 s rfl) (hf17 9 5 rfl) hRL
  have hRC38 : fz_RC H12 := fz_RC_eq (hf17 35 4 rfl) (hf17 35 5 rfl) (hf17 53 41 rfl) (hf17 53 42 rfl) (funext fun s => hf17 36 s rfl) (funext fun s => hf17 37 s rfl) (funext fun s => hf17 38 s rfl) (funext fun s => hf17 39 s rfl) (funext fun s => hf17 80 s rfl) (hf17 1 7 rfl) (hf17 1 8 rfl) (hf17 9 5 rfl) hRC
  have hRJ39 : fz_RJ H12 := fz_RJ_eq (hf17 40 1 rfl) (hf17 53 34 rfl) (funext fun s => hf17 41 s rfl) (funext fun s => hf17 76 s rfl) (hf17 40 6 rfl) (hf17 53 37 rfl) (funext fun s => hf17 42 s rfl) (funext fun s => hf17 78 s rfl) (hf17 43 0 rfl) (hf17 53 38 rfl) hRJ
  have hRW40 : fz_RW H12 := fz_RW_eq (funext fun s => hf17 10 s rfl) (funext fun s => hf17 60 s rfl) (hf17 9 5 rfl) hRW
  have hX41 : fz_Xc H12 := fz_Xc_fr hf17 rfl hX
  have t42 : H12 53 10 = h 53 10 := hf17 53 10 rfl
  have t43 : H12 53 41 = h 53 41 := hf17 53 41 rfl
  have t44 : H12 53 42 = h 53 42 := hf17 53 42 rfl
  have t45 : H12 9 5 = h 9 5 := hf17 9 5 rfl
  have t46 : H12 53 10 = h 53 10 := hf17 53 10 rfl
  have t47 : H12 44 2 = h 44 2 := hf17 44 2 rfl
  have t48 : H12 53 44 = h 53 44 := hf17 53 44 rfl
  have t49 : H12 20 2 = h 20 2 := hf17 20 2 rfl
  have t50 : H12 53 16 = h 53 16 := hf17 53 16 rfl
  have t51 : H12 1 7 = h 1 7 := hf17 1 7 rfl
  have t52 : H12 53 0 = h 53 0 := hf17 53 0 rfl
  have t53 : H12 1 8 = h 1 8 := hf17 1 8 rfl
  have t54 : H12 53 2 = h 53 2 := hf17 53 2 rfl
  refine fz_pop rfl kLc9 rfl ?_
  refine fz_goto (tgt := 1816) kLc9 rfl (by decide) ?_
  exact K H12 ⟨hI16, hX41, hXd21, hXh22, hXw23, (by rw [(hf17 53 10 rfl)]; exact hv1), (by rw [(hf17 53 42 rfl), (hf17 53 41 rfl)]; exact hv2), ((hf17 9 5 rfl).trans (hr0.trans (hf17 53 10 rfl).symm)), ((hf17 44 2 rfl).trans (hr1.trans (hf17 53 44 rfl).symm)), ((hf17 20 2 rfl).trans (hr2.trans (hf17 53 16 rfl).symm)), ((hf17 1 7 rfl).trans (hr3.trans (hf17 53 0 rfl).symm)), ((hf17 1 8 rfl).trans (hr4.trans (hf17 53 2 rfl).symm)), hRS24, hRP25, hRK26, hRR27, hRT28, hRE29, hR230, hR331, hR432, hR2833, hR534, hR635, hRG36, hRL37, hRC38, hRJ39, hRW40⟩ (funext fun s => hf20 200 s rfl)
def mLc10 : fz_M := (yL_law, code, 4, (some .boolean), [(544, .aload_n 1, 1, 0, 0, 0), (545, .aload_n 0, 1, 0, 0, 0), (546, .iload_n 3, 1, 0, 0, 0), (547, .iconst 1, 1, 0, 0, 0), (548, .iadd, 1, 0, 0, 0), (549, .iaload, 1, 0, 0, 0), (550, .aload_n 0, 1, 0, 0, 0), (551, .iload_n 3, 1, 0, 0, 0), (552, .iconst 2, 1, 0, 0, 0), (553, .iadd, 1, 0, 0, 0), (554, .iaload, 1, 0, 0, 0), (555, .invokevirtual 57, 3, 3167, 55, 0), (558, .pop, 1, 0, 0, 0), (559, .aload_n 2, 1, 0, 0, 0), (560, .aload_n 0, 1, 0, 0, 0), (561, .iload_n 3, 1, 0, 0, 0), (562, .iconst 1, 1, 0, 0, 0), (563, .iadd, 1, 0, 0, 0), (564, .iaload, 1, 0, 0, 0), (565, .aload_n 0, 1, 0, 0, 0), (566, .iload_n 3, 1, 0, 0, 0), (567, .iconst 2, 1, 0, 0, 0), (568, .iadd, 1, 0, 0, 0), (569, .iaload, 1, 0, 0, 0), (570, .invokevirtual 60, 3, 6196, 147, 0), (573, .pop, 1, 0, 0, 0), (574, .goto 1242, 3, 0, 0, 0)])
set_option maxRecDepth 100000 in
theorem kLc10 : fz_okM mLc10 = true := fz_okM_in (by decide +kernel) (by decide +kernel)
set_option maxHeartbeats 1000000 in
set_option maxRecDepth 100000 in
theorem lc10 (h : fz_H) (hI : fz_Iv h) (hX : fz_Xc h) (hXd : fz_Xd h) (hXh : fz_Xh h) (hXw : fz_Xw h) (hv1 : h 53 10 ≤ 10) (hv2 : h 53 42 ≤ h 53 41) (hr0 : h 9 5 = h 53 10) (hr1 : h 44 2 = h 53 44) (hr2 : h 20 2 = h 53 16) (hr3 : h 1 7 = h 53 0) (hr4 : h 1 8 = h 53 2) (hRS : fz_RS h) (hRP : fz_RP h) (hRK : fz_RK h) (hRR : fz_RR h) (hRT : fz_RT h) (hRE : fz_RE h) (hR2 : fz_R2 h) (hR3 : fz_R3 h) (hR4 : fz_R4 h) (hR28 : fz_R28 h) (hR5 : fz_R5 h) (hR6 : fz_R6 h) (hRG : fz_RG h) (hRL : fz_RL h) (hRC : fz_RC h) (hRJ : fz_RJ h) (hRW : fz_RW h) (i : Int) (hi : 0 ≤ i ∧ i + 6 ≤ h 200 100000 ∧ h 200 100000 ≤ 3072) {Q : fz_H → Option fz_V → Prop} (K : ∀ H : fz_H, fz_Gd H → H 200 = h 200 → fz_R 47 mLe 1816 [(3, fz_i i), (0, fz_r 200), (1, fz_r 0), (2, fz_r 53)] [] H Q) : fz_R 47 mLc10 544 [(3, fz_i i), (0, fz_r 200), (1, fz_r 0), (2, fz_r 53)] [] h Q := by
  have hf : fz_fr fz_all h h := fz_fr_rf
  refine fz_aload_n kLc10 rfl rfl ?_
  refine fz_aload_n kLc10 rfl rfl ?_
  refine fz_iload_n kLc10 rfl rfl ?_
  refine fz_iconst ⟨by decide, by decide⟩ kLc10 rfl ?_
  refine fz_iaddN kLc10 rfl (by omega) ?_
  obtain ⟨a1, e2⟩ : ∃ z, h 200 ((i + 1)).toNat = z := ⟨_, rfl⟩
  refine fz_taldV (v := a1) kLc10 rfl ⟨by decide, by decide⟩ (by omega) (by omega) e2 ?_
  refine fz_aload_n kLc10 rfl rfl ?_
  refine fz_iload_n kLc10 rfl rfl ?_
  refine fz_iconst ⟨by decide, by decide⟩ kLc10 rfl ?_
  refine fz_iaddN kLc10 rfl (by omega) ?_
  obtain ⟨a3, e4⟩ : ∃ z, h 200 ((i + 2)).toNat = z := ⟨_, rfl⟩
  refine fz_taldV (v := a3) kLc10 rfl ⟨by decide, by decide⟩ (by omega) (by omega) e4 ?_
  refine fz_callV (d' := 4) (M' := mX10_loud) (As := [fz_i a1, fz_i a3]) (st := []) kLc10 rfl rfl vX10_loud rfl rfl rfl rfl (Nat.le_of_ble_eq_true rfl) (Nat.le_of_ble_eq_true rfl) (by decide) (sX10_loud h hI a1 a3 ) (fun H5 r6 q7 o8 => ?_)
  obtain ⟨hI9, hf10, y12, rfl, f11⟩ := q7
  clear o8
  have hf13 := fz_fr_tr hf hf10 (fz_su_all rfl)
  have hXd14 : fz_Xd H5 := fz_Xd_eq (funext fun s => hf10 80 s rfl) hXd
  have hXh15 : fz_Xh H5 := fz_Xh_eq (funext fun s => hf10 83 s rfl) hXh
  have hXw16 : fz_Xw H5 := fz_Xw_eq (hf10 53 19 rfl) (funext fun s => hf10 66 s rfl) (funext fun s => hf10 67 s rfl) (funext fun s => hf10 68 s rfl) (funext fun s => hf10 69 s rfl) hXw
  have hRS17 : fz_RS H5 := fz_RS_eq (funext fun s => hf10 48 s rfl) (funext fun s => hf10 49 s rfl) (funext fun s => hf10 50 s rfl) (funext fun s => hf10 51 s rfl) (funext fun s => hf10 83 s rfl) (funext fun s => hf10 84 s rfl) (hf10 44 2 rfl) hRS
  have hRP18 : fz_RP H5 := fz_RP_eq (funext fun s => hf10 52 s rfl) (funext fun s => hf10 85 s rfl) hRP
  have hRK19 : fz_RK H5 := fz_RK_eq (funext fun s => hf10 45 s rfl) (funext fun s => hf10 81 s rfl) hRK
  have hRR20 : fz_RR H5 := fz_RR_eq (hf10 44 3 rfl) (hf10 53 46 rfl) (funext fun s => hf10 46 s rfl) (funext fun s => hf10 82 s rfl) hRR
  have hRT21 : fz_RT H5 := fz_RT_eq (funext fun s => hf10 41 s rfl) (funext fun s => hf10 42 s rfl) (hf10 1 7 rfl) hRT
  have hRE22 : fz_RE H5 := fz_RE_eq (funext fun s => hf10 5 s rfl) (funext fun s => hf10 6 s rfl) (hf10 1 8 rfl) (hf10 1 7 rfl) hRE
  have hR223 : fz_R2 H5 := fz_R2_eq (funext fun s => hf10 2 s rfl) (funext fun s => hf10 54 s rfl) hR2
  have hR324 : fz_R3 H5 := fz_R3_eq (funext fun s => hf10 3 s rfl) (funext fun s => hf10 57 s rfl) hR3
  have hR425 : fz_R4 H5 := fz_R4_eq (funext fun s => hf10 4 s rfl) (funext fun s => hf10 58 s rfl) hR4
  have hR2826 : fz_R28 H5 := fz_R28_eq (funext fun s => hf10 28 s rfl) (funext fun s => hf10 59 s rfl) hR28
  have hR527 : fz_R5 H5 := fz_R5_eq (funext fun s => hf10 5 s rfl) (funext fun s => hf10 55 s rfl) hR5
  have hR628 : fz_R6 H5 := fz_R6_eq (funext fun s => hf10 6 s rfl) (funext fun s => hf10 56 s rfl) hR6
  have hRG29 : fz_RG H5 := fz_RG_eq (hf10 27 8 rfl) (hf10 27 9 rfl) (hf10 53 8 rfl) (hf10 53 9 rfl) hRG
  have hRL30 : fz_RL H5 := fz_RL_eq (funext fun s => hf10 11 s rfl) (funext fun s => hf10 12 s rfl) (funext fun s => hf10 13 s rfl) (funext fun s => hf10 14 s rfl) (funext fun s => hf10 61 s rfl) (funext fun s => hf10 62 s rfl) (funext fun s => hf10 63 s rfl) (funext fun s => hf10 64 s rfl) (hf10 9 5 rfl) hRL
  have hRC31 : fz_RC H5 := fz_RC_eq (hf10 35 4 rfl) (hf10 35 5 rfl) (hf10 53 41 rfl) (hf10 53 42 rfl) (funext fun s => hf10 36 s rfl) (funext fun s => hf10 37 s rfl) (funext fun s => hf10 38 s rfl) (funext fun s => hf10 39 s rfl) (funext fun s => hf10 80 s rfl) (hf10 1 7 rfl) (hf10 1 8 rfl) (hf10 9 5 rfl) hRC
  have hRJ32 : fz_RJ H5 := fz_RJ_eq (hf10 40 1 rfl) (hf10 53 34 rfl) (funext fun s => hf10 41 s rfl) (funext fun s => hf10 76 s rfl) (hf10 40 6 rfl) (hf10 53 37 rfl) (funext fun s => hf10 42 s rfl) (funext fun s => hf10 78 s rfl) (hf10 43 0 rfl) (hf10 53 38 rfl) hRJ
  have hRW33 : fz_RW H5 := fz_RW_eq (funext fun s => hf10 10 s rfl) (funext fun s => hf10 60 s rfl) (hf10 9 5 rfl) hRW
  have hX34 : fz_Xc H5 := fz_Xc_fr hf10 rfl hX
  have t35 : H5 53 10 = h 53 10 := hf10 53 10 rfl
  have t36 : H5 53 41 = h 53 41 := hf10 53 41 rfl
  have t37 : H5 53 42 = h 53 42 := hf10 53 42 rfl
  have t38 : H5 9 5 = h 9 5 := hf10 9 5 rfl
  have t39 : H5 53 10 = h 53 10 := hf10 53 10 rfl
  have t40 : H5 44 2 = h 44 2 := hf10 44 2 rfl
  have t41 : H5 53 44 = h 53 44 := hf10 53 44 rfl
  have t42 : H5 20 2 = h 20 2 := hf10 20 2 rfl
  have t43 : H5 53 16 = h 53 16 := hf10 53 16 rfl
  have t44 : H5 1 7 = h 1 7 := hf10 1 7 rfl
  have t45 : H5 53 0 = h 53 0 := hf10 53 0 rfl
  have t46 : H5 1 8 = h 1 8 := hf10 1 8 rfl
  have t47 : H5 53 2 = h 53 2 := hf10 53 2 rfl
  refine fz_pop rfl kLc10 rfl ?_
  refine fz_aload_n kLc10 rfl rfl ?_
  refine fz_aload_n kLc10 rfl rfl ?_
  refine fz_iload_n kLc10 rfl rfl ?_
  refine fz_iconst ⟨by decide, by decide⟩ kLc10 rfl ?_
  refine fz_iaddN kLc10 rfl (by omega) ?_
  refine fz_taldV (v := a1) kLc10 rfl ⟨by decide, by decide⟩ (by omega) (by rw [hf13 200 _ rfl]; omega) ((hf13 200 _ rfl).trans e2) ?_
  refine fz_aload_n kLc10 rfl rfl ?_
  refine fz_iload_n kLc10 rfl rfl ?_
  refine fz_iconst ⟨by decide, by decide⟩ kLc10 rfl ?_
  refine fz_iaddN kLc10 rfl (by omega) ?_
  refine fz_taldV (v := a3) kLc10 rfl ⟨by decide, by decide⟩ (by omega) (by rw [hf13 200 _ rfl]; omega) ((hf13 200 _ rfl).trans e4) ?_
  refine fz_callV (d' := 3) (M' := mX11_loud) (As := [fz_i a1, fz_i a3]) (st := []) kLc10 rfl rfl vX11_loud rfl rfl rfl rfl (Nat.le_of_ble_eq_true rfl) (Nat.le_of_ble_eq_true rfl) (by decide) (sX11_loud H5 hI9 a1 a3 hXw16) (fun H48 r49 q50 o51 => ?_)
  obtain ⟨hI52, hf53, hXw54, y56, rfl, f55⟩ := q50
  clear o51
  have hf57 := fz_fr_tr hf13 hf53 (fz_su_all rfl)
  have hXd58 : fz_Xd H48 := fz_Xd_eq (funext fun s => hf53 80 s rfl) hXd14
  have hXh59 : fz_Xh H48 := fz_Xh_eq (funext fun s => hf53 83 s rfl) hXh15
  have hRS60 : fz_RS H48 := fz_RS_eq (funext fun s => hf53 48 s rfl) (funext fun s => hf53 49 s rfl) (funext fun s => hf53 50 s rfl) (funext fun s => hf53 51 s rfl) (funext fun s => hf53 83 s rfl) (funext fun s => hf53 84 s rfl) (hf53 44 2 rfl) hRS17
  have hRP61 : fz_RP H48 := fz_RP_eq (funext fun s => hf53 52 s rfl) (funext fun s => hf53 85 s rfl) hRP18
  have hRK62 : fz_RK H48 := fz_RK_eq (funext fun s => hf53 45 s rfl) (funext fun s => hf53 81 s rfl) hRK19
  have hRR63 : fz_RR H48 := fz_RR_eq (hf53 44 3 rfl) (hf53 53 46 rfl) (funext fun s => hf53 46 s rfl) (funext fun s => hf53 82 s rfl) hRR20
  have hRT64 : fz_RT H48 := fz_RT_eq (funext fun s => hf53 41 s rfl) (funext fun s => hf53 42 s rfl) (hf53 1 7 rfl) hRT21
  have hRE65 : fz_RE H48 := fz_RE_eq (funext fun s => hf53 5 s rfl) (funext fun s => hf53 6 s rfl) (hf53 1 8 rfl) (hf53 1 7 rfl) hRE22
  have hR266 : fz_R2 H48 := fz_R2_eq (funext fun s => hf53 2 s rfl) (funext fun s => hf53 54 s rfl) hR223
  have hR367 : fz_R3 H48 := fz_R3_eq (funext fun s => hf53 3 s rfl) (funext fun s => hf53 57 s rfl) hR324
  have hR468 : fz_R4 H48 := fz_R4_eq (funext fun s => hf53 4 s rfl) (funext fun s => hf53 58 s rfl) hR425
  have hR2869 : fz_R28 H48 := fz_R28_eq (funext fun s => hf53 28 s rfl) (funext fun s => hf53 59 s rfl) hR2826
  have hR570 : fz_R5 H48 := fz_R5_eq (funext fun s => hf53 5 s rfl) (funext fun s => hf53 55 s rfl) hR527
  have hR671 : fz_R6 H48 := fz_R6_eq (funext fun s => hf53 6 s rfl) (funext fun s => hf53 56 s rfl) hR628
  have hRG72 : fz_RG H48 := fz_RG_eq (hf53 27 8 rfl) (hf53 27 9 rfl) (hf53 53 8 rfl) (hf53 53 9 rfl) hRG29
  have hRL73 : fz_RL H48 := fz_RL_eq (funext fun s => hf53 11 s rfl) (funext fun s => hf53 12 s rfl) (funext fun s => hf53 13 s rfl) (funext fun s => hf53 14 s rfl) (funext fun s => hf53 61 s rfl) (funext fun s => hf53 62 s rfl) (funext fun s => hf53 63 s rfl) (funext fun s => hf53 64 s rfl) (hf53 9 5 rfl) hRL30
  have hRC74 : fz_RC H48 := fz_RC_eq (hf53 35 4 rfl) (hf53 35 5 rfl) (hf53 53 41 rfl) (hf53 53 42 rfl) (funext fun s => hf53 36 s rfl) (funext fun s => hf53 37 s rfl) (funext fun s => hf53 38 s rfl) (funext fun s => hf53 39 s rfl) (funext fun s => hf53 80 s rfl) (hf53 1 7 rfl) (hf53 1 8 rfl) (hf53 9 5 rfl) hRC31
  have hRJ75 : fz_RJ H48 := fz_RJ_eq (hf53 40 1 rfl) (hf53 53 34 rfl) (funext fun s => hf53 41 s rfl) (funext fun s => hf53 76 s rfl) (hf53 40 6 rfl) (hf53 53 37 rfl) (funext fun s => hf53 42 s rfl) (funext fun s => hf53 78 s rfl) (hf53 43 0 rfl) (hf53 53 38 rfl) hRJ32
  have hRW76 : fz_RW H48 := fz_RW_eq (funext fun s => hf53 10 s rfl) (funext fun s => hf53 60 s rfl) (hf53 9 5 rfl) hRW33
  have hX77 : fz_Xc H48 := fz_Xc_fr hf53 rfl hX34
  have t78 : H48 53 10 = H5 53 10 := hf53 53 10 rfl
  have t79 : H48 53 41 = H5 53 41 := hf53 53 41 rfl
  have t80 : H48 53 42 = H5 53 42 := hf53 53 42 rfl
  have t81 : H48 9 5 = H5 9 5 := hf53 9 5 rfl
  have t82 : H48 53 10 = H5 53 10 := hf53 53 10 rfl
  have t83 : H48 44 2 = H5 44 2 := hf53 44 2 rfl
  have t84 : H48 53 44 = H5 53 44 := hf53 53 44 rfl
  have t85 : H48 20 2 = H5 20 2 := hf53 20 2 rfl
  have t86 : H48 53 16 = H5 53 16 := hf53 53 16 rfl
  have t87 : H48 1 7 = H5 1 7 := hf53 1 7 rfl
  have t88 : H48 53 0 = H5 53 0 := hf53 53 0 rfl
  have t89 : H48 1 8 = H5 1 8 := hf53 1 8 rfl
  have t90 : H48 53 2 = H5 53 2 := hf53 53 2 rfl
  refine fz_pop rfl kLc10 rfl ?_
  refine fz_goto (tgt := 1816) kLc10 rfl (by decide) ?_
  exact K H48 ⟨hI52, hX77, hXd58, hXh59, hXw54, (by rw [((hf53 53 10 rfl).trans (hf10 53 10 rfl))]; exact hv1), (by rw [((hf53 53 42 rfl).trans (hf10 53 42 rfl)), ((hf53 53 41 rfl).trans (hf10 53 41 rfl))]; exact hv2), (((hf53 9 5 rfl).trans (hf10 9 5 rfl)).trans (hr0.trans ((hf53 53 10 rfl).trans (hf10 53 10 rfl)).symm)), (((hf53 44 2 rfl).trans (hf10 44 2 rfl)).trans (hr1.trans ((hf53 53 44 rfl).trans (hf10 53 44 rfl)).symm)), (((hf53 20 2 rfl).trans (hf10 20 2 rfl)).trans (hr2.trans ((hf53 53 16 rfl).trans (hf10 53 16 rfl)).symm)), (((hf53 1 7 rfl).trans (hf10 1 7 rfl)).trans (hr3.trans ((hf53 53 0 rfl).trans (hf10 53 0 rfl)).symm)), (((hf53 1 8 rfl).trans (hf10 1 8 rfl)).trans (hr4.trans ((hf53 53 2 rfl).trans (hf10 53 2 rfl)).symm)), hRS60, hRP61, hRK62, hRR63, hRT64, hRE65, hR266, hR367, hR468, hR2869, hR570, hR671, hRG72, hRL73, hRC74, hRJ75, hRW76⟩ (funext fun s => hf57 200 s rfl)
def mLc11 : fz_M := (yL_law, code, 4, (some .boolean), [(577, .aload_n 1, 1, 0, 0, 0), (578, .aload_n 0, 1, 0, 0, 0), (579, .iload_n 3, 1, 0, 0, 0), (580, .iconst 1, 1, 0, 0, 0), (581, .iadd, 1, 0, 0, 0), (582, .iaload, 1, 0, 0, 0), (583, .aload_n 0, 1, 0, 0, 0), (584, .iload_n 3, 1, 0, 0, 0), (585, .iconst 2, 1, 0, 0, 0), (586, .iadd, 1, 0, 0, 0), (587, .iaload, 1, 0, 0, 0), (588, .invokevirtual 61, 3, 3191, 70, 0), (591, .pop, 1, 0, 0, 0), (592, .aload_n 2, 1, 0, 0, 0), (593, .aload_n 0, 1, 0, 0, 0), (594, .iload_n 3, 1, 0, 0, 0), (595, .iconst 1, 1, 0, 0, 0), (596, .iadd, 1, 0, 0, 0), (597, .iaload, 1, 0, 0, 0), (598, .aload_n 0, 1, 0, 0, 0), (599, .iload_n 3, 1, 0, 0, 0), (600, .iconst 2, 1, 0, 0, 0), (601, .iadd, 1, 0, 0, 0), (602, .iaload, 1, 0, 0, 0), (603, .invokevirtual 64, 3, 6217, 170, 0), (606, .pop, 1, 0, 0, 0), (607, .goto 1209, 3, 0, 0, 0)])
set_option maxRecDepth 100000 in
theorem kLc11 : fz_okM mLc11 = true := fz_okM_in (by decide +kernel) (by decide +kernel)
set_option maxHeartbeats 1000000 in
set_option maxRecDepth 100000 in
theorem lc11 (h : fz_H) (hI : fz_Iv h) (hX : fz_Xc h) (hXd : fz_Xd h) (hXh : fz_Xh h) (hXw : fz_Xw h) (hv1 : h 53 10 ≤ 10) (hv2 : h 53 42 ≤ h 53 41) (hr0 : h 9 5 = h 53 10) (hr1 : h 44 2 = h 53 44) (hr2 : h 20 2 = h 53 16) (hr3 : h 1 7 = h 53 0) (hr4 : h 1 8 = h 53 2) (hRS : fz_RS h) (hRP : fz_RP h) (hRK : fz_RK h) (hRR : fz_RR h) (hRT : fz_RT h) (hRE : fz_RE h) (hR2 : fz_R2 h) (hR3 : fz_R3 h) (hR4 : fz_R4 h) (hR28 : fz_R28 h) (hR5 : fz_R5 h) (hR6 : fz_R6 h) (hRG : fz_RG h) (hRL : fz_RL h) (hRC : fz_RC h) (hRJ : fz_RJ h) (hRW : fz_RW h) (i : Int) (hi : 0 ≤ i ∧ i + 6 ≤ h 200 100000 ∧ h 200 100000 ≤ 3072) {Q : fz_H → Option fz_V → Prop} (K : ∀ H : fz_H, fz_Gd H → H 200 = h 200 → fz_R 47 mLe 1816 [(3, fz_i i), (0, fz_r 200), (1, fz_r 0), (2, fz_r 53)] [] H Q) : fz_R 47 mLc11 577 [(3, fz_i i), (0, fz_r 200), (1, fz_r 0), (2, fz_r 53)] [] h Q := by
  have hf : fz_fr fz_all h h := fz_fr_rf
  refine fz_aload_n kLc11 rfl rfl ?_
  refine fz_aload_n kLc11 rfl rfl ?_
  refine fz_iload_n kLc11 rfl rfl ?_
  refine fz_iconst ⟨by decide, by decide⟩ kLc11 rfl ?_
  refine fz_iaddN kLc11 rfl (by omega) ?_
  obtain ⟨a1, e2⟩ : ∃ z, h 200 ((i + 1)).toNat = z := ⟨_, rfl⟩
  refine fz_taldV (v := a1) kLc11 rfl ⟨by decide, by decide⟩ (by omega) (by omega) e2 ?_
  refine fz_aload_n kLc11 rfl rfl ?_
  refine fz_iload_n kLc11 rfl rfl ?_
  refine fz_iconst ⟨by decide, by decide⟩ kLc11 rfl ?_
  refine fz_iaddN kLc11 rfl (by omega) ?_
  obtain ⟨a3, e4⟩ : ∃ z, h 200 ((i + 2)).toNat = z := ⟨_, rfl⟩
  refine fz_taldV (v := a3) kLc11 rfl ⟨by decide, by decide⟩ (by omega) (by omega) e4 ?_
  refine fz_callV (d' := 5) (M' := mX10_said) (As := [fz_i a1, fz_i a3]) (st := []) kLc11 rfl rfl vX10_said rfl rfl rfl rfl (Nat.le_of_ble_eq_true rfl) (Nat.le_of_ble_eq_true rfl) (by decide) (sX10_said h hI a1 a3 ) (fun H5 r6 q7 o8 => ?_)
  obtain ⟨hI9, hf10, y12, rfl, f11⟩ := q7
  clear o8
  have hf13 := fz_fr_tr hf hf10 (fz_su_all rfl)
  have hXd14 : fz_Xd H5 := fz_Xd_eq (funext fun s => hf10 80 s rfl) hXd
  have hXh15 : fz_Xh H5 := fz_Xh_eq (funext fun s => hf10 83 s rfl) hXh
  have hXw16 : fz_Xw H5 := fz_Xw_eq (hf10 53 19 rfl) (funext fun s => hf10 66 s rfl) (funext fun s => hf10 67 s rfl) (funext fun s => hf10 68 s rfl) (funext fun s => hf10 69 s rfl) hXw
  have hRS17 : fz_RS H5 := fz_RS_eq (funext fun s => hf10 48 s rfl) (funext fun s => hf10 49 s rfl) (funext fun s => hf10 50 s rfl) (funext fun s => hf10 51 s rfl) (funext fun s => hf10 83 s rfl) (funext fun s => hf10 84 s rfl) (hf10 44 2 rfl) hRS
  have hRP18 : fz_RP H5 := fz_RP_eq (funext fun s => hf10 52 s rfl) (funext fun s => hf10 85 s rfl) hRP
  have hRK19 : fz_RK H5 := fz_RK_eq (funext fun s => hf10 45 s rfl) (funext fun s => hf10 81 s rfl) hRK
  have hRR20 : fz_RR H5 := fz_RR_eq (hf10 44 3 rfl) (hf10 53 46 rfl) (funext fun s => hf10 46 s rfl) (funext fun s => hf10 82 s rfl) hRR
  have hRT21 : fz_RT H5 := fz_RT_eq (funext fun s => hf10 41 s rfl) (funext fun s => hf10 42 s rfl) (hf10 1 7 rfl) hRT
  have hRE22 : fz_RE H5 := fz_RE_eq (funext fun s => hf10 5 s rfl) (funext fun s => hf10 6 s rfl) (hf10 1 8 rfl) (hf10 1 7 rfl) hRE
  have hR223 : fz_R2 H5 := fz_R2_eq (funext fun s => hf10 2 s rfl) (funext fun s => hf10 54 s rfl) hR2
  have hR324 : fz_R3 H5 := fz_R3_eq (funext fun s => hf10 3 s rfl) (funext fun s => hf10 57 s rfl) hR3
  have hR425 : fz_R4 H5 := fz_R4_eq (funext fun s => hf10 4 s rfl) (funext fun s => hf10 58 s rfl) hR4
  have hR2826 : fz_R28 H5 := fz_R28_eq (funext fun s => hf10 28 s rfl) (funext fun s => hf10 59 s rfl) hR28
  have hR527 : fz_R5 H5 := fz_R5_eq (funext fun s => hf10 5 s rfl) (funext fun s => hf10 55 s rfl) hR5
  have hR628 : fz_R6 H5 := fz_R6_eq (funext fun s => hf10 6 s rfl) (funext fun s => hf10 56 s rfl) hR6
  have hRG29 : fz_RG H5 := fz_RG_eq (hf10 27 8 rfl) (hf10 27 9 rfl) (hf10 53 8 rfl) (hf10 53 9 rfl) hRG
  have hRL30 : fz_RL H5 := fz_RL_eq (funext fun s => hf10 11 s rfl) (funext fun s => hf10 12 s rfl) (funext fun s => hf10 13 s rfl) (funext fun s => hf10 14 s rfl) (funext fun s => hf10 61 s rfl) (funext fun s => hf10 62 s rfl) (funext fun s => hf10 63 s rfl) (funext fun s => hf10 64 s rfl) (hf10 9 5 rfl) hRL
  have hRC31 : fz_RC H5 := fz_RC_eq (hf10 35 4 rfl) (hf10 35 5 rfl) (hf10 53 41 rfl) (hf10 53 42 rfl) (funext fun s => hf10 36 s rfl) (funext fun s => hf10 37 s rfl) (funext fun s => hf10 38 s rfl) (funext fun s => hf10 39 s rfl) (funext fun s => hf10 80 s rfl) (hf10 1 7 rfl) (hf10 1 8 rfl) (hf10 9 5 rfl) hRC
  have hRJ32 : fz_RJ H5 := fz_RJ_eq (hf10 40 1 rfl) (hf10 53 34 rfl) (funext fun s => hf10 41 s rfl) (funext fun s => hf10 76 s rfl) (hf10 40 6 rfl) (hf10 53 37 rfl) (funext fun s => hf10 42 s rfl) (funext fun s => hf10 78 s rfl) (hf10 43 0 rfl) (hf10 53 38 rfl) hRJ
  have hRW33 : fz_RW H5 := fz_RW_eq (funext fun s => hf10 10 s rfl) (funext fun s => hf10 60 s rfl) (hf10 9 5 rfl) hRW
  have hX34 : fz_Xc H5 := fz_Xc_fr hf10 rfl hX
  have t35 : H5 53 10 = h 53 10 := hf10 53 10 rfl
  have t36 : H5 53 41 = h 53 41 := hf10 53 41 rfl
  have t37 : H5 53 42 = h 53 42 := hf10 53 42 rfl
  have t38 : H5 9 5 = h 9 5 := hf10 9 5 rfl
  have t39 : H5 53 10 = h 53 10 := hf10 53 10 rfl
  have t40 : H5 44 2 = h 44 2 := hf10 44 2 rfl
  have t41 : H5 53 44 = h 53 44 := hf10 53 44 rfl
  have t42 : H5 20 2 = h 20 2 := hf10 20 2 rfl
  have t43 : H5 53 16 = h 53 16 := hf10 53 16 rfl
  have t44 : H5 1 7 = h 1 7 := hf10 1 7 rfl
  have t45 : H5 53 0 = h 53 0 := hf10 53 0 rfl
  have t46 : H5 1 8 = h 1 8 := hf10 1 8 rfl
  have t47 : H5 53 2 = h 53 2 := hf10 53 2 rfl
  refine fz_pop rfl kLc11 rfl ?_
  refine fz_aload_n kLc11 rfl rfl ?_
  refine fz_aload_n kLc11 rfl rfl ?_
  refine fz_iload_n kLc11 rfl rfl ?_
  refine fz_iconst ⟨by decide, by decide⟩ kLc11 rfl ?_
  refine fz_iaddN kLc11 rfl (by omega) ?_
  refine fz_taldV (v := a1) kLc11 rfl ⟨by decide, by decide⟩ (by omega) (by rw [hf13 200 _ rfl]; omega) ((hf13 200 _ rfl).trans e2) ?_
  refine fz_aload_n kLc11 rfl rfl ?_
  refine fz_iload_n kLc11 rfl rfl ?_
  refine fz_iconst ⟨by decide, by decide⟩ kLc11 rfl ?_
  refine fz_iaddN kLc11 rfl (by omega) ?_
  refine fz_taldV (v := a3) kLc11 rfl ⟨by decide, by decide⟩ (by omega) (by rw [hf13 200 _ rfl]; omega) ((hf13 200 _ rfl).trans e4) ?_
  refine fz_callV (d' := 4) (M' := mX11_said) (As := [fz_i a1, fz_i a3]) (st := []) kLc11 rfl rfl vX11_said rfl rfl rfl rfl (Nat.le_of_ble_eq_true rfl) (Nat.le_of_ble_eq_true rfl) (by decide) (sX11_said H5 hI9 a1 a3 hXw16) (fun H48 r49 q50 o51 => ?_)
  obtain ⟨hI52, hf53, hXw54, y56, rfl, f55⟩ := q50
  clear o51
  have hf57 := fz_fr_tr hf13 hf53 (fz_su_all rfl)
  have hXd58 : fz_Xd H48 := fz_Xd_eq (funext fun s => hf53 80 s rfl) hXd14
  have hXh59 : fz_Xh H48 := fz_Xh_eq (funext fun s => hf53 83 s rfl) hXh15
  have hRS60 : fz_RS H48 := fz_RS_eq (funext fun s => hf53 48 s rfl) (funext fun s => hf53 49 s rfl) (funext fun s => hf53 50 s rfl) (funext fun s => hf53 51 s rfl) (funext fun s => hf53 83 s rfl) (funext fun s => hf53 84 s rfl) (hf53 44 2 rfl) hRS17
  have hRP61 : fz_RP H48 := fz_RP_eq (funext fun s => hf53 52 s rfl) (funext fun s => hf53 85 s rfl) hRP18
  have hRK62 : fz_RK H48 := fz_RK_eq (funext fun s => hf53 45 s rfl) (funext fun s => hf53 81 s rfl) hRK19
  have hRR63 : fz_RR H48 := fz_RR_eq (hf53 44 3 rfl) (hf53 53 46 rfl) (funext fun s => hf53 46 s rfl) (funext fun s => hf53 82 s rfl) hRR20
  have hRT64 : fz_RT H48 := fz_RT_eq (funext fun s => hf53 41 s rfl) (funext fun s => hf53 42 s rfl) (hf53 1 7 rfl) hRT21
  have hRE65 : fz_RE H48 := fz_RE_eq (funext fun s => hf53 5 s rfl) (funext fun s => hf53 6 s rfl) (hf53 1 8 rfl) (hf53 1 7 rfl) hRE22
  have hR266 : fz_R2 H48 := fz_R2_eq (funext fun s => hf53 2 s rfl) (funext fun s => hf53 54 s rfl) hR223
  have hR367 : fz_R3 H48 := fz_R3_eq (funext fun s => hf53 3 s rfl) (funext fun s => hf53 57 s rfl) hR324
  have hR468 : fz_R4 H48 := fz_R4_eq (funext fun s => hf53 4 s rfl) (funext fun s => hf53 58 s rfl) hR425
  have hR2869 : fz_R28 H48 := fz_R28_eq (funext fun s => hf53 28 s rfl) (funext fun s => hf53 59 s rfl) hR2826
  have hR570 : fz_R5 H48 := fz_R5_eq (funext fun s => hf53 5 s rfl) (funext fun s => hf53 55 s rfl) hR527
  have hR671 : fz_R6 H48 := fz_R6_eq (funext fun s => hf53 6 s rfl) (funext fun s => hf53 56 s rfl) hR628
  have hRG72 : fz_RG H48 := fz_RG_eq (hf53 27 8 rfl) (hf53 27 9 rfl) (hf53 53 8 rfl) (hf53 53 9 rfl) hRG29
  have hRL73 : fz_RL H48 := fz_RL_eq (funext fun s => hf53 11 s rfl) (funext fun s => hf53 12 s rfl) (funext fun s => hf53 13 s rfl) (funext fun s => hf53 14 s rfl) (funext fun s => hf53 61 s rfl) (funext fun s => hf53 62 s rfl) (funext fun s => hf53 63 s rfl) (funext fun s => hf53 64 s rfl) (hf53 9 5 rfl) hRL30
  have hRC74 : fz_RC H48 := fz_RC_eq (hf53 35 4 rfl) (hf53 35 5 rfl) (hf53 53 41 rfl) (hf53 53 42 rfl) (funext fun s => hf53 36 s rfl) (funext fun s => hf53 37 s rfl) (funext fun s => hf53 38 s rfl) (funext fun s => hf53 39 s rfl) (funext fun s => hf53 80 s rfl) (hf53 1 7 rfl) (hf53 1 8 rfl) (hf53 9 5 rfl) hRC31
  have hRJ75 : fz_RJ H48 := fz_RJ_eq (hf53 40 1 rfl) (hf53 53 34 rfl) (funext fun s => hf53 41 s rfl) (funext fun s => hf53 76 s rfl) (hf53 40 6 rfl) (hf53 53 37 rfl) (funext fun s => hf53 42 s rfl) (funext fun s => hf53 78 s rfl) (hf53 43 0 rfl) (hf53 53 38 rfl) hRJ32
  have hRW76 : fz_RW H48 := fz_RW_eq (funext fun s => hf53 10 s rfl) (funext fun s => hf53 60 s rfl) (hf53 9 5 rfl) hRW33
  have hX77 : fz_Xc H48 := fz_Xc_fr hf53 rfl hX34
  have t78 : H48 53 10 = H5 53 10 := hf53 53 10 rfl
  have t79 : H48 53 41 = H5 53 41 := hf53 53 41 rfl
  have t80 : H48 53 42 = H5 53 42 := hf53 53 42 rfl
  have t81 : H48 9 5 = H5 9 5 := hf53 9 5 rfl
  have t82 : H48 53 10 = H5 53 10 := hf53 53 10 rfl
  have t83 : H48 44 2 = H5 44 2 := hf53 44 2 rfl
  have t84 : H48 53 44 = H5 53 44 := hf53 53 44 rfl
  have t85 : H48 20 2 = H5 20 2 := hf53 20 2 rfl
  have t86 : H48 53 16 = H5 53 16 := hf53 53 16 rfl
  have t87 : H48 1 7 = H5 1 7 := hf53 1 7 rfl
  have t88 : H48 53 0 = H5 53 0 := hf53 53 0 rfl
  have t89 : H48 1 8 = H5 1 8 := hf53 1 8 rfl
  have t90 : H48 53 2 = H5 53 2 := hf53 53 2 rfl
  refine fz_pop rfl kLc11 rfl ?_
  refine fz_goto (tgt := 1816) kLc11 rfl (by decide) ?_
  exact K H48 ⟨hI52, hX77, hXd58, hXh59, hXw54, (by rw [((hf53 53 10 rfl).trans (hf10 53 10 rfl))]; exact hv1), (by rw [((hf53 53 42 rfl).trans (hf10 53 42 rfl)), ((hf53 53 41 rfl).trans (hf10 53 41 rfl))]; exact hv2), (((hf53 9 5 rfl).trans (hf10 9 5 rfl)).trans (hr0.trans ((hf53 53 10 rfl).trans (hf10 53 10 rfl)).symm)), (((hf53 44 2 rfl).trans (hf10 44 2 rfl)).trans (hr1.trans ((hf53 53 44 rfl).trans (hf10 53 44 rfl)).symm)), (((hf53 20 2 rfl).trans (hf10 20 2 rfl)).trans (hr2.trans ((hf53 53 16 rfl).trans (hf10 53 16 rfl)).symm)), (((hf53 1 7 rfl).trans (hf10 1 7 rfl)).trans (hr3.trans ((hf53 53 0 rfl).trans (hf10 53 0 rfl)).symm)), (((hf53 1 8 rfl).trans (hf10 1 8 rfl)).trans (hr4.trans ((hf53 53 2 rfl).trans (hf10 53 2 rfl)).symm)), hRS60, hRP61, hRK62, hRR63, hRT64, hRE65, hR266, hR367, hR468, hR2869, hR570, hR671, hRG72, hRL73, hRC74, hRJ75, hRW76⟩ (funext fun s => hf57 200 s rfl)
def mLc12 : fz_M := (yL_law, code, 4, (some .boolean), [(610, .aload_n 1, 1, 0, 0, 0), (611, .aload_n 0, 1, 0, 0, 0), (612, .iload_n 3, 1, 0, 0, 0), (613, .iconst 1, 1, 0, 0, 0), (614, .iadd, 1, 0, 0, 0), (615, .iaload, 1, 0, 0, 0), (616, .aload_n 0, 1, 0, 0, 0), (617, .iload_n 3, 1, 0, 0, 0), (618, .iconst 2, 1, 0, 0, 0), (619, .iadd, 1, 0, 0, 0), (620, .iaload, 1, 0, 0, 0), (621, .aload_n 0, 1, 0, 0, 0), (622, .iload_n 3, 1, 0, 0, 0), (623, .iconst 3, 1, 0, 0, 0), (624, .iadd, 1, 0, 0, 0), (625, .iaload, 1, 0, 0, 0), (626, .invokevirtual 65, 3, 3201, 63, 0), (629, .pop, 1, 0, 0, 0), (630, .aload_n 2, 1, 0, 0, 0), (631, .aload_n 0, 1, 0, 0, 0), (632, .iload_n 3, 1, 0, 0, 0), (633, .iconst 1, 1, 0, 0, 0), (634, .iadd, 1, 0, 0, 0), (635, .iaload, 1, 0, 0, 0), (636, .aload_n 0, 1, 0, 0, 0), (637, .iload_n 3, 1, 0, 0, 0), (638, .iconst 2, 1, 0, 0, 0), (639, .iadd, 1, 0, 0, 0), (640, .iaload, 1, 0, 0, 0), (641, .aload_n 0, 1, 0, 0, 0), (642, .iload_n 3, 1, 0, 0, 0), (643, .iconst 3, 1, 0, 0, 0), (644, .iadd, 1, 0, 0, 0), (645, .iaload, 1, 0, 0, 0), (646, .invokevirtual 68, 3, 6229, 163, 0), (649, .pop, 1, 0, 0, 0), (650, .goto 1166, 3, 0, 0, 0)])
set_option maxRecDepth 100000 in
theorem kLc12 : fz_okM mLc12 = true := fz_okM_in (by decide +kernel) (by decide +kernel)
set_option maxHeartbeats 1000000 in
set_option maxRecDepth 100000 in
theorem lc12 (h : fz_H) (hI : fz_Iv h) (hX : fz_Xc h) (hXd : fz_Xd h) (hXh : fz_Xh h) (hXw : fz_Xw h) (hv1 : h 53 10 ≤ 10) (hv2 : h 53 42 ≤ h 53 41) (hr0 : h 9 5 = h 53 10) (hr1 : h 44 2 = h 53 44) (hr2 : h 20 2 = h 53 16) (hr3 : h 1 7 = h 53 0) (hr4 : h 1 8 = h 53 2) (hRS : fz_RS h) (hRP : fz_RP h) (hRK : fz_RK h) (hRR : fz_RR h) (hRT : fz_RT h) (hRE : fz_RE h) (hR2 : fz_R2 h) (hR3 : fz_R3 h) (hR4 : fz_R4 h) (hR28 : fz_R28 h) (hR5 : fz_R5 h) (hR6 : fz_R6 h) (hRG : fz_RG h) (hRL : fz_RL h) (hRC : fz_RC h) (hRJ : fz_RJ h) (hRW : fz_RW h) (i : Int) (hi : 0 ≤ i ∧ i + 6 ≤ h 200 100000 ∧ h 200 100000 ≤ 3072) {Q : fz_H → Option fz_V → Prop} (K : ∀ H : fz_H, fz_Gd H → H 200 = h 200 → fz_R 47 mLe 1816 [(3, fz_i i), (0, fz_r 200), (1, fz_r 0), (2, fz_r 53)] [] H Q) : fz_R 47 mLc12 610 [(3, fz_i i), (0, fz_r 200), (1, fz_r 0), (2, fz_r 53)] [] h Q := by
  have hf : fz_fr fz_all h h := fz_fr_rf
  refine fz_aload_n kLc12 rfl rfl ?_
  refine fz_aload_n kLc12 rfl rfl ?_
  refine fz_iload_n kLc12 rfl rfl ?_
  refine fz_iconst ⟨by decide, by decide⟩ kLc12 rfl ?_
  refine fz_iaddN kLc12 rfl (by omega) ?_
  obtain ⟨a1, e2⟩ : ∃ z, h 200 ((i + 1)).toNat = z := ⟨_, rfl⟩
  refine fz_taldV (v := a1) kLc12 rfl ⟨by decide, by decide⟩ (by omega) (by omega) e2 ?_
  refine fz_aload_n kLc12 rfl rfl ?_
  refine fz_iload_n kLc12 rfl rfl ?_
  refine fz_iconst ⟨by decide, by decide⟩ kLc12 rfl ?_
  refine fz_iaddN kLc12 rfl (by omega) ?_
  obtain ⟨a3, e4⟩ : ∃ z, h 200 ((i + 2)).toNat = z := ⟨_, rfl⟩
  refine fz_taldV (v := a3) kLc12 rfl ⟨by decide, by decide⟩ (by omega) (by omega) e4 ?_
  refine fz_aload_n kLc12 rfl rfl ?_
  refine fz_iload_n kLc12 rfl rfl ?_
  refine fz_iconst ⟨by decide, by decide⟩ kLc12 rfl ?_
  refine fz_iaddN kLc12 rfl (by omega) ?_
  obtain ⟨a5, e6⟩ : ∃ z, h 200 ((i + 3)).toNat = z := ⟨_, rfl⟩
  refine fz_taldV (v := a5) kLc12 rfl ⟨by decide, by decide⟩ (by omega) (by omega) e6 ?_
  refine fz_callV (d' := 5) (M' := mX10_received) (As := [fz_i a1, fz_i a3, fz_i a5]) (st := []) kLc12 rfl rfl vX10_received rfl rfl rfl rfl (Nat.le_of_ble_eq_true rfl) (Nat.le_of_ble_eq_true rfl) (by decide) (sX10_received h hI a1 a3 a5 ) (fun H7 r8 q9 o10 => ?_)
  obtain ⟨hI11, hf12, y14, rfl, f13⟩ := q9
  clear o10
  have hf15 := fz_fr_tr hf hf12 (fz_su_all rfl)
  have hXd16 : fz_Xd H7 := fz_Xd_eq (funext fun s => hf12 80 s rfl) hXd
  have hXh17 : fz_Xh H7 := fz_Xh_eq (funext fun s => hf12 83 s rfl) hXh
  have hXw18 : fz_Xw H7 := fz_Xw_eq (hf12 53 19 rfl) (funext fun s => hf12 66 s rfl) (funext fun s => hf12 67 s rfl) (funext fun s => hf12 68 s rfl) (funext fun s => hf12 69 s rfl) hXw
  have hRS19 : fz_RS H7 := fz_RS_eq (funext fun s => hf12 48 s rfl) (funext fun s => hf12 49 s rfl) (funext fun s => hf12 50 s rfl) (funext fun s => hf12 51 s rfl) (funext fun s => hf12 83 s rfl) (funext fun s => hf12 84 s rfl) (hf12 44 2 rfl) hRS
  have hRP20 : fz_RP H7 := fz_RP_eq (funext fun s => hf12 52 s rfl) (funext fun s => hf12 85 s rfl) hRP
  have hRK21 : fz_RK H7 := fz_RK_eq (funext fun s => hf12 45 s rfl) (funext fun s => hf12 81 s rfl) hRK
  have hRR22 : fz_RR H7 := fz_RR_eq (hf12 44 3 rfl) (hf12 53 46 rfl) (funext fun s => hf12 46 s rfl) (funext fun s => hf12 82 s rfl) hRR
  have hRT23 : fz_RT H7 := fz_RT_eq (funext fun s => hf12 41 s rfl) (funext fun s => hf12 42 s rfl) (hf12 1 7 rfl) hRT
  have hRE24 : fz_RE H7 := fz_RE_eq (funext fun s => hf12 5 s rfl) (funext fun s => hf12 6 s rfl) (hf12 1 8 rfl) (hf12 1 7 rfl) hRE
  have hR225 : fz_R2 H7 := fz_R2_eq (funext fun s => hf12 2 s rfl) (funext fun s => hf12 54 s rfl) hR2
  have hR326 : fz_R3 H7 := fz_R3_eq (funext fun s => hf12 3 s rfl) (funext fun s => hf12 57 s rfl) hR3
  have hR427 : fz_R4 H7 := fz_R4_eq (funext fun s => hf12 4 s rfl) (funext fun s => hf12 58 s rfl) hR4
  have hR2828 : fz_R28 H7 := fz_R28_eq (funext fun s => hf12 28 s rfl) (funext fun s => hf12 59 s rfl) hR28
  have hR529 : fz_R5 H7 := fz_R5_eq (funext fun s => hf12 5 s rfl) (funext fun s => hf12 55 s rfl) hR5
  have hR630 : fz_R6 H7 := fz_R6_eq (funext fun s => hf12 6 s rfl) (funext fun s => hf12 56 s rfl) hR6
  have hRG31 : fz_RG H7 := fz_RG_eq (hf12 27 8 rfl) (hf12 27 9 rfl) (hf12 53 8 rfl) (hf12 53 9 rfl) hRG
  have hRL32 : fz_RL H7 := fz_RL_eq (funext fun s => hf12 11 s rfl) (funext fun s => hf12 12 s rfl) (funext fun s => hf12 13 s rfl) (funext fun s => hf12 14 s rfl) (funext fun s => hf12 61 s rfl) (funext fun s => hf12 62 s rfl) (funext fun s => hf12 63 s rfl) (funext fun s => hf12 64 s rfl) (hf12 9 5 rfl) hRL
  have hRC33 : fz_RC H7 := fz_RC_eq (hf12 35 4 rfl) (hf12 35 5 rfl) (hf12 53 41 rfl) (hf12 53 42 rfl) (funext fun s => hf12 36 s rfl) (funext fun s => hf12 37 s rfl) (funext fun s => hf12 38 s rfl) (funext fun s => hf12 39 s rfl) (funext fun s => hf12 80 s rfl) (hf12 1 7 rfl) (hf12 1 8 rfl) (hf12 9 5 rfl) hRC
  have hRJ34 : fz_RJ H7 := fz_RJ_eq (hf12 40 1 rfl) (hf12 53 34 rfl) (funext fun s => hf12 41 s rfl) (funext fun s => hf12 76 s rfl) (hf12 40 6 rfl) (hf12 53 37 rfl) (funext fun s => hf12 42 s rfl) (funext fun s => hf12 78 s rfl) (hf12 43 0 rfl) (hf12 53 38 rfl) hRJ
  have hRW35 : fz_RW H7 := fz_RW_eq (funext fun s => hf12 10 s rfl) (funext fun s => hf12 60 s rfl) (hf12 9 5 rfl) hRW
  have hX36 : fz_Xc H7 := fz_Xc_fr hf12 rfl hX
  have t37 : H7 53 10 = h 53 10 := hf12 53 10 rfl
  have t38 : H7 53 41 = h 53 41 := hf12 53 41 rfl
  have t39 : H7 53 42 = h 53 42 := hf12 53 42 rfl
  have t40 : H7 9 5 = h 9 5 := hf12 9 5 rfl
  have t41 : H7 53 10 = h 53 10 := hf12 53 10 rfl
  have t42 : H7 44 2 = h 44 2 := hf12 44 2 rfl
  have t43 : H7 53 44 = h 53 44 := hf12 53 44 rfl
  have t44 : H7 20 2 = h 20 2 := hf12 20 2 rfl
  have t45 : H7 53 16 = h 53 16 := hf12 53 16 rfl
  have t46 : H7 1 7 = h 1 7 := hf12 1 7 rfl
  have t47 : H7 53 0 = h 53 0 := hf12 53 0 rfl
  have t48 : H7 1 8 = h 1 8 := hf12 1 8 rfl
  have t49 : H7 53 2 = h 53 2 := hf12 53 2 rfl
  refine fz_pop rfl kLc12 rfl ?_
  refine fz_aload_n kLc12 rfl rfl ?_
  refine fz_aload_n kLc12 rfl rfl ?_
  refine fz_iload_n kLc12 rfl rfl ?_
  refine fz_iconst ⟨by decide, by decide⟩ kLc12 rfl ?_
  refine fz_iaddN kLc12 rfl (by omega) ?_
  refine fz_taldV (v := a1) kLc12 rfl ⟨by decide, by decide⟩ (by omega) (by rw [hf15 200 _ rfl]; omega) ((hf15 200 _ rfl).trans e2) ?_
  refine fz_aload_n kLc12 rfl rfl ?_
  refine fz_iload_n kLc12 rfl rfl ?_
  refine fz_iconst ⟨by decide, by decide⟩ kLc12 rfl ?_
  refine fz_iaddN kLc12 rfl (by omega) ?_
  refine fz_taldV (v := a3) kLc12 rfl ⟨by decide, by decide⟩ (by omega) (by rw [hf15 200 _ rfl]; omega) ((hf15 200 _ rfl).trans e4) ?_
  refine fz_aload_n kLc12 rfl rfl ?_
  refine fz_iload_n kLc12 rfl rfl ?_
  refine fz_iconst ⟨by decide, by decide⟩ kLc12 rfl ?_
  refine fz_iaddN kLc12 rfl (by omega) ?_
  refine fz_taldV (v := a5) kLc12 rfl ⟨by decide, by decide⟩ (by omega) (by rw [hf15 200 _ rfl]; omega) ((hf15 200 _ rfl).trans e6) ?_
  refine fz_callV (d' := 5) (M' := mX11_received) (As := [fz_i a1, fz_i a3, fz_i a5]) (st := []) kLc12 rfl rfl vX11_received rfl rfl rfl rfl (Nat.le_of_ble_eq_true rfl) (Nat.le_of_ble_eq_true rfl) (by decide) (sX11_received H7 hI11 a1 a3 a5 hXw18) (fun H50 r51 q52 o53 => ?_)
  obtain ⟨hI54, hf55, hXw56, y58, rfl, f57⟩ := q52
  clear o53
  have hf59 := fz_fr_tr hf15 hf55 (fz_su_all rfl)
  have hXd60 : fz_Xd H50 := fz_Xd_eq (funext fun s => hf55 80 s rfl) hXd16
  have hXh61 : fz_Xh H50 := fz_Xh_eq (funext fun s => hf55 83 s rfl) hXh17
  have hRS62 : fz_RS H50 := fz_RS_eq (funext fun s => hf55 48 s rfl) (funext fun s => hf55 49 s rfl) (funext fun s => hf55 50 s rfl) (funext fun s => hf55 51 s rfl) (funext fun s => hf55 83 s rfl) (funext fun s => hf55 84 s rfl) (hf55 44 2 rfl) hRS19
  have hRP63 : fz_RP H50 := fz_RP_eq (funext fun s => hf55 52 s rfl) (funext fun s => hf55 85 s rfl) hRP20
  have hRK64 : fz_RK H50 := fz_RK_eq (funext fun s => hf55 45 s rfl) (funext fun s => hf55 81 s rfl) hRK21
  have hRR65 : fz_RR H50 := fz_RR_eq (hf55 44 3 rfl) (hf55 53 46 rfl) (funext fun s => hf55 46 s rfl) (funext fun s => hf55 82 s rfl) hRR22
  have hRT66 : fz_RT H50 := fz_RT_eq (funext fun s => hf55 41 s rfl) (funext fun s => hf55 42 s rfl) (hf55 1 7 rfl) hRT23
  have hRE67 : fz_RE H50 := fz_RE_eq (funext fun s => hf55 5 s rfl) (funext fun s => hf55 6 s rfl) (hf55 1 8 rfl) (hf55 1 7 rfl) hRE24
  have hR268 : fz_R2 H50 := fz_R2_eq (funext fun s => hf55 2 s rfl) (funext fun s => hf55 54 s rfl) hR225
  have hR369 : fz_R3 H50 := fz_R3_eq (funext fun s => hf55 3 s rfl) (funext fun s => hf55 57 s rfl) hR326
  have hR470 : fz_R4 H50 := fz_R4_eq (funext fun s => hf55 4 s rfl) (funext fun s => hf55 58 s rfl) hR427
  have hR2871 : fz_R28 H50 := fz_R28_eq (funext fun s => hf55 28 s rfl) (funext fun s => hf55 59 s rfl) hR2828
  have hR572 : fz_R5 H50 := fz_R5_eq (funext fun s => hf55 5 s rfl) (funext fun s => hf55 55 s rfl) hR529
  have hR673 : fz_R6 H50 := fz_R6_eq (funext fun s => hf55 6 s rfl) (funext fun s => hf55 56 s rfl) hR630
  have hRG74 : fz_RG H50 := fz_RG_eq (hf55 27 8 rfl) (hf55 27 9 rfl) (hf55 53 8 rfl) (hf55 53 9 rfl) hRG31
  have hRL75 : fz_RL H50 := fz_RL_eq (funext fun s => hf55 11 s rfl) (funext fun s => hf55 12 s rfl) (funext fun s => hf55 13 s rfl) (funext fun s => hf55 14 s rfl) (funext fun s => hf55 61 s rfl) (funext fun s => hf55 62 s rfl) (funext fun s => hf55 63 s rfl) (funext fun s => hf55 64 s rfl) (hf55 9 5 rfl) hRL32
  have hRC76 : fz_RC H50 := fz_RC_eq (hf55 35 4 rfl) (hf55 35 5 rfl) (hf55 53 41 rfl) (hf55 53 42 rfl) (funext fun s => hf55 36 s rfl) (funext fun s => hf55 37 s rfl) (funext fun s => hf55 38 s rfl) (funext fun s => hf55 39 s rfl) (funext fun s => hf55 80 s rfl) (hf55 1 7 rfl) (hf55 1 8 rfl) (hf55 9 5 rfl) hRC33
  have hRJ77 : fz_RJ H50 := fz_RJ_eq (hf55 40 1 rfl) (hf55 53 34 rfl) (funext fun s => hf55 41 s rfl) (funext fun s => hf55 76 s rfl) (hf55 40 6 rfl) (hf55 53 37 rfl) (funext fun s => hf55 42 s rfl) (funext fun s => hf55 78 s rfl) (hf55 43 0 rfl) (hf55 53 38 rfl) hRJ34
  have hRW78 : fz_RW H50 := fz_RW_eq (funext fun s => hf55 10 s rfl) (funext fun s => hf55 60 s rfl) (hf55 9 5 rfl) hRW35
  have hX79 : fz_Xc H50 := fz_Xc_fr hf55 rfl hX36
  have t80 : H50 53 10 = H7 53 10 := hf55 53 10 rfl
  have t81 : H50 53 41 = H7 53 41 := hf55 53 41 rfl
  have t82 : H50 53 42 = H7 53 42 := hf55 53 42 rfl
  have t83 : H50 9 5 = H7 9 5 := hf55 9 5 rfl
  have t84 : H50 53 10 = H7 53 10 := hf55 53 10 rfl
  have t85 : H50 44 2 = H7 44 2 := hf55 44 2 rfl
  have t86 : H50 53 44 = H7 53 44 := hf55 53 44 rfl
  have t87 : H50 20 2 = H7 20 2 := hf55 20 2 rfl
  have t88 : H50 53 16 = H7 53 16 := hf55 53 16 rfl
  have t89 : H50 1 7 = H7 1 7 := hf55 1 7 rfl
  have t90 : H50 53 0 = H7 53 0 := hf55 53 0 rfl
  have t91 : H50 1 8 = H7 1 8 := hf55 1 8 rfl
  have t92 : H50 53 2 = H7 53 2 := hf55 53 2 rfl
  refine fz_pop rfl kLc12 rfl ?_
  refine fz_goto (tgt := 1816) kLc12 rfl (by decide) ?_
  exact K H50 ⟨hI54, hX79, hXd60, hXh61, hXw56, (by rw [((hf55 53 10 rfl).trans (hf12 53 10 rfl))]; exact hv1), (by rw [((hf55 53 42 rfl).trans (hf12 53 42 rfl)), ((hf55 53 41 rfl).trans (hf12 53 41 rfl))]; exact hv2), (((hf55 9 5 rfl).trans (hf12 9 5 rfl)).trans (hr0.trans ((hf55 53 10 rfl).trans (hf12 53 10 rfl)).symm)), (((hf55 44 2 rfl).trans (hf12 44 2 rfl)).trans (hr1.trans ((hf55 53 44 rfl).trans (hf12 53 44 rfl)).symm)), (((hf55 20 2 rfl).trans (hf12 20 2 rfl)).trans (hr2.trans ((hf55 53 16 rfl).trans (hf12 53 16 rfl)).symm)), (((hf55 1 7 rfl).trans (hf12 1 7 rfl)).trans (hr3.trans ((hf55 53 0 rfl).trans (hf12 53 0 rfl)).symm)), (((hf55 1 8 rfl).trans (hf12 1 8 rfl)).trans (hr4.trans ((hf55 53 2 rfl).trans (hf12 53 2 rfl)).symm)), hRS62, hRP63, hRK64, hRR65, hRT66, hRE67, hR268, hR369, hR470, hR2871, hR572, hR673, hRG74, hRL75, hRC76, hRJ77, hRW78⟩ (funext fun s => hf59 200 s rfl)
def mLc13 : fz_M := (yL_law, code, 4, (some .boolean), [(653, .aload_n 1, 1, 0, 0, 0), (654, .aload_n 0, 1, 0, 0, 0), (655, .iload_n 3, 1, 0, 0, 0), (656, .iconst 1, 1, 0, 0, 0), (657, .iadd, 1, 0, 0, 0), (658, .iaload, 1, 0, 0, 0), (659, .aload_n 0, 1, 0, 0, 0), (660, .iload_n 3, 1, 0, 0, 0), (661, .iconst 2, 1, 0, 0, 0), (662, .iadd, 1, 0, 0, 0), (663, .iaload, 1, 0, 0, 0), (664, .aload_n 0, 1, 0, 0, 0), (665, .iload_n 3, 1, 0, 0, 0), (666, .iconst 3, 1, 0, 0, 0), (667, .iadd, 1, 0, 0, 0), (668, .iaload, 1, 0, 0, 0), (669, .invokevirtual 69, 3, 3234, 18, 0), (672, .pop, 1, 0, 0, 0), (673, .aload_n 2, 1, 0, 0, 0), (674, .aload_n 0, 1, 0, 0, 0), (675, .iload_n 3, 1, 0, 0, 0), (676, .iconst 1, 1, 0, 0, 0), (677, .iadd, 1, 0, 0, 0), (678, .iaload, 1, 0, 0, 0), (679, .aload_n 0, 1, 0, 0, 0), (680, .iload_n 3, 1, 0, 0, 0), (681, .iconst 2, 1, 0, 0, 0), (682, .iadd, 1, 0, 0, 0), (683, .iaload, 1, 0, 0, 0), (684, .aload_n 0, 1, 0, 0, 0), (685, .iload_n 3, 1, 0, 0, 0), (686, .iconst 3, 1, 0, 0, 0), (687, .iadd, 1, 0, 0, 0), (688, .iaload, 1, 0, 0, 0), (689, .invokevirtual 72, 3, 7009, 85, 0), (692, .pop, 1, 0, 0, 0), (693, .goto 1123, 3, 0, 0, 0)])
set_option maxRecDepth 100000 in
theorem kLc13 : fz_okM mLc13 = true := fz_okM_in (by decide +kernel) (by decide +kernel)
set_option maxHeartbeats 1000000 in
set_option maxRecDepth 100000 in
theorem lc13 (h : fz_H) (hI : fz_Iv h) (hX : fz_Xc h) (hXd : fz_Xd h) (hXh : fz_Xh h) (hXw : fz_Xw h) (hv1 : h 53 10 ≤ 10) (hv2 : h 53 42 ≤ h 53 41) (hr0 : h 9 5 = h 53 10) (hr1 : h 44 2 = h 53 44) (hr2 : h 20 2 = h 53 16) (hr3 : h 1 7 = h 53 0) (hr4 : h 1 8 = h 53 2) (hRS : fz_RS h) (hRP : fz_RP h) (hRK : fz_RK h) (hRR : fz_RR h) (hRT : fz_RT h) (hRE : fz_RE h) (hR2 : fz_R2 h) (hR3 : fz_R3 h) (hR4 : fz_R4 h) (hR28 : fz_R28 h) (hR5 : fz_R5 h) (hR6 : fz_R6 h) (hRG : fz_RG h) (hRL : fz_RL h) (hRC : fz_RC h) (hRJ : fz_RJ h) (hRW : fz_RW h) (i : Int) (hi : 0 ≤ i ∧ i + 6 ≤ h 200 100000 ∧ h 200 100000 ≤ 3072) {Q : fz_H → Option fz_V → Prop} (K : ∀ H : fz_H, fz_Gd H → H 200 = h 200 → fz_R 47 mLe 1816 [(3, fz_i i), (0, fz_r 200), (1, fz_r 0), (2, fz_r 53)] [] H Q) : fz_R 47 mLc13 653 [(3, fz_i i), (0, fz_r 200), (1, fz_r 0), (2, fz_r 53)] [] h Q := by
  have hf : fz_fr fz_all h h := fz_fr_rf
  refine fz_aload_n kLc13 rfl rfl ?_
  refine fz_aload_n kLc13 rfl rfl ?_
  refine fz_iload_n kLc13 rfl rfl ?_
  refine fz_iconst ⟨by decide, by decide⟩ kLc13 rfl ?_
  refine fz_iaddN kLc13 rfl (by omega) ?_
  obtain ⟨a1, e2⟩ : ∃ z, h 200 ((i + 1)).toNat = z := ⟨_, rfl⟩
  refine fz_taldV (v := a1) kLc13 rfl ⟨by decide, by decide⟩ (by omega) (by omega) e2 ?_
  refine fz_aload_n kLc13 rfl rfl ?_
  refine fz_iload_n kLc13 rfl rfl ?_
  refine fz_iconst ⟨by decide, by decide⟩ kLc13 rfl ?_
  refine fz_iaddN kLc13 rfl (by omega) ?_
  obtain ⟨a3, e4⟩ : ∃ z, h 200 ((i + 2)).toNat = z := ⟨_, rfl⟩
  refine fz_taldV (v := a3) kLc13 rfl ⟨by decide, by decide⟩ (by omega) (by omega) e4 ?_
  refine fz_aload_n kLc13 rfl rfl ?_
  refine fz_iload_n kLc13 rfl rfl ?_
  refine fz_iconst ⟨by decide, by decide⟩ kLc13 rfl ?_
  refine fz_iaddN kLc13 rfl (by omega) ?_
  obtain ⟨a5, e6⟩ : ∃ z, h 200 ((i + 3)).toNat = z := ⟨_, rfl⟩
  refine fz_taldV (v := a5) kLc13 rfl ⟨by decide, by decide⟩ (by omega) (by omega) e6 ?_
  refine fz_callV (d' := 6) (M' := mX10_atHour) (As := [fz_i a1, fz_i a3, fz_i a5]) (st := []) kLc13 rfl rfl vX10_atHour rfl rfl rfl rfl (Nat.le_of_ble_eq_true rfl) (Nat.le_of_ble_eq_true rfl) (by decide) (sX10_atHour h hI a1 a3 a5 ) (fun H7 r8 q9 o10 => ?_)
  obtain ⟨hI11, hf12, y14, rfl, f13⟩ := q9
  clear o10
  have hf15 := fz_fr_tr hf hf12 (fz_su_all rfl)
  have hXd16 : fz_Xd H7 := fz_Xd_eq (funext fun s => hf12 80 s rfl) hXd
  have hXh17 : fz_Xh H7 := fz_Xh_eq (funext fun s => hf12 83 s rfl) hXh
  have hXw18 : fz_Xw H7 := fz_Xw_eq (hf12 53 19 rfl) (funext fun s => hf12 66 s rfl) (funext fun s => hf12 67 s rfl) (funext fun s => hf12 68 s rfl) (funext fun s => hf12 69 s rfl) hXw
  have hRS19 : fz_RS H7 := fz_RS_eq (funext fun s => hf12 48 s rfl) (funext fun s => hf12 49 s rfl) (funext fun s => hf12 50 s rfl) (funext fun s => hf12 51 s rfl) (funext fun s => hf12 83 s rfl) (funext fun s => hf12 84 s rfl) (hf12 44 2 rfl) hRS
  have hRP20 : fz_RP H7 := fz_RP_eq (funext fun s => hf12 52 s rfl) (funext fun s => hf12 85 s rfl) hRP
  have hRK21 : fz_RK H7 := fz_RK_eq (funext fun s => hf12 45 s rfl) (funext fun s => hf12 81 s rfl) hRK
  have hRR22 : fz_RR H7 := fz_RR_eq (hf12 44 3 rfl) (hf12 53 46 rfl) (funext fun s => hf12 46 s rfl) (funext fun s => hf12 82 s rfl) hRR
  have hRT23 : fz_RT H7 := fz_RT_eq (funext fun s => hf12 41 s rfl) (funext fun s => hf12 42 s rfl) (hf12 1 7 rfl) hRT
  have hRE24 : fz_RE H7 := fz_RE_eq (funext fun s => hf12 5 s rfl) (funext fun s => hf12 6 s rfl) (hf12 1 8 rfl) (hf12 1 7 rfl) hRE
  have hR225 : fz_R2 H7 := fz_R2_eq (funext fun s => hf12 2 s rfl) (funext fun s => hf12 54 s rfl) hR2
  have hR326 : fz_R3 H7 := fz_R3_eq (funext fun s => hf12 3 s rfl) (funext fun s => hf12 57 s rfl) hR3
  have hR427 : fz_R4 H7 := fz_R4_eq (funext fun s => hf12 4 s rfl) (funext fun s => hf12 58 s rfl) hR4
  have hR2828 : fz_R28 H7 := fz_R28_eq (funext fun s => hf12 28 s rfl) (funext fun s => hf12 59 s rfl) hR28
  have hR529 : fz_R5 H7 := fz_R5_eq (funext fun s => hf12 5 s rfl) (funext fun s => hf12 55 s rfl) hR5
  have hR630 : fz_R6 H7 := fz_R6_eq (funext fun s => hf12 6 s rfl) (funext fun s => hf12 56 s rfl) hR6
  have hRG31 : fz_RG H7 := fz_RG_eq (hf12 27 8 rfl) (hf12 27 9 rfl) (hf12 53 8 rfl) (hf12 53 9 rfl) hRG
  have hRL32 : fz_RL H7 := fz_RL_eq (funext fun s => hf12 11 s rfl) (funext fun s => hf12 12 s rfl) (funext fun s => hf12 13 s rfl) (funext fun s => hf12 14 s rfl) (funext fun s => hf12 61 s rfl) (funext fun s => hf12 62 s rfl) (funext fun s => hf12 63 s rfl) (funext fun s => hf12 64 s rfl) (hf12 9 5 rfl) hRL
  have hRC33 : fz_RC H7 := fz_RC_eq (hf12 35 4 rfl) (hf12 35 5 rfl) (hf12 53 41 rfl) (hf12 53 42 rfl) (funext fun s => hf12 36 s rfl) (funext fun s => hf12 37 s rfl) (funext fun s => hf12 38 s rfl) (funext fun s => hf12 39 s rfl) (funext fun s => hf12 80 s rfl) (hf12 1 7 rfl) (hf12 1 8 rfl) (hf12 9 5 rfl) hRC
  have hRJ34 : fz_RJ H7 := fz_RJ_eq (hf12 40 1 rfl) (hf12 53 34 rfl) (funext fun s => hf12 41 s rfl) (funext fun s => hf12 76 s rfl) (hf12 40 6 rfl) (hf12 53 37 rfl) (funext fun s => hf12 42 s rfl) (funext fun s => hf12 78 s rfl) (hf12 43 0 rfl) (hf12 53 38 rfl) hRJ
  have hRW35 : fz_RW H7 := fz_RW_eq (funext fun s => hf12 10 s rfl) (funext fun s => hf12 60 s rfl) (hf12 9 5 rfl) hRW
  have hX36 : fz_Xc H7 := fz_Xc_fr hf12 rfl hX
  have t37 : H7 53 10 = h 53 10 := hf12 53 10 rfl
  have t38 : H7 53 41 = h 53 41 := hf12 53 41 rfl
  have t39 : H7 53 42 = h 53 42 := hf12 53 42 rfl
  have t40 : H7 9 5 = h 9 5 := hf12 9 5 rfl
  have t41 : H7 53 10 = h 53 10 := hf12 53 10 rfl
  have t42 : H7 44 2 = h 44 2 := hf12 44 2 rfl
  have t43 : H7 53 44 = h 53 44 := hf12 53 44 rfl
  have t44 : H7 20 2 = h 20 2 := hf12 20 2 rfl
  have t45 : H7 53 16 = h 53 16 := hf12 53 16 rfl
  have t46 : H7 1 7 = h 1 7 := hf12 1 7 rfl
  have t47 : H7 53 0 = h 53 0 := hf12 53 0 rfl
  have t48 : H7 1 8 = h 1 8 := hf12 1 8 rfl
  have t49 : H7 53 2 = h 53 2 := hf12 53 2 rfl
  refine fz_pop rfl kLc13 rfl ?_
  refine fz_aload_n kLc13 rfl rfl ?_
  refine fz_aload_n kLc13 rfl rfl ?_
  refine fz_iload_n kLc13 rfl rfl ?_
  refine fz_iconst ⟨by decide, by decide⟩ kLc13 rfl ?_
  refine fz_iaddN kLc13 rfl (by omega) ?_
  refine fz_taldV (v := a1) kLc13 rfl ⟨by decide, by decide⟩ (by omega) (by rw [hf15 200 _ rfl]; omega) ((hf15 200 _ rfl).trans e2) ?_
  refine fz_aload_n kLc13 rfl rfl ?_
  refine fz_iload_n kLc13 rfl rfl ?_
  refine fz_iconst ⟨by decide, by decide⟩ kLc13 rfl ?_
  refine fz_iaddN kLc13 rfl (by omega) ?_
  refine fz_taldV (v := a3) kLc13 rfl ⟨by decide, by decide⟩ (by omega) (by rw [hf15 200 _ rfl]; omega) ((hf15 200 _ rfl).trans e4) ?_
  refine fz_aload_n kLc13 rfl rfl ?_
  refine fz_iload_n kLc13 rfl rfl ?_
  refine fz_iconst ⟨by decide, by decide⟩ kLc13 rfl ?_
  refine fz_iaddN kLc13 rfl (by omega) ?_
  refine fz_taldV (v := a5) kLc13 rfl ⟨by decide, by decide⟩ (by omega) (by rw [hf15 200 _ rfl]; omega) ((hf15 200 _ rfl).trans e6) ?_
  refine fz_callV (d' := 5) (M' := mX11_atHour) (As := [fz_i a1, fz_i a3, fz_i a5]) (st := []) kLc13 rfl rfl vX11_atHour rfl rfl rfl rfl (Nat.le_of_ble_eq_true rfl) (Nat.le_of_ble_eq_true rfl) (by decide) (sX11_atHour H7 hI11 a1 a3 a5 hXw18) (fun H50 r51 q52 o53 => ?_)
  obtain ⟨hI54, hf55, hXw56, y58, rfl, f57⟩ := q52
  clear o53
  have hf59 := fz_fr_tr hf15 hf55 (fz_su_all rfl)
  have hXd60 : fz_Xd H50 := fz_Xd_eq (funext fun s => hf55 80 s rfl) hXd16
  have hXh61 : fz_Xh H50 := fz_Xh_eq (funext fun s => hf55 83 s rfl) hXh17
  have hRS62 : fz_RS H50 := fz_RS_eq (funext fun s => hf55 48 s rfl) (funext fun s => hf55 49 s rfl) (funext fun s => hf55 50 s rfl) (funext fun s => hf55 51 s rfl) (funext fun s => hf55 83 s rfl) (funext fun s => hf55 84 s rfl) (hf55 44 2 rfl) hRS19
  have hRP63 : fz_RP H50 := fz_RP_eq (funext fun s => hf55 52 s rfl) (funext fun s => hf55 85 s rfl) hRP20
  have hRK64 : fz_RK H50 := fz_RK_eq (funext fun s => hf55 45 s rfl) (funext fun s => hf55 81 s rfl) hRK21
  have hRR65 : fz_RR H50 := fz_RR_eq (hf55 44 3 rfl) (hf55 53 46 rfl) (funext fun s => hf55 46 s rfl) (funext fun s => hf55 82 s rfl) hRR22
  have hRT66 : fz_RT H50 := fz_RT_eq (funext fun s => hf55 41 s rfl) (funext fun s => hf55 42 s rfl) (hf55 1 7 rfl) hRT23
  have hRE67 : fz_RE H50 := fz_RE_eq (funext fun s => hf55 5 s rfl) (funext fun s => hf55 6 s rfl) (hf55 1 8 rfl) (hf55 1 7 rfl) hRE24
  have hR268 : fz_R2 H50 := fz_R2_eq (funext fun s => hf55 2 s rfl) (funext fun s => hf55 54 s rfl) hR225
  have hR369 : fz_R3 H50 := fz_R3_eq (funext fun s => hf55 3 s rfl) (funext fun s => hf55 57 s rfl) hR326
  have hR470 : fz_R4 H50 := fz_R4_eq (funext fun s => hf55 4 s rfl) (funext fun s => hf55 58 s rfl) hR427
  have hR2871 : fz_R28 H50 := fz_R28_eq (funext fun s => hf55 28 s rfl) (funext fun s => hf55 59 s rfl) hR2828
  have hR572 : fz_R5 H50 := fz_R5_eq (funext fun s => hf55 5 s rfl) (funext fun s => hf55 55 s rfl) hR529
  have hR673 : fz_R6 H50 := fz_R6_eq (funext fun s => hf55 6 s rfl) (funext fun s => hf55 56 s rfl) hR630
  have hRG74 : fz_RG H50 := fz_RG_eq (hf55 27 8 rfl) (hf55 27 9 rfl) (hf55 53 8 rfl) (hf55 53 9 rfl) hRG31
  have hRL75 : fz_RL H50 := fz_RL_eq (funext fun s => hf55 11 s rfl) (funext fun s => hf55 12 s rfl) (funext fun s => hf55 13 s rfl) (funext fun s => hf55 14 s rfl) (funext fun s => hf55 61 s rfl) (funext fun s => hf55 62 s rfl) (funext fun s => hf55 63 s rfl) (funext fun s => hf55 64 s rfl) (hf55 9 5 rfl) hRL32
  have hRC76 : fz_RC H50 := fz_RC_eq (hf55 35 4 rfl) (hf55 35 5 rfl) (hf55 53 41 rfl) (hf55 53 42 rfl) (funext fun s => hf55 36 s rfl) (funext fun s => hf55 37 s rfl) (funext fun s => hf55 38 s rfl) (funext fun s => hf55 39 s rfl) (funext fun s => hf55 80 s rfl) (hf55 1 7 rfl) (hf55 1 8 rfl) (hf55 9 5 rfl) hRC33
  have hRJ77 : fz_RJ H50 := fz_RJ_eq (hf55 40 1 rfl) (hf55 53 34 rfl) (funext fun s => hf55 41 s rfl) (funext fun s => hf55 76 s rfl) (hf55 40 6 rfl) (hf55 53 37 rfl) (funext fun s => hf55 42 s rfl) (funext fun s => hf55 78 s rfl) (hf55 43 0 rfl) (hf55 53 38 rfl) hRJ34
  have hRW78 : fz_RW H50 := fz_RW_eq (funext fun s => hf55 10 s rfl) (funext fun s => hf55 60 s rfl) (hf55 9 5 rfl) hRW35
  have hX79 : fz_Xc H50 := fz_Xc_fr hf55 rfl hX36
  have t80 : H50 53 10 = H7 53 10 := hf55 53 10 rfl
  have t81 : H50 53 41 = H7 53 41 := hf55 53 41 rfl
  have t82 : H50 53 42 = H7 53 42 := hf55 53 42 rfl
  have t83 : H50 9 5 = H7 9 5 := hf55 9 5 rfl
  have t84 : H50 53 10 = H7 53 10 := hf55 53 10 rfl
  have t85 : H50 44 2 = H7 44 2 := hf55 44 2 rfl
  have t86 : H50 53 44 = H7 53 44 := hf55 53 44 rfl
  have t87 : H50 20 2 = H7 20 2 := hf55 20 2 rfl
  have t88 : H50 53 16 = H7 53 16 := hf55 53 16 rfl
  have t89 : H50 1 7 = H7 1 7 := hf55 1 7 rfl
  have t90 : H50 53 0 = H7 53 0 := hf55 53 0 rfl
  have t91 : H50 1 8 = H7 1 8 := hf55 1 8 rfl
  have t92 : H50 53 2 = H7 53 2 := hf55 53 2 rfl
  refine fz_pop rfl kLc13 rfl ?_
  refine fz_goto (tgt := 1816) kLc13 rfl (by decide) ?_
  exact K H50 ⟨hI54, hX79, hXd60, hXh61, hXw56, (by rw [((hf55 53 10 rfl).trans (hf12 53 10 rfl))]; exact hv1), (by rw [((hf55 53 42 rfl).trans (hf12 53 42 rfl)), ((hf55 53 41 rfl).trans (hf12 53 41 rfl))]; exact hv2), (((hf55 9 5 rfl).trans (hf12 9 5 rfl)).trans (hr0.trans ((hf55 53 10 rfl).trans (hf12 53 10 rfl)).symm)), (((hf55 44 2 rfl).trans (hf12 44 2 rfl)).trans (hr1.trans ((hf55 53 44 rfl).trans (hf12 53 44 rfl)).symm)), (((hf55 20 2 rfl).trans (hf12 20 2 rfl)).trans (hr2.trans ((hf55 53 16 rfl).trans (hf12 53 16 rfl)).symm)), (((hf55 1 7 rfl).trans (hf12 1 7 rfl)).trans (hr3.trans ((hf55 53 0 rfl).trans (hf12 53 0 rfl)).symm)), (((hf55 1 8 rfl).trans (hf12 1 8 rfl)).trans (hr4.trans ((hf55 53 2 rfl).trans (hf12 53 2 rfl)).symm)), hRS62, hRP63, hRK64, hRR65, hRT66, hRE67, hR268, hR369, hR470, hR2871, hR572, hR673, hRG74, hRL75, hRC76, hRJ77, hRW78⟩ (funext fun s => hf59 200 s rfl)
def mLc14 : fz_M := (yL_law, code, 4, (some .boolean), [(696, .aload_n 1, 1, 0, 0, 0), (697, .aload_n 0, 1, 0, 0, 0), (698, .iload_n 3, 1, 0, 0, 0), (699, .iconst 1, 1, 0, 0, 0), (700, .iadd, 1, 0, 0, 0), (701, .iaload, 1, 0, 0, 0), (702, .aload_n 0, 1, 0, 0, 0), (703, .iload_n 3, 1, 0, 0, 0), (704, .iconst 2, 1, 0, 0, 0), (705, .iadd, 1, 0, 0, 0), (706, .iaload, 1, 0, 0, 0), (707, .aload_n 0, 1, 0, 0, 0), (708, .iload_n 3, 1, 0, 0, 0), (709, .iconst 3, 1, 0, 0, 0), (710, .iadd, 1, 0, 0, 0), (711, .iaload, 1, 0, 0, 0), (712, .invokevirtual 73, 3, 4006, 38, 0), (715, .pop, 1, 0, 0, 0), (716, .aload_n 2, 1, 0, 0, 0), (717, .aload_n 0, 1, 0, 0, 0), (718, .iload_n 3, 1, 0, 0, 0), (719, .iconst 1, 1, 0, 0, 0), (720, .iadd, 1, 0, 0, 0), (721, .iaload, 1, 0, 0, 0), (722, .aload_n 0, 1, 0, 0, 0), (723, .iload_n 3, 1, 0, 0, 0), (724, .iconst 2, 1, 0, 0, 0), (725, .iadd, 1, 0, 0, 0), (726, .iaload, 1, 0, 0, 0), (727, .aload_n 0, 1, 0, 0, 0), (728, .iload_n 3, 1, 0, 0, 0), (729, .iconst 3, 1, 0, 0, 0), (730, .iadd, 1, 0, 0, 0), (731, .iaload, 1, 0, 0, 0), (732, .invokevirtual 76, 3, 7013, 112, 0), (735, .pop, 1, 0, 0, 0), (736, .goto 1080, 3, 0, 0, 0)])
set_option maxRecDepth 100000 in
theorem kLc14 : fz_okM mLc14 = true := fz_okM_in (by decide +kernel) (by decide +kernel)
set_option maxHeartbeats 1000000 in
set_option maxRecDepth 100000 in
theorem lc14 (h : fz_H) (hI : fz_Iv h) (hX : fz_Xc h) (hXd : fz_Xd h) (hXh : fz_Xh h) (hXw : fz_Xw h) (hv1 : h 53 10 ≤ 10) (hv2 : h 53 42 ≤ h 53 41) (hr0 : h 9 5 = h 53 10) (hr1 : h 44 2 = h 53 44) (hr2 : h 20 2 = h 53 16) (hr3 : h 1 7 = h 53 0) (hr4 : h 1 8 = h 53 2) (hRS : fz_RS h) (hRP : fz_RP h) (hRK : fz_RK h) (hRR : fz_RR h) (hRT : fz_RT h) (hRE : fz_RE h) (hR2 : fz_R2 h) (hR3 : fz_R3 h) (hR4 : fz_R4 h) (hR28 : fz_R28 h) (hR5 : fz_R5 h) (hR6 : fz_R6 h) (hRG : fz_RG h) (hRL : fz_RL h) (hRC : fz_RC h) (hRJ : fz_RJ h) (hRW : fz_RW h) (i : Int) (hi : 0 ≤ i ∧ i + 6 ≤ h 200 100000 ∧ h 200 100000 ≤ 3072) {Q : fz_H → Option fz_V → Prop} (K : ∀ H : fz_H, fz_Gd H → H 200 = h 200 → fz_R 47 mLe 1816 [(3, fz_i i), (0, fz_r 200), (1, fz_r 0), (2, fz_r 53)] [] H Q) : fz_R 47 mLc14 696 [(3, fz_i i), (0, fz_r 200), (1, fz_r 0), (2, fz_r 53)] [] h Q := by
  have hf : fz_fr fz_all h h := fz_fr_rf
  refine fz_aload_n kLc14 rfl rfl ?_
  refine fz_aload_n kLc14 rfl rfl ?_
  refine fz_iload_n kLc14 rfl rfl ?_
  refine fz_iconst ⟨by decide, by decide⟩ kLc14 rfl ?_
  refine fz_iaddN kLc14 rfl (by omega) ?_
  obtain ⟨a1, e2⟩ : ∃ z, h 200 ((i + 1)).toNat = z := ⟨_, rfl⟩
  refine fz_taldV (v := a1) kLc14 rfl ⟨by decide, by decide⟩ (by omega) (by omega) e2 ?_
  refine fz_aload_n kLc14 rfl rfl ?_
  refine fz_iload_n kLc14 rfl rfl ?_
  refine fz_iconst ⟨by decide, by decide⟩ kLc14 rfl ?_
  refine fz_iaddN kLc14 rfl (by omega) ?_
  obtain ⟨a3, e4⟩ : ∃ z, h 200 ((i + 2)).toNat = z := ⟨_, rfl⟩
  refine fz_taldV (v := a3) kLc14 rfl ⟨by decide, by decide⟩ (by omega) (by omega) e4 ?_
  refine fz_aload_n kLc14 rfl rfl ?_
  refine fz_iload_n kLc14 rfl rfl ?_
  refine fz_iconst ⟨by decide, by decide⟩ kLc14 rfl ?_
  refine fz_iaddN kLc14 rfl (by omega) ?_
  obtain ⟨a5, e6⟩ : ∃ z, h 200 ((i + 3)).toNat = z := ⟨_, rfl⟩
  refine fz_taldV (v := a5) kLc14 rfl ⟨by decide, by decide⟩ (by omega) (by omega) e6 ?_
  refine fz_callV (d' := 6) (M' := mX10_home) (As := [fz_i a1, fz_i a3, fz_i a5]) (st := []) kLc14 rfl rfl vX10_home rfl rfl rfl rfl (Nat.le_of_ble_eq_true rfl) (Nat.le_of_ble_eq_true rfl) (by decide) (sX10_home h hI a1 a3 a5 ) (fun H7 r8 q9 o10 => ?_)
  obtain ⟨hI11, hf12, y14, rfl, f13⟩ := q9
  clear o10
  have hf15 := fz_fr_tr hf hf12 (fz_su_all rfl)
  have hXd16 : fz_Xd H7 := fz_Xd_eq (funext fun s => hf12 80 s rfl) hXd
  have hXh17 : fz_Xh H7 := fz_Xh_eq (funext fun s => hf12 83 s rfl) hXh
  have hXw18 : fz_Xw H7 := fz_Xw_eq (hf12 53 19 rfl) (funext fun s => hf12 66 s rfl) (funext fun s => hf12 67 s rfl) (funext fun s => hf12 68 s rfl) (funext fun s => hf12 69 s rfl) hXw
  have hRS19 : fz_RS H7 := fz_RS_eq (funext fun s => hf12 48 s rfl) (funext fun s => hf12 49 s rfl) (funext fun s => hf12 50 s rfl) (funext fun s => hf12 51 s rfl) (funext fun s => hf12 83 s rfl) (funext fun s => hf12 84 s rfl) (hf12 44 2 rfl) hRS
  have hRP20 : fz_RP H7 := fz_RP_eq (funext fun s => hf12 52 s rfl) (funext fun s => hf12 85 s rfl) hRP
  have hRK21 : fz_RK H7 := fz_RK_eq (funext fun s => hf12 45 s rfl) (funext fun s => hf12 81 s rfl) hRK
  have hRR22 : fz_RR H7 := fz_RR_eq (hf12 44 3 rfl) (hf12 53 46 rfl) (funext fun s => hf12 46 s rfl) (funext fun s => hf12 82 s rfl) hRR
  have hRT23 : fz_RT H7 := fz_RT_eq (funext fun s => hf12 41 s rfl) (funext fun s => hf12 42 s rfl) (hf12 1 7 rfl) hRT
  have hRE24 : fz_RE H7 := fz_RE_eq (funext fun s => hf12 5 s rfl) (funext fun s => hf12 6 s rfl) (hf12 1 8 rfl) (hf12 1 7 rfl) hRE
  have hR225 : fz_R2 H7 := fz_R2_eq (funext fun s => hf12 2 s rfl) (funext fun s => hf12 54 s rfl) hR2
  have hR326 : fz_R3 H7 := fz_R3_eq (funext fun s => hf12 3 s rfl) (funext fun s => hf12 57 s rfl) hR3
  have hR427 : fz_R4 H7 := fz_R4_eq (funext fun s => hf12 4 s rfl) (funext fun s => hf12 58 s rfl) hR4
  have hR2828 : fz_R28 H7 := fz_R28_eq (funext fun s => hf12 28 s rfl) (funext fun s => hf12 59 s rfl) hR28
  have hR529 : fz_R5 H7 := fz_R5_eq (funext fun s => hf12 5 s rfl) (funext fun s => hf12 55 s rfl) hR5
  have hR630 : fz_R6 H7 := fz_R6_eq (funext fun s => hf12 6 s rfl) (funext fun s => hf12 56 s rfl) hR6
  have hRG31 : fz_RG H7 := fz_RG_eq (hf12 27 8 rfl) (hf12 27 9 rfl) (hf12 53 8 rfl) (hf12 53 9 rfl) hRG
  have hRL32 : fz_RL H7 := fz_RL_eq (funext fun s => hf12 11 s rfl) (funext fun s => hf12 12 s rfl) (funext fun s => hf12 13 s rfl) (funext fun s => hf12 14 s rfl) (funext fun s => hf12 61 s rfl) (funext fun s => hf12 62 s rfl) (funext fun s => hf12 63 s rfl) (funext fun s => hf12 64 s rfl) (hf12 9 5 rfl) hRL
  have hRC33 : fz_RC H7 := fz_RC_eq (hf12 35 4 rfl) (hf12 35 5 rfl) (hf12 53 41 rfl) (hf12 53 42 rfl) (funext fun s => hf12 36 s rfl) (funext fun s => hf12 37 s rfl) (funext fun s => hf12 38 s rfl) (funext fun s => hf12 39 s rfl) (funext fun s => hf12 80 s rfl) (hf12 1 7 rfl) (hf12 1 8 rfl) (hf12 9 5 rfl) hRC
  have hRJ34 : fz_RJ H7 := fz_RJ_eq (hf12 40 1 rfl) (hf12 53 34 rfl) (funext fun s => hf12 41 s rfl) (funext fun s => hf12 76 s rfl) (hf12 40 6 rfl) (hf12 53 37 rfl) (funext fun s => hf12 42 s rfl) (funext fun s => hf12 78 s rfl) (hf12 43 0 rfl) (hf12 53 38 rfl) hRJ
  have hRW35 : fz_RW H7 := fz_RW_eq (funext fun s => hf12 10 s rfl) (funext fun s => hf12 60 s rfl) (hf12 9 5 rfl) hRW
  have hX36 : fz_Xc H7 := fz_Xc_fr hf12 rfl hX
  have t37 : H7 53 10 = h 53 10 := hf12 53 10 rfl
  have t38 : H7 53 41 = h 53 41 := hf12 53 41 rfl
  have t39 : H7 53 42 = h 53 42 := hf12 53 42 rfl
  have t40 : H7 9 5 = h 9 5 := hf12 9 5 rfl
  have t41 : H7 53 10 = h 53 10 := hf12 53 10 rfl
  have t42 : H7 44 2 = h 44 2 := hf12 44 2 rfl
  have t43 : H7 53 44 = h 53 44 := hf12 53 44 rfl
  have t44 : H7 20 2 = h 20 2 := hf12 20 2 rfl
  have t45 : H7 53 16 = h 53 16 := hf12 53 16 rfl
  have t46 : H7 1 7 = h 1 7 := hf12 1 7 rfl
  have t47 : H7 53 0 = h 53 0 := hf12 53 0 rfl
  have t48 : H7 1 8 = h 1 8 := hf12 1 8 rfl
  have t49 : H7 53 2 = h 53 2 := hf12 53 2 rfl
  refine fz_pop rfl kLc14 rfl ?_
  refine fz_aload_n kLc14 rfl rfl ?_
  refine fz_aload_n kLc14 rfl rfl ?_
  refine fz_iload_n kLc14 rfl rfl ?_
  refine fz_iconst ⟨by decide, by decide⟩ kLc14 rfl ?_
  refine fz_iaddN kLc14 rfl (by omega) ?_
  refine fz_taldV (v := a1) kLc14 rfl ⟨by decide, by decide⟩ (by omega) (by rw [hf15 200 _ rfl]; omega) ((hf15 200 _ rfl).trans e2) ?_
  refine fz_aload_n kLc14 rfl rfl ?_
  refine fz_iload_n kLc14 rfl rfl ?_
  refine fz_iconst ⟨by decide, by decide⟩ kLc14 rfl ?_
  refine fz_iaddN kLc14 rfl (by omega) ?_
  refine fz_taldV (v := a3) kLc14 rfl ⟨by decide, by decide⟩ (by omega) (by rw [hf15 200 _ rfl]; omega) ((hf15 200 _ rfl).trans e4) ?_
  refine fz_aload_n kLc14 rfl rfl ?_
  refine fz_iload_n kLc14 rfl rfl ?_
  refine fz_iconst ⟨by decide, by decide⟩ kLc14 rfl ?_
  refine fz_iaddN kLc14 rfl (by omega) ?_
  refine fz_taldV (v := a5) kLc14 rfl ⟨by decide, by decide⟩ (by omega) (by rw [hf15 200 _ rfl]; omega) ((hf15 200 _ rfl).trans e6) ?_
  refine fz_callV (d' := 5) (M' := mX11_home) (As := [fz_i a1, fz_i a3, fz_i a5]) (st := []) kLc14 rfl rfl vX11_home rfl rfl rfl rfl (Nat.le_of_ble_eq_true rfl) (Nat.le_of_ble_eq_true rfl) (by decide) (sX11_home H7 hI11 a1 a3 a5 hXw18) (fun H50 r51 q52 o53 => ?_)
  obtain ⟨hI54, hf55, hXw56, y58, rfl, f57⟩ := q52
  clear o53
  have hf59 := fz_fr_tr hf15 hf55 (fz_su_all rfl)
  have hXd60 : fz_Xd H50 := fz_Xd_eq (funext fun s => hf55 80 s rfl) hXd16
  have hXh61 : fz_Xh H50 := fz_Xh_eq (funext fun s => hf55 83 s rfl) hXh17
  have hRS62 : fz_RS H50 := fz_RS_eq (funext fun s => hf55 48 s rfl) (funext fun s => hf55 49 s rfl) (funext fun s => hf55 50 s rfl) (funext fun s => hf55 51 s rfl) (funext fun s => hf55 83 s rfl) (funext fun s => hf55 84 s rfl) (hf55 44 2 rfl) hRS19
  have hRP63 : fz_RP H50 := fz_RP_eq (funext fun s => hf55 52 s rfl) (funext fun s => hf55 85 s rfl) hRP20
  have hRK64 : fz_RK H50 := fz_RK_eq (funext fun s => hf55 45 s rfl) (funext fun s => hf55 81 s rfl) hRK21
  have hRR65 : fz_RR H50 := fz_RR_eq (hf55 44 3 rfl) (hf55 53 46 rfl) (funext fun s => hf55 46 s rfl) (funext fun s => hf55 82 s rfl) hRR22
  have hRT66 : fz_RT H50 := fz_RT_eq (funext fun s => hf55 41 s rfl) (funext fun s => hf55 42 s rfl) (hf55 1 7 rfl) hRT23
  have hRE67 : fz_RE H50 := fz_RE_eq (funext fun s => hf55 5 s rfl) (funext fun s => hf55 6 s rfl) (hf55 1 8 rfl) (hf55 1 7 rfl) hRE24
  have hR268 : fz_R2 H50 := fz_R2_eq (funext fun s => hf55 2 s rfl) (funext fun s => hf55 54 s rfl) hR225
  have hR369 : fz_R3 H50 := fz_R3_eq (funext fun s => hf55 3 s rfl) (funext fun s => hf55 57 s rfl) hR326
  have hR470 : fz_R4 H50 := fz_R4_eq (funext fun s => hf55 4 s rfl) (funext fun s => hf55 58 s rfl) hR427
  have hR2871 : fz_R28 H50 := fz_R28_eq (funext fun s => hf55 28 s rfl) (funext fun s => hf55 59 s rfl) hR2828
  have hR572 : fz_R5 H50 := fz_R5_eq (funext fun s => hf55 5 s rfl) (funext fun s => hf55 55 s rfl) hR529
  have hR673 : fz_R6 H50 := fz_R6_eq (funext fun s => hf55 6 s rfl) (funext fun s => hf55 56 s rfl) hR630
  have hRG74 : fz_RG H50 := fz_RG_eq (hf55 27 8 rfl) (hf55 27 9 rfl) (hf55 53 8 rfl) (hf55 53 9 rfl) hRG31
  have hRL75 : fz_RL H50 := fz_RL_eq (funext fun s => hf55 11 s rfl) (funext fun s => hf55 12 s rfl) (funext fun s => hf55 13 s rfl) (funext fun s => hf55 14 s rfl) (funext fun s => hf55 61 s rfl) (funext fun s => hf55 62 s rfl) (funext fun s => hf55 63 s rfl) (funext fun s => hf55 64 s rfl) (hf55 9 5 rfl) hRL32
  have hRC76 : fz_RC H50 := fz_RC_eq (hf55 35 4 rfl) (hf55 35 5 rfl) (hf55 53 41 rfl) (hf55 53 42 rfl) (funext fun s => hf55 36 s rfl) (funext fun s => hf55 37 s rfl) (funext fun s => hf55 38 s rfl) (funext fun s => hf55 39 s rfl) (funext fun s => hf55 80 s rfl) (hf55 1 7 rfl) (hf55 1 8 rfl) (hf55 9 5 rfl) hRC33
  have hRJ77 : fz_RJ H50 := fz_RJ_eq (hf55 40 1 rfl) (hf55 53 34 rfl) (funext fun s => hf55 41 s rfl) (funext fun s => hf55 76 s rfl) (hf55 40 6 rfl) (hf55 53 37 rfl) (funext fun s => hf55 42 s rfl) (funext fun s => hf55 78 s rfl) (hf55 43 0 rfl) (hf55 53 38 rfl) hRJ34
  have hRW78 : fz_RW H50 := fz_RW_eq (funext fun s => hf55 10 s rfl) (funext fun s => hf55 60 s rfl) (hf55 9 5 rfl) hRW35
  have hX79 : fz_Xc H50 := fz_Xc_fr hf55 rfl hX36
  have t80 : H50 53 10 = H7 53 10 := hf55 53 10 rfl
  have t81 : H50 53 41 = H7 53 41 := hf55 53 41 rfl
  have t82 : H50 53 42 = H7 53 42 := hf55 53 42 rfl
  have t83 : H50 9 5 = H7 9 5 := hf55 9 5 rfl
  have t84 : H50 53 10 = H7 53 10 := hf55 53 10 rfl
  have t85 : H50 44 2 = H7 44 2 := hf55 44 2 rfl
  have t86 : H50 53 44 = H7 53 44 := hf55 53 44 rfl
  have t87 : H50 20 2 = H7 20 2 := hf55 20 2 rfl
  have t88 : H50 53 16 = H7 53 16 := hf55 53 16 rfl
  have t89 : H50 1 7 = H7 1 7 := hf55 1 7 rfl
  have t90 : H50 53 0 = H7 53 0 := hf55 53 0 rfl
  have t91 : H50 1 8 = H7 1 8 := hf55 1 8 rfl
  have t92 : H50 53 2 = H7 53 2 := hf55 53 2 rfl
  refine fz_pop rfl kLc14 rfl ?_
  refine fz_goto (tgt := 1816) kLc14 rfl (by decide) ?_
  exact K H50 ⟨hI54, hX79, hXd60, hXh61, hXw56, (by rw [((hf55 53 10 rfl).trans (hf12 53 10 rfl))]; exact hv1), (by rw [((hf55 53 42 rfl).trans (hf12 53 42 rfl)), ((hf55 53 41 rfl).trans (hf12 53 41 rfl))]; exact hv2), (((hf55 9 5 rfl).trans (hf12 9 5 rfl)).trans (hr0.trans ((hf55 53 10 rfl).trans (hf12 53 10 rfl)).symm)), (((hf55 44 2 rfl).trans (hf12 44 2 rfl)).trans (hr1.trans ((hf55 53 44 rfl).trans (hf12 53 44 rfl)).symm)), (((hf55 20 2 rfl).trans (hf12 20 2 rfl)).trans (hr2.trans ((hf55 53 16 rfl).trans (hf12 53 16 rfl)).symm)), (((hf55 1 7 rfl).trans (hf12 1 7 rfl)).trans (hr3.trans ((hf55 53 0 rfl).trans (hf12 53 0 rfl)).symm)), (((hf55 1 8 rfl).trans (hf12 1 8 rfl)).trans (hr4.trans ((hf55 53 2 rfl).trans (hf12 53 2 rfl)).symm)), hRS62, hRP63, hRK64, hRR65, hRT66, hRE67, hR268, hR369, hR470, hR2871, hR572, hR673, hRG74, hRL75, hRC76, hRJ77, hRW78⟩ (funext fun s => hf59 200 s rfl)
def mLc15 : fz_M := (yL_law, code, 4, (some .boolean), [(739, .aload_n 1, 1, 0, 0, 0), (740, .aload_n 0, 1, 0, 0, 0), (741, .iload_n 3, 1, 0, 0, 0), (742, .iconst 1, 1, 0, 0, 0), (743, .iadd, 1, 0, 0, 0), (744, .iaload, 1, 0, 0, 0), (745, .aload_n 0, 1, 0, 0, 0), (746, .iload_n 3, 1, 0, 0, 0), (747, .iconst 2, 1, 0, 0, 0), (748, .iadd, 1, 0, 0, 0), (749, .iaload, 1, 0, 0, 0), (750, .aload_n 0, 1, 0, 0, 0), (751, .iload_n 3, 1, 0, 0, 0), (752, .iconst 3, 1, 0, 0, 0), (753, .iadd, 1, 0, 0, 0), (754, .iaload, 1, 0, 0, 0), (755, .invokevirtual 77, 3, 4014, 68, 0), (758, .pop, 1, 0, 0, 0), (759, .aload_n 2, 1, 0, 0, 0), (760, .aload_n 0, 1, 0, 0, 0), (761, .iload_n 3, 1, 0, 0, 0), (762, .iconst 1, 1, 0, 0, 0), (763, .iadd, 1, 0, 0, 0), (764, .iaload, 1, 0, 0, 0), (765, .aload_n 0, 1, 0, 0, 0), (766, .iload_n 3, 1, 0, 0, 0), (767, .iconst 2, 1, 0, 0, 0), (768, .iadd, 1, 0, 0, 0), (769, .iaload, 1, 0, 0, 0), (770, .aload_n 0, 1, 0, 0, 0), (771, .iload_n 3, 1, 0, 0, 0), (772, .iconst 3, 1, 0, 0, 0), (773, .iadd, 1, 0, 0, 0), (774, .iaload, 1, 0, 0, 0), (775, .invokevirtual 80, 3, 7021, 168, 0), (778, .pop, 1, 0, 0, 0), (779, .goto 1037, 3, 0, 0, 0)])
set_option maxRecDepth 100000 in
theorem kLc15 : fz_okM mLc15 = true := fz_okM_in (by decide +kernel) (by decide +kernel)
set_option maxHeartbeats 1000000 in
set_option maxRecDepth 100000 in
theorem lc15 (h : fz_H) (hI : fz_Iv h) (hX : fz_Xc h) (hXd : fz_Xd h) (hXh : fz_Xh h) (hXw : fz_Xw h) (hv1 : h 53 10 ≤ 10) (hv2 : h 53 42 ≤ h 53 41) (hr0 : h 9 5 = h 53 10) (hr1 : h 44 2 = h 53 44) (hr2 : h 20 2 = h 53 16) (hr3 : h 1 7 = h 53 0) (hr4 : h 1 8 = h 53 2) (hRS : fz_RS h) (hRP : fz_RP h) (hRK : fz_RK h) (hRR : fz_RR h) (hRT : fz_RT h) (hRE : fz_RE h) (hR2 : fz_R2 h) (hR3 : fz_R3 h) (hR4 : fz_R4 h) (hR28 : fz_R28 h) (hR5 : fz_R5 h) (hR6 : fz_R6 h) (hRG : fz_RG h) (hRL : fz_RL h) (hRC : fz_RC h) (hRJ : fz_RJ h) (hRW : fz_RW h) (i : Int) (hi : 0 ≤ i ∧ i + 6 ≤ h 200 100000 ∧ h 200 100000 ≤ 3072) {Q : fz_H → Option fz_V → Prop} (K : ∀ H : fz_H, fz_Gd H → H 200 = h 200 → fz_R 47 mLe 1816 [(3, fz_i i), (0, fz_r 200), (1, fz_r 0), (2, fz_r 53)] [] H Q) : fz_R 47 mLc15 739 [(3, fz_i i), (0, fz_r 200), (1, fz_r 0), (2, fz_r 53)] [] h Q := by
  have hf : fz_fr fz_all h h := fz_fr_rf
  refine fz_aload_n kLc15 rfl rfl ?_
  refine fz_aload_n kLc15 rfl rfl ?_
  refine fz_iload_n kLc15 rfl rfl ?_
  refine fz_iconst ⟨by decide, by decide⟩ kLc15 rfl ?_
  refine fz_iaddN kLc15 rfl (by omega) ?_
  obtain ⟨a1, e2⟩ : ∃ z, h 200 ((i + 1)).toNat = z := ⟨_, rfl⟩
  refine fz_taldV (v := a1) kLc15 rfl ⟨by decide, by decide⟩ (by omega) (by omega) e2 ?_
  refine fz_aload_n kLc15 rfl rfl ?_
  refine fz_iload_n kLc15 rfl rfl ?_
  refine fz_iconst ⟨by decide, by decide⟩ kLc15 rfl ?_
  refine fz_iaddN kLc15 rfl (by omega) ?_
  obtain ⟨a3, e4⟩ : ∃ z, h 200 ((i + 2)).toNat = z := ⟨_, rfl⟩
  refine fz_taldV (v := a3) kLc15 rfl ⟨by decide, by decide⟩ (by omega) (by omega) e4 ?_
  refine fz_aload_n kLc15 rfl rfl ?_
  refine fz_iload_n kLc15 rfl rfl ?_
  refine fz_iconst ⟨by decide, by decide⟩ kLc15 rfl ?_
  refine fz_iaddN kLc15 rfl (by omega) ?_
  obtain ⟨a5, e6⟩ : ∃ z, h 200 ((i + 3)).toNat = z := ⟨_, rfl⟩
  refine fz_taldV (v := a5) kLc15 rfl ⟨by decide, by decide⟩ (by omega) (by omega) e6 ?_
  refine fz_callV (d' := 10) (M' := mX10_route) (As := [fz_i a1, fz_i a3, fz_i a5]) (st := []) kLc15 rfl rfl vX10_route rfl rfl rfl rfl (Nat.le_of_ble_eq_true rfl) (Nat.le_of_ble_eq_true rfl) (by decide) (sX10_route h hI a1 a3 a5 ) (fun H7 r8 q9 o10 => ?_)
  obtain ⟨hI11, hf12, y14, rfl, f13⟩ := q9
  clear o10
  have hf15 := fz_fr_tr hf hf12 (fz_su_all rfl)
  have hXd16 : fz_Xd H7 := fz_Xd_eq (funext fun s => hf12 80 s rfl) hXd
  have hXh17 : fz_Xh H7 := fz_Xh_eq (funext fun s => hf12 83 s rfl) hXh
  have hXw18 : fz_Xw H7 := fz_Xw_eq (hf12 53 19 rfl) (funext fun s => hf12 66 s rfl) (funext fun s => hf12 67 s rfl) (funext fun s => hf12 68 s rfl) (funext fun s => hf12 69 s rfl) hXw
  have hRS19 : fz_RS H7 := fz_RS_eq (funext fun s => hf12 48 s rfl) (funext fun s => hf12 49 s rfl) (funext fun s => hf12 50 s rfl) (funext fun s => hf12 51 s rfl) (funext fun s => hf12 83 s rfl) (funext fun s => hf12 84 s rfl) (hf12 44 2 rfl) hRS
  have hRP20 : fz_RP H7 := fz_RP_eq (funext fun s => hf12 52 s rfl) (funext fun s => hf12 85 s rfl) hRP
  have hRK21 : fz_RK H7 := fz_RK_eq (funext fun s => hf12 45 s rfl) (funext fun s => hf12 81 s rfl) hRK
  have hRR22 : fz_RR H7 := fz_RR_eq (hf12 44 3 rfl) (hf12 53 46 rfl) (funext fun s => hf12 46 s rfl) (funext fun s => hf12 82 s rfl) hRR
  have hRT23 : fz_RT H7 := fz_RT_eq (funext fun s => hf12 41 s rfl) (funext fun s => hf12 42 s rfl) (hf12 1 7 rfl) hRT
  have hRE24 : fz_RE H7 := fz_RE_eq (funext fun s => hf12 5 s rfl) (funext fun s => hf12 6 s rfl) (hf12 1 8 rfl) (hf12 1 7 rfl) hRE
  have hR225 : fz_R2 H7 := fz_R2_eq (funext fun s => hf12 2 s rfl) (funext fun s => hf12 54 s rfl) hR2
  have hR326 : fz_R3 H7 := fz_R3_eq (funext fun s => hf12 3 s rfl) (funext fun s => hf12 57 s rfl) hR3
  have hR427 : fz_R4 H7 := fz_R4_eq (funext fun s => hf12 4 s rfl) (funext fun s => hf12 58 s rfl) hR4
  have hR2828 : fz_R28 H7 := fz_R28_eq (funext fun s => hf12 28 s rfl) (funext fun s => hf12 59 s rfl) hR28
  have hR529 : fz_R5 H7 := fz_R5_eq (funext fun s => hf12 5 s rfl) (funext fun s => hf12 55 s rfl) hR5
  have hR630 : fz_R6 H7 := fz_R6_eq (funext fun s => hf12 6 s rfl) (funext fun s => hf12 56 s rfl) hR6
  have hRG31 : fz_RG H7 := fz_RG_eq (hf12 27 8 rfl) (hf12 27 9 rfl) (hf12 53 8 rfl) (hf12 53 9 rfl) hRG
  have hRL32 : fz_RL H7 := fz_RL_eq (funext fun s => hf12 11 s rfl) (funext fun s => hf12 12 s rfl) (funext fun s => hf12 13 s rfl) (funext fun s => hf12 14 s rfl) (funext fun s => hf12 61 s rfl) (funext fun s => hf12 62 s rfl) (funext fun s => hf12 63 s rfl) (funext fun s => hf12 64 s rfl) (hf12 9 5 rfl) hRL
  have hRC33 : fz_RC H7 := fz_RC_eq (hf12 35 4 rfl) (hf12 35 5 rfl) (hf12 53 41 rfl) (hf12 53 42 rfl) (funext fun s => hf12 36 s rfl) (funext fun s => hf12 37 s rfl) (funext fun s => hf12 38 s rfl) (funext fun s => hf12 39 s rfl) (funext fun s => hf12 80 s rfl) (hf12 1 7 rfl) (hf12 1 8 rfl) (hf12 9 5 rfl) hRC
  have hRJ34 : fz_RJ H7 := fz_RJ_eq (hf12 40 1 rfl) (hf12 53 34 rfl) (funext fun s => hf12 41 s rfl) (funext fun s => hf12 76 s rfl) (hf12 40 6 rfl) (hf12 53 37 rfl) (funext fun s => hf12 42 s rfl) (funext fun s => hf12 78 s rfl) (hf12 43 0 rfl) (hf12 53 38 rfl) hRJ
  have hRW35 : fz_RW H7 := fz_RW_eq (funext fun s => hf12 10 s rfl) (funext fun s => hf12 60 s rfl) (hf12 9 5 rfl) hRW
  have hX36 : fz_Xc H7 := fz_Xc_fr hf12 rfl hX
  have t37 : H7 53 10 = h 53 10 := hf12 53 10 rfl
  have t38 : H7 53 41 = h 53 41 := hf12 53 41 rfl
  have t39 : H7 53 42 = h 53 42 := hf12 53 42 rfl
  have t40 : H7 9 5 = h 9 5 := hf12 9 5 rfl
  have t41 : H7 53 10 = h 53 10 := hf12 53 10 rfl
  have t42 : H7 44 2 = h 44 2 := hf12 44 2 rfl
  have t43 : H7 53 44 = h 53 44 := hf12 53 44 rfl
  have t44 : H7 20 2 = h 20 2 := hf12 20 2 rfl
  have t45 : H7 53 16 = h 53 16 := hf12 53 16 rfl
  have t46 : H7 1 7 = h 1 7 := hf12 1 7 rfl
  have t47 : H7 53 0 = h 53 0 := hf12 53 0 rfl
  have t48 : H7 1 8 = h 1 8 := hf12 1 8 rfl
  have t49 : H7 53 2 = h 53 2 := hf12 53 2 rfl
  refine fz_pop rfl kLc15 rfl ?_
  refine fz_aload_n kLc15 rfl rfl ?_
  refine fz_aload_n kLc15 rfl rfl ?_
  refine fz_iload_n kLc15 rfl rfl ?_
  refine fz_iconst ⟨by decide, by decide⟩ kLc15 rfl ?_
  refine fz_iaddN kLc15 rfl (by omega) ?_
  refine fz_taldV (v := a1) kLc15 rfl ⟨by decide, by decide⟩ (by omega) (by rw [hf15 200 _ rfl]; omega) ((hf15 200 _ rfl).trans e2) ?_
  refine fz_aload_n kLc15 rfl rfl ?_
  refine fz_iload_n kLc15 rfl rfl ?_
  refine fz_iconst ⟨by decide, by decide⟩ kLc15 rfl ?_
  refine fz_iaddN kLc15 rfl (by omega) ?_
  refine fz_taldV (v := a3) kLc15 rfl ⟨by decide, by decide⟩ (by omega) (by rw [hf15 200 _ rfl]; omega) ((hf15 200 _ rfl).trans e4) ?_
  refine fz_aload_n kLc15 rfl rfl ?_
  refine fz_iload_n kLc15 rfl rfl ?_
  refine fz_iconst ⟨by decide, by decide⟩ kLc15 rfl ?_
  refine fz_iaddN kLc15 rfl (by omega) ?_
  refine fz_taldV (v := a5) kLc15 rfl ⟨by decide, by decide⟩ (by omega) (by rw [hf15 200 _ rfl]; omega) ((hf15 200 _ rfl).trans e6) ?_
  refine fz_callV (d' := 9) (M' := mX11_route) (As := [fz_i a1, fz_i a3, fz_i a5]) (st := []) kLc15 rfl rfl vX11_route rfl rfl rfl rfl (Nat.le_of_ble_eq_true rfl) (Nat.le_of_ble_eq_true rfl) (by decide) (sX11_route H7 hI11 a1 a3 a5 hXw18) (fun H50 r51 q52 o53 => ?_)
  obtain ⟨hI54, hf55, hXw56, y58, rfl, f57⟩ := q52
  clear o53
  have hf59 := fz_fr_tr hf15 hf55 (fz_su_all rfl)
  have hXd60 : fz_Xd H50 := fz_Xd_eq (funext fun s => hf55 80 s rfl) hXd16
  have hXh61 : fz_Xh H50 := fz_Xh_eq (funext fun s => hf55 83 s rfl) hXh17
  have hRS62 : fz_RS H50 := fz_RS_eq (funext fun s => hf55 48 s rfl) (funext fun s => hf55 49 s rfl) (funext fun s => hf55 50 s rfl) (funext fun s => hf55 51 s rfl) (funext fun s => hf55 83 s rfl) (funext fun s => hf55 84 s rfl) (hf55 44 2 rfl) hRS19
  have hRP63 : fz_RP H50 := fz_RP_eq (funext fun s => hf55 52 s rfl) (funext fun s => hf55 85 s rfl) hRP20
  have hRK64 : fz_RK H50 := fz_RK_eq (funext fun s => hf55 45 s rfl) (funext fun s => hf55 81 s rfl) hRK21
  have hRR65 : fz_RR H50 := fz_RR_eq (hf55 44 3 rfl) (hf55 53 46 rfl) (funext fun s => hf55 46 s rfl) (funext fun s => hf55 82 s rfl) hRR22
  have hRT66 : fz_RT H50 := fz_RT_eq (funext fun s => hf55 41 s rfl) (funext fun s => hf55 42 s rfl) (hf55 1 7 rfl) hRT23
  have hRE67 : fz_RE H50 := fz_RE_eq (funext fun s => hf55 5 s rfl) (funext fun s => hf55 6 s rfl) (hf55 1 8 rfl) (hf55 1 7 rfl) hRE24
  have hR268 : fz_R2 H50 := fz_R2_eq (funext fun s => hf55 2 s rfl) (funext fun s => hf55 54 s rfl) hR225
  have hR369 : fz_R3 H50 := fz_R3_eq (funext fun s => hf55 3 s rfl) (funext fun s => hf55 57 s rfl) hR326
  have hR470 : fz_R4 H50 := fz_R4_eq (funext fun s => hf55 4 s rfl) (funext fun s => hf55 58 s rfl) hR427
  have hR2871 : fz_R28 H50 := fz_R28_eq (funext fun s => hf55 28 s rfl) (funext fun s => hf55 59 s rfl) hR2828
  have hR572 : fz_R5 H50 := fz_R5_eq (funext fun s => hf55 5 s rfl) (funext fun s => hf55 55 s rfl) hR529
  have hR673 : fz_R6 H50 := fz_R6_eq (funext fun s => hf55 6 s rfl) (funext fun s => hf55 56 s rfl) hR630
  have hRG74 : fz_RG H50 := fz_RG_eq (hf55 27 8 rfl) (hf55 27 9 rfl) (hf55 53 8 rfl) (hf55 53 9 rfl) hRG31
  have hRL75 : fz_RL H50 := fz_RL_eq (funext fun s => hf55 11 s rfl) (funext fun s => hf55 12 s rfl) (funext fun s => hf55 13 s rfl) (funext fun s => hf55 14 s rfl) (funext fun s => hf55 61 s rfl) (funext fun s => hf55 62 s rfl) (funext fun s => hf55 63 s rfl) (funext fun s => hf55 64 s rfl) (hf55 9 5 rfl) hRL32
  have hRC76 : fz_RC H50 := fz_RC_eq (hf55 35 4 rfl) (hf55 35 5 rfl) (hf55 53 41 rfl) (hf55 53 42 rfl) (funext fun s => hf55 36 s rfl) (funext fun s => hf55 37 s rfl) (funext fun s => hf55 38 s rfl) (funext fun s => hf55 39 s rfl) (funext fun s => hf55 80 s rfl) (hf55 1 7 rfl) (hf55 1 8 rfl) (hf55 9 5 rfl) hRC33
  have hRJ77 : fz_RJ H50 := fz_RJ_eq (hf55 40 1 rfl) (hf55 53 34 rfl) (funext fun s => hf55 41 s rfl) (funext fun s => hf55 76 s rfl) (hf55 40 6 rfl) (hf55 53 37 rfl) (funext fun s => hf55 42 s rfl) (funext fun s => hf55 78 s rfl) (hf55 43 0 rfl) (hf55 53 38 rfl) hRJ34
  have hRW78 : fz_RW H50 := fz_RW_eq (funext fun s => hf55 10 s rfl) (funext fun s => hf55 60 s rfl) (hf55 9 5 rfl) hRW35
  have hX79 : fz_Xc H50 := fz_Xc_fr hf55 rfl hX36
  have t80 : H50 53 10 = H7 53 10 := hf55 53 10 rfl
  have t81 : H50 53 41 = H7 53 41 := hf55 53 41 rfl
  have t82 : H50 53 42 = H7 53 42 := hf55 53 42 rfl
  have t83 : H50 9 5 = H7 9 5 := hf55 9 5 rfl
  have t84 : H50 53 10 = H7 53 10 := hf55 53 10 rfl
  have t85 : H50 44 2 = H7 44 2 := hf55 44 2 rfl
  have t86 : H50 53 44 = H7 53 44 := hf55 53 44 rfl
  have t87 : H50 20 2 = H7 20 2 := hf55 20 2 rfl
  have t88 : H50 53 16 = H7 53 16 := hf55 53 16 rfl
  have t89 : H50 1 7 = H7 1 7 := hf55 1 7 rfl
  have t90 : H50 53 0 = H7 53 0 := hf55 53 0 rfl
  have t91 : H50 1 8 = H7 1 8 := hf55 1 8 rfl
  have t92 : H50 53 2 = H7 53 2 := hf55 53 2 rfl
  refine fz_pop rfl kLc15 rfl ?_
  refine fz_goto (tgt := 1816) kLc15 rfl (by decide) ?_
  exact K H50 ⟨hI54, hX79, hXd60, hXh61, hXw56, (by rw [((hf55 53 10 rfl).trans (hf12 53 10 rfl))]; exact hv1), (by rw [((hf55 53 42 rfl).trans (hf12 53 42 rfl)), ((hf55 53 41 rfl).trans (hf12 53 41 rfl))]; exact hv2), (((hf55 9 5 rfl).trans (hf12 9 5 rfl)).trans (hr0.trans ((hf55 53 10 rfl).trans (hf12 53 10 rfl)).symm)), (((hf55 44 2 rfl).trans (hf12 44 2 rfl)).trans (hr1.trans ((hf55 53 44 rfl).trans (hf12 53 44 rfl)).symm)), (((hf55 20 2 rfl).trans (hf12 20 2 rfl)).trans (hr2.trans ((hf55 53 16 rfl).trans (hf12 53 16 rfl)).symm)), (((hf55 1 7 rfl).trans (hf12 1 7 rfl)).trans (hr3.trans ((hf55 53 0 rfl).trans (hf12 53 0 rfl)).symm)), (((hf55 1 8 rfl).trans (hf12 1 8 rfl)).trans (hr4.trans ((hf55 53 2 rfl).trans (hf12 53 2 rfl)).symm)), hRS62, hRP63, hRK64, hRR65, hRT66, hRE67, hR268, hR369, hR470, hR2871, hR572, hR673, hRG74, hRL75, hRC76, hRJ77, hRW78⟩ (funext fun s => hf59 200 s rfl)
def mLc16 : fz_M := (yL_law, code, 4, (some .boolean), [(782, .aload_n 1, 1, 0, 0, 0), (783, .aload_n 0, 1, 0, 0, 0), (784, .iload_n 3, 1, 0, 0, 0), (785, .iconst 1, 1, 0, 0, 0), (786, .iadd, 1, 0, 0, 0), (787, .iaload, 1, 0, 0, 0), (788, .aload_n 0, 1, 0, 0, 0), (789, .iload_n 3, 1, 0, 0, 0), (790, .iconst 2, 1, 0, 0, 0), (791, .iadd, 1, 0, 0, 0), (792, .iaload, 1, 0, 0, 0), (793, .aload_n 0, 1, 0, 0, 0), (794, .iload_n 3, 1, 0, 0, 0), (795, .iconst 3, 1, 0, 0, 0), (796, .iadd, 1, 0, 0, 0), (797, .iaload, 1, 0, 0, 0), (798, .aload_n 0, 1, 0, 0, 0), (799, .iload_n 3, 1, 0, 0, 0), (800, .iconst 4, 1, 0, 0, 0), (801, .iadd, 1, 0, 0, 0), (802, .iaload, 1, 0, 0, 0), (803, .invokevirtual 81, 3, 4044, 58, 0), (806, .pop, 1, 0, 0, 0), (807, .aload_n 2, 1, 0, 0, 0), (808, .aload_n 0, 1, 0, 0, 0), (809, .iload_n 3, 1, 0, 0, 0), (810, .iconst 1, 1, 0, 0, 0), (811, .iadd, 1, 0, 0, 0), (812, .iaload, 1, 0, 0, 0), (813, .aload_n 0, 1, 0, 0, 0), (814, .iload_n 3, 1, 0, 0, 0), (815, .iconst 2, 1, 0, 0, 0), (816, .iadd, 1, 0, 0, 0), (817, .iaload, 1, 0, 0, 0), (818, .aload_n 0, 1, 0, 0, 0), (819, .iload_n 3, 1, 0, 0, 0), (820, .iconst 3, 1, 0, 0, 0), (821, .iadd, 1, 0, 0, 0), (822, .iaload, 1, 0, 0, 0), (823, .aload_n 0, 1, 0, 0, 0), (824, .iload_n 3, 1, 0, 0, 0), (825, .iconst 4, 1, 0, 0, 0), (826, .iadd, 1, 0, 0, 0), (827, .iaload, 1, 0, 0, 0), (828, .invokevirtual 85, 3, 7033, 155, 0), (831, .pop, 1, 0, 0, 0), (832, .goto 984, 3, 0, 0, 0)])
set_option maxRecDepth 100000 in
theorem kLc16 : fz_okM mLc16 = true := fz_okM_in (by decide +kernel) (by decide +kernel)
set_option maxHeartbeats 1000000 in
set_option maxRecDepth 100000 in
theorem lc16 (h : fz_H) (hI : fz_Iv h) (hX : fz_Xc h) (hXd : fz_Xd h) (hXh : fz_Xh h) (hXw : fz_Xw h) (hv1 : h 53 10 ≤ 10) (hv2 : h 53 42 ≤ h 53 41) (hr0 : h 9 5 = h 53 10) (hr1 : h 44 2 = h 53 44) (hr2 : h 20 2 = h 53 16) (hr3 : h 1 7 = h 53 0) (hr4 : h 1 8 = h 53 2) (hRS : fz_RS h) (hRP : fz_RP h) (hRK : fz_RK h) (hRR : fz_RR h) (hRT : fz_RT h) (hRE : fz_RE h) (hR2 : fz_R2 h) (hR3 : fz_R3 h) (hR4 : fz_R4 h) (hR28 : fz_R28 h) (hR5 : fz_R5 h) (hR6 : fz_R6 h) (hRG : fz_RG h) (hRL : fz_RL h) (hRC : fz_RC h) (hRJ : fz_RJ h) (hRW : fz_RW h) (i : Int) (hi : 0 ≤ i ∧ i + 6 ≤ h 200 100000 ∧ h 200 100000 ≤ 3072) {Q : fz_H → Option fz_V → Prop} (K : ∀ H : fz_H, fz_Gd H → H 200 = h 200 → fz_R 47 mLe 1816 [(3, fz_i i), (0, fz_r 200), (1, fz_r 0), (2, fz_r 53)] [] H Q) : fz_R 47 mLc16 782 [(3, fz_i i), (0, fz_r 200), (1, fz_r 0), (2, fz_r 53)] [] h Q := by
  have hf : fz_fr fz_all h h := fz_fr_rf
  refine fz_aload_n kLc16 rfl rfl ?_
  refine fz_aload_n kLc16 rfl rfl ?_
  refine fz_iload_n kLc16 rfl rfl ?_
  refine fz_iconst ⟨by decide, by decide⟩ kLc16 rfl ?_
  refine fz_iaddN kLc16 rfl (by omega) ?_
  obtain ⟨a1, e2⟩ : ∃ z, h 200 ((i + 1)).toNat = z := ⟨_, rfl⟩
  refine fz_taldV (v := a1) kLc16 rfl ⟨by decide, by decide⟩ (by omega) (by omega) e2 ?_
  refine fz_aload_n kLc16 rfl rfl ?_
  refine fz_iload_n kLc16 rfl rfl ?_
  refine fz_iconst ⟨by decide, by decide⟩ kLc16 rfl ?_
  refine fz_iaddN kLc16 rfl (by omega) ?_
  obtain ⟨a3, e4⟩ : ∃ z, h 200 ((i + 2)).toNat = z := ⟨_, rfl⟩
  refine fz_taldV (v := a3) kLc16 rfl ⟨by decide, by decide⟩ (by omega) (by omega) e4 ?_
  refine fz_aload_n kLc16 rfl rfl ?_
  refine fz_iload_n kLc16 rfl rfl ?_
  refine fz_iconst ⟨by decide, by decide⟩ kLc16 rfl ?_
  refine fz_iaddN kLc16 rfl (by omega) ?_
  obtain ⟨a5, e6⟩ : ∃ z, h 200 ((i + 3)).toNat = z := ⟨_, rfl⟩
  refine fz_taldV (v := a5) kLc16 rfl ⟨by decide, by decide⟩ (by omega) (by omega) e6 ?_
  refine fz_aload_n kLc16 rfl rfl ?_
  refine fz_iload_n kLc16 rfl rfl ?_
  refine fz_iconst ⟨by decide, by decide⟩ kLc16 rfl ?_
  refine fz_iaddN kLc16 rfl (by omega) ?_
  obtain ⟨a7, e8⟩ : ∃ z, h 200 ((i + 4)).toNat = z := ⟨_, rfl⟩
  refine fz_taldV (v := a7) kLc16 rfl ⟨by decide, by decide⟩ (by omega) (by omega) e8 ?_
  refine fz_callV (d' := 5) (M' := mX10_needs) (As := [fz_i a1, fz_i a3, fz_i a5, fz_i a7]) (st := []) kLc16 rfl rfl vX10_needs rfl rfl rfl rfl (Nat.le_of_ble_eq_true rfl) (Nat.le_of_ble_eq_true rfl) (by decide) (sX10_needs h hI a1 a3 a5 a7 ) (fun H9 r10 q11 o12 => ?_)
  obtain ⟨hI13, hf14, y17, rfl, f15, f16⟩ := q11
  clear o12
  have hf18 := fz_fr_tr hf hf14 (fz_su_all rfl)
  have hXd19 : fz_Xd H9 := fz_Xd_eq (funext fun s => hf14 80 s rfl) hXd
  have hXh20 : fz_Xh H9 := fz_Xh_eq (funext fun s => hf14 83 s rfl) hXh
  have hXw21 : fz_Xw H9 := fz_Xw_eq (hf14 53 19 rfl) (funext fun s => hf14 66 s rfl) (funext fun s => hf14 67 s rfl) (funext fun s => hf14 68 s rfl) (funext fun s => hf14 69 s rfl) hXw
  have hRS22 : fz_RS H9 := fz_RS_eq (funext fun s => hf14 48 s rfl) (funext fun s => hf14 49 s rfl) (funext fun s => hf14 50 s rfl) (funext fun s => hf14 51 s rfl) (funext fun s => hf14 83 s rfl) (funext fun s => hf14 84 s rfl) (hf14 44 2 rfl) hRS
  have hRP23 : fz_RP H9 := fz_RP_eq (funext fun s => hf14 52 s rfl) (funext fun s => hf14 85 s rfl) hRP
  have hRK24 : fz_RK H9 := fz_RK_eq (funext fun s => hf14 45 s rfl) (funext fun s => hf14 81 s rfl) hRK
  have hRR25 : fz_RR H9 := fz_RR_eq (hf14 44 3 rfl) (hf14 53 46 rfl) (funext fun s => hf14 46 s rfl) (funext fun s => hf14 82 s rfl) hRR
  have hRT26 : fz_RT H9 := fz_RT_eq (funext fun s => hf14 41 s rfl) (funext fun s => hf14 42 s rfl) (hf14 1 7 rfl) hRT
  have hRE27 : fz_RE H9 := fz_RE_eq (funext fun s => hf14 5 s rfl) (funext fun s => hf14 6 s rfl) (hf14 1 8 rfl) (hf14 1 7 rfl) hRE
  have hR228 : fz_R2 H9 := fz_R2_eq (funext fun s => hf14 2 s rfl) (funext fun s => hf14 54 s rfl) hR2
  have hR329 : fz_R3 H9 := fz_R3_eq (funext fun s => hf14 3 s rfl) (funext fun s => hf14 57 s rfl) hR3
  have hR430 : fz_R4 H9 := fz_R4_eq (funext fun s => hf14 4 s rfl) (funext fun s => hf14 58 s rfl) hR4
  have hR2831 : fz_R28 H9 := fz_R28_eq (funext fun s => hf14 28 s rfl) (funext fun s => hf14 59 s rfl) hR28
  have hR532 : fz_R5 H9 := fz_R5_eq (funext fun s => hf14 5 s rfl) (funext fun s => hf14 55 s rfl) hR5
  have hR633 : fz_R6 H9 := fz_R6_eq (funext fun s => hf14 6 s rfl) (funext fun s => hf14 56 s rfl) hR6
  have hRG34 : fz_RG H9 := fz_RG_eq (hf14 27 8 rfl) (hf14 27 9 rfl) (hf14 53 8 rfl) (hf14 53 9 rfl) hRG
  have hRC35 : fz_RC H9 := fz_RC_eq (hf14 35 4 rfl) (hf14 35 5 rfl) (hf14 53 41 rfl) (hf14 53 42 rfl) (funext fun s => hf14 36 s rfl) (funext fun s => hf14 37 s rfl) (funext fun s => hf14 38 s rfl) (funext fun s => hf14 39 s rfl) (funext fun s => hf14 80 s rfl) (hf14 1 7 rfl) (hf14 1 8 rfl) (hf14 9 5 rfl) hRC
  have hRJ36 : fz_RJ H9 := fz_RJ_eq (hf14 40 1 rfl) (hf14 53 34 rfl) (funext fun s => hf14 41 s rfl) (funext fun s => hf14 76 s rfl) (hf14 40 6 rfl) (hf14 53 37 rfl) (funext fun s => hf14 42 s rfl) (funext fun s => hf14 78 s rfl) (hf14 43 0 rfl) (hf14 53 38 rfl) hRJ
  have hX37 : fz_Xc H9 := fz_Xc_fr hf14 rfl hX
  have t38 : H9 53 10 = h 53 10 := hf14 53 10 rfl
  have t39 : H9 53 41 = h 53 41 := hf14 53 41 rfl
  have t40 : H9 53 42 = h 53 42 := hf14 53 42 rfl
  have t41 : H9 9 5 = h 9 5 := hf14 9 5 rfl
  have t42 : H9 53 10 = h 53 10 := hf14 53 10 rfl
  have t43 : H9 44 2 = h 44 2 := hf14 44 2 rfl
  have t44 : H9 53 44 = h 53 44 := hf14 53 44 rfl
  have t45 : H9 20 2 = h 20 2 := hf14 20 2 rfl
  have t46 : H9 53 16 = h 53 16 := hf14 53 16 rfl
  have t47 : H9 1 7 = h 1 7 := hf14 1 7 rfl
  have t48 : H9 53 0 = h 53 0 := hf14 53 0 rfl
  have t49 : H9 1 8 = h 1 8 := hf14 1 8 rfl
  have t50 : H9 53 2 = h 53 2 := hf14 53 2 rfl
  refine fz_pop rfl kLc16 rfl ?_
  refine fz_aload_n kLc16 rfl rfl ?_
  refine fz_aload_n kLc16 rfl rfl ?_
  refine fz_iload_n kLc16 rfl rfl ?_
  refine fz_iconst ⟨by decide, by decide⟩ kLc16 rfl ?_
  refine fz_iaddN kLc16 rfl (by omega) ?_
  refine fz_taldV (v := a1) kLc16 rfl ⟨by decide, by decide⟩ (by omega) (by rw [hf18 200 _ rfl]; omega) ((hf18 200 _ rfl).trans e2) ?_
  refine fz_aload_n kLc16 rfl rfl ?_
  refine fz_iload_n kLc16 rfl rfl ?_
  refine fz_iconst ⟨by decide, by decide⟩ kLc16 rfl ?_
  refine fz_iaddN kLc16 rfl (by omega) ?_
  refine fz_taldV (v := a3) kLc16 rfl ⟨by decide, by decide⟩ (by omega) (by rw [hf18 200 _ rfl]; omega) ((hf18 200 _ rfl).trans e4) ?_
  refine fz_aload_n kLc16 rfl rfl ?_
  refine fz_iload_n kLc16 rfl rfl ?_
  refine fz_iconst ⟨by decide, by decide⟩ kLc16 rfl ?_
  refine fz_iaddN kLc16 rfl (by omega) ?_
  refine fz_taldV (v := a5) kLc16 rfl ⟨by decide, by decide⟩ (by omega) (by rw [hf18 200 _ rfl]; omega) ((hf18 200 _ rfl).trans e6) ?_
  refine fz_aload_n kLc16 rfl rfl ?_
  refine fz_iload_n kLc16 rfl rfl ?_
  refine fz_iconst ⟨by decide, by decide⟩ kLc16 rfl ?_
  refine fz_iaddN kLc16 rfl (by omega) ?_
  refine fz_taldV (v := a7) kLc16 rfl ⟨by decide, by decide⟩ (by omega) (by rw [hf18 200 _ rfl]; omega) ((hf18 200 _ rfl).trans e8) ?_
  have b51 : 0 ≤ H9 53 10 ∧ H9 53 10 ≤ 11 := hI13.1 53 _
  refine fz_callV (d' := 5) (M' := mX11_needs) (As := [fz_i a1, fz_i a3, fz_i a5, fz_i a7]) (st := []) kLc16 rfl rfl vX11_needs rfl rfl rfl rfl (Nat.le_of_ble_eq_true rfl) (Nat.le_of_ble_eq_true rfl) (by decide) (sX11_needs H9 hI13 a1 a3 a5 a7 hXw21 (by omega)) (fun H52 r53 q54 o55 => ?_)
  obtain ⟨hI56, hf57, hXw58, y62, rfl, f59, f60, f61⟩ := q54
  clear o55
  have hf63 := fz_fr_tr hf18 hf57 (fz_su_all rfl)
  have hXd64 : fz_Xd H52 := fz_Xd_eq (funext fun s => hf57 80 s rfl) hXd19
  have hXh65 : fz_Xh H52 := fz_Xh_eq (funext fun s => hf57 83 s rfl) hXh20
  have hRS66 : fz_RS H52 := fz_RS_eq (funext fun s => hf57 48 s rfl) (funext fun s => hf57 49 s rfl) (funext fun s => hf57 50 s rfl) (funext fun s => hf57 51 s rfl) (funext fun s => hf57 83 s rfl) (funext fun s => hf57 84 s rfl) (hf57 44 2 rfl) hRS22
  have hRP67 : fz_RP H52 := fz_RP_eq (funext fun s => hf57 52 s rfl) (funext fun s => hf57 85 s rfl) hRP23
  have hRK68 : fz_RK H52 := fz_RK_eq (funext fun s => hf57 45 s rfl) (funext fun s => hf57 81 s rfl) hRK24
  have hRR69 : fz_RR H52 := fz_RR_eq (hf57 44 3 rfl) (hf57 53 46 rfl) (funext fun s => hf57 46 s rfl) (funext fun s => hf57 82 s rfl) hRR25
  have hRT70 : fz_RT H52 := fz_RT_eq (funext fun s => hf57 41 s rfl) (funext fun s => hf57 42 s rfl) (hf57 1 7 rfl) hRT26
  have hRE71 : fz_RE H52 := fz_RE_eq (funext fun s => hf57 5 s rfl) (funext fun s => hf57 6 s rfl) (hf57 1 8 rfl) (hf57 1 7 rfl) hRE27
  have hR272 : fz_R2 H52 := fz_R2_eq (funext fun s => hf57 2 s rfl) (funext fun s => hf57 54 s rfl) hR228
  have hR373 : fz_R3 H52 := fz_R3_eq (funext fun s => hf57 3 s rfl) (funext fun s => hf57 57 s rfl) hR329
  have hR474 : fz_R4 H52 := fz_R4_eq (funext fun s => hf57 4 s rfl) (funext fun s => hf57 58 s rfl) hR430
  have hR2875 : fz_R28 H52 := fz_R28_eq (funext fun s => hf57 28 s rfl) (funext fun s => hf57 59 s rfl) hR2831
  have hR576 : fz_R5 H52 := fz_R5_eq (funext fun s => hf57 5 s rfl) (funext fun s => hf57 55 s rfl) hR532
  have hR677 : fz_R6 H52 := fz_R6_eq (funext fun s => hf57 6 s rfl) (funext fun s => hf57 56 s rfl) hR633
  have hRG78 : fz_RG H52 := fz_RG_eq (hf57 27 8 rfl) (hf57 27 9 rfl) (hf57 53 8 rfl) (hf57 53 9 rfl) hRG34
  have hRC79 : fz_RC H52 := fz_RC_eq (hf57 35 4 rfl) (hf57 35 5 rfl) (hf57 53 41 rfl) (hf57 53 42 rfl) (funext fun s => hf57 36 s rfl) (funext fun s => hf57 37 s rfl) (funext fun s => hf57 38 s rfl) (funext fun s => hf57 39 s rfl) (funext fun s => hf57 80 s rfl) (hf57 1 7 rfl) (hf57 1 8 rfl) (hf57 9 5 rfl) hRC35
  have hRJ80 : fz_RJ H52 := fz_RJ_eq (hf57 40 1 rfl) (hf57 53 34 rfl) (funext fun s => hf57 41 s rfl) (funext fun s => hf57 76 s rfl) (hf57 40 6 rfl) (hf57 53 37 rfl) (funext fun s => hf57 42 s rfl) (funext fun s => hf57 78 s rfl) (hf57 43 0 rfl) (hf57 53 38 rfl) hRJ36
  have hX81 : fz_Xc H52 := fz_Xc_fr hf57 rfl hX37
  have t82 : H52 53 41 = H9 53 41 := hf57 53 41 rfl
  have t83 : H52 53 42 = H9 53 42 := hf57 53 42 rfl
  have t84 : H52 9 5 = H9 9 5 := hf57 9 5 rfl
  have t85 : H52 44 2 = H9 44 2 := hf57 44 2 rfl
  have t86 : H52 53 44 = H9 53 44 := hf57 53 44 rfl
  have t87 : H52 20 2 = H9 20 2 := hf57 20 2 rfl
  have t88 : H52 53 16 = H9 53 16 := hf57 53 16 rfl
  have t89 : H52 1 7 = H9 1 7 := hf57 1 7 rfl
  have t90 : H52 53 0 = H9 53 0 := hf57 53 0 rfl
  have t91 : H52 1 8 = H9 1 8 := hf57 1 8 rfl
  have t92 : H52 53 2 = H9 53 2 := hf57 53 2 rfl
  refine fz_pop rfl kLc16 rfl ?_
  refine fz_goto (tgt := 1816) kLc16 rfl (by decide) ?_
  have hRL93 : fz_RL H52 := fz_RL_ap hRL f16 f61 (by omega) ⟨(funext fun s => hf14 61 s rfl), (funext fun s => hf14 62 s rfl), (funext fun s => hf14 63 s rfl), (funext fun s => hf14 64 s rfl)⟩ ⟨(funext fun s => hf57 11 s rfl), (funext fun s => hf57 12 s rfl), (funext fun s => hf57 13 s rfl), (funext fun s => hf57 14 s rfl)⟩ (by omega) rfl (show 0 ≤ h 9 5 from (hI.1 9 _).1) (fun _ a b => absurd b (by omega))
  have hRW95 : fz_RW H52 := fz_RW_ap hRW f16 f61 (by omega) (funext fun s => hf14 60 s rfl) (funext fun s => hf57 10 s rfl) (by omega) rfl (show 0 ≤ h 9 5 from (hI.1 9 _).1) (fun _ a b => absurd b (by omega))
  exact K H52 ⟨hI56, hX81, hXd64, hXh65, hXw58, by omega, (by rw [((hf57 53 42 rfl).trans (hf14 53 42 rfl)), ((hf57 53 41 rfl).trans (hf14 53 41 rfl))]; exact hv2), by omega, (((hf57 44 2 rfl).trans (hf14 44 2 rfl)).trans (hr1.trans ((hf57 53 44 rfl).trans (hf14 53 44 rfl)).symm)), (((hf57 20 2 rfl).trans (hf14 20 2 rfl)).trans (hr2.trans ((hf57 53 16 rfl).trans (hf14 53 16 rfl)).symm)), (((hf57 1 7 rfl).trans (hf14 1 7 rfl)).trans (hr3.trans ((hf57 53 0 rfl).trans (hf14 53 0 rfl)).symm)), (((hf57 1 8 rfl).trans (hf14 1 8 rfl)).trans (hr4.trans ((hf57 53 2 rfl).trans (hf14 53 2 rfl)).symm)), hRS66, hRP67, hRK68, hRR69, hRT70, hRE71, hR272, hR373, hR474, hR2875, hR576, hR677, hRG78, hRL93, hRC79, hRJ80, hRW95⟩ (funext fun s => hf63 200 s rfl)
def mLc17 : fz_M := (yL_law, code, 4, (some .boolean), [(835, .aload_n 1, 1, 0, 0, 0), (836, .aload_n 0, 1, 0, 0, 0), (837, .iload_n 3, 1, 0, 0, 0), (838, .iconst 1, 1, 0, 0, 0), (839, .iadd, 1, 0, 0, 0), (840, .iaload, 1, 0, 0, 0), (841, .aload_n 0, 1, 0, 0, 0), (842, .iload_n 3, 1, 0, 0, 0), (843, .iconst 2, 1, 0, 0, 0), (844, .iadd, 1, 0, 0, 0), (845, .iaload, 1, 0, 0, 0), (846, .aload_n 0, 1, 0, 0, 0), (847, .iload_n 3, 1, 0, 0, 0), (848, .iconst 3, 1, 0, 0, 0), (849, .iadd, 1, 0, 0, 0), (850, .iaload, 1, 0, 0, 0), (851, .aload_n 0, 1, 0, 0, 0), (852, .iload_n 3, 1, 0, 0, 0), (853, .iconst 4, 1, 0, 0, 0), (854, .iadd, 1, 0, 0, 0), (855, .iaload, 1, 0, 0, 0), (856, .invokevirtual 86, 3, 4056, 52, 0), (859, .pop, 1, 0, 0, 0), (860, .aload_n 2, 1, 0, 0, 0), (861, .aload_n 0, 1, 0, 0, 0), (862, .iload_n 3, 1, 0, 0, 0), (863, .iconst 1, 1, 0, 0, 0), (864, .iadd, 1, 0, 0, 0), (865, .iaload, 1, 0, 0, 0), (866, .aload_n 0, 1, 0, 0, 0), (867, .iload_n 3, 1, 0, 0, 0), (868, .iconst 2, 1, 0, 0, 0), (869, .iadd, 1, 0, 0, 0), (870, .iaload, 1, 0, 0, 0), (871, .aload_n 0, 1, 0, 0, 0), (872, .iload_n 3, 1, 0, 0, 0), (873, .iconst 3, 1, 0, 0, 0), (874, .iadd, 1, 0, 0, 0), (875, .iaload, 1, 0, 0, 0), (876, .aload_n 0, 1, 0, 0, 0), (877, .iload_n 3, 1, 0, 0, 0), (878, .iconst 4, 1, 0, 0, 0), (879, .iadd, 1, 0, 0, 0), (880, .iaload, 1, 0, 0, 0), (881, .invokevirtual 89, 3, 7041, 144, 0), (884, .pop, 1, 0, 0, 0), (885, .goto 931, 3, 0, 0, 0)])
set_option maxRecDepth 100000 in
theorem kLc17 : fz_okM mLc17 = true := fz_okM_in (by decide +kernel) (by decide +kernel)
set_option maxHeartbeats 1000000 in
set_option maxRecDepth 100000 in
theorem lc17 (h : fz_H) (hI : fz_Iv h) (hX : fz_Xc h) (hXd : fz_Xd h) (hXh : fz_Xh h) (hXw : fz_Xw h) (hv1 : h 53 10 ≤ 10) (hv2 : h 53 42 ≤ h 53 41) (hr0 : h 9 5 = h 53 10) (hr1 : h 44 2 = h 53 44) (hr2 : h 20 2 = h 53 16) (hr3 : h 1 7 = h 53 0) (hr4 : h 1 8 = h 53 2) (hRS : fz_RS h) (hRP : fz_RP h) (hRK : fz_RK h) (hRR : fz_RR h) (hRT : fz_RT h) (hRE : fz_RE h) (hR2 : fz_R2 h) (hR3 : fz_R3 h) (hR4 : fz_R4 h) (hR28 : fz_R28 h) (hR5 : fz_R5 h) (hR6 : fz_R6 h) (hRG : fz_RG h) (hRL : fz_RL h) (hRC : fz_RC h) (hRJ : fz_RJ h) (hRW : fz_RW h) (i : Int) (hi : 0 ≤ i ∧ i + 6 ≤ h 200 100000 ∧ h 200 100000 ≤ 3072) {Q : fz_H → Option fz_V → Prop} (K : ∀ H : fz_H, fz_Gd H → H 200 = h 200 → fz_R 47 mLe 1816 [(3, fz_i i), (0, fz_r 200), (1, fz_r 0), (2, fz_r 53)] [] H Q) : fz_R 47 mLc17 835 [(3, fz_i i), (0, fz_r 200), (1, fz_r 0), (2, fz_r 53)] [] h Q := by
  have hf : fz_fr fz_all h h := fz_fr_rf
  refine fz_aload_n kLc17 rfl rfl ?_
  refine fz_aload_n kLc17 rfl rfl ?_
  refine fz_iload_n kLc17 rfl rfl ?_
  refine fz_iconst ⟨by decide, by decide⟩ kLc17 rfl ?_
  refine fz_iaddN kLc17 rfl (by omega) ?_
  obtain ⟨a1, e2⟩ : ∃ z, h 200 ((i + 1)).toNat = z := ⟨_, rfl⟩
  refine fz_taldV (v := a1) kLc17 rfl ⟨by decide, by decide⟩ (by omega) (by omega) e2 ?_
  refine fz_aload_n kLc17 rfl rfl ?_
  refine fz_iload_n kLc17 rfl rfl ?_
  refine fz_iconst ⟨by decide, by decide⟩ kLc17 rfl ?_
  refine fz_iaddN kLc17 rfl (by omega) ?_
  obtain ⟨a3, e4⟩ : ∃ z, h 200 ((i + 2)).toNat = z := ⟨_, rfl⟩
  refine fz_taldV (v := a3) kLc17 rfl ⟨by decide, by decide⟩ (by omega) (by omega) e4 ?_
  refine fz_aload_n kLc17 rfl rfl ?_
  refine fz_iload_n kLc17 rfl rfl ?_
  refine fz_iconst ⟨by decide, by decide⟩ kLc17 rfl ?_
  refine fz_iaddN kLc17 rfl (by omega) ?_
  obtain ⟨a5, e6⟩ : ∃ z, h 200 ((i + 3)).toNat = z := ⟨_, rfl⟩
  refine fz_taldV (v := a5) kLc17 rfl ⟨by decide, by decide⟩ (by omega) (by omega) e6 ?_
  refine fz_aload_n kLc17 rfl rfl ?_
  refine fz_iload_n kLc17 rfl rfl ?_
  refine fz_iconst ⟨by decide, by decide⟩ kLc17 rfl ?_
  refine fz_iaddN kLc17 rfl (by omega) ?_
  obtain ⟨a7, e8⟩ : ∃ z, h 200 ((i + 4)).toNat = z := ⟨_, rfl⟩
  refine fz_taldV (v := a7) kLc17 rfl ⟨by decide, by decide⟩ (by omega) (by omega) e8 ?_
  refine fz_callV (d' := 5) (M' := mX10_latest) (As := [fz_i a1, fz_i a3, fz_i a5, fz_i a7]) (st := []) kLc17 rfl rfl vX10_latest rfl rfl rfl rfl (Nat.le_of_ble_eq_true rfl) (Nat.le_of_ble_eq_true rfl) (by decide) (sX10_latest h hI a1 a3 a5 a7 ) (fun H9 r10 q11 o12 => ?_)
  obtain ⟨hI13, hf14, y17, rfl, f15, f16⟩ := q11
  clear o12
  have hf18 := fz_fr_tr hf hf14 (fz_su_all rfl)
  have hXd19 : fz_Xd H9 := fz_Xd_eq (funext fun s => hf14 80 s rfl) hXd
  have hXh20 : fz_Xh H9 := fz_Xh_eq (funext fun s => hf14 83 s rfl) hXh
  have hXw21 : fz_Xw H9 := fz_Xw_eq (hf14 53 19 rfl) (funext fun s => hf14 66 s rfl) (funext fun s => hf14 67 s rfl) (funext fun s => hf14 68 s rfl) (funext fun s => hf14 69 s rfl) hXw
  have hRS22 : fz_RS H9 := fz_RS_eq (funext fun s => hf14 48 s rfl) (funext fun s => hf14 49 s rfl) (funext fun s => hf14 50 s rfl) (funext fun s => hf14 51 s rfl) (funext fun s => hf14 83 s rfl) (funext fun s => hf14 84 s rfl) (hf14 44 2 rfl) hRS
  have hRP23 : fz_RP H9 := fz_RP_eq (funext fun s => hf14 52 s rfl) (funext fun s => hf14 85 s rfl) hRP
  have hRK24 : fz_RK H9 := fz_RK_eq (funext fun s => hf14 45 s rfl) (funext fun s => hf14 81 s rfl) hRK
  have hRR25 : fz_RR H9 := fz_RR_eq (hf14 44 3 rfl) (hf14 53 46 rfl) (funext fun s => hf14 46 s rfl) (funext fun s => hf14 82 s rfl) hRR
  have hRT26 : fz_RT H9 := fz_RT_eq (funext fun s => hf14 41 s rfl) (funext fun s => hf14 42 s rfl) (hf14 1 7 rfl) hRT
  have hRE27 : fz_RE H9 := fz_RE_eq (funext fun s => hf14 5 s rfl) (funext fun s => hf14 6 s rfl) (hf14 1 8 rfl) (hf14 1 7 rfl) hRE
  have hR228 : fz_R2 H9 := fz_R2_eq (funext fun s => hf14 2 s rfl) (funext fun s => hf14 54 s rfl) hR2
  have hR329 : fz_R3 H9 := fz_R3_eq (funext fun s => hf14 3 s rfl) (funext fun s => hf14 57 s rfl) hR3
  have hR430 : fz_R4 H9 := fz_R4_eq (funext fun s => hf14 4 s rfl) (funext fun s => hf14 58 s rfl) hR4
  have hR2831 : fz_R28 H9 := fz_R28_eq (funext fun s => hf14 28 s rfl) (funext fun s => hf14 59 s rfl) hR28
  have hR532 : fz_R5 H9 := fz_R5_eq (funext fun s => hf14 5 s rfl) (funext fun s => hf14 55 s rfl) hR5
  have hR633 : fz_R6 H9 := fz_R6_eq (funext fun s => hf14 6 s rfl) (funext fun s => hf14 56 s rfl) hR6
  have hRG34 : fz_RG H9 := fz_RG_eq (hf14 27 8 rfl) (hf14 27 9 rfl) (hf14 53 8 rfl) (hf14 53 9 rfl) hRG
  have hRC35 : fz_RC H9 := fz_RC_eq (hf14 35 4 rfl) (hf14 35 5 rfl) (hf14 53 41 rfl) (hf14 53 42 rfl) (funext fun s => hf14 36 s rfl) (funext fun s => hf14 37 s rfl) (funext fun s => hf14 38 s rfl) (funext fun s => hf14 39 s rfl) (funext fun s => hf14 80 s rfl) (hf14 1 7 rfl) (hf14 1 8 rfl) (hf14 9 5 rfl) hRC
  have hRJ36 : fz_RJ H9 := fz_RJ_eq (hf14 40 1 rfl) (hf14 53 34 rfl) (funext fun s => hf14 41 s rfl) (funext fun s => hf14 76 s rfl) (hf14 40 6 rfl) (hf14 53 37 rfl) (funext fun s => hf14 42 s rfl) (funext fun s => hf14 78 s rfl) (hf14 43 0 rfl) (hf14 53 38 rfl) hRJ
  have hX37 : fz_Xc H9 := fz_Xc_fr hf14 rfl hX
  have t38 : H9 53 10 = h 53 10 := hf14 53 10 rfl
  have t39 : H9 53 41 = h 53 41 := hf14 53 41 rfl
  have t40 : H9 53 42 = h 53 42 := hf14 53 42 rfl
  have t41 : H9 9 5 = h 9 5 := hf14 9 5 rfl
  have t42 : H9 53 10 = h 53 10 := hf14 53 10 rfl
  have t43 : H9 44 2 = h 44 2 := hf14 44 2 rfl
  have t44 : H9 53 44 = h 53 44 := hf14 53 44 rfl
  have t45 : H9 20 2 = h 20 2 := hf14 20 2 rfl
  have t46 : H9 53 16 = h 53 16 := hf14 53 16 rfl
  have t47 : H9 1 7 = h 1 7 := hf14 1 7 rfl
  have t48 : H9 53 0 = h 53 0 := hf14 53 0 rfl
  have t49 : H9 1 8 = h 1 8 := hf14 1 8 rfl
  have t50 : H9 53 2 = h 53 2 := hf14 53 2 rfl
  refine fz_pop rfl kLc17 rfl ?_
  refine fz_aload_n kLc17 rfl rfl ?_
  refine fz_aload_n kLc17 rfl rfl ?_
  refine fz_iload_n kLc17 rfl rfl ?_
  refine fz_iconst ⟨by decide, by decide⟩ kLc17 rfl ?_
  refine fz_iaddN kLc17 rfl (by omega) ?_
  refine fz_taldV (v := a1) kLc17 rfl ⟨by decide, by decide⟩ (by omega) (by rw [hf18 200 _ rfl]; omega) ((hf18 200 _ rfl).trans e2) ?_
  refine fz_aload_n kLc17 rfl rfl ?_
  refine fz_iload_n kLc17 rfl rfl ?_
  refine fz_iconst ⟨by decide, by decide⟩ kLc17 rfl ?_
  refine fz_iaddN kLc17 rfl (by omega) ?_
  refine fz_taldV (v := a3) kLc17 rfl ⟨by decide, by decide⟩ (by omega) (by rw [hf18 200 _ rfl]; omega) ((hf18 200 _ rfl).trans e4) ?_
  refine fz_aload_n kLc17 rfl rfl ?_
  refine fz_iload_n kLc17 rfl rfl ?_
  refine fz_iconst ⟨by decide, by decide⟩ kLc17 rfl ?_
  refine fz_iaddN kLc17 rfl (by omega) ?_
  refine fz_taldV (v := a5) kLc17 rfl ⟨by decide, by decide⟩ (by omega) (by rw [hf18 200 _ rfl]; omega) ((hf18 200 _ rfl).trans e6) ?_
  refine fz_aload_n kLc17 rfl rfl ?_
  refine fz_iload_n kLc17 rfl rfl ?_
  refine fz_iconst ⟨by decide, by decide⟩ kLc17 rfl ?_
  refine fz_iaddN kLc17 rfl (by omega) ?_
  refine fz_taldV (v := a7) kLc17 rfl ⟨by decide, by decide⟩ (by omega) (by rw [hf18 200 _ rfl]; omega) ((hf18 200 _ rfl).trans e8) ?_
  have b51 : 0 ≤ H9 53 10 ∧ H9 53 10 ≤ 11 := hI13.1 53 _
  refine fz_callV (d' := 5) (M' := mX11_latest) (As := [fz_i a1, fz_i a3, fz_i a5, fz_i a7]) (st := []) kLc17 rfl rfl vX11_latest rfl rfl rfl rfl (Nat.le_of_ble_eq_true rfl) (Nat.le_of_ble_eq_true rfl) (by decide) (sX11_latest H9 hI13 a1 a3 a5 a7 hXw21 (by omega)) (fun H52 r53 q54 o55 => ?_)
  obtain ⟨hI56, hf57, hXw58, y62, rfl, f59, f60, f61⟩ := q54
  clear o55
  have hf63 := fz_fr_tr hf18 hf57 (fz_su_all rfl)
  have hXd64 : fz_Xd H52 := fz_Xd_eq (funext fun s => hf57 80 s rfl) hXd19
  have hXh65 : fz_Xh H52 := fz_Xh_eq (funext fun s => hf57 83 s rfl) hXh20
  have hRS66 : fz_RS H52 := fz_RS_eq (funext fun s => hf57 48 s rfl) (funext fun s => hf57 49 s rfl) (funext fun s => hf57 50 s rfl) (funext fun s => hf57 51 s rfl) (funext fun s => hf57 83 s rfl) (funext fun s => hf57 84 s rfl) (hf57 44 2 rfl) hRS22
  have hRP67 : fz_RP H52 := fz_RP_eq (funext fun s => hf57 52 s rfl) (funext fun s => hf57 85 s rfl) hRP23
  have hRK68 : fz_RK H52 := fz_RK_eq (funext fun s => hf57 45 s rfl) (funext fun s => hf57 81 s rfl) hRK24
  have hRR69 : fz_RR H52 := fz_RR_eq (hf57 44 3 rfl) (hf57 53 46 rfl) (funext fun s => hf57 46 s rfl) (funext fun s => hf57 82 s rfl) hRR25
  have hRT70 : fz_RT H52 := fz_RT_eq (funext fun s => hf57 41 s rfl) (funext fun s => hf57 42 s rfl) (hf57 1 7 rfl) hRT26
  have hRE71 : fz_RE H52 := fz_RE_eq (funext fun s => hf57 5 s rfl) (funext fun s => hf57 6 s rfl) (hf57 1 8 rfl) (hf57 1 7 rfl) hRE27
  have hR272 : fz_R2 H52 := fz_R2_eq (funext fun s => hf57 2 s rfl) (funext fun s => hf57 54 s rfl) hR228
  have hR373 : fz_R3 H52 := fz_R3_eq (funext fun s => hf57 3 s rfl) (funext fun s => hf57 57 s rfl) hR329
  have hR474 : fz_R4 H52 := fz_R4_eq (funext fun s => hf57 4 s rfl) (funext fun s => hf57 58 s rfl) hR430
  have hR2875 : fz_R28 H52 := fz_R28_eq (funext fun s => hf57 28 s rfl) (funext fun s => hf57 59 s rfl) hR2831
  have hR576 : fz_R5 H52 := fz_R5_eq (funext fun s => hf57 5 s rfl) (funext fun s => hf57 55 s rfl) hR532
  have hR677 : fz_R6 H52 := fz_R6_eq (funext fun s => hf57 6 s rfl) (funext fun s => hf57 56 s rfl) hR633
  have hRG78 : fz_RG H52 := fz_RG_eq (hf57 27 8 rfl) (hf57 27 9 rfl) (hf57 53 8 rfl) (hf57 53 9 rfl) hRG34
  have hRC79 : fz_RC H52 := fz_RC_eq (hf57 35 4 rfl) (hf57 35 5 rfl) (hf57 53 41 rfl) (hf57 53 42 rfl) (funext fun s => hf57 36 s rfl) (funext fun s => hf57 37 s rfl) (funext fun s => hf57 38 s rfl) (funext fun s => hf57 39 s rfl) (funext fun s => hf57 80 s rfl) (hf57 1 7 rfl) (hf57 1 8 rfl) (hf57 9 5 rfl) hRC35
  have hRJ80 : fz_RJ H52 := fz_RJ_eq (hf57 40 1 rfl) (hf57 53 34 rfl) (funext fun s => hf57 41 s rfl) (funext fun s => hf57 76 s rfl) (hf57 40 6 rfl) (hf57 53 37 rfl) (funext fun s => hf57 42 s rfl) (funext fun s => hf57 78 s rfl) (hf57 43 0 rfl) (hf57 53 38 rfl) hRJ36
  have hX81 : fz_Xc H52 := fz_Xc_fr hf57 rfl hX37
  have t82 : H52 53 41 = H9 53 41 := hf57 53 41 rfl
  have t83 : H52 53 42 = H9 53 42 := hf57 53 42 rfl
  have t84 : H52 9 5 = H9 9 5 := hf57 9 5 rfl
  have t85 : H52 44 2 = H9 44 2 := hf57 44 2 rfl
  have t86 : H52 53 44 = H9 53 44 := hf57 53 44 rfl
  have t87 : H52 20 2 = H9 20 2 := hf57 20 2 rfl
  have t88 : H52 53 16 = H9 53 16 := hf57 53 16 rfl
  have t89 : H52 1 7 = H9 1 7 := hf57 1 7 rfl
  have t90 : H52 53 0 = H9 53 0 := hf57 53 0 rfl
  have t91 : H52 1 8 = H9 1 8 := hf57 1 8 rfl
  have t92 : H52 53 2 = H9 53 2 := hf57 53 2 rfl
  refine fz_pop rfl kLc17 rfl ?_
  refine fz_goto (tgt := 1816) kLc17 rfl (by decide) ?_
  have hRL93 : fz_RL H52 := fz_RL_ap hRL f16 f61 (by omega) ⟨(funext fun s => hf14 61 s rfl), (funext fun s => hf14 62 s rfl), (funext fun s => hf14 63 s rfl), (funext fun s => hf14 64 s rfl)⟩ ⟨(funext fun s => hf57 11 s rfl), (funext fun s => hf57 12 s rfl), (funext fun s => hf57 13 s rfl), (funext fun s => hf57 14 s rfl)⟩ (by omega) rfl (show 0 ≤ h 9 5 from (hI.1 9 _).1) (fun _ a b => absurd b (by omega))
  have hRW95 : fz_RW H52 := fz_RW_ap hRW f16 f61 (by omega) (funext fun s => hf14 60 s rfl) (funext fun s => hf57 10 s rfl) (by omega) rfl (show 0 ≤ h 9 5 from (hI.1 9 _).1) (fun _ a b => absurd b (by omega))
  exact K H52 ⟨hI56, hX81, hXd64, hXh65, hXw58, by omega, (by rw [((hf57 53 42 rfl).trans (hf14 53 42 rfl)), ((hf57 53 41 rfl).trans (hf14 53 41 rfl))]; exact hv2), by omega, (((hf57 44 2 rfl).trans (hf14 44 2 rfl)).trans (hr1.trans ((hf57 53 44 rfl).trans (hf14 53 44 rfl)).symm)), (((hf57 20 2 rfl).trans (hf14 20 2 rfl)).trans (hr2.trans ((hf57 53 16 rfl).trans (hf14 53 16 rfl)).symm)), (((hf57 1 7 rfl).trans (hf14 1 7 rfl)).trans (hr3.trans ((hf57 53 0 rfl).trans (hf14 53 0 rfl)).symm)), (((hf57 1 8 rfl).trans (hf14 1 8 rfl)).trans (hr4.trans ((hf57 53 2 rfl).trans (hf14 53 2 rfl)).symm)), hRS66, hRP67, hRK68, hRR69, hRT70, hRE71, hR272, hR373, hR474, hR2875, hR576, hR677, hRG78, hRL93, hRC79, hRJ80, hRW95⟩ (funext fun s => hf63 200 s rfl)
def mLc18 : fz_M := (yL_law, code, 4, (some .boolean), [(888, .aload_n 1, 1, 0, 0, 0), (889, .aload_n 0, 1, 0, 0, 0), (890, .iload_n 3, 1, 0, 0, 0), (891, .iconst 1, 1, 0, 0, 0), (892, .iadd, 1, 0, 0, 0), (893, .iaload, 1, 0, 0, 0), (894, .aload_n 0, 1, 0, 0, 0), (895, .iload_n 3, 1, 0, 0, 0), (896, .iconst 2, 1, 0, 0, 0), (897, .iadd, 1, 0, 0, 0), (898, .iaload, 1, 0, 0, 0), (899, .aload_n 0, 1, 0, 0, 0), (900, .iload_n 3, 1, 0, 0, 0), (901, .iconst 3, 1, 0, 0, 0), (902, .iadd, 1, 0, 0, 0), (903, .iaload, 1, 0, 0, 0), (904, .invokevirtual 90, 3, 4060, 24, 0), (907, .pop, 1, 0, 0, 0), (908, .aload_n 2, 1, 0, 0, 0), (909, .aload_n 0, 1, 0, 0, 0), (910, .iload_n 3, 1, 0, 0, 0), (911, .iconst 1, 1, 0, 0, 0), (912, .iadd, 1, 0, 0, 0), (913, .iaload, 1, 0, 0, 0), (914, .aload_n 0, 1, 0, 0, 0), (915, .iload_n 3, 1, 0, 0, 0), (916, .iconst 2, 1, 0, 0, 0), (917, .iadd, 1, 0, 0, 0), (918, .iaload, 1, 0, 0, 0), (919, .aload_n 0, 1, 0, 0, 0), (920, .iload_n 3, 1, 0, 0, 0), (921, .iconst 3, 1, 0, 0, 0), (922, .iadd, 1, 0, 0, 0), (923, .iaload, 1, 0, 0, 0), (924, .invokevirtual 93, 3, 7045, 92, 0), (927, .pop, 1, 0, 0, 0), (928, .goto 888, 3, 0, 0, 0)])
set_option maxRecDepth 100000 in
theorem kLc18 : fz_okM mLc18 = true := fz_okM_in (by decide +kernel) (by decide +kernel)
set_option maxHeartbeats 1000000 in
set_option maxRecDepth 100000 in
theorem lc18 (h : fz_H) (hI : fz_Iv h) (hX : fz_Xc h) (hXd : fz_Xd h) (hXh : fz_Xh h) (hXw : fz_Xw h) (hv1 : h 53 10 ≤ 10) (hv2 : h 53 42 ≤ h 53 41) (hr0 : h 9 5 = h 53 10) (hr1 : h 44 2 = h 53 44) (hr2 : h 20 2 = h 53 16) (hr3 : h 1 7 = h 53 0) (hr4 : h 1 8 = h 53 2) (hRS : fz_RS h) (hRP : fz_RP h) (hRK : fz_RK h) (hRR : fz_RR h) (hRT : fz_RT h) (hRE : fz_RE h) (hR2 : fz_R2 h) (hR3 : fz_R3 h) (hR4 : fz_R4 h) (hR28 : fz_R28 h) (hR5 : fz_R5 h) (hR6 : fz_R6 h) (hRG : fz_RG h) (hRL : fz_RL h) (hRC : fz_RC h) (hRJ : fz_RJ h) (hRW : fz_RW h) (i : Int) (hi : 0 ≤ i ∧ i + 6 ≤ h 200 100000 ∧ h 200 100000 ≤ 3072) {Q : fz_H → Option fz_V → Prop} (K : ∀ H : fz_H, fz_Gd H → H 200 = h 200 → fz_R 47 mLe 1816 [(3, fz_i i), (0, fz_r 200), (1, fz_r 0), (2, fz_r 53)] [] H Q) : fz_R 47 mLc18 888 [(3, fz_i i), (0, fz_r 200), (1, fz_r 0), (2, fz_r 53)] [] h Q := by
  have hf : fz_fr fz_all h h := fz_fr_rf
  refine fz_aload_n kLc18 rfl rfl ?_
  refine fz_aload_n kLc18 rfl rfl ?_
  refine fz_iload_n kLc18 rfl rfl ?_
  refine fz_iconst ⟨by decide, by decide⟩ kLc18 rfl ?_
  refine fz_iaddN kLc18 rfl (by omega) ?_
  obtain ⟨a1, e2⟩ : ∃ z, h 200 ((i + 1)).toNat = z := ⟨_, rfl⟩
  refine fz_taldV (v := a1) kLc18 rfl ⟨by decide, by decide⟩ (by omega) (by omega) e2 ?_
  refine fz_aload_n kLc18 rfl rfl ?_
  refine fz_iload_n kLc18 rfl rfl ?_
  refine fz_iconst ⟨by decide, by decide⟩ kLc18 rfl ?_
  refine fz_iaddN kLc18 rfl (by omega) ?_
  obtain ⟨a3, e4⟩ : ∃ z, h 200 ((i + 2)).toNat = z := ⟨_, rfl⟩
  refine fz_taldV (v := a3) kLc18 rfl ⟨by decide, by decide⟩ (by omega) (by omega) e4 ?_
  refine fz_aload_n kLc18 rfl rfl ?_
  refine fz_iload_n kLc18 rfl rfl ?_
  refine fz_iconst ⟨by decide, by decide⟩ kLc18 rfl ?_
  refine fz_iaddN kLc18 rfl (by omega) ?_
  obtain ⟨a5, e6⟩ : ∃ z, h 200 ((i + 3)).toNat = z := ⟨_, rfl⟩
  refine fz_taldV (v := a5) kLc18 rfl ⟨by decide, by decide⟩ (by omega) (by omega) e6 ?_
  refine fz_callV (d' := 1) (M' := mX10_cut) (As := [fz_i a1, fz_i a3, fz_i a5]) (st := []) kLc18 rfl rfl vX10_cut rfl rfl rfl rfl (Nat.le_of_ble_eq_true rfl) (Nat.le_of_ble_eq_true rfl) (by decide) (sX10_cut h hI a1 a3 a5 ) (fun H7 r8 q9 o10 => ?_)
  obtain ⟨e11, y13, rfl, f12⟩ := q9
  subst H7
  clear o10
  refine fz_pop rfl kLc18 rfl ?_
  refine fz_aload_n kLc18 rfl rfl ?_
  refine fz_aload_n kLc18 rfl rfl ?_
  refine fz_iload_n kLc18 rfl rfl ?_
  refine fz_iconst ⟨by decide, by decide⟩ kLc18 rfl ?_
  refine fz_iaddN kLc18 rfl (by omega) ?_
  refine fz_taldV (v := a1) kLc18 rfl ⟨by decide, by decide⟩ (by omega) (by omega) e2 ?_
  refine fz_aload_n kLc18 rfl rfl ?_
  refine fz_iload_n kLc18 rfl rfl ?_
  refine fz_iconst ⟨by decide, by decide⟩ kLc18 rfl ?_
  refine fz_iaddN kLc18 rfl (by omega) ?_
  refine fz_taldV (v := a3) kLc18 rfl ⟨by decide, by decide⟩ (by omega) (by omega) e4 ?_
  refine fz_aload_n kLc18 rfl rfl ?_
  refine fz_iload_n kLc18 rfl rfl ?_
  refine fz_iconst ⟨by decide, by decide⟩ kLc18 rfl ?_
  refine fz_iaddN kLc18 rfl (by omega) ?_
  refine fz_taldV (v := a5) kLc18 rfl ⟨by decide, by decide⟩ (by omega) (by omega) e6 ?_
  refine fz_callV (d' := 3) (M' := mX11_cut) (As := [fz_i a1, fz_i a3, fz_i a5]) (st := []) kLc18 rfl rfl vX11_cut rfl rfl rfl rfl (Nat.le_of_ble_eq_true rfl) (Nat.le_of_ble_eq_true rfl) (by decide) (sX11_cut h hI a1 a3 a5 ) (fun H14 r15 q16 o17 => ?_)
  obtain ⟨hI18, hf19, y22, rfl, f20, f21⟩ := q16
  clear o17
  have hf23 := fz_fr_tr hf hf19 (fz_su_all rfl)
  have hXd24 : fz_Xd H14 := fz_Xd_eq (funext fun s => hf19 80 s rfl) hXd
  have hXh25 : fz_Xh H14 := fz_Xh_eq (funext fun s => hf19 83 s rfl) hXh
  have hXw26 : fz_Xw H14 := fz_Xw_eq (hf19 53 19 rfl) (funext fun s => hf19 66 s rfl) (funext fun s => hf19 67 s rfl) (funext fun s => hf19 68 s rfl) (funext fun s => hf19 69 s rfl) hXw
  have hRS27 : fz_RS H14 := fz_RS_eq (funext fun s => hf19 48 s rfl) (funext fun s => hf19 49 s rfl) (funext fun s => hf19 50 s rfl) (funext fun s => hf19 51 s rfl) (funext fun s => hf19 83 s rfl) (funext fun s => hf19 84 s rfl) (hf19 44 2 rfl) hRS
  have hRP28 : fz_RP H14 := fz_RP_eq (funext fun s => hf19 52 s rfl) (funext fun s => hf19 85 s rfl) hRP
  have hRK29 : fz_RK H14 := fz_RK_eq (funext fun s => hf19 45 s rfl) (funext fun s => hf19 81 s rfl) hRK
  have hRR30 : fz_RR H14 := fz_RR_eq (hf19 44 3 rfl) (hf19 53 46 rfl) (funext fun s => hf19 46 s rfl) (funext fun s => hf19 82 s rfl) hRR
  have hRT31 : fz_RT H14 := fz_RT_eq (funext fun s => hf19 41 s rfl) (funext fun s => hf19 42 s rfl) (hf19 1 7 rfl) hRT
  have hRE32 : fz_RE H14 := fz_RE_eq (funext fun s => hf19 5 s rfl) (funext fun s => hf19 6 s rfl) (hf19 1 8 rfl) (hf19 1 7 rfl) hRE
  have hR233 : fz_R2 H14 := fz_R2_eq (funext fun s => hf19 2 s rfl) (funext fun s => hf19 54 s rfl) hR2
  have hR334 : fz_R3 H14 := fz_R3_eq (funext fun s => hf19 3 s rfl) (funext fun s => hf19 57 s rfl) hR3
  have hR2835 : fz_R28 H14 := fz_R28_eq (funext fun s => hf19 28 s rfl) (funext fun s => hf19 59 s rfl) hR28
  have hR536 : fz_R5 H14 := fz_R5_eq (funext fun s => hf19 5 s rfl) (funext fun s => hf19 55 s rfl) hR5
  have hR637 : fz_R6 H14 := fz_R6_eq (funext fun s => hf19 6 s rfl) (funext fun s => hf19 56 s rfl) hR6
  have hRG38 : fz_RG H14 := fz_RG_eq (hf19 27 8 rfl) (hf19 27 9 rfl) (hf19 53 8 rfl) (hf19 53 9 rfl) hRG
  have hRL39 : fz_RL H14 := fz_RL_eq (funext fun s => hf19 11 s rfl) (funext fun s => hf19 12 s rfl) (funext fun s => hf19 13 s rfl) (funext fun s => hf19 14 s rfl) (funext fun s => hf19 61 s rfl) (funext fun s => hf19 62 s rfl) (funext fun s => hf19 63 s rfl) (funext fun s => hf19 64 s rfl) (hf19 9 5 rfl) hRL
  have hRC40 : fz_RC H14 := fz_RC_eq (hf19 35 4 rfl) (hf19 35 5 rfl) (hf19 53 41 rfl) (hf19 53 42 rfl) (funext fun s => hf19 36 s rfl) (funext fun s => hf19 37 s rfl) (funext fun s => hf19 38 s rfl) (funext fun s => hf19 39 s rfl) (funext fun s => hf19 80 s rfl) (hf19 1 7 rfl) (hf19 1 8 rfl) (hf19 9 5 rfl) hRC
  have hRJ41 : fz_RJ H14 := fz_RJ_eq (hf19 40 1 rfl) (hf19 53 34 rfl) (funext fun s => hf19 41 s rfl) (funext fun s => hf19 76 s rfl) (hf19 40 6 rfl) (hf19 53 37 rfl) (funext fun s => hf19 42 s rfl) (funext fun s => hf19 78 s rfl) (hf19 43 0 rfl) (hf19 53 38 rfl) hRJ
  have hRW42 : fz_RW H14 := fz_RW_eq (funext fun s => hf19 10 s rfl) (funext fun s => hf19 60 s rfl) (hf19 9 5 rfl) hRW
  have hX43 : fz_Xc H14 := fz_Xc_fr hf19 rfl hX
  have t44 : H14 53 10 = h 53 10 := hf19 53 10 rfl
  have t45 : H14 53 41 = h 53 41 := hf19 53 41 rfl
  have t46 : H14 53 42 = h 53 42 := hf19 53 42 rfl
  have t47 : H14 9 5 = h 9 5 := hf19 9 5 rfl
  have t48 : H14 53 10 = h 53 10 := hf19 53 10 rfl
  have t49 : H14 44 2 = h 44 2 := hf19 44 2 rfl
  have t50 : H14 53 44 = h 53 44 := hf19 53 44 rfl
  have t51 : H14 20 2 = h 20 2 := hf19 20 2 rfl
  have t52 : H14 53 16 = h 53 16 := hf19 53 16 rfl
  have t53 : H14 1 7 = h 1 7 := hf19 1 7 rfl
  have t54 : H14 53 0 = h 53 0 := hf19 53 0 rfl
  have t55 : H14 1 8 = h 1 8 := hf19 1 8 rfl
  have t56 : H14 53 2 = h 53 2 := hf19 53 2 rfl
  refine fz_pop rfl kLc18 rfl ?_
  refine fz_goto (tgt := 1816) kLc18 rfl (by decide) ?_
  have hR457 : fz_R4 H14 := fz_R4_eq (funext fun s => hf19 4 s rfl) f21 hR4
  exact K H14 ⟨hI18, hX43, hXd24, hXh25, hXw26, (by rw [(hf19 53 10 rfl)]; exact hv1), (by rw [(hf19 53 42 rfl), (hf19 53 41 rfl)]; exact hv2), ((hf19 9 5 rfl).trans (hr0.trans (hf19 53 10 rfl).symm)), ((hf19 44 2 rfl).trans (hr1.trans (hf19 53 44 rfl).symm)), ((hf19 20 2 rfl).trans (hr2.trans (hf19 53 16 rfl).symm)), ((hf19 1 7 rfl).trans (hr3.trans (hf19 53 0 rfl).symm)), ((hf19 1 8 rfl).trans (hr4.trans (hf19 53 2 rfl).symm)), hRS27, hRP28, hRK29, hRR30, hRT31, hRE32, hR233, hR334, hR457, hR2835, hR536, hR637, hRG38, hRL39, hRC40, hRJ41, hRW42⟩ (funext fun s => hf23 200 s rfl)
def mLc19 : fz_M := (yL_law, code, 4, (some .boolean), [(931, .aload_n 1, 1, 0, 0, 0), (932, .aload_n 0, 1, 0, 0, 0), (933, .iload_n 3, 1, 0, 0, 0), (934, .iconst 1, 1, 0, 0, 0), (935, .iadd, 1, 0, 0, 0), (936, .iaload, 1, 0, 0, 0), (937, .aload_n 0, 1, 0, 0, 0), (938, .iload_n 3, 1, 0, 0, 0), (939, .iconst 2, 1, 0, 0, 0), (940, .iadd, 1, 0, 0, 0), (941, .iaload, 1, 0, 0, 0), (942, .aload_n 0, 1, 0, 0, 0), (943, .iload_n 3, 1, 0, 0, 0), (944, .iconst 3, 1, 0, 0, 0), (945, .iadd, 1, 0, 0, 0), (946, .iaload, 1, 0, 0, 0), (947, .invokevirtual 94, 3, 4074, 35, 0), (950, .pop, 1, 0, 0, 0), (951, .aload_n 2, 1, 0, 0, 0), (952, .aload_n 0, 1, 0, 0, 0), (953, .iload_n 3, 1, 0, 0, 0), (954, .iconst 1, 1, 0, 0, 0), (955, .iadd, 1, 0, 0, 0), (956, .iaload, 1, 0, 0, 0), (957, .aload_n 0, 1, 0, 0, 0), (958, .iload_n 3, 1, 0, 0, 0), (959, .iconst 2, 1, 0, 0, 0), (960, .iadd, 1, 0, 0, 0), (961, .iaload, 1, 0, 0, 0), (962, .aload_n 0, 1, 0, 0, 0), (963, .iload_n 3, 1, 0, 0, 0), (964, .iconst 3, 1, 0, 0, 0), (965, .iadd, 1, 0, 0, 0), (966, .iaload, 1, 0, 0, 0), (967, .invokevirtual 97, 3, 7050, 104, 0), (970, .pop, 1, 0, 0, 0), (971, .goto 845, 3, 0, 0, 0)])
set_option maxRecDepth 100000 in
theorem kLc19 : fz_okM mLc19 = true := fz_okM_in (by decide +kernel) (by decide +kernel)
set_option maxHeartbeats 1000000 in
set_option maxRecDepth 100000 in
theorem lc19 (h : fz_H) (hI : fz_Iv h) (hX : fz_Xc h) (hXd : fz_Xd h) (hXh : fz_Xh h) (hXw : fz_Xw h) (hv1 : h 53 10 ≤ 10) (hv2 : h 53 42 ≤ h 53 41) (hr0 : h 9 5 = h 53 10) (hr1 : h 44 2 = h 53 44) (hr2 : h 20 2 = h 53 16) (hr3 : h 1 7 = h 53 0) (hr4 : h 1 8 = h 53 2) (hRS : fz_RS h) (hRP : fz_RP h) (hRK : fz_RK h) (hRR : fz_RR h) (hRT : fz_RT h) (hRE : fz_RE h) (hR2 : fz_R2 h) (hR3 : fz_R3 h) (hR4 : fz_R4 h) (hR28 : fz_R28 h) (hR5 : fz_R5 h) (hR6 : fz_R6 h) (hRG : fz_RG h) (hRL : fz_RL h) (hRC : fz_RC h) (hRJ : fz_RJ h) (hRW : fz_RW h) (i : Int) (hi : 0 ≤ i ∧ i + 6 ≤ h 200 100000 ∧ h 200 100000 ≤ 3072) {Q : fz_H → Option fz_V → Prop} (K : ∀ H : fz_H, fz_Gd H → H 200 = h 200 → fz_R 47 mLe 1816 [(3, fz_i i), (0, fz_r 200), (1, fz_r 0), (2, fz_r 53)] [] H Q) : fz_R 47 mLc19 931 [(3, fz_i i), (0, fz_r 200), (1, fz_r 0), (2, fz_r 53)] [] h Q := by
  have hf : fz_fr fz_all h h := fz_fr_rf
  refine fz_aload_n kLc19 rfl rfl ?_
  refine fz_aload_n kLc19 rfl rfl ?_
  refine fz_iload_n kLc19 rfl rfl ?_
  refine fz_iconst ⟨by decide, by decide⟩ kLc19 rfl ?_
  refine fz_iaddN kLc19 rfl (by omega) ?_
  obtain ⟨a1, e2⟩ : ∃ z, h 200 ((i + 1)).toNat = z := ⟨_, rfl⟩
  refine fz_taldV (v := a1) kLc19 rfl ⟨by decide, by decide⟩ (by omega) (by omega) e2 ?_
  refine fz_aload_n kLc19 rfl rfl ?_
  refine fz_iload_n kLc19 rfl rfl ?_
  refine fz_iconst ⟨by decide, by decide⟩ kLc19 rfl ?_
  refine fz_iaddN kLc19 rfl (by omega) ?_
  obtain ⟨a3, e4⟩ : ∃ z, h 200 ((i + 2)).toNat = z := ⟨_, rfl⟩
  refine fz_taldV (v := a3) kLc19 rfl ⟨by decide, by decide⟩ (by omega) (by omega) e4 ?_
  refine fz_aload_n kLc19 rfl rfl ?_
  refine fz_iload_n kLc19 rfl rfl ?_
  refine fz_iconst ⟨by decide, by decide⟩ kLc19 rfl ?_
  refine fz_iaddN kLc19 rfl (by omega) ?_
  obtain ⟨a5, e6⟩ : ∃ z, h 200 ((i + 3)).toNat = z := ⟨_, rfl⟩
  refine fz_taldV (v := a5) kLc19 rfl ⟨by decide, by decide⟩ (by omega) (by omega) e6 ?_
  refine fz_callV (d' := 5) (M' := mX10_free) (As := [fz_i a1, fz_i a3, fz_i a5]) (st := []) kLc19 rfl rfl vX10_free rfl rfl rfl rfl (Nat.le_of_ble_eq_true rfl) (Nat.le_of_ble_eq_true rfl) (by decide) (sX10_free h hI a1 a3 a5 ) (fun H7 r8 q9 o10 => ?_)
  obtain ⟨hI11, hf12, y14, rfl, f13⟩ := q9
  clear o10
  have hf15 := fz_fr_tr hf hf12 (fz_su_all rfl)
  have hXd16 : fz_Xd H7 := fz_Xd_eq (funext fun s => hf12 80 s rfl) hXd
  have hXh17 : fz_Xh H7 := fz_Xh_eq (funext fun s => hf12 83 s rfl) hXh
  have hXw18 : fz_Xw H7 := fz_Xw_eq (hf12 53 19 rfl) (funext fun s => hf12 66 s rfl) (funext fun s => hf12 67 s rfl) (funext fun s => hf12 68 s rfl) (funext fun s => hf12 69 s rfl) hXw
  have hRS19 : fz_RS H7 := fz_RS_eq (funext fun s => hf12 48 s rfl) (funext fun s => hf12 49 s rfl) (funext fun s => hf12 50 s rfl) (funext fun s => hf12 51 s rfl) (funext fun s => hf12 83 s rfl) (funext fun s => hf12 84 s rfl) (hf12 44 2 rfl) hRS
  have hRP20 : fz_RP H7 := fz_RP_eq (funext fun s => hf12 52 s rfl) (funext fun s => hf12 85 s rfl) hRP
  have hRK21 : fz_RK H7 := fz_RK_eq (funext fun s => hf12 45 s rfl) (funext fun s => hf12 81 s rfl) hRK
  have hRR22 : fz_RR H7 := fz_RR_eq (hf12 44 3 rfl) (hf12 53 46 rfl) (funext fun s => hf12 46 s rfl) (funext fun s => hf12 82 s rfl) hRR
  have hRT23 : fz_RT H7 := fz_RT_eq (funext fun s => hf12 41 s rfl) (funext fun s => hf12 42 s rfl) (hf12 1 7 rfl) hRT
  have hRE24 : fz_RE H7 := fz_RE_eq (funext fun s => hf12 5 s rfl) (funext fun s => hf12 6 s rfl) (hf12 1 8 rfl) (hf12 1 7 rfl) hRE
  have hR225 : fz_R2 H7 := fz_R2_eq (funext fun s => hf12 2 s rfl) (funext fun s => hf12 54 s rfl) hR2
  have hR326 : fz_R3 H7 := fz_R3_eq (funext fun s => hf12 3 s rfl) (funext fun s => hf12 57 s rfl) hR3
  have hR427 : fz_R4 H7 := fz_R4_eq (funext fun s => hf12 4 s rfl) (funext fun s => hf12 58 s rfl) hR4
  have hR2828 : fz_R28 H7 := fz_R28_eq (funext fun s => hf12 28 s rfl) (funext fun s => hf12 59 s rfl) hR28
  have hR529 : fz_R5 H7 := fz_R5_eq (funext fun s => hf12 5 s rfl) (funext fun s => hf12 55 s rfl) hR5
  have hR630 : fz_R6 H7 := fz_R6_eq (funext fun s => hf12 6 s rfl) (funext fun s => hf12 56 s rfl) hR6
  have hRG31 : fz_RG H7 := fz_RG_eq (hf12 27 8 rfl) (hf12 27 9 rfl) (hf12 53 8 rfl) (hf12 53 9 rfl) hRG
  have hRL32 : fz_RL H7 := fz_RL_eq (funext fun s => hf12 11 s rfl) (funext fun s => hf12 12 s rfl) (funext fun s => hf12 13 s rfl) (funext fun s => hf12 14 s rfl) (funext fun s => hf12 61 s rfl) (funext fun s => hf12 62 s rfl) (funext fun s => hf12 63 s rfl) (funext fun s => hf12 64 s rfl) (hf12 9 5 rfl) hRL
  have hRC33 : fz_RC H7 := fz_RC_eq (hf12 35 4 rfl) (hf12 35 5 rfl) (hf12 53 41 rfl) (hf12 53 42 rfl) (funext fun s => hf12 36 s rfl) (funext fun s => hf12 37 s rfl) (funext fun s => hf12 38 s rfl) (funext fun s => hf12 39 s rfl) (funext fun s => hf12 80 s rfl) (hf12 1 7 rfl) (hf12 1 8 rfl) (hf12 9 5 rfl) hRC
  have hRJ34 : fz_RJ H7 := fz_RJ_eq (hf12 40 1 rfl) (hf12 53 34 rfl) (funext fun s => hf12 41 s rfl) (funext fun s => hf12 76 s rfl) (hf12 40 6 rfl) (hf12 53 37 rfl) (funext fun s => hf12 42 s rfl) (funext fun s => hf12 78 s rfl) (hf12 43 0 rfl) (hf12 53 38 rfl) hRJ
  have hRW35 : fz_RW H7 := fz_RW_eq (funext fun s => hf12 10 s rfl) (funext fun s => hf12 60 s rfl) (hf12 9 5 rfl) hRW
  have hX36 : fz_Xc H7 := fz_Xc_fr hf12 rfl hX
  have t37 : H7 53 10 = h 53 10 := hf12 53 10 rfl
  have t38 : H7 53 41 = h 53 41 := hf12 53 41 rfl
  have t39 : H7 53 42 = h 53 42 := hf12 53 42 rfl
  have t40 : H7 9 5 = h 9 5 := hf12 9 5 rfl
  have t41 : H7 53 10 = h 53 10 := hf12 53 10 rfl
  have t42 : H7 44 2 = h 44 2 := hf12 44 2 rfl
  have t43 : H7 53 44 = h 53 44 := hf12 53 44 rfl
  have t44 : H7 20 2 = h 20 2 := hf12 20 2 rfl
  have t45 : H7 53 16 = h 53 16 := hf12 53 16 rfl
  have t46 : H7 1 7 = h 1 7 := hf12 1 7 rfl
  have t47 : H7 53 0 = h 53 0 := hf12 53 0 rfl
  have t48 : H7 1 8 = h 1 8 := hf12 1 8 rfl
  have t49 : H7 53 2 = h 53 2 := hf12 53 2 rfl
  refine fz_pop rfl kLc19 rfl ?_
  refine fz_aload_n kLc19 rfl rfl ?_
  refine fz_aload_n kLc19 rfl rfl ?_
  refine fz_iload_n kLc19 rfl rfl ?_
  refine fz_iconst ⟨by decide, by decide⟩ kLc19 rfl ?_
  refine fz_iaddN kLc19 rfl (by omega) ?_
  refine fz_taldV (v := a1) kLc19 rfl ⟨by decide, by decide⟩ (by omega) (by rw [hf15 200 _ rfl]; omega) ((hf15 200 _ rfl).trans e2) ?_
  refine fz_aload_n kLc19 rfl rfl ?_
  refine fz_iload_n kLc19 rfl rfl ?_
  refine fz_iconst ⟨by decide, by decide⟩ kLc19 rfl ?_
  refine fz_iaddN kLc19 rfl (by omega) ?_
  refine fz_taldV (v := a3) kLc19 rfl ⟨by decide, by decide⟩ (by omega) (by rw [hf15 200 _ rfl]; omega) ((hf15 200 _ rfl).trans e4) ?_
  refine fz_aload_n kLc19 rfl rfl ?_
  refine fz_iload_n kLc19 rfl rfl ?_
  refine fz_iconst ⟨by decide, by decide⟩ kLc19 rfl ?_
  refine fz_iaddN kLc19 rfl (by omega) ?_
  refine fz_taldV (v := a5) kLc19 rfl ⟨by decide, by decide⟩ (by omega) (by rw [hf15 200 _ rfl]; omega) ((hf15 200 _ rfl).trans e6) ?_
  refine fz_callV (d' := 6) (M' := mX11_free) (As := [fz_i a1, fz_i a3, fz_i a5]) (st := []) kLc19 rfl rfl vX11_free rfl rfl rfl rfl (Nat.le_of_ble_eq_true rfl) (Nat.le_of_ble_eq_true rfl) (by decide) (sX11_free H7 hI11 a1 a3 a5 hXw18) (fun H50 r51 q52 o53 => ?_)
  obtain ⟨hI54, hf55, hXw56, y59, rfl, f57, f58⟩ := q52
  clear o53
  have hf60 := fz_fr_tr hf15 hf55 (fz_su_all rfl)
  have hXd61 : fz_Xd H50 := fz_Xd_eq (funext fun s => hf55 80 s rfl) hXd16
  have hXh62 : fz_Xh H50 := fz_Xh_eq (funext fun s => hf55 83 s rfl) hXh17
  have hRS63 : fz_RS H50 := fz_RS_eq (funext fun s => hf55 48 s rfl) (funext fun s => hf55 49 s rfl) (funext fun s => hf55 50 s rfl) (funext fun s => hf55 51 s rfl) (funext fun s => hf55 83 s rfl) (funext fun s => hf55 84 s rfl) (hf55 44 2 rfl) hRS19
  have hRP64 : fz_RP H50 := fz_RP_eq (funext fun s => hf55 52 s rfl) (funext fun s => hf55 85 s rfl) hRP20
  have hRK65 : fz_RK H50 := fz_RK_eq (funext fun s => hf55 45 s rfl) (funext fun s => hf55 81 s rfl) hRK21
  have hRR66 : fz_RR H50 := fz_RR_eq (hf55 44 3 rfl) (hf55 53 46 rfl) (funext fun s => hf55 46 s rfl) (funext fun s => hf55 82 s rfl) hRR22
  have hRT67 : fz_RT H50 := fz_RT_eq (funext fun s => hf55 41 s rfl) (funext fun s => hf55 42 s rfl) (hf55 1 7 rfl) hRT23
  have hRE68 : fz_RE H50 := fz_RE_eq (funext fun s => hf55 5 s rfl) (funext fun s => hf55 6 s rfl) (hf55 1 8 rfl) (hf55 1 7 rfl) hRE24
  have hR269 : fz_R2 H50 := fz_R2_eq (funext fun s => hf55 2 s rfl) (funext fun s => hf55 54 s rfl) hR225
  have hR370 : fz_R3 H50 := fz_R3_eq (funext fun s => hf55 3 s rfl) (funext fun s => hf55 57 s rfl) hR326
  have hR471 : fz_R4 H50 := fz_R4_eq (funext fun s => hf55 4 s rfl) (funext fun s => hf55 58 s rfl) hR427
  have hR2872 : fz_R28 H50 := fz_R28_eq (funext fun s => hf55 28 s rfl) (funext fun s => hf55 59 s rfl) hR2828
  have hR573 : fz_R5 H50 := fz_R5_eq (funext fun s => hf55 5 s rfl) (funext fun s => hf55 55 s rfl) hR529
  have hR674 : fz_R6 H50 := fz_R6_eq (funext fun s => hf55 6 s rfl) (funext fun s => hf55 56 s rfl) hR630
  have hRG75 : fz_RG H50 := fz_RG_eq (hf55 27 8 rfl) (hf55 27 9 rfl) (hf55 53 8 rfl) (hf55 53 9 rfl) hRG31
  have hRL76 : fz_RL H50 := fz_RL_eq (funext fun s => hf55 11 s rfl) (funext fun s => hf55 12 s rfl) (funext fun s => hf55 13 s rfl) (funext fun s => hf55 14 s rfl) (funext fun s => hf55 61 s rfl) (funext fun s => hf55 62 s rfl) (funext fun s => hf55 63 s rfl) (funext fun s => hf55 64 s rfl) (hf55 9 5 rfl) hRL32
  have hRC77 : fz_RC H50 := fz_RC_eq (hf55 35 4 rfl) (hf55 35 5 rfl) (hf55 53 41 rfl) (hf55 53 42 rfl) (funext fun s => hf55 36 s rfl) (funext fun s => hf55 37 s rfl) (funext fun s => hf55 38 s rfl) (funext fun s => hf55 39 s rfl) (funext fun s => hf55 80 s rfl) (hf55 1 7 rfl) (hf55 1 8 rfl) (hf55 9 5 rfl) hRC33
  have hRJ78 : fz_RJ H50 := fz_RJ_eq (hf55 40 1 rfl) (hf55 53 34 rfl) (funext fun s => hf55 41 s rfl) (funext fun s => hf55 76 s rfl) (hf55 40 6 rfl) (hf55 53 37 rfl) (funext fun s => hf55 42 s rfl) (funext fun s => hf55 78 s rfl) (hf55 43 0 rfl) (hf55 53 38 rfl) hRJ34
  have hX79 : fz_Xc H50 := fz_Xc_fr hf55 rfl hX36
  have t80 : H50 53 10 = H7 53 10 := hf55 53 10 rfl
  have t81 : H50 53 41 = H7 53 41 := hf55 53 41 rfl
  have t82 : H50 53 42 = H7 53 42 := hf55 53 42 rfl
  have t83 : H50 9 5 = H7 9 5 := hf55 9 5 rfl
  have t84 : H50 53 10 = H7 53 10 := hf55 53 10 rfl
  have t85 : H50 44 2 = H7 44 2 := hf55 44 2 rfl
  have t86 : H50 53 44 = H7 53 44 := hf55 53 44 rfl
  have t87 : H50 20 2 = H7 20 2 := hf55 20 2 rfl
  have t88 : H50 53 16 = H7 53 16 := hf55 53 16 rfl
  have t89 : H50 1 7 = H7 1 7 := hf55 1 7 rfl
  have t90 : H50 53 0 = H7 53 0 := hf55 53 0 rfl
  have t91 : H50 1 8 = H7 1 8 := hf55 1 8 rfl
  have t92 : H50 53 2 = H7 53 2 := hf55 53 2 rfl
  refine fz_pop rfl kLc19 rfl ?_
  refine fz_goto (tgt := 1816) kLc19 rfl (by decide) ?_
  have hRW93 : fz_RW H50 := fz_RW_eq (funext fun s => (hf55 10 s rfl).trans (hf12 10 s rfl)) (f58.trans (funext fun s => hf12 60 s rfl)) ((hf55 9 5 rfl).trans (hf12 9 5 rfl)) hRW
  exact K H50 ⟨hI54, hX79, hXd61, hXh62, hXw56, (by rw [((hf55 53 10 rfl).trans (hf12 53 10 rfl))]; exact hv1), (by rw [((hf55 53 42 rfl).trans (hf12 53 42 rfl)), ((hf55 53 41 rfl).trans (hf12 53 41 rfl))]; exact hv2), (((hf55 9 5 rfl).trans (hf12 9 5 rfl)).trans (hr0.trans ((hf55 53 10 rfl).trans (hf12 53 10 rfl)).symm)), (((hf55 44 2 rfl).trans (hf12 44 2 rfl)).trans (hr1.trans ((hf55 53 44 rfl).trans (hf12 53 44 rfl)).symm)), (((hf55 20 2 rfl).trans (hf12 20 2 rfl)).trans (hr2.trans ((hf55 53 16 rfl).trans (hf12 53 16 rfl)).symm)), (((hf55 1 7 rfl).trans (hf12 1 7 rfl)).trans (hr3.trans ((hf55 53 0 rfl).trans (hf12 53 0 rfl)).symm)), (((hf55 1 8 rfl).trans (hf12 1 8 rfl)).trans (hr4.trans ((hf55 53 2 rfl).trans (hf12 53 2 rfl)).symm)), hRS63, hRP64, hRK65, hRR66, hRT67, hRE68, hR269, hR370, hR471, hR2872, hR573, hR674, hRG75, hRL76, hRC77, hRJ78, hRW93⟩ (funext fun s => hf60 200 s rfl)
def mLc20 : fz_M := (yL_law, code, 4, (some .boolean), [(974, .aload_n 1, 1, 0, 0, 0), (975, .aload_n 0, 1, 0, 0, 0), (976, .iload_n 3, 1, 0, 0, 0), (977, .iconst 1, 1, 0, 0, 0), (978, .iadd, 1, 0, 0, 0), (979, .iaload, 1, 0, 0, 0), (980, .aload_n 0, 1, 0, 0, 0), (981, .iload_n 3, 1, 0, 0, 0), (982, .iconst 2, 1, 0, 0, 0), (983, .iadd, 1, 0, 0, 0), (984, .iaload, 1, 0, 0, 0), (985, .aload_n 0, 1, 0, 0, 0), (986, .iload_n 3, 1, 0, 0, 0), (987, .iconst 3, 1, 0, 0, 0), (988, .iadd, 1, 0, 0, 0), (989, .iaload, 1, 0, 0, 0), (990, .invokevirtual 98, 3, 4083, 14, 0), (993, .pop, 1, 0, 0, 0), (994, .aload_n 2, 1, 0, 0, 0), (995, .aload_n 0, 1, 0, 0, 0), (996, .iload_n 3, 1, 0, 0, 0), (997, .iconst 1, 1, 0, 0, 0), (998, .iadd, 1, 0, 0, 0), (999, .iaload, 1, 0, 0, 0), (1000, .aload_n 0, 1, 0, 0, 0), (1001, .iload_n 3, 1, 0, 0, 0), (1002, .iconst 2, 1, 0, 0, 0), (1003, .iadd, 1, 0, 0, 0), (1004, .iaload, 1, 0, 0, 0), (1005, .aload_n 0, 1, 0, 0, 0), (1006, .iload_n 3, 1, 0, 0, 0), (1007, .iconst 3, 1, 0, 0, 0), (1008, .iadd, 1, 0, 0, 0), (1009, .iaload, 1, 0, 0, 0), (1010, .invokevirtual 101, 3, 7066, 82, 0), (1013, .pop, 1, 0, 0, 0), (1014, .goto 802, 3, 0, 0, 0)])
set_option maxRecDepth 100000 in
theorem kLc20 : fz_okM mLc20 = true := fz_okM_in (by decide +kernel) (by decide +kernel)
set_option maxHeartbeats 1000000 in
set_option maxRecDepth 100000 in
theorem lc20 (h : fz_H) (hI : fz_Iv h) (hX : fz_Xc h) (hXd : fz_Xd h) (hXh : fz_Xh h) (hXw : fz_Xw h) (hv1 : h 53 10 ≤ 10) (hv2 : h 53 42 ≤ h 53 41) (hr0 : h 9 5 = h 53 10) (hr1 : h 44 2 = h 53 44) (hr2 : h 20 2 = h 53 16) (hr3 : h 1 7 = h 53 0) (hr4 : h 1 8 = h 53 2) (hRS : fz_RS h) (hRP : fz_RP h) (hRK : fz_RK h) (hRR : fz_RR h) (hRT : fz_RT h) (hRE : fz_RE h) (hR2 : fz_R2 h) (hR3 : fz_R3 h) (hR4 : fz_R4 h) (hR28 : fz_R28 h) (hR5 : fz_R5 h) (hR6 : fz_R6 h) (hRG : fz_RG h) (hRL : fz_RL h) (hRC : fz_RC h) (hRJ : fz_RJ h) (hRW : fz_RW h) (i : Int) (hi : 0 ≤ i ∧ i + 6 ≤ h 200 100000 ∧ h 200 100000 ≤ 3072) {Q : fz_H → Option fz_V → Prop} (K : ∀ H : fz_H, fz_Gd H → H 200 = h 200 → fz_R 47 mLe 1816 [(3, fz_i i), (0, fz_r 200), (1, fz_r 0), (2, fz_r 53)] [] H Q) : fz_R 47 mLc20 974 [(3, fz_i i), (0, fz_r 200), (1, fz_r 0), (2, fz_r 53)] [] h Q := by
  have hf : fz_fr fz_all h h := fz_fr_rf
  refine fz_aload_n kLc20 rfl rfl ?_
  refine fz_aload_n kLc20 rfl rfl ?_
  refine fz_iload_n kLc20 rfl rfl ?_
  refine fz_iconst ⟨by decide, by decide⟩ kLc20 rfl ?_
  refine fz_iaddN kLc20 rfl (by omega) ?_
  obtain ⟨a1, e2⟩ : ∃ z, h 200 ((i + 1)).toNat = z := ⟨_, rfl⟩
  refine fz_taldV (v := a1) kLc20 rfl ⟨by decide, by decide⟩ (by omega) (by omega) e2 ?_
  refine fz_aload_n kLc20 rfl rfl ?_
  refine fz_iload_n kLc20 rfl rfl ?_
  refine fz_iconst ⟨by decide, by decide⟩ kLc20 rfl ?_
  refine fz_iaddN kLc20 rfl (by omega) ?_
  obtain ⟨a3, e4⟩ : ∃ z, h 200 ((i + 2)).toNat = z := ⟨_, rfl⟩
  refine fz_taldV (v := a3) kLc20 rfl ⟨by decide, by decide⟩ (by omega) (by omega) e4 ?_
  refine fz_aload_n kLc20 rfl rfl ?_
  refine fz_iload_n kLc20 rfl rfl ?_
  refine fz_iconst ⟨by decide, by decide⟩ kLc20 rfl ?_
  refine fz_iaddN kLc20 rfl (by omega) ?_
  obtain ⟨a5, e6⟩ : ∃ z, h 200 ((i + 3)).toNat = z := ⟨_, rfl⟩
  refine fz_taldV (v := a5) kLc20 rfl ⟨by decide, by decide⟩ (by omega) (by omega) e6 ?_
  refine fz_callV (d' := 6) (M' := mX10_alike) (As := [fz_i a1, fz_i a3, fz_i a5]) (st := []) kLc20 rfl rfl vX10_alike rfl rfl rfl rfl (Nat.le_of_ble_eq_true rfl) (Nat.le_of_ble_eq_true rfl) (by decide) (sX10_alike h hI a1 a3 a5 ) (fun H7 r8 q9 o10 => ?_)
  obtain ⟨hI11, hf12, y14, rfl, f13⟩ := q9
  clear o10
  have hf15 := fz_fr_tr hf hf12 (fz_su_all rfl)
  have hXd16 : fz_Xd H7 := fz_Xd_eq (funext fun s => hf12 80 s rfl) hXd
  have hXh17 : fz_Xh H7 := fz_Xh_eq (funext fun s => hf12 83 s rfl) hXh
  have hXw18 : fz_Xw H7 := fz_Xw_eq (hf12 53 19 rfl) (funext fun s => hf12 66 s rfl) (funext fun s => hf12 67 s rfl) (funext fun s => hf12 68 s rfl) (funext fun s => hf12 69 s rfl) hXw
  have hRS19 : fz_RS H7 := fz_RS_eq (funext fun s => hf12 48 s rfl) (funext fun s => hf12 49 s rfl) (funext fun s => hf12 50 s rfl) (funext fun s => hf12 51 s rfl) (funext fun s => hf12 83 s rfl) (funext fun s => hf12 84 s rfl) (hf12 44 2 rfl) hRS
  have hRP20 : fz_RP H7 := fz_RP_eq (funext fun s => hf12 52 s rfl) (funext fun s => hf12 85 s rfl) hRP
  have hRK21 : fz_RK H7 := fz_RK_eq (funext fun s => hf12 45 s rfl) (funext fun s => hf12 81 s rfl) hRK
  have hRR22 : fz_RR H7 := fz_RR_eq (hf12 44 3 rfl) (hf12 53 46 rfl) (funext fun s => hf12 46 s rfl) (funext fun s => hf12 82 s rfl) hRR
  have hRT23 : fz_RT H7 := fz_RT_eq (funext fun s => hf12 41 s rfl) (funext fun s => hf12 42 s rfl) (hf12 1 7 rfl) hRT
  have hRE24 : fz_RE H7 := fz_RE_eq (funext fun s => hf12 5 s rfl) (funext fun s => hf12 6 s rfl) (hf12 1 8 rfl) (hf12 1 7 rfl) hRE
  have hR225 : fz_R2 H7 := fz_R2_eq (funext fun s => hf12 2 s rfl) (funext fun s => hf12 54 s rfl) hR2
  have hR326 : fz_R3 H7 := fz_R3_eq (funext fun s => hf12 3 s rfl) (funext fun s => hf12 57 s rfl) hR3
  have hR427 : fz_R4 H7 := fz_R4_eq (funext fun s => hf12 4 s rfl) (funext fun s => hf12 58 s rfl) hR4
  have hR2828 : fz_R28 H7 := fz_R28_eq (funext fun s => hf12 28 s rfl) (funext fun s => hf12 59 s rfl) hR28
  have hR529 : fz_R5 H7 := fz_R5_eq (funext fun s => hf12 5 s rfl) (funext fun s => hf12 55 s rfl) hR5
  have hR630 : fz_R6 H7 := fz_R6_eq (funext fun s => hf12 6 s rfl) (funext fun s => hf12 56 s rfl) hR6
  have hRG31 : fz_RG H7 := fz_RG_eq (hf12 27 8 rfl) (hf12 27 9 rfl) (hf12 53 8 rfl) (hf12 53 9 rfl) hRG
  have hRL32 : fz_RL H7 := fz_RL_eq (funext fun s => hf12 11 s rfl) (funext fun s => hf12 12 s rfl) (funext fun s => hf12 13 s rfl) (funext fun s => hf12 14 s rfl) (funext fun s => hf12 61 s rfl) (funext fun s => hf12 62 s rfl) (funext fun s => hf12 63 s rfl) (funext fun s => hf12 64 s rfl) (hf12 9 5 rfl) hRL
  have hRC33 : fz_RC H7 := fz_RC_eq (hf12 35 4 rfl) (hf12 35 5 rfl) (hf12 53 41 rfl) (hf12 53 42 rfl) (funext fun s => hf12 36 s rfl) (funext fun s => hf12 37 s rfl) (funext fun s => hf12 38 s rfl) (funext fun s => hf12 39 s rfl) (funext fun s => hf12 80 s rfl) (hf12 1 7 rfl) (hf12 1 8 rfl) (hf12 9 5 rfl) hRC
  have hRJ34 : fz_RJ H7 := fz_RJ_eq (hf12 40 1 rfl) (hf12 53 34 rfl) (funext fun s => hf12 41 s rfl) (funext fun s => hf12 76 s rfl) (hf12 40 6 rfl) (hf12 53 37 rfl) (funext fun s => hf12 42 s rfl) (funext fun s => hf12 78 s rfl) (hf12 43 0 rfl) (hf12 53 38 rfl) hRJ
  have hRW35 : fz_RW H7 := fz_RW_eq (funext fun s => hf12 10 s rfl) (funext fun s => hf12 60 s rfl) (hf12 9 5 rfl) hRW
  have hX36 : fz_Xc H7 := fz_Xc_fr hf12 rfl hX
  have t37 : H7 53 10 = h 53 10 := hf12 53 10 rfl
  have t38 : H7 53 41 = h 53 41 := hf12 53 41 rfl
  have t39 : H7 53 42 = h 53 42 := hf12 53 42 rfl
  have t40 : H7 9 5 = h 9 5 := hf12 9 5 rfl
  have t41 : H7 53 10 = h 53 10 := hf12 53 10 rfl
  have t42 : H7 44 2 = h 44 2 := hf12 44 2 rfl
  have t43 : H7 53 44 = h 53 44 := hf12 53 44 rfl
  have t44 : H7 20 2 = h 20 2 := hf12 20 2 rfl
  have t45 : H7 53 16 = h 53 16 := hf12 53 16 rfl
  have t46 : H7 1 7 = h 1 7 := hf12 1 7 rfl
  have t47 : H7 53 0 = h 53 0 := hf12 53 0 rfl
  have t48 : H7 1 8 = h 1 8 := hf12 1 8 rfl
  have t49 : H7 53 2 = h 53 2 := hf12 53 2 rfl
  refine fz_pop rfl kLc20 rfl ?_
  refine fz_aload_n kLc20 rfl rfl ?_
  refine fz_aload_n kLc20 rfl rfl ?_
  refine fz_iload_n kLc20 rfl rfl ?_
  refine fz_iconst ⟨by decide, by decide⟩ kLc20 rfl ?_
  refine fz_iaddN kLc20 rfl (by omega) ?_
  refine fz_taldV (v := a1) kLc20 rfl ⟨by decide, by decide⟩ (by omega) (by rw [hf15 200 _ rfl]; omega) ((hf15 200 _ rfl).trans e2) ?_
  refine fz_aload_n kLc20 rfl rfl ?_
  refine fz_iload_n kLc20 rfl rfl ?_
  refine fz_iconst ⟨by decide, by decide⟩ kLc20 rfl ?_
  refine fz_iaddN kLc20 rfl (by omega) ?_
  refine fz_taldV (v := a3) kLc20 rfl ⟨by decide, by decide⟩ (by omega) (by rw [hf15 200 _ rfl]; omega) ((hf15 200 _ rfl).trans e4) ?_
  refine fz_aload_n kLc20 rfl rfl ?_
  refine fz_iload_n kLc20 rfl rfl ?_
  refine fz_iconst ⟨by decide, by decide⟩ kLc20 rfl ?_
  refine fz_iaddN kLc20 rfl (by omega) ?_
  refine fz_taldV (v := a5) kLc20 rfl ⟨by decide, by decide⟩ (by omega) (by rw [hf15 200 _ rfl]; omega) ((hf15 200 _ rfl).trans e6) ?_
  refine fz_callV (d' := 5) (M' := mX11_alike) (As := [fz_i a1, fz_i a3, fz_i a5]) (st := []) kLc20 rfl rfl vX11_alike rfl rfl rfl rfl (Nat.le_of_ble_eq_true rfl) (Nat.le_of_ble_eq_true rfl) (by decide) (sX11_alike H7 hI11 a1 a3 a5 hXw18) (fun H50 r51 q52 o53 => ?_)
  obtain ⟨hI54, hf55, hXw56, y59, rfl, f57, f58⟩ := q52
  clear o53
  have hf60 := fz_fr_tr hf15 hf55 (fz_su_all rfl)
  have hXd61 : fz_Xd H50 := fz_Xd_eq (funext fun s => hf55 80 s rfl) hXd16
  have hXh62 : fz_Xh H50 := fz_Xh_eq (funext fun s => hf55 83 s rfl) hXh17
  have hRS63 : fz_RS H50 := fz_RS_eq (funext fun s => hf55 48 s rfl) (funext fun s => hf55 49 s rfl) (funext fun s => hf55 50 s rfl) (funext fun s => hf55 51 s rfl) (funext fun s => hf55 83 s rfl) (funext fun s => hf55 84 s rfl) (hf55 44 2 rfl) hRS19
  have hRP64 : fz_RP H50 := fz_RP_eq (funext fun s => hf55 52 s rfl) (funext fun s => hf55 85 s rfl) hRP20
  have hRK65 : fz_RK H50 := fz_RK_eq (funext fun s => hf55 45 s rfl) (funext fun s => hf55 81 s rfl) hRK21
  have hRR66 : fz_RR H50 := fz_RR_eq (hf55 44 3 rfl) (hf55 53 46 rfl) (funext fun s => hf55 46 s rfl) (funext fun s => hf55 82 s rfl) hRR22
  have hRT67 : fz_RT H50 := fz_RT_eq (funext fun s => hf55 41 s rfl) (funext fun s => hf55 42 s rfl) (hf55 1 7 rfl) hRT23
  have hRE68 : fz_RE H50 := fz_RE_eq (funext fun s => hf55 5 s rfl) (funext fun s => hf55 6 s rfl) (hf55 1 8 rfl) (hf55 1 7 rfl) hRE24
  have hR269 : fz_R2 H50 := fz_R2_eq (funext fun s => hf55 2 s rfl) (funext fun s => hf55 54 s rfl) hR225
  have hR370 : fz_R3 H50 := fz_R3_eq (funext fun s => hf55 3 s rfl) (funext fun s => hf55 57 s rfl) hR326
  have hR471 : fz_R4 H50 := fz_R4_eq (funext fun s => hf55 4 s rfl) (funext fun s => hf55 58 s rfl) hR427
  have hR2872 : fz_R28 H50 := fz_R28_eq (funext fun s => hf55 28 s rfl) (funext fun s => hf55 59 s rfl) hR2828
  have hR573 : fz_R5 H50 := fz_R5_eq (funext fun s => hf55 5 s rfl) (funext fun s => hf55 55 s rfl) hR529
  have hR674 : fz_R6 H50 := fz_R6_eq (funext fun s => hf55 6 s rfl) (funext fun s => hf55 56 s rfl) hR630
  have hRG75 : fz_RG H50 := fz_RG_eq (hf55 27 8 rfl) (hf55 27 9 rfl) (hf55 53 8 rfl) (hf55 53 9 rfl) hRG31
  have hRL76 : fz_RL H50 := fz_RL_eq (funext fun s => hf55 11 s rfl) (funext fun s => hf55 12 s rfl) (funext fun s => hf55 13 s rfl) (funext fun s => hf55 14 s rfl) (funext fun s => hf55 61 s rfl) (funext fun s => hf55 62 s rfl) (funext fun s => hf55 63 s rfl) (funext fun s => hf55 64 s rfl) (hf55 9 5 rfl) hRL32
  have hRC77 : fz_RC H50 := fz_RC_eq (hf55 35 4 rfl) (hf55 35 5 rfl) (hf55 53 41 rfl) (hf55 53 42 rfl) (funext fun s => hf55 36 s rfl) (funext fun s => hf55 37 s rfl) (funext fun s => hf55 38 s rfl) (funext fun s => hf55 39 s rfl) (funext fun s => hf55 80 s rfl) (hf55 1 7 rfl) (hf55 1 8 rfl) (hf55 9 5 rfl) hRC33
  have hRJ78 : fz_RJ H50 := fz_RJ_eq (hf55 40 1 rfl) (hf55 53 34 rfl) (funext fun s => hf55 41 s rfl) (funext fun s => hf55 76 s rfl) (hf55 40 6 rfl) (hf55 53 37 rfl) (funext fun s => hf55 42 s rfl) (funext fun s => hf55 78 s rfl) (hf55 43 0 rfl) (hf55 53 38 rfl) hRJ34
  have hX79 : fz_Xc H50 := fz_Xc_fr hf55 rfl hX36
  have t80 : H50 53 10 = H7 53 10 := hf55 53 10 rfl
  have t81 : H50 53 41 = H7 53 41 := hf55 53 41 rfl
  have t82 : H50 53 42 = H7 53 42 := hf55 53 42 rfl
  have t83 : H50 9 5 = H7 9 5 := hf55 9 5 rfl
  have t84 : H50 53 10 = H7 53 10 := hf55 53 10 rfl
  have t85 : H50 44 2 = H7 44 2 := hf55 44 2 rfl
  have t86 : H50 53 44 = H7 53 44 := hf55 53 44 rfl
  have t87 : H50 20 2 = H7 20 2 := hf55 20 2 rfl
  have t88 : H50 53 16 = H7 53 16 := hf55 53 16 rfl
  have t89 : H50 1 7 = H7 1 7 := hf55 1 7 rfl
  have t90 : H50 53 0 = H7 53 0 := hf55 53 0 rfl
  have t91 : H50 1 8 = H7 1 8 := hf55 1 8 rfl
  have t92 : H50 53 2 = H7 53 2 := hf55 53 2 rfl
  refine fz_pop rfl kLc20 rfl ?_
  refine fz_goto (tgt := 1816) kLc20 rfl (by decide) ?_
  have hRW93 : fz_RW H50 := fz_RW_eq (funext fun s => (hf55 10 s rfl).trans (hf12 10 s rfl)) (f58.trans (funext fun s => hf12 60 s rfl)) ((hf55 9 5 rfl).trans (hf12 9 5 rfl)) hRW
  exact K H50 ⟨hI54, hX79, hXd61, hXh62, hXw56, (by rw [((hf55 53 10 rfl).trans (hf12 53 10 rfl))]; exact hv1), (by rw [((hf55 53 42 rfl).trans (hf12 53 42 rfl)), ((hf55 53 41 rfl).trans (hf12 53 41 rfl))]; exact hv2), (((hf55 9 5 rfl).trans (hf12 9 5 rfl)).trans (hr0.trans ((hf55 53 10 rfl).trans (hf12 53 10 rfl)).symm)), (((hf55 44 2 rfl).trans (hf12 44 2 rfl)).trans (hr1.trans ((hf55 53 44 rfl).trans (hf12 53 44 rfl)).symm)), (((hf55 20 2 rfl).trans (hf12 20 2 rfl)).trans (hr2.trans ((hf55 53 16 rfl).trans (hf12 53 16 rfl)).symm)), (((hf55 1 7 rfl).trans (hf12 1 7 rfl)).trans (hr3.trans ((hf55 53 0 rfl).trans (hf12 53 0 rfl)).symm)), (((hf55 1 8 rfl).trans (hf12 1 8 rfl)).trans (hr4.trans ((hf55 53 2 rfl).trans (hf12 53 2 rfl)).symm)), hRS63, hRP64, hRK65, hRR66, hRT67, hRE68, hR269, hR370, hR471, hR2872, hR573, hR674, hRG75, hRL76, hRC77, hRJ78, hRW93⟩ (funext fun s => hf60 200 s rfl)
def mLc21 : fz_M := (yL_law, code, 4, (some .boolean), [(1017, .aload_n 1, 1, 0, 0, 0), (1018, .aload_n 0, 1, 0, 0, 0), (1019, .iload_n 3, 1, 0, 0, 0), (1020, .iconst 1, 1, 0, 0, 0), (1021, .iadd, 1, 0, 0, 0), (1022, .iaload, 1, 0, 0, 0), (1023, .aload_n 0, 1, 0, 0, 0), (1024, .iload_n 3, 1, 0, 0, 0), (1025, .iconst 2, 1, 0, 0, 0), (1026, .iadd, 1, 0, 0, 0), (1027, .iaload, 1, 0, 0, 0), (1028, .aload_n 0, 1, 0, 0, 0), (1029, .iload_n 3, 1, 0, 0, 0), (1030, .iconst 3, 1, 0, 0, 0), (1031, .iadd, 1, 0, 0, 0), (1032, .iaload, 1, 0, 0, 0), (1033, .invokevirtual 102, 3, 4097, 50, 0), (1036, .pop, 1, 0, 0, 0), (1037, .aload_n 2, 1, 0, 0, 0), (1038, .aload_n 0, 1, 0, 0, 0), (1039, .iload_n 3, 1, 0, 0, 0), (1040, .iconst 1, 1, 0, 0, 0), (1041, .iadd, 1, 0, 0, 0), (1042, .iaload, 1, 0, 0, 0), (1043, .aload_n 0, 1, 0, 0, 0), (1044, .iload_n 3, 1, 0, 0, 0), (1045, .iconst 2, 1, 0, 0, 0), (1046, .iadd, 1, 0, 0, 0), (1047, .iaload, 1, 0, 0, 0), (1048, .aload_n 0, 1, 0, 0, 0), (1049, .iload_n 3, 1, 0, 0, 0), (1050, .iconst 3, 1, 0, 0, 0), (1051, .iadd, 1, 0, 0, 0), (1052, .iaload, 1, 0, 0, 0), (1053, .invokevirtual 105, 3, 7074, 141, 0), (1056, .pop, 1, 0, 0, 0), (1057, .goto 759, 3, 0, 0, 0)])
set_option maxRecDepth 100000 in
theorem kLc21 : fz_okM mLc21 = true := fz_okM_in (by decide +kernel) (by decide +kernel)
set_option maxHeartbeats 1000000 in
set_option maxRecDepth 100000 in
theorem lc21 (h : fz_H) (hI : fz_Iv h) (hX : fz_Xc h) (hXd : fz_Xd h) (hXh : fz_Xh h) (hXw : fz_Xw h) (hv1 : h 53 10 ≤ 10) (hv2 : h 53 42 ≤ h 53 41) (hr0 : h 9 5 = h 53 10) (hr1 : h 44 2 = h 53 44) (hr2 : h 20 2 = h 53 16) (hr3 : h 1 7 = h 53 0) (hr4 : h 1 8 = h 53 2) (hRS : fz_RS h) (hRP : fz_RP h) (hRK : fz_RK h) (hRR : fz_RR h) (hRT : fz_RT h) (hRE : fz_RE h) (hR2 : fz_R2 h) (hR3 : fz_R3 h) (hR4 : fz_R4 h) (hR28 : fz_R28 h) (hR5 : fz_R5 h) (hR6 : fz_R6 h) (hRG : fz_RG h) (hRL : fz_RL h) (hRC : fz_RC h) (hRJ : fz_RJ h) (hRW : fz_RW h) (i : Int) (hi : 0 ≤ i ∧ i + 6 ≤ h 200 100000 ∧ h 200 100000 ≤ 3072) {Q : fz_H → Option fz_V → Prop} (K : ∀ H : fz_H, fz_Gd H → H 200 = h 200 → fz_R 47 mLe 1816 [(3, fz_i i), (0, fz_r 200), (1, fz_r 0), (2, fz_r 53)] [] H Q) : fz_R 47 mLc21 1017 [(3, fz_i i), (0, fz_r 200), (1, fz_r 0), (2, fz_r 53)] [] h Q := by
  have hf : fz_fr fz_all h h := fz_fr_rf
  refine fz_aload_n kLc21 rfl rfl ?_
  refine fz_aload_n kLc21 rfl rfl ?_
  refine fz_iload_n kLc21 rfl rfl ?_
  refine fz_iconst ⟨by decide, by decide⟩ kLc21 rfl ?_
  refine fz_iaddN kLc21 rfl (by omega) ?_
  obtain ⟨a1, e2⟩ : ∃ z, h 200 ((i + 1)).toNat = z := ⟨_, rfl⟩
  refine fz_taldV (v := a1) kLc21 rfl ⟨by decide, by decide⟩ (by omega) (by omega) e2 ?_
  refine fz_aload_n kLc21 rfl rfl ?_
  refine fz_iload_n kLc21 rfl rfl ?_
  refine fz_iconst ⟨by decide, by decide⟩ kLc21 rfl ?_
  refine fz_iaddN kLc21 rfl (by omega) ?_
  obtain ⟨a3, e4⟩ : ∃ z, h 200 ((i + 2)).toNat = z := ⟨_, rfl⟩
  refine fz_taldV (v := a3) kLc21 rfl ⟨by decide, by decide⟩ (by omega) (by omega) e4 ?_
  refine fz_aload_n kLc21 rfl rfl ?_
  refine fz_iload_n kLc21 rfl rfl ?_
  refine fz_iconst ⟨by decide, by decide⟩ kLc21 rfl ?_
  refine fz_iaddN kLc21 rfl (by omega) ?_
  obtain ⟨a5, e6⟩ : ∃ z, h 200 ((i + 3)).toNat = z := ⟨_, rfl⟩
  refine fz_taldV (v := a5) kLc21 rfl ⟨by decide, by decide⟩ (by omega) (by omega) e6 ?_
  refine fz_callV (d' := 5) (M' := mX10_judge) (As := [fz_i a1, fz_i a3, fz_i a5]) (st := []) kLc21 rfl rfl vX10_judge rfl rfl rfl rfl (Nat.le_of_ble_eq_true rfl) (Nat.le_of_ble_eq_true rfl) (by decide) (sX10_judge h hI a1 a3 a5 ) (fun H7 r8 q9 o10 => ?_)
  obtain ⟨hI11, hf12, y14, rfl, f13⟩ := q9
  clear o10
  have hf15 := fz_fr_tr hf hf12 (fz_su_all rfl)
  have hXd16 : fz_Xd H7 := fz_Xd_eq (funext fun s => hf12 80 s rfl) hXd
  have hXh17 : fz_Xh H7 := fz_Xh_eq (funext fun s => hf12 83 s rfl) hXh
  have hXw18 : fz_Xw H7 := fz_Xw_eq (hf12 53 19 rfl) (funext fun s => hf12 66 s rfl) (funext fun s => hf12 67 s rfl) (funext fun s => hf12 68 s rfl) (funext fun s => hf12 69 s rfl) hXw
  have hRS19 : fz_RS H7 := fz_RS_eq (funext fun s => hf12 48 s rfl) (funext fun s => hf12 49 s rfl) (funext fun s => hf12 50 s rfl) (funext fun s => hf12 51 s rfl) (funext fun s => hf12 83 s rfl) (funext fun s => hf12 84 s rfl) (hf12 44 2 rfl) hRS
  have hRP20 : fz_RP H7 := fz_RP_eq (funext fun s => hf12 52 s rfl) (funext fun s => hf12 85 s rfl) hRP
  have hRK21 : fz_RK H7 := fz_RK_eq (funext fun s => hf12 45 s rfl) (funext fun s => hf12 81 s rfl) hRK
  have hRR22 : fz_RR H7 := fz_RR_eq (hf12 44 3 rfl) (hf12 53 46 rfl) (funext fun s => hf12 46 s rfl) (funext fun s => hf12 82 s rfl) hRR
  have hRT23 : fz_RT H7 := fz_RT_eq (funext fun s => hf12 41 s rfl) (funext fun s => hf12 42 s rfl) (hf12 1 7 rfl) hRT
  have hRE24 : fz_RE H7 := fz_RE_eq (funext fun s => hf12 5 s rfl) (funext fun s => hf12 6 s rfl) (hf12 1 8 rfl) (hf12 1 7 rfl) hRE
  have hR225 : fz_R2 H7 := fz_R2_eq (funext fun s => hf12 2 s rfl) (funext fun s => hf12 54 s rfl) hR2
  have hR326 : fz_R3 H7 := fz_R3_eq (funext fun s => hf12 3 s rfl) (funext fun s => hf12 57 s rfl) hR3
  have hR427 : fz_R4 H7 := fz_R4_eq (funext fun s => hf12 4 s rfl) (funext fun s => hf12 58 s rfl) hR4
  have hR2828 : fz_R28 H7 := fz_R28_eq (funext fun s => hf12 28 s rfl) (funext fun s => hf12 59 s rfl) hR28
  have hR529 : fz_R5 H7 := fz_R5_eq (funext fun s => hf12 5 s rfl) (funext fun s => hf12 55 s rfl) hR5
  have hR630 : fz_R6 H7 := fz_R6_eq (funext fun s => hf12 6 s rfl) (funext fun s => hf12 56 s rfl) hR6
  have hRG31 : fz_RG H7 := fz_RG_eq (hf12 27 8 rfl) (hf12 27 9 rfl) (hf12 53 8 rfl) (hf12 53 9 rfl) hRG
  have hRL32 : fz_RL H7 := fz_RL_eq (funext fun s => hf12 11 s rfl) (funext fun s => hf12 12 s rfl) (funext fun s => hf12 13 s rfl) (funext fun s => hf12 14 s rfl) (funext fun s => hf12 61 s rfl) (funext fun s => hf12 62 s rfl) (funext fun s => hf12 63 s rfl) (funext fun s => hf12 64 s rfl) (hf12 9 5 rfl) hRL
  have hRC33 : fz_RC H7 := fz_RC_eq (hf12 35 4 rfl) (hf12 35 5 rfl) (hf12 53 41 rfl) (hf12 53 42 rfl) (funext fun s => hf12 36 s rfl) (funext fun s => hf12 37 s rfl) (funext fun s => hf12 38 s rfl) (funext fun s => hf12 39 s rfl) (funext fun s => hf12 80 s rfl) (hf12 1 7 rfl) (hf12 1 8 rfl) (hf12 9 5 rfl) hRC
  have hRJ34 : fz_RJ H7 := fz_RJ_eq (hf12 40 1 rfl) (hf12 53 34 rfl) (funext fun s => hf12 41 s rfl) (funext fun s => hf12 76 s rfl) (hf12 40 6 rfl) (hf12 53 37 rfl) (funext fun s => hf12 42 s rfl) (funext fun s => hf12 78 s rfl) (hf12 43 0 rfl) (hf12 53 38 rfl) hRJ
  have hRW35 : fz_RW H7 := fz_RW_eq (funext fun s => hf12 10 s rfl) (funext fun s => hf12 60 s rfl) (hf12 9 5 rfl) hRW
  have hX36 : fz_Xc H7 := fz_Xc_fr hf12 rfl hX
  have t37 : H7 53 10 = h 53 10 := hf12 53 10 rfl
  have t38 : H7 53 41 = h 53 41 := hf12 53 41 rfl
  have t39 : H7 53 42 = h 53 42 := hf12 53 42 rfl
  have t40 : H7 9 5 = h 9 5 := hf12 9 5 rfl
  have t41 : H7 53 10 = h 53 10 := hf12 53 10 rfl
  have t42 : H7 44 2 = h 44 2 := hf12 44 2 rfl
  have t43 : H7 53 44 = h 53 44 := hf12 53 44 rfl
  have t44 : H7 20 2 = h 20 2 := hf12 20 2 rfl
  have t45 : H7 53 16 = h 53 16 := hf12 53 16 rfl
  have t46 : H7 1 7 = h 1 7 := hf12 1 7 rfl
  have t47 : H7 53 0 = h 53 0 := hf12 53 0 rfl
  have t48 : H7 1 8 = h 1 8 := hf12 1 8 rfl
  have t49 : H7 53 2 = h 53 2 := hf12 53 2 rfl
  refine fz_pop rfl kLc21 rfl ?_
  refine fz_aload_n kLc21 rfl rfl ?_
  refine fz_aload_n kLc21 rfl rfl ?_
  refine fz_iload_n kLc21 rfl rfl ?_
  refine fz_iconst ⟨by decide, by decide⟩ kLc21 rfl ?_
  refine fz_iaddN kLc21 rfl (by omega) ?_
  refine fz_taldV (v := a1) kLc21 rfl ⟨by decide, by decide⟩ (by omega) (by rw [hf15 200 _ rfl]; omega) ((hf15 200 _ rfl).trans e2) ?_
  refine fz_aload_n kLc21 rfl rfl ?_
  refine fz_iload_n kLc21 rfl rfl ?_
  refine fz_iconst ⟨by decide, by decide⟩ kLc21 rfl ?_
  refine fz_iaddN kLc21 rfl (by omega) ?_
  refine fz_taldV (v := a3) kLc21 rfl ⟨by decide, by decide⟩ (by omega) (by rw [hf15 200 _ rfl]; omega) ((hf15 200 _ rfl).trans e4) ?_
  refine fz_aload_n kLc21 rfl rfl ?_
  refine fz_iload_n kLc21 rfl rfl ?_
  refine fz_iconst ⟨by decide, by decide⟩ kLc21 rfl ?_
  refine fz_iaddN kLc21 rfl (by omega) ?_
  refine fz_taldV (v := a5) kLc21 rfl ⟨by decide, by decide⟩ (by omega) (by rw [hf15 200 _ rfl]; omega) ((hf15 200 _ rfl).trans e6) ?_
  refine fz_callV (d' := 5) (M' := mX11_judge) (As := [fz_i a1, fz_i a3, fz_i a5]) (st := []) kLc21 rfl rfl vX11_judge rfl rfl rfl rfl (Nat.le_of_ble_eq_true rfl) (Nat.le_of_ble_eq_true rfl) (by decide) (sX11_judge H7 hI11 a1 a3 a5 hXw18) (fun H50 r51 q52 o53 => ?_)
  obtain ⟨hI54, hf55, hXw56, y58, rfl, f57⟩ := q52
  clear o53
  have hf59 := fz_fr_tr hf15 hf55 (fz_su_all rfl)
  have hXd60 : fz_Xd H50 := fz_Xd_eq (funext fun s => hf55 80 s rfl) hXd16
  have hXh61 : fz_Xh H50 := fz_Xh_eq (funext fun s => hf55 83 s rfl) hXh17
  have hRS62 : fz_RS H50 := fz_RS_eq (funext fun s => hf55 48 s rfl) (funext fun s => hf55 49 s rfl) (funext fun s => hf55 50 s rfl) (funext fun s => hf55 51 s rfl) (funext fun s => hf55 83 s rfl) (funext fun s => hf55 84 s rfl) (hf55 44 2 rfl) hRS19
  have hRP63 : fz_RP H50 := fz_RP_eq (funext fun s => hf55 52 s rfl) (funext fun s => hf55 85 s rfl) hRP20
  have hRK64 : fz_RK H50 := fz_RK_eq (funext fun s => hf55 45 s rfl) (funext fun s => hf55 81 s rfl) hRK21
  have hRR65 : fz_RR H50 := fz_RR_eq (hf55 44 3 rfl) (hf55 53 46 rfl) (funext fun s => hf55 46 s rfl) (funext fun s => hf55 82 s rfl) hRR22
  have hRT66 : fz_RT H50 := fz_RT_eq (funext fun s => hf55 41 s rfl) (funext fun s => hf55 42 s rfl) (hf55 1 7 rfl) hRT23
  have hRE67 : fz_RE H50 := fz_RE_eq (funext fun s => hf55 5 s rfl) (funext fun s => hf55 6 s rfl) (hf55 1 8 rfl) (hf55 1 7 rfl) hRE24
  have hR268 : fz_R2 H50 := fz_R2_eq (funext fun s => hf55 2 s rfl) (funext fun s => hf55 54 s rfl) hR225
  have hR369 : fz_R3 H50 := fz_R3_eq (funext fun s => hf55 3 s rfl) (funext fun s => hf55 57 s rfl) hR326
  have hR470 : fz_R4 H50 := fz_R4_eq (funext fun s => hf55 4 s rfl) (funext fun s => hf55 58 s rfl) hR427
  have hR2871 : fz_R28 H50 := fz_R28_eq (funext fun s => hf55 28 s rfl) (funext fun s => hf55 59 s rfl) hR2828
  have hR572 : fz_R5 H50 := fz_R5_eq (funext fun s => hf55 5 s rfl) (funext fun s => hf55 55 s rfl) hR529
  have hR673 : fz_R6 H50 := fz_R6_eq (funext fun s => hf55 6 s rfl) (funext fun s => hf55 56 s rfl) hR630
  have hRG74 : fz_RG H50 := fz_RG_eq (hf55 27 8 rfl) (hf55 27 9 rfl) (hf55 53 8 rfl) (hf55 53 9 rfl) hRG31
  have hRL75 : fz_RL H50 := fz_RL_eq (funext fun s => hf55 11 s rfl) (funext fun s => hf55 12 s rfl) (funext fun s => hf55 13 s rfl) (funext fun s => hf55 14 s rfl) (funext fun s => hf55 61 s rfl) (funext fun s => hf55 62 s rfl) (funext fun s => hf55 63 s rfl) (funext fun s => hf55 64 s rfl) (hf55 9 5 rfl) hRL32
  have hRC76 : fz_RC H50 := fz_RC_eq (hf55 35 4 rfl) (hf55 35 5 rfl) (hf55 53 41 rfl) (hf55 53 42 rfl) (funext fun s => hf55 36 s rfl) (funext fun s => hf55 37 s rfl) (funext fun s => hf55 38 s rfl) (funext fun s => hf55 39 s rfl) (funext fun s => hf55 80 s rfl) (hf55 1 7 rfl) (hf55 1 8 rfl) (hf55 9 5 rfl) hRC33
  have hRJ77 : fz_RJ H50 := fz_RJ_eq (hf55 40 1 rfl) (hf55 53 34 rfl) (funext fun s => hf55 41 s rfl) (funext fun s => hf55 76 s rfl) (hf55 40 6 rfl) (hf55 53 37 rfl) (funext fun s => hf55 42 s rfl) (funext fun s => hf55 78 s rfl) (hf55 43 0 rfl) (hf55 53 38 rfl) hRJ34
  have hRW78 : fz_RW H50 := fz_RW_eq (funext fun s => hf55 10 s rfl) (funext fun s => hf55 60 s rfl) (hf55 9 5 rfl) hRW35
  have hX79 : fz_Xc H50 := fz_Xc_fr hf55 rfl hX36
  have t80 : H50 53 10 = H7 53 10 := hf55 53 10 rfl
  have t81 : H50 53 41 = H7 53 41 := hf55 53 41 rfl
  have t82 : H50 53 42 = H7 53 42 := hf55 53 42 rfl
  have t83 : H50 9 5 = H7 9 5 := hf55 9 5 rfl
  have t84 : H50 53 10 = H7 53 10 := hf55 53 10 rfl
  have t85 : H50 44 2 = H7 44 2 := hf55 44 2 rfl
  have t86 : H50 53 44 = H7 53 44 := hf55 53 44 rfl
  have t87 : H50 20 2 = H7 20 2 := hf55 20 2 rfl
  have t88 : H50 53 16 = H7 53 16 := hf55 53 16 rfl
  have t89 : H50 1 7 = H7 1 7 := hf55 1 7 rfl
  have t90 : H50 53 0 = H7 53 0 := hf55 53 0 rfl
  have t91 : H50 1 8 = H7 1 8 := hf55 1 8 rfl
  have t92 : H50 53 2 = H7 53 2 := hf55 53 2 rfl
  refine fz_pop rfl kLc21 rfl ?_
  refine fz_goto (tgt := 1816) kLc21 rfl (by decide) ?_
  exact K H50 ⟨hI54, hX79, hXd60, hXh61, hXw56, (by rw [((hf55 53 10 rfl).trans (hf12 53 10 rfl))]; exact hv1), (by rw [((hf55 53 42 rfl).trans (hf12 53 42 rfl)), ((hf55 53 41 rfl).trans (hf12 53 41 rfl))]; exact hv2), (((hf55 9 5 rfl).trans (hf12 9 5 rfl)).trans (hr0.trans ((hf55 53 10 rfl).trans (hf12 53 10 rfl)).symm)), (((hf55 44 2 rfl).trans (hf12 44 2 rfl)).trans (hr1.trans ((hf55 53 44 rfl).trans (hf12 53 44 rfl)).symm)), (((hf55 20 2 rfl).trans (hf12 20 2 rfl)).trans (hr2.trans ((hf55 53 16 rfl).trans (hf12 53 16 rfl)).symm)), (((hf55 1 7 rfl).trans (hf12 1 7 rfl)).trans (hr3.trans ((hf55 53 0 rfl).trans (hf12 53 0 rfl)).symm)), (((hf55 1 8 rfl).trans (hf12 1 8 rfl)).trans (hr4.trans ((hf55 53 2 rfl).trans (hf12 53 2 rfl)).symm)), hRS62, hRP63, hRK64, hRR65, hRT66, hRE67, hR268, hR369, hR470, hR2871, hR572, hR673, hRG74, hRL75, hRC76, hRJ77, hRW78⟩ (funext fun s => hf59 200 s rfl)
def mLc22 : fz_M := (yL_law, code, 4, (some .boolean), [(1060, .aload_n 1, 1, 0, 0, 0), (1061, .aload_n 0, 1, 0, 0, 0), (1062, .iload_n 3, 1, 0, 0, 0), (1063, .iconst 1, 1, 0, 0, 0), (1064, .iadd, 1, 0, 0, 0), (1065, .iaload, 1, 0, 0, 0), (1066, .aload_n 0, 1, 0, 0, 0), (1067, .iload_n 3, 1, 0, 0, 0), (1068, .iconst 2, 1, 0, 0, 0), (1069, .iadd, 1, 0, 0, 0), (1070, .iaload, 1, 0, 0, 0), (1071, .aload_n 0, 1, 0, 0, 0), (1072, .iload_n 3, 1, 0, 0, 0), (1073, .iconst 3, 1, 0, 0, 0), (1074, .iadd, 1, 0, 0, 0), (1075, .iaload, 1, 0, 0, 0), (1076, .aload_n 0, 1, 0, 0, 0), (1077, .iload_n 3, 1, 0, 0, 0), (1078, .iconst 4, 1, 0, 0, 0), (1079, .iadd, 1, 0, 0, 0), (1080, .iaload, 1, 0, 0, 0), (1081, .invokevirtual 106, 3, 4109, 79, 0), (1084, .pop, 1, 0, 0, 0), (1085, .aload_n 2, 1, 0, 0, 0), (1086, .aload_n 0, 1, 0, 0, 0), (1087, .iload_n 3, 1, 0, 0, 0), (1088, .iconst 1, 1, 0, 0, 0), (1089, .iadd, 1, 0, 0, 0), (1090, .iaload, 1, 0, 0, 0), (1091, .aload_n 0, 1, 0, 0, 0), (1092, .iload_n 3, 1, 0, 0, 0), (1093, .iconst 2, 1, 0, 0, 0), (1094, .iadd, 1, 0, 0, 0), (1095, .iaload, 1, 0, 0, 0), (1096, .aload_n 0, 1, 0, 0, 0), (1097, .iload_n 3, 1, 0, 0, 0), (1098, .iconst 3, 1, 0, 0, 0), (1099, .iadd, 1, 0, 0, 0), (1100, .iaload, 1, 0, 0, 0), (1101, .aload_n 0, 1, 0, 0, 0), (1102, .iload_n 3, 1, 0, 0, 0), (1103, .iconst 4, 1, 0, 0, 0), (1104, .iadd, 1, 0, 0, 0), (1105, .iaload, 1, 0, 0, 0), (1106, .invokevirtual 109, 3, 7086, 183, 0), (1109, .pop, 1, 0, 0, 0), (1110, .goto 706, 3, 0, 0, 0)])
set_option maxRecDepth 100000 in
theorem kLc22 : fz_okM mLc22 = true := fz_okM_in (by decide +kernel) (by decide +kernel)
set_option maxHeartbeats 1000000 in
set_option maxRecDepth 100000 in
theorem lc22 (h : fz_H) (hI : fz_Iv h) (hX : fz_Xc h) (hXd : fz_Xd h) (hXh : fz_Xh h) (hXw : fz_Xw h) (hv1 : h 53 10 ≤ 10) (hv2 : h 53 42 ≤ h 53 41) (hr0 : h 9 5 = h 53 10) (hr1 : h 44 2 = h 53 44) (hr2 : h 20 2 = h 53 16) (hr3 : h 1 7 = h 53 0) (hr4 : h 1 8 = h 53 2) (hRS : fz_RS h) (hRP : fz_RP h) (hRK : fz_RK h) (hRR : fz_RR h) (hRT : fz_RT h) (hRE : fz_RE h) (hR2 : fz_R2 h) (hR3 : fz_R3 h) (hR4 : fz_R4 h) (hR28 : fz_R28 h) (hR5 : fz_R5 h) (hR6 : fz_R6 h) (hRG : fz_RG h) (hRL : fz_RL h) (hRC : fz_RC h) (hRJ : fz_RJ h) (hRW : fz_RW h) (i : Int) (hi : 0 ≤ i ∧ i + 6 ≤ h 200 100000 ∧ h 200 100000 ≤ 3072) {Q : fz_H → Option fz_V → Prop} (K : ∀ H : fz_H, fz_Gd H → H 200 = h 200 → fz_R 47 mLe 1816 [(3, fz_i i), (0, fz_r 200), (1, fz_r 0), (2, fz_r 53)] [] H Q) : fz_R 47 mLc22 1060 [(3, fz_i i), (0, fz_r 200), (1, fz_r 0), (2, fz_r 53)] [] h Q := by
  have hf : fz_fr fz_all h h := fz_fr_rf
  refine fz_aload_n kLc22 rfl rfl ?_
  refine fz_aload_n kLc22 rfl rfl ?_
  refine fz_iload_n kLc22 rfl rfl ?_
  refine fz_iconst ⟨by decide, by decide⟩ kLc22 rfl ?_
  refine fz_iaddN kLc22 rfl (by omega) ?_
  obtain ⟨a1, e2⟩ : ∃ z, h 200 ((i + 1)).toNat = z := ⟨_, rfl⟩
  refine fz_taldV (v := a1) kLc22 rfl ⟨by decide, by decide⟩ (by omega) (by omega) e2 ?_
  refine fz_aload_n kLc22 rfl rfl ?_
  refine fz_iload_n kLc22 rfl rfl ?_
  refine fz_iconst ⟨by decide, by decide⟩ kLc22 rfl ?_
  refine fz_iaddN kLc22 rfl (by omega) ?_
  obtain ⟨a3, e4⟩ : ∃ z, h 200 ((i + 2)).toNat = z := ⟨_, rfl⟩
  refine fz_taldV (v := a3) kLc22 rfl ⟨by decide, by decide⟩ (by omega) (by omega) e4 ?_
  refine fz_aload_n kLc22 rfl rfl ?_
  refine fz_iload_n kLc22 rfl rfl ?_
  refine fz_iconst ⟨by decide, by decide⟩ kLc22 rfl ?_
  refine fz_iaddN kLc22 rfl (by omega) ?_
  obtain ⟨a5, e6⟩ : ∃ z, h 200 ((i + 3)).toNat = z := ⟨_, rfl⟩
  refine fz_taldV (v := a5) kLc22 rfl ⟨by decide, by decide⟩ (by omega) (by omega) e6 ?_
  refine fz_aload_n kLc22 rfl rfl ?_
  refine fz_iload_n kLc22 rfl rfl ?_
  refine fz_iconst ⟨by decide, by decide⟩ kLc22 rfl ?_
  refine fz_iaddN kLc22 rfl (by omega) ?_
  obtain ⟨a7, e8⟩ : ∃ z, h 200 ((i + 4)).toNat = z := ⟨_, rfl⟩
  refine fz_taldV (v := a7) kLc22 rfl ⟨by decide, by decide⟩ (by omega) (by omega) e8 ?_
  refine fz_callV (d' := 5) (M' := mX10_which) (As := [fz_i a1, fz_i a3, fz_i a5, fz_i a7]) (st := []) kLc22 rfl rfl vX10_which rfl rfl rfl rfl (Nat.le_of_ble_eq_true rfl) (Nat.le_of_ble_eq_true rfl) (by decide) (sX10_which h hI a1 a3 a5 a7 ) (fun H9 r10 q11 o12 => ?_)
  obtain ⟨hI13, hf14, y16, rfl, f15⟩ := q11
  clear o12
  have hf17 := fz_fr_tr hf hf14 (fz_su_all rfl)
  have hXd18 : fz_Xd H9 := fz_Xd_eq (funext fun s => hf14 80 s rfl) hXd
  have hXh19 : fz_Xh H9 := fz_Xh_eq (funext fun s => hf14 83 s rfl) hXh
  have hXw20 : fz_Xw H9 := fz_Xw_eq (hf14 53 19 rfl) (funext fun s => hf14 66 s rfl) (funext fun s => hf14 67 s rfl) (funext fun s => hf14 68 s rfl) (funext fun s => hf14 69 s rfl) hXw
  have hRS21 : fz_RS H9 := fz_RS_eq (funext fun s => hf14 48 s rfl) (funext fun s => hf14 49 s rfl) (funext fun s => hf14 50 s rfl) (funext fun s => hf14 51 s rfl) (funext fun s => hf14 83 s rfl) (funext fun s => hf14 84 s rfl) (hf14 44 2 rfl) hRS
  have hRP22 : fz_RP H9 := fz_RP_eq (funext fun s => hf14 52 s rfl) (funext fun s => hf14 85 s rfl) hRP
  have hRK23 : fz_RK H9 := fz_RK_eq (funext fun s => hf14 45 s rfl) (funext fun s => hf14 81 s rfl) hRK
  have hRR24 : fz_RR H9 := fz_RR_eq (hf14 44 3 rfl) (hf14 53 46 rfl) (funext fun s => hf14 46 s rfl) (funext fun s => hf14 82 s rfl) hRR
  have hRT25 : fz_RT H9 := fz_RT_eq (funext fun s => hf14 41 s rfl) (funext fun s => hf14 42 s rfl) (hf14 1 7 rfl) hRT
  have hRE26 : fz_RE H9 := fz_RE_eq (funext fun s => hf14 5 s rfl) (funext fun s => hf14 6 s rfl) (hf14 1 8 rfl) (hf14 1 7 rfl) hRE
  have hR227 : fz_R2 H9 := fz_R2_eq (funext fun s => hf14 2 s rfl) (funext fun s => hf14 54 s rfl) hR2
  have hR328 : fz_R3 H9 := fz_R3_eq (funext fun s => hf14 3 s rfl) (funext fun s => hf14 57 s rfl) hR3
  have hR429 : fz_R4 H9 := fz_R4_eq (funext fun s => hf14 4 s rfl) (funext fun s => hf14 58 s rfl) hR4
  have hR2830 : fz_R28 H9 := fz_R28_eq (funext fun s => hf14 28 s rfl) (funext fun s => hf14 59 s rfl) hR28
  have hR531 : fz_R5 H9 := fz_R5_eq (funext fun s => hf14 5 s rfl) (funext fun s => hf14 55 s rfl) hR5
  have hR632 : fz_R6 H9 := fz_R6_eq (funext fun s => hf14 6 s rfl) (funext fun s => hf14 56 s rfl) hR6
  have hRG33 : fz_RG H9 := fz_RG_eq (hf14 27 8 rfl) (hf14 27 9 rfl) (hf14 53 8 rfl) (hf14 53 9 rfl) hRG
  have hRL34 : fz_RL H9 := fz_RL_eq (funext fun s => hf14 11 s rfl) (funext fun s => hf14 12 s rfl) (funext fun s => hf14 13 s rfl) (funext fun s => hf14 14 s rfl) (funext fun s => hf14 61 s rfl) (funext fun s => hf14 62 s rfl) (funext fun s => hf14 63 s rfl) (funext fun s => hf14 64 s rfl) (hf14 9 5 rfl) hRL
  have hRC35 : fz_RC H9 := fz_RC_eq (hf14 35 4 rfl) (hf14 35 5 rfl) (hf14 53 41 rfl) (hf14 53 42 rfl) (funext fun s => hf14 36 s rfl) (funext fun s => hf14 37 s rfl) (funext fun s => hf14 38 s rfl) (funext fun s => hf14 39 s rfl) (funext fun s => hf14 80 s rfl) (hf14 1 7 rfl) (hf14 1 8 rfl) (hf14 9 5 rfl) hRC
  have hRJ36 : fz_RJ H9 := fz_RJ_eq (hf14 40 1 rfl) (hf14 53 34 rfl) (funext fun s => hf14 41 s rfl) (funext fun s => hf14 76 s rfl) (hf14 40 6 rfl) (hf14 53 37 rfl) (funext fun s => hf14 42 s rfl) (funext fun s => hf14 78 s rfl) (hf14 43 0 rfl) (hf14 53 38 rfl) hRJ
  have hRW37 : fz_RW H9 := fz_RW_eq (funext fun s => hf14 10 s rfl) (funext fun s => hf14 60 s rfl) (hf14 9 5 rfl) hRW
  have hX38 : fz_Xc H9 := fz_Xc_fr hf14 rfl hX
  have t39 : H9 53 10 = h 53 10 := hf14 53 10 rfl
  have t40 : H9 53 41 = h 53 41 := hf14 53 41 rfl
  have t41 : H9 53 42 = h 53 42 := hf14 53 42 rfl
  have t42 : H9 9 5 = h 9 5 := hf14 9 5 rfl
  have t43 : H9 53 10 = h 53 10 := hf14 53 10 rfl
  have t44 : H9 44 2 = h 44 2 := hf14 44 2 rfl
  have t45 : H9 53 44 = h 53 44 := hf14 53 44 rfl
  have t46 : H9 20 2 = h 20 2 := hf14 20 2 rfl
  have t47 : H9 53 16 = h 53 16 := hf14 53 16 rfl
  have t48 : H9 1 7 = h 1 7 := hf14 1 7 rfl
  have t49 : H9 53 0 = h 53 0 := hf14 53 0 rfl
  have t50 : H9 1 8 = h 1 8 := hf14 1 8 rfl
  have t51 : H9 53 2 = h 53 2 := hf14 53 2 rfl
  refine fz_pop rfl kLc22 rfl ?_
  refine fz_aload_n kLc22 rfl rfl ?_
  refine fz_aload_n kLc22 rfl rfl ?_
  refine fz_iload_n kLc22 rfl rfl ?_
  refine fz_iconst ⟨by decide, by decide⟩ kLc22 rfl ?_
  refine fz_iaddN kLc22 rfl (by omega) ?_
  refine fz_taldV (v := a1) kLc22 rfl ⟨by decide, by decide⟩ (by omega) (by rw [hf17 200 _ rfl]; omega) ((hf17 200 _ rfl).trans e2) ?_
  refine fz_aload_n kLc22 rfl rfl ?_
  refine fz_iload_n kLc22 rfl rfl ?_
  refine fz_iconst ⟨by decide, by decide⟩ kLc22 rfl ?_
  refine fz_iaddN kLc22 rfl (by omega) ?_
  refine fz_taldV (v := a3) kLc22 rfl ⟨by decide, by decide⟩ (by omega) (by rw [hf17 200 _ rfl]; omega) ((hf17 200 _ rfl).trans e4) ?_
  refine fz_aload_n kLc22 rfl rfl ?_
  refine fz_iload_n kLc22 rfl rfl ?_
  refine fz_iconst ⟨by decide, by decide⟩ kLc22 rfl ?_
  refine fz_iaddN kLc22 rfl (by omega) ?_
  refine fz_taldV (v := a5) kLc22 rfl ⟨by decide, by decide⟩ (by omega) (by rw [hf17 200 _ rfl]; omega) ((hf17 200 _ rfl).trans e6) ?_
  refine fz_aload_n kLc22 rfl rfl ?_
  refine fz_iload_n kLc22 rfl rfl ?_
  refine fz_iconst ⟨by decide, by decide⟩ kLc22 rfl ?_
  refine fz_iaddN kLc22 rfl (by omega) ?_
  refine fz_taldV (v := a7) kLc22 rfl ⟨by decide, by decide⟩ (by omega) (by rw [hf17 200 _ rfl]; omega) ((hf17 200 _ rfl).trans e8) ?_
  refine fz_callV (d' := 5) (M' := mX11_which) (As := [fz_i a1, fz_i a3, fz_i a5, fz_i a7]) (st := []) kLc22 rfl rfl vX11_which rfl rfl rfl rfl (Nat.le_of_ble_eq_true rfl) (Nat.le_of_ble_eq_true rfl) (by decide) (sX11_which H9 hI13 a1 a3 a5 a7 hXw20) (fun H52 r53 q54 o55 => ?_)
  obtain ⟨hI56, hf57, hXw58, y61, rfl, f59, f60⟩ := q54
  clear o55
  have hf62 := fz_fr_tr hf17 hf57 (fz_su_all rfl)
  have hXd63 : fz_Xd H52 := fz_Xd_eq (funext fun s => hf57 80 s rfl) hXd18
  have hXh64 : fz_Xh H52 := fz_Xh_eq (funext fun s => hf57 83 s rfl) hXh19
  have hRS65 : fz_RS H52 := fz_RS_eq (funext fun s => hf57 48 s rfl) (funext fun s => hf57 49 s rfl) (funext fun s => hf57 50 s rfl) (funext fun s => hf57 51 s rfl) (funext fun s => hf57 83 s rfl) (funext fun s => hf57 84 s rfl) (hf57 44 2 rfl) hRS21
  have hRP66 : fz_RP H52 := fz_RP_eq (funext fun s => hf57 52 s rfl) (funext fun s => hf57 85 s rfl) hRP22
  have hRK67 : fz_RK H52 := fz_RK_eq (funext fun s => hf57 45 s rfl) (funext fun s => hf57 81 s rfl) hRK23
  have hRR68 : fz_RR H52 := fz_RR_eq (hf57 44 3 rfl) (hf57 53 46 rfl) (funext fun s => hf57 46 s rfl) (funext fun s => hf57 82 s rfl) hRR24
  have hRT69 : fz_RT H52 := fz_RT_eq (funext fun s => hf57 41 s rfl) (funext fun s => hf57 42 s rfl) (hf57 1 7 rfl) hRT25
  have hRE70 : fz_RE H52 := fz_RE_eq (funext fun s => hf57 5 s rfl) (funext fun s => hf57 6 s rfl) (hf57 1 8 rfl) (hf57 1 7 rfl) hRE26
  have hR271 : fz_R2 H52 := fz_R2_eq (funext fun s => hf57 2 s rfl) (funext fun s => hf57 54 s rfl) hR227
  have hR372 : fz_R3 H52 := fz_R3_eq (funext fun s => hf57 3 s rfl) (funext fun s => hf57 57 s rfl) hR328
  have hR473 : fz_R4 H52 := fz_R4_eq (funext fun s => hf57 4 s rfl) (funext fun s => hf57 58 s rfl) hR429
  have hR2874 : fz_R28 H52 := fz_R28_eq (funext fun s => hf57 28 s rfl) (funext fun s => hf57 59 s rfl) hR2830
  have hR575 : fz_R5 H52 := fz_R5_eq (funext fun s => hf57 5 s rfl) (funext fun s => hf57 55 s rfl) hR531
  have hR676 : fz_R6 H52 := fz_R6_eq (funext fun s => hf57 6 s rfl) (funext fun s => hf57 56 s rfl) hR632
  have hRG77 : fz_RG H52 := fz_RG_eq (hf57 27 8 rfl) (hf57 27 9 rfl) (hf57 53 8 rfl) (hf57 53 9 rfl) hRG33
  have hRL78 : fz_RL H52 := fz_RL_eq (funext fun s => hf57 11 s rfl) (funext fun s => hf57 12 s rfl) (funext fun s => hf57 13 s rfl) (funext fun s => hf57 14 s rfl) (funext fun s => hf57 61 s rfl) (funext fun s => hf57 62 s rfl) (funext fun s => hf57 63 s rfl) (funext fun s => hf57 64 s rfl) (hf57 9 5 rfl) hRL34
  have hRC79 : fz_RC H52 := fz_RC_eq (hf57 35 4 rfl) (hf57 35 5 rfl) (hf57 53 41 rfl) (hf57 53 42 rfl) (funext fun s => hf57 36 s rfl) (funext fun s => hf57 37 s rfl) (funext fun s => hf57 38 s rfl) (funext fun s => hf57 39 s rfl) (funext fun s => hf57 80 s rfl) (hf57 1 7 rfl) (hf57 1 8 rfl) (hf57 9 5 rfl) hRC35
  have hRJ80 : fz_RJ H52 := fz_RJ_eq (hf57 40 1 rfl) (hf57 53 34 rfl) (funext fun s => hf57 41 s rfl) (funext fun s => hf57 76 s rfl) (hf57 40 6 rfl) (hf57 53 37 rfl) (funext fun s => hf57 42 s rfl) (funext fun s => hf57 78 s rfl) (hf57 43 0 rfl) (hf57 53 38 rfl) hRJ36
  have hX81 : fz_Xc H52 := fz_Xc_fr hf57 rfl hX38
  have t82 : H52 53 10 = H9 53 10 := hf57 53 10 rfl
  have t83 : H52 53 41 = H9 53 41 := hf57 53 41 rfl
  have t84 : H52 53 42 = H9 53 42 := hf57 53 42 rfl
  have t85 : H52 9 5 = H9 9 5 := hf57 9 5 rfl
  have t86 : H52 53 10 = H9 53 10 := hf57 53 10 rfl
  have t87 : H52 44 2 = H9 44 2 := hf57 44 2 rfl
  have t88 : H52 53 44 = H9 53 44 := hf57 53 44 rfl
  have t89 : H52 20 2 = H9 20 2 := hf57 20 2 rfl
  have t90 : H52 53 16 = H9 53 16 := hf57 53 16 rfl
  have t91 : H52 1 7 = H9 1 7 := hf57 1 7 rfl
  have t92 : H52 53 0 = H9 53 0 := hf57 53 0 rfl
  have t93 : H52 1 8 = H9 1 8 := hf57 1 8 rfl
  have t94 : H52 53 2 = H9 53 2 := hf57 53 2 rfl
  refine fz_pop rfl kLc22 rfl ?_
  refine fz_goto (tgt := 1816) kLc22 rfl (by decide) ?_
  have hRW95 : fz_RW H52 := fz_RW_eq (funext fun s => (hf57 10 s rfl).trans (hf14 10 s rfl)) (f60.trans (funext fun s => hf14 60 s rfl)) ((hf57 9 5 rfl).trans (hf14 9 5 rfl)) hRW
  exact K H52 ⟨hI56, hX81, hXd63, hXh64, hXw58, (by rw [((hf57 53 10 rfl).trans (hf14 53 10 rfl))]; exact hv1), (by rw [((hf57 53 42 rfl).trans (hf14 53 42 rfl)), ((hf57 53 41 rfl).trans (hf14 53 41 rfl))]; exact hv2), (((hf57 9 5 rfl).trans (hf14 9 5 rfl)).trans (hr0.trans ((hf57 53 10 rfl).trans (hf14 53 10 rfl)).symm)), (((hf57 44 2 rfl).trans (hf14 44 2 rfl)).trans (hr1.trans ((hf57 53 44 rfl).trans (hf14 53 44 rfl)).symm)), (((hf57 20 2 rfl).trans (hf14 20 2 rfl)).trans (hr2.trans ((hf57 53 16 rfl).trans (hf14 53 16 rfl)).symm)), (((hf57 1 7 rfl).trans (hf14 1 7 rfl)).trans (hr3.trans ((hf57 53 0 rfl).trans (hf14 53 0 rfl)).symm)), (((hf57 1 8 rfl).trans (hf14 1 8 rfl)).trans (hr4.trans ((hf57 53 2 rfl).trans (hf14 53 2 rfl)).symm)), hRS65, hRP66, hRK67, hRR68, hRT69, hRE70, hR271, hR372, hR473, hR2874, hR575, hR676, hRG77, hRL78, hRC79, hRJ80, hRW95⟩ (funext fun s => hf62 200 s rfl)
def mLc23 : fz_M := (yL_law, code, 4, (some .boolean), [(1113, .aload_n 1, 1, 0, 0, 0), (1114, .aload_n 0, 1, 0, 0, 0), (1115, .iload_n 3, 1, 0, 0, 0), (1116, .iconst 1, 1, 0, 0, 0), (1117, .iadd, 1, 0, 0, 0), (1118, .iaload, 1, 0, 0, 0), (1119, .aload_n 0, 1, 0, 0, 0), (1120, .iload_n 3, 1, 0, 0, 0), (1121, .iconst 2, 1, 0, 0, 0), (1122, .iadd, 1, 0, 0, 0), (1123, .iaload, 1, 0, 0, 0), (1124, .aload_n 0, 1, 0, 0, 0), (1125, .iload_n 3, 1, 0, 0, 0), (1126, .iconst 3, 1, 0, 0, 0), (1127, .iadd, 1, 0, 0, 0), (1128, .iaload, 1, 0, 0, 0), (1129, .invokevirtual 110, 3, 4125, 32, 0), (1132, .pop, 1, 0, 0, 0), (1133, .aload_n 2, 1, 0, 0, 0), (1134, .aload_n 0, 1, 0, 0, 0), (1135, .iload_n 3, 1, 0, 0, 0), (1136, .iconst 1, 1, 0, 0, 0), (1137, .iadd, 1, 0, 0, 0), (1138, .iaload, 1, 0, 0, 0), (1139, .aload_n 0, 1, 0, 0, 0), (1140, .iload_n 3, 1, 0, 0, 0), (1141, .iconst 2, 1, 0, 0, 0), (1142, .iadd, 1, 0, 0, 0), (1143, .iaload, 1, 0, 0, 0), (1144, .aload_n 0, 1, 0, 0, 0), (1145, .iload_n 3, 1, 0, 0, 0), (1146, .iconst 3, 1, 0, 0, 0), (1147, .iadd, 1, 0, 0, 0), (1148, .iaload, 1, 0, 0, 0), (1149, .invokevirtual 113, 3, 7090, 102, 0), (1152, .pop, 1, 0, 0, 0), (1153, .goto 663, 3, 0, 0, 0)])
set_option maxRecDepth 100000 in
theorem kLc23 : fz_okM mLc23 = true := fz_okM_in (by decide +kernel) (by decide +kernel)
set_option maxHeartbeats 1000000 in
set_option maxRecDepth 100000 in
theorem lc23 (h : fz_H) (hI : fz_Iv h) (hX : fz_Xc h) (hXd : fz_Xd h) (hXh : fz_Xh h) (hXw : fz_Xw h) (hv1 : h 53 10 ≤ 10) (hv2 : h 53 42 ≤ h 53 41) (hr0 : h 9 5 = h 53 10) (hr1 : h 44 2 = h 53 44) (hr2 : h 20 2 = h 53 16) (hr3 : h 1 7 = h 53 0) (hr4 : h 1 8 = h 53 2) (hRS : fz_RS h) (hRP : fz_RP h) (hRK : fz_RK h) (hRR : fz_RR h) (hRT : fz_RT h) (hRE : fz_RE h) (hR2 : fz_R2 h) (hR3 : fz_R3 h) (hR4 : fz_R4 h) (hR28 : fz_R28 h) (hR5 : fz_R5 h) (hR6 : fz_R6 h) (hRG : fz_RG h) (hRL : fz_RL h) (hRC : fz_RC h) (hRJ : fz_RJ h) (hRW : fz_RW h) (i : Int) (hi : 0 ≤ i ∧ i + 6 ≤ h 200 100000 ∧ h 200 100000 ≤ 3072) {Q : fz_H → Option fz_V → Prop} (K : ∀ H : fz_H, fz_Gd H → H 200 = h 200 → fz_R 47 mLe 1816 [(3, fz_i i), (0, fz_r 200), (1, fz_r 0), (2, fz_r 53)] [] H Q) : fz_R 47 mLc23 1113 [(3, fz_i i), (0, fz_r 200), (1, fz_r 0), (2, fz_r 53)] [] h Q := by
  have hf : fz_fr fz_all h h := fz_fr_rf
  refine fz_aload_n kLc23 rfl rfl ?_
  refine fz_aload_n kLc23 rfl rfl ?_
  refine fz_iload_n kLc23 rfl rfl ?_
  refine fz_iconst ⟨by decide, by decide⟩ kLc23 rfl ?_
  refine fz_iaddN kLc23 rfl (by omega) ?_
  obtain ⟨a1, e2⟩ : ∃ z, h 200 ((i + 1)).toNat = z := ⟨_, rfl⟩
  refine fz_taldV (v := a1) kLc23 rfl ⟨by decide, by decide⟩ (by omega) (by omega) e2 ?_
  refine fz_aload_n kLc23 rfl rfl ?_
  refine fz_iload_n kLc23 rfl rfl ?_
  refine fz_iconst ⟨by decide, by decide⟩ kLc23 rfl ?_
  refine fz_iaddN kLc23 rfl (by omega) ?_
  obtain ⟨a3, e4⟩ : ∃ z, h 200 ((i + 2)).toNat = z := ⟨_, rfl⟩
  refine fz_taldV (v := a3) kLc23 rfl ⟨by decide, by decide⟩ (by omega) (by omega) e4 ?_
  refine fz_aload_n kLc23 rfl rfl ?_
  refine fz_iload_n kLc23 rfl rfl ?_
  refine fz_iconst ⟨by decide, by decide⟩ kLc23 rfl ?_
  refine fz_iaddN kLc23 rfl (by omega) ?_
  obtain ⟨a5, e6⟩ : ∃ z, h 200 ((i + 3)).toNat = z := ⟨_, rfl⟩
  refine fz_taldV (v := a5) kLc23 rfl ⟨by decide, by decide⟩ (by omega) (by omega) e6 ?_
  refine fz_callV (d' := 5) (M' := mX10_first) (As := [fz_i a1, fz_i a3, fz_i a5]) (st := []) kLc23 rfl rfl vX10_first rfl rfl rfl rfl (Nat.le_of_ble_eq_true rfl) (Nat.le_of_ble_eq_true rfl) (by decide) (sX10_first h hI a1 a3 a5 ) (fun H7 r8 q9 o10 => ?_)
  obtain ⟨hI11, hf12, y14, rfl, f13⟩ := q9
  clear o10
  have hf15 := fz_fr_tr hf hf12 (fz_su_all rfl)
  have hXd16 : fz_Xd H7 := fz_Xd_eq (funext fun s => hf12 80 s rfl) hXd
  have hXh17 : fz_Xh H7 := fz_Xh_eq (funext fun s => hf12 83 s rfl) hXh
  have hXw18 : fz_Xw H7 := fz_Xw_eq (hf12 53 19 rfl) (funext fun s => hf12 66 s rfl) (funext fun s => hf12 67 s rfl) (funext fun s => hf12 68 s rfl) (funext fun s => hf12 69 s rfl) hXw
  have hRS19 : fz_RS H7 := fz_RS_eq (funext fun s => hf12 48 s rfl) (funext fun s => hf12 49 s rfl) (funext fun s => hf12 50 s rfl) (funext fun s => hf12 51 s rfl) (funext fun s => hf12 83 s rfl) (funext fun s => hf12 84 s rfl) (hf12 44 2 rfl) hRS
  have hRP20 : fz_RP H7 := fz_RP_eq (funext fun s => hf12 52 s rfl) (funext fun s => hf12 85 s rfl) hRP
  have hRK21 : fz_RK H7 := fz_RK_eq (funext fun s => hf12 45 s rfl) (funext fun s => hf12 81 s rfl) hRK
  have hRR22 : fz_RR H7 := fz_RR_eq (hf12 44 3 rfl) (hf12 53 46 rfl) (funext fun s => hf12 46 s rfl) (funext fun s => hf12 82 s rfl) hRR
  have hRT23 : fz_RT H7 := fz_RT_eq (funext fun s => hf12 41 s rfl) (funext fun s => hf12 42 s rfl) (hf12 1 7 rfl) hRT
  have hRE24 : fz_RE H7 := fz_RE_eq (funext fun s => hf12 5 s rfl) (funext fun s => hf12 6 s rfl) (hf12 1 8 rfl) (hf12 1 7 rfl) hRE
  have hR225 : fz_R2 H7 := fz_R2_eq (funext fun s => hf12 2 s rfl) (funext fun s => hf12 54 s rfl) hR2
  have hR326 : fz_R3 H7 := fz_R3_eq (funext fun s => hf12 3 s rfl) (funext fun s => hf12 57 s rfl) hR3
  have hR427 : fz_R4 H7 := fz_R4_eq (funext fun s => hf12 4 s rfl) (funext fun s => hf12 58 s rfl) hR4
  have hR2828 : fz_R28 H7 := fz_R28_eq (funext fun s => hf12 28 s rfl) (funext fun s => hf12 59 s rfl) hR28
  have hR529 : fz_R5 H7 := fz_R5_eq (funext fun s => hf12 5 s rfl) (funext fun s => hf12 55 s rfl) hR5
  have hR630 : fz_R6 H7 := fz_R6_eq (funext fun s => hf12 6 s rfl) (funext fun s => hf12 56 s rfl) hR6
  have hRG31 : fz_RG H7 := fz_RG_eq (hf12 27 8 rfl) (hf12 27 9 rfl) (hf12 53 8 rfl) (hf12 53 9 rfl) hRG
  have hRL32 : fz_RL H7 := fz_RL_eq (funext fun s => hf12 11 s rfl) (funext fun s => hf12 12 s rfl) (funext fun s => hf12 13 s rfl) (funext fun s => hf12 14 s rfl) (funext fun s => hf12 61 s rfl) (funext fun s => hf12 62 s rfl) (funext fun s => hf12 63 s rfl) (funext fun s => hf12 64 s rfl) (hf12 9 5 rfl) hRL
  have hRC33 : fz_RC H7 := fz_RC_eq (hf12 35 4 rfl) (hf12 35 5 rfl) (hf12 53 41 rfl) (hf12 53 42 rfl) (funext fun s => hf12 36 s rfl) (funext fun s => hf12 37 s rfl) (funext fun s => hf12 38 s rfl) (funext fun s => hf12 39 s rfl) (funext fun s => hf12 80 s rfl) (hf12 1 7 rfl) (hf12 1 8 rfl) (hf12 9 5 rfl) hRC
  have hRJ34 : fz_RJ H7 := fz_RJ_eq (hf12 40 1 rfl) (hf12 53 34 rfl) (funext fun s => hf12 41 s rfl) (funext fun s => hf12 76 s rfl) (hf12 40 6 rfl) (hf12 53 37 rfl) (funext fun s => hf12 42 s rfl) (funext fun s => hf12 78 s rfl) (hf12 43 0 rfl) (hf12 53 38 rfl) hRJ
  have hRW35 : fz_RW H7 := fz_RW_eq (funext fun s => hf12 10 s rfl) (funext fun s => hf12 60 s rfl) (hf12 9 5 rfl) hRW
  have hX36 : fz_Xc H7 := fz_Xc_fr hf12 rfl hX
  have t37 : H7 53 10 = h 53 10 := hf12 53 10 rfl
  have t38 : H7 53 41 = h 53 41 := hf12 53 41 rfl
  have t39 : H7 53 42 = h 53 42 := hf12 53 42 rfl
  have t40 : H7 9 5 = h 9 5 := hf12 9 5 rfl
  have t41 : H7 53 10 = h 53 10 := hf12 53 10 rfl
  have t42 : H7 44 2 = h 44 2 := hf12 44 2 rfl
  have t43 : H7 53 44 = h 53 44 := hf12 53 44 rfl
  have t44 : H7 20 2 = h 20 2 := hf12 20 2 rfl
  have t45 : H7 53 16 = h 53 16 := hf12 53 16 rfl
  have t46 : H7 1 7 = h 1 7 := hf12 1 7 rfl
  have t47 : H7 53 0 = h 53 0 := hf12 53 0 rfl
  have t48 : H7 1 8 = h 1 8 := hf12 1 8 rfl
  have t49 : H7 53 2 = h 53 2 := hf12 53 2 rfl
  refine fz_pop rfl kLc23 rfl ?_
  refine fz_aload_n kLc23 rfl rfl ?_
  refine fz_aload_n kLc23 rfl rfl ?_
  refine fz_iload_n kLc23 rfl rfl ?_
  refine fz_iconst ⟨by decide, by decide⟩ kLc23 rfl ?_
  refine fz_iaddN kLc23 rfl (by omega) ?_
  refine fz_taldV (v := a1) kLc23 rfl ⟨by decide, by decide⟩ (by omega) (by rw [hf15 200 _ rfl]; omega) ((hf15 200 _ rfl).trans e2) ?_
  refine fz_aload_n kLc23 rfl rfl ?_
  refine fz_iload_n kLc23 rfl rfl ?_
  refine fz_iconst ⟨by decide, by decide⟩ kLc23 rfl ?_
  refine fz_iaddN kLc23 rfl (by omega) ?_
  refine fz_taldV (v := a3) kLc23 rfl ⟨by decide, by decide⟩ (by omega) (by rw [hf15 200 _ rfl]; omega) ((hf15 200 _ rfl).trans e4) ?_
  refine fz_aload_n kLc23 rfl rfl ?_
  refine fz_iload_n kLc23 rfl rfl ?_
  refine fz_iconst ⟨by decide, by decide⟩ kLc23 rfl ?_
  refine fz_iaddN kLc23 rfl (by omega) ?_
  refine fz_taldV (v := a5) kLc23 rfl ⟨by decide, by decide⟩ (by omega) (by rw [hf15 200 _ rfl]; omega) ((hf15 200 _ rfl).trans e6) ?_
  refine fz_callV (d' := 4) (M' := mX11_first) (As := [fz_i a1, fz_i a3, fz_i a5]) (st := []) kLc23 rfl rfl vX11_first rfl rfl rfl rfl (Nat.le_of_ble_eq_true rfl) (Nat.le_of_ble_eq_true rfl) (by decide) (sX11_first H7 hI11 a1 a3 a5 hXw18) (fun H50 r51 q52 o53 => ?_)
  obtain ⟨hI54, hf55, hXw56, y58, rfl, f57⟩ := q52
  clear o53
  have hf59 := fz_fr_tr hf15 hf55 (fz_su_all rfl)
  have hXd60 : fz_Xd H50 := fz_Xd_eq (funext fun s => hf55 80 s rfl) hXd16
  have hXh61 : fz_Xh H50 := fz_Xh_eq (funext fun s => hf55 83 s rfl) hXh17
  have hRS62 : fz_RS H50 := fz_RS_eq (funext fun s => hf55 48 s rfl) (funext fun s => hf55 49 s rfl) (funext fun s => hf55 50 s rfl) (funext fun s => hf55 51 s rfl) (funext fun s => hf55 83 s rfl) (funext fun s => hf55 84 s rfl) (hf55 44 2 rfl) hRS19
  have hRP63 : fz_RP H50 := fz_RP_eq (funext fun s => hf55 52 s rfl) (funext fun s => hf55 85 s rfl) hRP20
  have hRK64 : fz_RK H50 := fz_RK_eq (funext fun s => hf55 45 s rfl) (funext fun s => hf55 81 s rfl) hRK21
  have hRR65 : fz_RR H50 := fz_RR_eq (hf55 44 3 rfl) (hf55 53 46 rfl) (funext fun s => hf55 46 s rfl) (funext fun s => hf55 82 s rfl) hRR22
  have hRT66 : fz_RT H50 := fz_RT_eq (funext fun s => hf55 41 s rfl) (funext fun s => hf55 42 s rfl) (hf55 1 7 rfl) hRT23
  have hRE67 : fz_RE H50 := fz_RE_eq (funext fun s => hf55 5 s rfl) (funext fun s => hf55 6 s rfl) (hf55 1 8 rfl) (hf55 1 7 rfl) hRE24
  have hR268 : fz_R2 H50 := fz_R2_eq (funext fun s => hf55 2 s rfl) (funext fun s => hf55 54 s rfl) hR225
  have hR369 : fz_R3 H50 := fz_R3_eq (funext fun s => hf55 3 s rfl) (funext fun s => hf55 57 s rfl) hR326
  have hR470 : fz_R4 H50 := fz_R4_eq (funext fun s => hf55 4 s rfl) (funext fun s => hf55 58 s rfl) hR427
  have hR2871 : fz_R28 H50 := fz_R28_eq (funext fun s => hf55 28 s rfl) (funext fun s => hf55 59 s rfl) hR2828
  have hR572 : fz_R5 H50 := fz_R5_eq (funext fun s => hf55 5 s rfl) (funext fun s => hf55 55 s rfl) hR529
  have hR673 : fz_R6 H50 := fz_R6_eq (funext fun s => hf55 6 s rfl) (funext fun s => hf55 56 s rfl) hR630
  have hRG74 : fz_RG H50 := fz_RG_eq (hf55 27 8 rfl) (hf55 27 9 rfl) (hf55 53 8 rfl) (hf55 53 9 rfl) hRG31
  have hRL75 : fz_RL H50 := fz_RL_eq (funext fun s => hf55 11 s rfl) (funext fun s => hf55 12 s rfl) (funext fun s => hf55 13 s rfl) (funext fun s => hf55 14 s rfl) (funext fun s => hf55 61 s rfl) (funext fun s => hf55 62 s rfl) (funext fun s => hf55 63 s rfl) (funext fun s => hf55 64 s rfl) (hf55 9 5 rfl) hRL32
  have hRC76 : fz_RC H50 := fz_RC_eq (hf55 35 4 rfl) (hf55 35 5 rfl) (hf55 53 41 rfl) (hf55 53 42 rfl) (funext fun s => hf55 36 s rfl) (funext fun s => hf55 37 s rfl) (funext fun s => hf55 38 s rfl) (funext fun s => hf55 39 s rfl) (funext fun s => hf55 80 s rfl) (hf55 1 7 rfl) (hf55 1 8 rfl) (hf55 9 5 rfl) hRC33
  have hRJ77 : fz_RJ H50 := fz_RJ_eq (hf55 40 1 rfl) (hf55 53 34 rfl) (funext fun s => hf55 41 s rfl) (funext fun s => hf55 76 s rfl) (hf55 40 6 rfl) (hf55 53 37 rfl) (funext fun s => hf55 42 s rfl) (funext fun s => hf55 78 s rfl) (hf55 43 0 rfl) (hf55 53 38 rfl) hRJ34
  have hRW78 : fz_RW H50 := fz_RW_eq (funext fun s => hf55 10 s rfl) (funext fun s => hf55 60 s rfl) (hf55 9 5 rfl) hRW35
  have hX79 : fz_Xc H50 := fz_Xc_fr hf55 rfl hX36
  have t80 : H50 53 10 = H7 53 10 := hf55 53 10 rfl
  have t81 : H50 53 41 = H7 53 41 := hf55 53 41 rfl
  have t82 : H50 53 42 = H7 53 42 := hf55 53 42 rfl
  have t83 : H50 9 5 = H7 9 5 := hf55 9 5 rfl
  have t84 : H50 53 10 = H7 53 10 := hf55 53 10 rfl
  have t85 : H50 44 2 = H7 44 2 := hf55 44 2 rfl
  have t86 : H50 53 44 = H7 53 44 := hf55 53 44 rfl
  have t87 : H50 20 2 = H7 20 2 := hf55 20 2 rfl
  have t88 : H50 53 16 = H7 53 16 := hf55 53 16 rfl
  have t89 : H50 1 7 = H7 1 7 := hf55 1 7 rfl
  have t90 : H50 53 0 = H7 53 0 := hf55 53 0 rfl
  have t91 : H50 1 8 = H7 1 8 := hf55 1 8 rfl
  have t92 : H50 53 2 = H7 53 2 := hf55 53 2 rfl
  refine fz_pop rfl kLc23 rfl ?_
  refine fz_goto (tgt := 1816) kLc23 rfl (by decide) ?_
  exact K H50 ⟨hI54, hX79, hXd60, hXh61, hXw56, (by rw [((hf55 53 10 rfl).trans (hf12 53 10 rfl))]; exact hv1), (by rw [((hf55 53 42 rfl).trans (hf12 53 42 rfl)), ((hf55 53 41 rfl).trans (hf12 53 41 rfl))]; exact hv2), (((hf55 9 5 rfl).trans (hf12 9 5 rfl)).trans (hr0.trans ((hf55 53 10 rfl).trans (hf12 53 10 rfl)).symm)), (((hf55 44 2 rfl).trans (hf12 44 2 rfl)).trans (hr1.trans ((hf55 53 44 rfl).trans (hf12 53 44 rfl)).symm)), (((hf55 20 2 rfl).trans (hf12 20 2 rfl)).trans (hr2.trans ((hf55 53 16 rfl).trans (hf12 53 16 rfl)).symm)), (((hf55 1 7 rfl).trans (hf12 1 7 rfl)).trans (hr3.trans ((hf55 53 0 rfl).trans (hf12 53 0 rfl)).symm)), (((hf55 1 8 rfl).trans (hf12 1 8 rfl)).trans (hr4.trans ((hf55 53 2 rfl).trans (hf12 53 2 rfl)).symm)), hRS62, hRP63, hRK64, hRR65, hRT66, hRE67, hR268, hR369, hR470, hR2871, hR572, hR673, hRG74, hRL75, hRC76, hRJ77, hRW78⟩ (funext fun s => hf59 200 s rfl)
def mLc24 : fz_M := (yL_law, code, 4, (some .boolean), [(1156, .aload_n 1, 1, 0, 0, 0), (1157, .aload_n 0, 1, 0, 0, 0), (1158, .iload_n 3, 1, 0, 0, 0), (1159, .iconst 1, 1, 0, 0, 0), (1160, .iadd, 1, 0, 0, 0), (1161, .iaload, 1, 0, 0, 0), (1162, .aload_n 0, 1, 0, 0, 0), (1163, .iload_n 3, 1, 0, 0, 0), (1164, .iconst 2, 1, 0, 0, 0), (1165, .iadd, 1, 0, 0, 0), (1166, .iaload, 1, 0, 0, 0), (1167, .invokevirtual 114, 3, 4129, 59, 0), (1170, .pop, 1, 0, 0, 0), (1171, .aload_n 2, 1, 0, 0, 0), (1172, .aload_n 0, 1, 0, 0, 0), (1173, .iload_n 3, 1, 0, 0, 0), (1174, .iconst 1, 1, 0, 0, 0), (1175, .iadd, 1, 0, 0, 0), (1176, .iaload, 1, 0, 0, 0), (1177, .aload_n 0, 1, 0, 0, 0), (1178, .iload_n 3, 1, 0, 0, 0), (1179, .iconst 2, 1, 0, 0, 0), (1180, .iadd, 1, 0, 0, 0), (1181, .iaload, 1, 0, 0, 0), (1182, .invokevirtual 117, 3, 7094, 158, 0), (1185, .pop, 1, 0, 0, 0), (1186, .goto 630, 3, 0, 0, 0)])
set_option maxRecDepth 100000 in
theorem kLc24 : fz_okM mLc24 = true := fz_okM_in (by decide +kernel) (by decide +kernel)
set_option maxHeartbeats 1000000 in
set_option maxRecDepth 100000 in
theorem lc24 (h : fz_H) (hI : fz_Iv h) (hX : fz_Xc h) (hXd : fz_Xd h) (hXh : fz_Xh h) (hXw : fz_Xw h) (hv1 : h 53 10 ≤ 10) (hv2 : h 53 42 ≤ h 53 41) (hr0 : h 9 5 = h 53 10) (hr1 : h 44 2 = h 53 44) (hr2 : h 20 2 = h 53 16) (hr3 : h 1 7 = h 53 0) (hr4 : h 1 8 = h 53 2) (hRS : fz_RS h) (hRP : fz_RP h) (hRK : fz_RK h) (hRR : fz_RR h) (hRT : fz_RT h) (hRE : fz_RE h) (hR2 : fz_R2 h) (hR3 : fz_R3 h) (hR4 : fz_R4 h) (hR28 : fz_R28 h) (hR5 : fz_R5 h) (hR6 : fz_R6 h) (hRG : fz_RG h) (hRL : fz_RL h) (hRC : fz_RC h) (hRJ : fz_RJ h) (hRW : fz_RW h) (i : Int) (hi : 0 ≤ i ∧ i + 6 ≤ h 200 100000 ∧ h 200 100000 ≤ 3072) {Q : fz_H → Option fz_V → Prop} (K : ∀ H : fz_H, fz_Gd H → H 200 = h 200 → fz_R 47 mLe 1816 [(3, fz_i i), (0, fz_r 200), (1, fz_r 0), (2, fz_r 53)] [] H Q) : fz_R 47 mLc24 1156 [(3, fz_i i), (0, fz_r 200), (1, fz_r 0), (2, fz_r 53)] [] h Q := by
  have hf : fz_fr fz_all h h := fz_fr_rf
  refine fz_aload_n kLc24 rfl rfl ?_
  refine fz_aload_n kLc24 rfl rfl ?_
  refine fz_iload_n kLc24 rfl rfl ?_
  refine fz_iconst ⟨by decide, by decide⟩ kLc24 rfl ?_
  refine fz_iaddN kLc24 rfl (by omega) ?_
  obtain ⟨a1, e2⟩ : ∃ z, h 200 ((i + 1)).toNat = z := ⟨_, rfl⟩
  refine fz_taldV (v := a1) kLc24 rfl ⟨by decide, by decide⟩ (by omega) (by omega) e2 ?_
  refine fz_aload_n kLc24 rfl rfl ?_
  refine fz_iload_n kLc24 rfl rfl ?_
  refine fz_iconst ⟨by decide, by decide⟩ kLc24 rfl ?_
  refine fz_iaddN kLc24 rfl (by omega) ?_
  obtain ⟨a3, e4⟩ : ∃ z, h 200 ((i + 2)).toNat = z := ⟨_, rfl⟩
  refine fz_taldV (v := a3) kLc24 rfl ⟨by decide, by decide⟩ (by omega) (by omega) e4 ?_
  refine fz_callV (d' := 2) (M' := mX10_news) (As := [fz_i a1, fz_i a3]) (st := []) kLc24 rfl rfl vX10_news rfl rfl rfl rfl (Nat.le_of_ble_eq_true rfl) (Nat.le_of_ble_eq_true rfl) (by decide) (sX10_news h hI a1 a3 ) (fun H5 r6 q7 o8 => ?_)
  obtain ⟨e9, y11, rfl, f10⟩ := q7
  subst H5
  clear o8
  refine fz_pop rfl kLc24 rfl ?_
  refine fz_aload_n kLc24 rfl rfl ?_
  refine fz_aload_n kLc24 rfl rfl ?_
  refine fz_iload_n kLc24 rfl rfl ?_
  refine fz_iconst ⟨by decide, by decide⟩ kLc24 rfl ?_
  refine fz_iaddN kLc24 rfl (by omega) ?_
  refine fz_taldV (v := a1) kLc24 rfl ⟨by decide, by decide⟩ (by omega) (by omega) e2 ?_
  refine fz_aload_n kLc24 rfl rfl ?_
  refine fz_iload_n kLc24 rfl rfl ?_
  refine fz_iconst ⟨by decide, by decide⟩ kLc24 rfl ?_
  refine fz_iaddN kLc24 rfl (by omega) ?_
  refine fz_taldV (v := a3) kLc24 rfl ⟨by decide, by decide⟩ (by omega) (by omega) e4 ?_
  refine fz_callV (d' := 3) (M' := mX11_news) (As := [fz_i a1, fz_i a3]) (st := []) kLc24 rfl rfl vX11_news rfl rfl rfl rfl (Nat.le_of_ble_eq_true rfl) (Nat.le_of_ble_eq_true rfl) (by decide) (sX11_news h hI a1 a3 ) (fun H12 r13 q14 o15 => ?_)
  obtain ⟨hI16, hf17, y19, rfl, f18⟩ := q14
  clear o15
  have hf20 := fz_fr_tr hf hf17 (fz_su_all rfl)
  have hXd21 : fz_Xd H12 := fz_Xd_eq (funext fun s => hf17 80 s rfl) hXd
  have hXh22 : fz_Xh H12 := fz_Xh_eq (funext fun s => hf17 83 s rfl) hXh
  have hXw23 : fz_Xw H12 := fz_Xw_eq (hf17 53 19 rfl) (funext fun s => hf17 66 s rfl) (funext fun s => hf17 67 s rfl) (funext fun s => hf17 68 s rfl) (funext fun s => hf17 69 s rfl) hXw
  have hRS24 : fz_RS H12 := fz_RS_eq (funext fun s => hf17 48 s rfl) (funext fun s => hf17 49 s rfl) (funext fun s => hf17 50 s rfl) (funext fun s => hf17 51 s rfl) (funext fun s => hf17 83 s rfl) (funext fun s => hf17 84 s rfl) (hf17 44 2 rfl) hRS
  have hRP25 : fz_RP H12 := fz_RP_eq (funext fun s => hf17 52 s rfl) (funext fun s => hf17 85 s rfl) hRP
  have hRK26 : fz_RK H12 := fz_RK_eq (funext fun s => hf17 45 s rfl) (funext fun s => hf17 81 s rfl) hRK
  have hRR27 : fz_RR H12 := fz_RR_eq (hf17 44 3 rfl) (hf17 53 46 rfl) (funext fun s => hf17 46 s rfl) (funext fun s => hf17 82 s rfl) hRR
  have hRT28 : fz_RT H12 := fz_RT_eq (funext fun s => hf17 41 s rfl) (funext fun s => hf17 42 s rfl) (hf17 1 7 rfl) hRT
  have hRE29 : fz_RE H12 := fz_RE_eq (funext fun s => hf17 5 s rfl) (funext fun s => hf17 6 s rfl) (hf17 1 8 rfl) (hf17 1 7 rfl) hRE
  have hR230 : fz_R2 H12 := fz_R2_eq (funext fun s => hf17 2 s rfl) (funext fun s => hf17 54 s rfl) hR2
  have hR331 : fz_R3 H12 := fz_R3_eq (funext fun s => hf17 3 s rfl) (funext fun s => hf17 57 s rfl) hR3
  have hR432 : fz_R4 H12 := fz_R4_eq (funext fun s => hf17 4 s rfl) (funext fun s => hf17 58 s rfl) hR4
  have hR2833 : fz_R28 H12 := fz_R28_eq (funext fun s => hf17 28 s rfl) (funext fun s => hf17 59 s rfl) hR28
  have hR534 : fz_R5 H12 := fz_R5_eq (funext fun s => hf17 5 s rfl) (funext fun s => hf17 55 s rfl) hR5
  have hR635 : fz_R6 H12 := fz_R6_eq (funext fun s => hf17 6 s rfl) (funext fun s => hf17 56 s rfl) hR6
  have hRG36 : fz_RG H12 := fz_RG_eq (hf17 27 8 rfl) (hf17 27 9 rfl) (hf17 53 8 rfl) (hf17 53 9 rfl) hRG
  have hRL37 : fz_RL H12 := fz_RL_eq (funext fun s => hf17 11 s rfl) (funext fun s => hf17 12 s rfl) (funext fun s => hf17 13 s rfl) (funext fun s => hf17 14 s rfl) (funext fun s => hf17 61 s rfl) (funext fun s => hf17 62 s rfl) (funext fun s => hf17 63 s rfl) (funext fun s => hf17 64 s rfl) (hf17 9 5 rfl) hRL
  have hRC38 : fz_RC H12 := fz_RC_eq (hf17 35 4 rfl) (hf17 35 5 rfl) (hf17 53 41 rfl) (hf17 53 42 rfl) (funext fun s => hf17 36 s rfl) (funext fun s => hf17 37 s rfl) (funext fun s => hf17 38 s rfl) (funext fun s => hf17 39 s rfl) (funext fun s => hf17 80 s rfl) (hf17 1 7 rfl) (hf17 1 8 rfl) (hf17 9 5 rfl) hRC
  have hRJ39 : fz_RJ H12 := fz_RJ_eq (hf17 40 1 rfl) (hf17 53 34 rfl) (funext fun s => hf17 41 s rfl) (funext fun s => hf17 76 s rfl) (hf17 40 6 rfl) (hf17 53 37 rfl) (funext fun s => hf17 42 s rfl) (funext fun s => hf17 78 s rfl) (hf17 43 0 rfl) (hf17 53 38 rfl) hRJ
  have hRW40 : fz_RW H12 := fz_RW_eq (funext fun s => hf17 10 s rfl) (funext fun s => hf17 60 s rfl) (hf17 9 5 rfl) hRW
  have hX41 : fz_Xc H12 := fz_Xc_fr hf17 rfl hX
  have t42 : H12 53 10 = h 53 10 := hf17 53 10 rfl
  have t43 : H12 53 41 = h 53 41 := hf17 53 41 rfl
  have t44 : H12 53 42 = h 53 42 := hf17 53 42 rfl
  have t45 : H12 9 5 = h 9 5 := hf17 9 5 rfl
  have t46 : H12 53 10 = h 53 10 := hf17 53 10 rfl
  have t47 : H12 44 2 = h 44 2 := hf17 44 2 rfl
  have t48 : H12 53 44 = h 53 44 := hf17 53 44 rfl
  have t49 : H12 20 2 = h 20 2 := hf17 20 2 rfl
  have t50 : H12 53 16 = h 53 16 := hf17 53 16 rfl
  have t51 : H12 1 7 = h 1 7 := hf17 1 7 rfl
  have t52 : H12 53 0 = h 53 0 := hf17 53 0 rfl
  have t53 : H12 1 8 = h 1 8 := hf17 1 8 rfl
  have t54 : H12 53 2 = h 53 2 := hf17 53 2 rfl
  refine fz_pop rfl kLc24 rfl ?_
  refine fz_goto (tgt := 1816) kLc24 rfl (by decide) ?_
  exact K H12 ⟨hI16, hX41, hXd21, hXh22, hXw23, (by rw [(hf17 53 10 rfl)]; exact hv1), (by rw [(hf17 53 42 rfl), (hf17 53 41 rfl)]; exact hv2), ((hf17 9 5 rfl).trans (hr0.trans (hf17 53 10 rfl).symm)), ((hf17 44 2 rfl).trans (hr1.trans (hf17 53 44 rfl).symm)), ((hf17 20 2 rfl).trans (hr2.trans (hf17 53 16 rfl).symm)), ((hf17 1 7 rfl).trans (hr3.trans (hf17 53 0 rfl).symm)), ((hf17 1 8 rfl).trans (hr4.trans (hf17 53 2 rfl).symm)), hRS24, hRP25, hRK26, hRR27, hRT28, hRE29, hR230, hR331, hR432, hR2833, hR534, hR635, hRG36, hRL37, hRC38, hRJ39, hRW40⟩ (funext fun s => hf20 200 s rfl)
def mLc25 : fz_M := (yL_law, code, 4, (some .boolean), [(1189, .aload_n 1, 1, 0, 0, 0), (1190, .aload_n 0, 1, 0, 0, 0), (1191, .iload_n 3, 1, 0, 0, 0), (1192, .iconst 1, 1, 0, 0, 0), (1193, .iadd, 1, 0, 0, 0), (1194, .iaload, 1, 0, 0, 0), (1195, .aload_n 0, 1, 0, 0, 0), (1196, .iload_n 3, 1, 0, 0, 0), (1197, .iconst 2, 1, 0, 0, 0), (1198, .iadd, 1, 0, 0, 0), (1199, .iaload, 1, 0, 0, 0), (1200, .aload_n 0, 1, 0, 0, 0), (1201, .iload_n 3, 1, 0, 0, 0), (1202, .iconst 3, 1, 0, 0, 0), (1203, .iadd, 1, 0, 0, 0), (1204, .iaload, 1, 0, 0, 0), (1205, .invokevirtual 118, 3, 4133, 36, 0), (1208, .pop2, 1, 0, 0, 0), (1209, .aload_n 2, 1, 0, 0, 0), (1210, .aload_n 0, 1, 0, 0, 0), (1211, .iload_n 3, 1, 0, 0, 0), (1212, .iconst 1, 1, 0, 0, 0), (1213, .iadd, 1, 0, 0, 0), (1214, .iaload, 1, 0, 0, 0), (1215, .aload_n 0, 1, 0, 0, 0), (1216, .iload_n 3, 1, 0, 0, 0), (1217, .iconst 2, 1, 0, 0, 0), (1218, .iadd, 1, 0, 0, 0), (1219, .iaload, 1, 0, 0, 0), (1220, .aload_n 0, 1, 0, 0, 0), (1221, .iload_n 3, 1, 0, 0, 0), (1222, .iconst 3, 1, 0, 0, 0), (1223, .iadd, 1, 0, 0, 0), (1224, .iaload, 1, 0, 0, 0), (1225, .invokevirtual 122, 3, 7098, 105, 0), (1228, .pop2, 1, 0, 0, 0), (1229, .goto 587, 3, 0, 0, 0)])
set_option maxRecDepth 100000 in
theorem kLc25 : fz_okM mLc25 = true := fz_okM_in (by decide +kernel) (by decide +kernel)
set_option maxHeartbeats 1000000 in
set_option maxRecDepth 100000 in
theorem lc25 (h : fz_H) (hI : fz_Iv h) (hX : fz_Xc h) (hXd : fz_Xd h) (hXh : fz_Xh h) (hXw : fz_Xw h) (hv1 : h 53 10 ≤ 10) (hv2 : h 53 42 ≤ h 53 41) (hr0 : h 9 5 = h 53 10) (hr1 : h 44 2 = h 53 44) (hr2 : h 20 2 = h 53 16) (hr3 : h 1 7 = h 53 0) (hr4 : h 1 8 = h 53 2) (hRS : fz_RS h) (hRP : fz_RP h) (hRK : fz_RK h) (hRR : fz_RR h) (hRT : fz_RT h) (hRE : fz_RE h) (hR2 : fz_R2 h) (hR3 : fz_R3 h) (hR4 : fz_R4 h) (hR28 : fz_R28 h) (hR5 : fz_R5 h) (hR6 : fz_R6 h) (hRG : fz_RG h) (hRL : fz_RL h) (hRC : fz_RC h) (hRJ : fz_RJ h) (hRW : fz_RW h) (i : Int) (hi : 0 ≤ i ∧ i + 6 ≤ h 200 100000 ∧ h 200 100000 ≤ 3072) {Q : fz_H → Option fz_V → Prop} (K : ∀ H : fz_H, fz_Gd H → H 200 = h 200 → fz_R 47 mLe 1816 [(3, fz_i i), (0, fz_r 200), (1, fz_r 0), (2, fz_r 53)] [] H Q) : fz_R 47 mLc25 1189 [(3, fz_i i), (0, fz_r 200), (1, fz_r 0), (2, fz_r 53)] [] h Q := by
  have hf : fz_fr fz_all h h := fz_fr_rf
  refine fz_aload_n kLc25 rfl rfl ?_
  refine fz_aload_n kLc25 rfl rfl ?_
  refine fz_iload_n kLc25 rfl rfl ?_
  refine fz_iconst ⟨by decide, by decide⟩ kLc25 rfl ?_
  refine fz_iaddN kLc25 rfl (by omega) ?_
  obtain ⟨a1, e2⟩ : ∃ z, h 200 ((i + 1)).toNat = z := ⟨_, rfl⟩
  refine fz_taldV (v := a1) kLc25 rfl ⟨by decide, by decide⟩ (by omega) (by omega) e2 ?_
  refine fz_aload_n kLc25 rfl rfl ?_
  refine fz_iload_n kLc25 rfl rfl ?_
  refine fz_iconst ⟨by decide, by decide⟩ kLc25 rfl ?_
  refine fz_iaddN kLc25 rfl (by omega) ?_
  obtain ⟨a3, e4⟩ : ∃ z, h 200 ((i + 2)).toNat = z := ⟨_, rfl⟩
  refine fz_taldV (v := a3) kLc25 rfl ⟨by decide, by decide⟩ (by omega) (by omega) e4 ?_
  refine fz_aload_n kLc25 rfl rfl ?_
  refine fz_iload_n kLc25 rfl rfl ?_
  refine fz_iconst ⟨by decide, by decide⟩ kLc25 rfl ?_
  refine fz_iaddN kLc25 rfl (by omega) ?_
  obtain ⟨a5, e6⟩ : ∃ z, h 200 ((i + 3)).toNat = z := ⟨_, rfl⟩
  refine fz_taldV (v := a5) kLc25 rfl ⟨by decide, by decide⟩ (by omega) (by omega) e6 ?_
  refine fz_callV (d' := 2) (M' := mX10_garbled) (As := [fz_i a1, fz_i a3, fz_i a5]) (st := []) kLc25 rfl rfl vX10_garbled rfl rfl rfl rfl (Nat.le_of_ble_eq_true rfl) (Nat.le_of_ble_eq_true rfl) (by decide) (sX10_garbled h hI a1 a3 a5 ) (fun H7 r8 q9 o10 => ?_)
  obtain ⟨hI11, hf12, y14, rfl, f13⟩ := q9
  clear o10
  have hf15 := fz_fr_tr hf hf12 (fz_su_all rfl)
  have hXd16 : fz_Xd H7 := fz_Xd_eq (funext fun s => hf12 80 s rfl) hXd
  have hXh17 : fz_Xh H7 := fz_Xh_eq (funext fun s => hf12 83 s rfl) hXh
  have hXw18 : fz_Xw H7 := fz_Xw_eq (hf12 53 19 rfl) (funext fun s => hf12 66 s rfl) (funext fun s => hf12 67 s rfl) (funext fun s => hf12 68 s rfl) (funext fun s => hf12 69 s rfl) hXw
  have hRS19 : fz_RS H7 := fz_RS_eq (funext fun s => hf12 48 s rfl) (funext fun s => hf12 49 s rfl) (funext fun s => hf12 50 s rfl) (funext fun s => hf12 51 s rfl) (funext fun s => hf12 83 s rfl) (funext fun s => hf12 84 s rfl) (hf12 44 2 rfl) hRS
  have hRP20 : fz_RP H7 := fz_RP_eq (funext fun s => hf12 52 s rfl) (funext fun s => hf12 85 s rfl) hRP
  have hRK21 : fz_RK H7 := fz_RK_eq (funext fun s => hf12 45 s rfl) (funext fun s => hf12 81 s rfl) hRK
  have hRR22 : fz_RR H7 := fz_RR_eq (hf12 44 3 rfl) (hf12 53 46 rfl) (funext fun s => hf12 46 s rfl) (funext fun s => hf12 82 s rfl) hRR
  have hRT23 : fz_RT H7 := fz_RT_eq (funext fun s => hf12 41 s rfl) (funext fun s => hf12 42 s rfl) (hf12 1 7 rfl) hRT
  have hRE24 : fz_RE H7 := fz_RE_eq (funext fun s => hf12 5 s rfl) (funext fun s => hf12 6 s rfl) (hf12 1 8 rfl) (hf12 1 7 rfl) hRE
  have hR225 : fz_R2 H7 := fz_R2_eq (funext fun s => hf12 2 s rfl) (funext fun s => hf12 54 s rfl) hR2
  have hR326 : fz_R3 H7 := fz_R3_eq (funext fun s => hf12 3 s rfl) (funext fun s => hf12 57 s rfl) hR3
  have hR427 : fz_R4 H7 := fz_R4_eq (funext fun s => hf12 4 s rfl) (funext fun s => hf12 58 s rfl) hR4
  have hR2828 : fz_R28 H7 := fz_R28_eq (funext fun s => hf12 28 s rfl) (funext fun s => hf12 59 s rfl) hR28
  have hR529 : fz_R5 H7 := fz_R5_eq (funext fun s => hf12 5 s rfl) (funext fun s => hf12 55 s rfl) hR5
  have hR630 : fz_R6 H7 := fz_R6_eq (funext fun s => hf12 6 s rfl) (funext fun s => hf12 56 s rfl) hR6
  have hRG31 : fz_RG H7 := fz_RG_eq (hf12 27 8 rfl) (hf12 27 9 rfl) (hf12 53 8 rfl) (hf12 53 9 rfl) hRG
  have hRL32 : fz_RL H7 := fz_RL_eq (funext fun s => hf12 11 s rfl) (funext fun s => hf12 12 s rfl) (funext fun s => hf12 13 s rfl) (funext fun s => hf12 14 s rfl) (funext fun s => hf12 61 s rfl) (funext fun s => hf12 62 s rfl) (funext fun s => hf12 63 s rfl) (funext fun s => hf12 64 s rfl) (hf12 9 5 rfl) hRL
  have hRC33 : fz_RC H7 := fz_RC_eq (hf12 35 4 rfl) (hf12 35 5 rfl) (hf12 53 41 rfl) (hf12 53 42 rfl) (funext fun s => hf12 36 s rfl) (funext fun s => hf12 37 s rfl) (funext fun s => hf12 38 s rfl) (funext fun s => hf12 39 s rfl) (funext fun s => hf12 80 s rfl) (hf12 1 7 rfl) (hf12 1 8 rfl) (hf12 9 5 rfl) hRC
  have hRJ34 : fz_RJ H7 := fz_RJ_eq (hf12 40 1 rfl) (hf12 53 34 rfl) (funext fun s => hf12 41 s rfl) (funext fun s => hf12 76 s rfl) (hf12 40 6 rfl) (hf12 53 37 rfl) (funext fun s => hf12 42 s rfl) (funext fun s => hf12 78 s rfl) (hf12 43 0 rfl) (hf12 53 38 rfl) hRJ
  have hRW35 : fz_RW H7 := fz_RW_eq (funext fun s => hf12 10 s rfl) (funext fun s => hf12 60 s rfl) (hf12 9 5 rfl) hRW
  have hX36 : fz_Xc H7 := fz_Xc_fr hf12 rfl hX
  have t37 : H7 53 10 = h 53 10 := hf12 53 10 rfl
  have t38 : H7 53 41 = h 53 41 := hf12 53 41 rfl
  have t39 : H7 53 42 = h 53 42 := hf12 53 42 rfl
  have t40 : H7 9 5 = h 9 5 := hf12 9 5 rfl
  have t41 : H7 53 10 = h 53 10 := hf12 53 10 rfl
  have t42 : H7 44 2 = h 44 2 := hf12 44 2 rfl
  have t43 : H7 53 44 = h 53 44 := hf12 53 44 rfl
  have t44 : H7 20 2 = h 20 2 := hf12 20 2 rfl
  have t45 : H7 53 16 = h 53 16 := hf12 53 16 rfl
  have t46 : H7 1 7 = h 1 7 := hf12 1 7 rfl
  have t47 : H7 53 0 = h 53 0 := hf12 53 0 rfl
  have t48 : H7 1 8 = h 1 8 := hf12 1 8 rfl
  have t49 : H7 53 2 = h 53 2 := hf12 53 2 rfl
  refine fz_pop2 kLc25 rfl ?_
  refine fz_aload_n kLc25 rfl rfl ?_
  refine fz_aload_n kLc25 rfl rfl ?_
  refine fz_iload_n kLc25 rfl rfl ?_
  refine fz_iconst ⟨by decide, by decide⟩ kLc25 rfl ?_
  refine fz_iaddN kLc25 rfl (by omega) ?_
  refine fz_taldV (v := a1) kLc25 rfl ⟨by decide, by decide⟩ (by omega) (by rw [hf15 200 _ rfl]; omega) ((hf15 200 _ rfl).trans e2) ?_
  refine fz_aload_n kLc25 rfl rfl ?_
  refine fz_iload_n kLc25 rfl rfl ?_
  refine fz_iconst ⟨by decide, by decide⟩ kLc25 rfl ?_
  refine fz_iaddN kLc25 rfl (by omega) ?_
  refine fz_taldV (v := a3) kLc25 rfl ⟨by decide, by decide⟩ (by omega) (by rw [hf15 200 _ rfl]; omega) ((hf15 200 _ rfl).trans e4) ?_
  refine fz_aload_n kLc25 rfl rfl ?_
  refine fz_iload_n kLc25 rfl rfl ?_
  refine fz_iconst ⟨by decide, by decide⟩ kLc25 rfl ?_
  refine fz_iaddN kLc25 rfl (by omega) ?_
  refine fz_taldV (v := a5) kLc25 rfl ⟨by decide, by decide⟩ (by omega) (by rw [hf15 200 _ rfl]; omega) ((hf15 200 _ rfl).trans e6) ?_
  refine fz_callV (d' := 3) (M' := mX11_garbled) (As := [fz_i a1, fz_i a3, fz_i a5]) (st := []) kLc25 rfl rfl vX11_garbled rfl rfl rfl rfl (Nat.le_of_ble_eq_true rfl) (Nat.le_of_ble_eq_true rfl) (by decide) (sX11_garbled H7 hI11 a1 a3 a5 ) (fun H50 r51 q52 o53 => ?_)
  obtain ⟨hI54, hf55, y57, rfl, f56⟩ := q52
  clear o53
  have hf58 := fz_fr_tr hf15 hf55 (fz_su_all rfl)
  have hXd59 : fz_Xd H50 := fz_Xd_eq (funext fun s => hf55 80 s rfl) hXd16
  have hXh60 : fz_Xh H50 := fz_Xh_eq (funext fun s => hf55 83 s rfl) hXh17
  have hXw61 : fz_Xw H50 := fz_Xw_eq (hf55 53 19 rfl) (funext fun s => hf55 66 s rfl) (funext fun s => hf55 67 s rfl) (funext fun s => hf55 68 s rfl) (funext fun s => hf55 69 s rfl) hXw18
  have hRS62 : fz_RS H50 := fz_RS_eq (funext fun s => hf55 48 s rfl) (funext fun s => hf55 49 s rfl) (funext fun s => hf55 50 s rfl) (funext fun s => hf55 51 s rfl) (funext fun s => hf55 83 s rfl) (funext fun s => hf55 84 s rfl) (hf55 44 2 rfl) hRS19
  have hRP63 : fz_RP H50 := fz_RP_eq (funext fun s => hf55 52 s rfl) (funext fun s => hf55 85 s rfl) hRP20
  have hRK64 : fz_RK H50 := fz_RK_eq (funext fun s => hf55 45 s rfl) (funext fun s => hf55 81 s rfl) hRK21
  have hRR65 : fz_RR H50 := fz_RR_eq (hf55 44 3 rfl) (hf55 53 46 rfl) (funext fun s => hf55 46 s rfl) (funext fun s => hf55 82 s rfl) hRR22
  have hRT66 : fz_RT H50 := fz_RT_eq (funext fun s => hf55 41 s rfl) (funext fun s => hf55 42 s rfl) (hf55 1 7 rfl) hRT23
  have hRE67 : fz_RE H50 := fz_RE_eq (funext fun s => hf55 5 s rfl) (funext fun s => hf55 6 s rfl) (hf55 1 8 rfl) (hf55 1 7 rfl) hRE24
  have hR268 : fz_R2 H50 := fz_R2_eq (funext fun s => hf55 2 s rfl) (funext fun s => hf55 54 s rfl) hR225
  have hR369 : fz_R3 H50 := fz_R3_eq (funext fun s => hf55 3 s rfl) (funext fun s => hf55 57 s rfl) hR326
  have hR470 : fz_R4 H50 := fz_R4_eq (funext fun s => hf55 4 s rfl) (funext fun s => hf55 58 s rfl) hR427
  have hR2871 : fz_R28 H50 := fz_R28_eq (funext fun s => hf55 28 s rfl) (funext fun s => hf55 59 s rfl) hR2828
  have hR572 : fz_R5 H50 := fz_R5_eq (funext fun s => hf55 5 s rfl) (funext fun s => hf55 55 s rfl) hR529
  have hR673 : fz_R6 H50 := fz_R6_eq (funext fun s => hf55 6 s rfl) (funext fun s => hf55 56 s rfl) hR630
  have hRG74 : fz_RG H50 := fz_RG_eq (hf55 27 8 rfl) (hf55 27 9 rfl) (hf55 53 8 rfl) (hf55 53 9 rfl) hRG31
  have hRL75 : fz_RL H50 := fz_RL_eq (funext fun s => hf55 11 s rfl) (funext fun s => hf55 12 s rfl) (funext fun s => hf55 13 s rfl) (funext fun s => hf55 14 s rfl) (funext fun s => hf55 61 s rfl) (funext fun s => hf55 62 s rfl) (funext fun s => hf55 63 s rfl) (funext fun s => hf55 64 s rfl) (hf55 9 5 rfl) hRL32
  have hRC76 : fz_RC H50 := fz_RC_eq (hf55 35 4 rfl) (hf55 35 5 rfl) (hf55 53 41 rfl) (hf55 53 42 rfl) (funext fun s => hf55 36 s rfl) (funext fun s => hf55 37 s rfl) (funext fun s => hf55 38 s rfl) (funext fun s => hf55 39 s rfl) (funext fun s => hf55 80 s rfl) (hf55 1 7 rfl) (hf55 1 8 rfl) (hf55 9 5 rfl) hRC33
  have hRJ77 : fz_RJ H50 := fz_RJ_eq (hf55 40 1 rfl) (hf55 53 34 rfl) (funext fun s => hf55 41 s rfl) (funext fun s => hf55 76 s rfl) (hf55 40 6 rfl) (hf55 53 37 rfl) (funext fun s => hf55 42 s rfl) (funext fun s => hf55 78 s rfl) (hf55 43 0 rfl) (hf55 53 38 rfl) hRJ34
  have hRW78 : fz_RW H50 := fz_RW_eq (funext fun s => hf55 10 s rfl) (funext fun s => hf55 60 s rfl) (hf55 9 5 rfl) hRW35
  have hX79 : fz_Xc H50 := fz_Xc_fr hf55 rfl hX36
  have t80 : H50 53 10 = H7 53 10 := hf55 53 10 rfl
  have t81 : H50 53 41 = H7 53 41 := hf55 53 41 rfl
  have t82 : H50 53 42 = H7 53 42 := hf55 53 42 rfl
  have t83 : H50 9 5 = H7 9 5 := hf55 9 5 rfl
  have t84 : H50 53 10 = H7 53 10 := hf55 53 10 rfl
  have t85 : H50 44 2 = H7 44 2 := hf55 44 2 rfl
  have t86 : H50 53 44 = H7 53 44 := hf55 53 44 rfl
  have t87 : H50 20 2 = H7 20 2 := hf55 20 2 rfl
  have t88 : H50 53 16 = H7 53 16 := hf55 53 16 rfl
  have t89 : H50 1 7 = H7 1 7 := hf55 1 7 rfl
  have t90 : H50 53 0 = H7 53 0 := hf55 53 0 rfl
  have t91 : H50 1 8 = H7 1 8 := hf55 1 8 rfl
  have t92 : H50 53 2 = H7 53 2 := hf55 53 2 rfl
  refine fz_pop2 kLc25 rfl ?_
  refine fz_goto (tgt := 1816) kLc25 rfl (by decide) ?_
  exact K H50 ⟨hI54, hX79, hXd59, hXh60, hXw61, (by rw [((hf55 53 10 rfl).trans (hf12 53 10 rfl))]; exact hv1), (by rw [((hf55 53 42 rfl).trans (hf12 53 42 rfl)), ((hf55 53 41 rfl).trans (hf12 53 41 rfl))]; exact hv2), (((hf55 9 5 rfl).trans (hf12 9 5 rfl)).trans (hr0.trans ((hf55 53 10 rfl).trans (hf12 53 10 rfl)).symm)), (((hf55 44 2 rfl).trans (hf12 44 2 rfl)).trans (hr1.trans ((hf55 53 44 rfl).trans (hf12 53 44 rfl)).symm)), (((hf55 20 2 rfl).trans (hf12 20 2 rfl)).trans (hr2.trans ((hf55 53 16 rfl).trans (hf12 53 16 rfl)).symm)), (((hf55 1 7 rfl).trans (hf12 1 7 rfl)).trans (hr3.trans ((hf55 53 0 rfl).trans (hf12 53 0 rfl)).symm)), (((hf55 1 8 rfl).trans (hf12 1 8 rfl)).trans (hr4.trans ((hf55 53 2 rfl).trans (hf12 53 2 rfl)).symm)), hRS62, hRP63, hRK64, hRR65, hRT66, hRE67, hR268, hR369, hR470, hR2871, hR572, hR673, hRG74, hRL75, hRC76, hRJ77, hRW78⟩ (funext fun s => hf58 200 s rfl)
def mLc26 : fz_M := (yL_law, code, 4, (some .boolean), [(1232, .aload_n 1, 1, 0, 0, 0), (1233, .aload_n 0, 1, 0, 0, 0), (1234, .iload_n 3, 1, 0, 0, 0), (1235, .iconst 1, 1, 0, 0, 0), (1236, .iadd, 1, 0, 0, 0), (1237, .iaload, 1, 0, 0, 0), (1238, .aload_n 0, 1, 0, 0, 0), (1239, .iload_n 3, 1, 0, 0, 0), (1240, .iconst 2, 1, 0, 0, 0), (1241, .iadd, 1, 0, 0, 0), (1242, .iaload, 1, 0, 0, 0), (1243, .aload_n 0, 1, 0, 0, 0), (1244, .iload_n 3, 1, 0, 0, 0), (1245, .iconst 3, 1, 0, 0, 0), (1246, .iadd, 1, 0, 0, 0), (1247, .iaload, 1, 0, 0, 0), (1248, .aload_n 0, 1, 0, 0, 0), (1249, .iload_n 3, 1, 0, 0, 0), (1250, .iconst 4, 1, 0, 0, 0), (1251, .iadd, 1, 0, 0, 0), (1252, .iaload, 1, 0, 0, 0), (1253, .invokevirtual 123, 3, 4153, 28, 0), (1256, .pop, 1, 0, 0, 0), (1257, .aload_n 2, 1, 0, 0, 0), (1258, .aload_n 0, 1, 0, 0, 0), (1259, .iload_n 3, 1, 0, 0, 0), (1260, .iconst 1, 1, 0, 0, 0), (1261, .iadd, 1, 0, 0, 0), (1262, .iaload, 1, 0, 0, 0), (1263, .aload_n 0, 1, 0, 0, 0), (1264, .iload_n 3, 1, 0, 0, 0), (1265, .iconst 2, 1, 0, 0, 0), (1266, .iadd, 1, 0, 0, 0), (1267, .iaload, 1, 0, 0, 0), (1268, .aload_n 0, 1, 0, 0, 0), (1269, .iload_n 3, 1, 0, 0, 0), (1270, .iconst 3, 1, 0, 0, 0), (1271, .iadd, 1, 0, 0, 0), (1272, .iaload, 1, 0, 0, 0), (1273, .aload_n 0, 1, 0, 0, 0), (1274, .iload_n 3, 1, 0, 0, 0), (1275, .iconst 4, 1, 0, 0, 0), (1276, .iadd, 1, 0, 0, 0), (1277, .iaload, 1, 0, 0, 0), (1278, .invokevirtual 126, 3, 7108, 97, 0), (1281, .pop, 1, 0, 0, 0), (1282, .goto 534, 3, 0, 0, 0)])
set_option maxRecDepth 100000 in
theorem kLc26 : fz_okM mLc26 = true := fz_okM_in (by decide +kernel) (by decide +kernel)
set_option maxHeartbeats 1000000 in
set_option maxRecDepth 100000 in
theorem lc26 (h : fz_H) (hI : fz_Iv h) (hX : fz_Xc h) (hXd : fz_Xd h) (hXh : fz_Xh h) (hXw : fz_Xw h) (hv1 : h 53 10 ≤ 10) (hv2 : h 53 42 ≤ h 53 41) (hr0 : h 9 5 = h 53 10) (hr1 : h 44 2 = h 53 44) (hr2 : h 20 2 = h 53 16) (hr3 : h 1 7 = h 53 0) (hr4 : h 1 8 = h 53 2) (hRS : fz_RS h) (hRP : fz_RP h) (hRK : fz_RK h) (hRR : fz_RR h) (hRT : fz_RT h) (hRE : fz_RE h) (hR2 : fz_R2 h) (hR3 : fz_R3 h) (hR4 : fz_R4 h) (hR28 : fz_R28 h) (hR5 : fz_R5 h) (hR6 : fz_R6 h) (hRG : fz_RG h) (hRL : fz_RL h) (hRC : fz_RC h) (hRJ : fz_RJ h) (hRW : fz_RW h) (i : Int) (hi : 0 ≤ i ∧ i + 6 ≤ h 200 100000 ∧ h 200 100000 ≤ 3072) {Q : fz_H → Option fz_V → Prop} (K : ∀ H : fz_H, fz_Gd H → H 200 = h 200 → fz_R 47 mLe 1816 [(3, fz_i i), (0, fz_r 200), (1, fz_r 0), (2, fz_r 53)] [] H Q) : fz_R 47 mLc26 1232 [(3, fz_i i), (0, fz_r 200), (1, fz_r 0), (2, fz_r 53)] [] h Q := by
  have hf : fz_fr fz_all h h := fz_fr_rf
  refine fz_aload_n kLc26 rfl rfl ?_
  refine fz_aload_n kLc26 rfl rfl ?_
  refine fz_iload_n kLc26 rfl rfl ?_
  refine fz_iconst ⟨by decide, by decide⟩ kLc26 rfl ?_
  refine fz_iaddN kLc26 rfl (by omega) ?_
  obtain ⟨a1, e2⟩ : ∃ z, h 200 ((i + 1)).toNat = z := ⟨_, rfl⟩
  refine fz_taldV (v := a1) kLc26 rfl ⟨by decide, by decide⟩ (by omega) (by omega) e2 ?_
  refine fz_aload_n kLc26 rfl rfl ?_
  refine fz_iload_n kLc26 rfl rfl ?_
  refine fz_iconst ⟨by decide, by decide⟩ kLc26 rfl ?_
  refine fz_iaddN kLc26 rfl (by omega) ?_
  obtain ⟨a3, e4⟩ : ∃ z, h 200 ((i + 2)).toNat = z := ⟨_, rfl⟩
  refine fz_taldV (v := a3) kLc26 rfl ⟨by decide, by decide⟩ (by omega) (by omega) e4 ?_
  refine fz_aload_n kLc26 rfl rfl ?_
  refine fz_iload_n kLc26 rfl rfl ?_
  refine fz_iconst ⟨by decide, by decide⟩ kLc26 rfl ?_
  refine fz_iaddN kLc26 rfl (by omega) ?_
  obtain ⟨a5, e6⟩ : ∃ z, h 200 ((i + 3)).toNat = z := ⟨_, rfl⟩
  refine fz_taldV (v := a5) kLc26 rfl ⟨by decide, by decide⟩ (by omega) (by omega) e6 ?_
  refine fz_aload_n kLc26 rfl rfl ?_
  refine fz_iload_n kLc26 rfl rfl ?_
  refine fz_iconst ⟨by decide, by decide⟩ kLc26 rfl ?_
  refine fz_iaddN kLc26 rfl (by omega) ?_
  obtain ⟨a7, e8⟩ : ∃ z, h 200 ((i + 4)).toNat = z := ⟨_, rfl⟩
  refine fz_taldV (v := a7) kLc26 rfl ⟨by decide, by decide⟩ (by omega) (by omega) e8 ?_
  refine fz_callV (d' := 1) (M' := mX10_drawn) (As := [fz_i a1, fz_i a3, fz_i a5, fz_i a7]) (st := []) kLc26 rfl rfl vX10_drawn rfl rfl rfl rfl (Nat.le_of_ble_eq_true rfl) (Nat.le_of_ble_eq_true rfl) (by decide) (sX10_drawn h hI a1 a3 a5 a7 ) (fun H9 r10 q11 o12 => ?_)
  obtain ⟨e13, y15, rfl, f14⟩ := q11
  subst H9
  clear o12
  refine fz_pop rfl kLc26 rfl ?_
  refine fz_aload_n kLc26 rfl rfl ?_
  refine fz_aload_n kLc26 rfl rfl ?_
  refine fz_iload_n kLc26 rfl rfl ?_
  refine fz_iconst ⟨by decide, by decide⟩ kLc26 rfl ?_
  refine fz_iaddN kLc26 rfl (by omega) ?_
  refine fz_taldV (v := a1) kLc26 rfl ⟨by decide, by decide⟩ (by omega) (by omega) e2 ?_
  refine fz_aload_n kLc26 rfl rfl ?_
  refine fz_iload_n kLc26 rfl rfl ?_
  refine fz_iconst ⟨by decide, by decide⟩ kLc26 rfl ?_
  refine fz_iaddN kLc26 rfl (by omega) ?_
  refine fz_taldV (v := a3) kLc26 rfl ⟨by decide, by decide⟩ (by omega) (by omega) e4 ?_
  refine fz_aload_n kLc26 rfl rfl ?_
  refine fz_iload_n kLc26 rfl rfl ?_
  refine fz_iconst ⟨by decide, by decide⟩ kLc26 rfl ?_
  refine fz_iaddN kLc26 rfl (by omega) ?_
  refine fz_taldV (v := a5) kLc26 rfl ⟨by decide, by decide⟩ (by omega) (by omega) e6 ?_
  refine fz_aload_n kLc26 rfl rfl ?_
  refine fz_iload_n kLc26 rfl rfl ?_
  refine fz_iconst ⟨by decide, by decide⟩ kLc26 rfl ?_
  refine fz_iaddN kLc26 rfl (by omega) ?_
  refine fz_taldV (v := a7) kLc26 rfl ⟨by decide, by decide⟩ (by omega) (by omega) e8 ?_
  refine fz_callV (d' := 3) (M' := mX11_drawn) (As := [fz_i a1, fz_i a3, fz_i a5, fz_i a7]) (st := []) kLc26 rfl rfl vX11_drawn rfl rfl rfl rfl (Nat.le_of_ble_eq_true rfl) (Nat.le_of_ble_eq_true rfl) (by decide) (sX11_drawn h hI a1 a3 a5 a7 ) (fun H16 r17 q18 o19 => ?_)
  obtain ⟨hI20, hf21, y23, rfl, f22⟩ := q18
  clear o19
  have hf24 := fz_fr_tr hf hf21 (fz_su_all rfl)
  have hXd25 : fz_Xd H16 := fz_Xd_eq (funext fun s => hf21 80 s rfl) hXd
  have hXh26 : fz_Xh H16 := fz_Xh_eq (funext fun s => hf21 83 s rfl) hXh
  have hXw27 : fz_Xw H16 := fz_Xw_eq (hf21 53 19 rfl) (funext fun s => hf21 66 s rfl) (funext fun s => hf21 67 s rfl) (funext fun s => hf21 68 s rfl) (funext fun s => hf21 69 s rfl) hXw
  have hRS28 : fz_RS H16 := fz_RS_eq (funext fun s => hf21 48 s rfl) (funext fun s => hf21 49 s rfl) (funext fun s => hf21 50 s rfl) (funext fun s => hf21 51 s rfl) (funext fun s => hf21 83 s rfl) (funext fun s => hf21 84 s rfl) (hf21 44 2 rfl) hRS
  have hRP29 : fz_RP H16 := fz_RP_eq (funext fun s => hf21 52 s rfl) (funext fun s => hf21 85 s rfl) hRP
  have hRK30 : fz_RK H16 := fz_RK_eq (funext fun s => hf21 45 s rfl) (funext fun s => hf21 81 s rfl) hRK
  have hRR31 : fz_RR H16 := fz_RR_eq (hf21 44 3 rfl) (hf21 53 46 rfl) (funext fun s => hf21 46 s rfl) (funext fun s => hf21 82 s rfl) hRR
  have hRT32 : fz_RT H16 := fz_RT_eq (funext fun s => hf21 41 s rfl) (funext fun s => hf21 42 s rfl) (hf21 1 7 rfl) hRT
  have hRE33 : fz_RE H16 := fz_RE_eq (funext fun s => hf21 5 s rfl) (funext fun s => hf21 6 s rfl) (hf21 1 8 rfl) (hf21 1 7 rfl) hRE
  have hR234 : fz_R2 H16 := fz_R2_eq (funext fun s => hf21 2 s rfl) (funext fun s => hf21 54 s rfl) hR2
  have hR335 : fz_R3 H16 := fz_R3_eq (funext fun s => hf21 3 s rfl) (funext fun s => hf21 57 s rfl) hR3
  have hR436 : fz_R4 H16 := fz_R4_eq (funext fun s => hf21 4 s rfl) (funext fun s => hf21 58 s rfl) hR4
  have hR2837 : fz_R28 H16 := fz_R28_eq (funext fun s => hf21 28 s rfl) (funext fun s => hf21 59 s rfl) hR28
  have hR538 : fz_R5 H16 := fz_R5_eq (funext fun s => hf21 5 s rfl) (funext fun s => hf21 55 s rfl) hR5
  have hR639 : fz_R6 H16 := fz_R6_eq (funext fun s => hf21 6 s rfl) (funext fun s => hf21 56 s rfl) hR6
  have hRG40 : fz_RG H16 := fz_RG_eq (hf21 27 8 rfl) (hf21 27 9 rfl) (hf21 53 8 rfl) (hf21 53 9 rfl) hRG
  have hRL41 : fz_RL H16 := fz_RL_eq (funext fun s => hf21 11 s rfl) (funext fun s => hf21 12 s rfl) (funext fun s => hf21 13 s rfl) (funext fun s => hf21 14 s rfl) (funext fun s => hf21 61 s rfl) (funext fun s => hf21 62 s rfl) (funext fun s => hf21 63 s rfl) (funext fun s => hf21 64 s rfl) (hf21 9 5 rfl) hRL
  have hRC42 : fz_RC H16 := fz_RC_eq (hf21 35 4 rfl) (hf21 35 5 rfl) (hf21 53 41 rfl) (hf21 53 42 rfl) (funext fun s => hf21 36 s rfl) (funext fun s => hf21 37 s rfl) (funext fun s => hf21 38 s rfl) (funext fun s => hf21 39 s rfl) (funext fun s => hf21 80 s rfl) (hf21 1 7 rfl) (hf21 1 8 rfl) (hf21 9 5 rfl) hRC
  have hRJ43 : fz_RJ H16 := fz_RJ_eq (hf21 40 1 rfl) (hf21 53 34 rfl) (funext fun s => hf21 41 s rfl) (funext fun s => hf21 76 s rfl) (hf21 40 6 rfl) (hf21 53 37 rfl) (funext fun s => hf21 42 s rfl) (funext fun s => hf21 78 s rfl) (hf21 43 0 rfl) (hf21 53 38 rfl) hRJ
  have hRW44 : fz_RW H16 := fz_RW_eq (funext fun s => hf21 10 s rfl) (funext fun s => hf21 60 s rfl) (hf21 9 5 rfl) hRW
  have hX45 : fz_Xc H16 := fz_Xc_fr hf21 rfl hX
  have t46 : H16 53 10 = h 53 10 := hf21 53 10 rfl
  have t47 : H16 53 41 = h 53 41 := hf21 53 41 rfl
  have t48 : H16 53 42 = h 53 42 := hf21 53 42 rfl
  have t49 : H16 9 5 = h 9 5 := hf21 9 5 rfl
  have t50 : H16 53 10 = h 53 10 := hf21 53 10 rfl
  have t51 : H16 44 2 = h 44 2 := hf21 44 2 rfl
  have t52 : H16 53 44 = h 53 44 := hf21 53 44 rfl
  have t53 : H16 20 2 = h 20 2 := hf21 20 2 rfl
  have t54 : H16 53 16 = h 53 16 := hf21 53 16 rfl
  have t55 : H16 1 7 = h 1 7 := hf21 1 7 rfl
  have t56 : H16 53 0 = h 53 0 := hf21 53 0 rfl
  have t57 : H16 1 8 = h 1 8 := hf21 1 8 rfl
  have t58 : H16 53 2 = h 53 2 := hf21 53 2 rfl
  refine fz_pop rfl kLc26 rfl ?_
  refine fz_goto (tgt := 1816) kLc26 rfl (by decide) ?_
  exact K H16 ⟨hI20, hX45, hXd25, hXh26, hXw27, (by rw [(hf21 53 10 rfl)]; exact hv1), (by rw [(hf21 53 42 rfl), (hf21 53 41 rfl)]; exact hv2), ((hf21 9 5 rfl).trans (hr0.trans (hf21 53 10 rfl).symm)), ((hf21 44 2 rfl).trans (hr1.trans (hf21 53 44 rfl).symm)), ((hf21 20 2 rfl).trans (hr2.trans (hf21 53 16 rfl).symm)), ((hf21 1 7 rfl).trans (hr3.trans (hf21 53 0 rfl).symm)), ((hf21 1 8 rfl).trans (hr4.trans (hf21 53 2 rfl).symm)), hRS28, hRP29, hRK30, hRR31, hRT32, hRE33, hR234, hR335, hR436, hR2837, hR538, hR639, hRG40, hRL41, hRC42, hRJ43, hRW44⟩ (funext fun s => hf24 200 s rfl)
def mLc27 : fz_M := (yL_law, code, 4, (some .boolean), [(1285, .aload_n 1, 1, 0, 0, 0), (1286, .aload_n 0, 1, 0, 0, 0), (1287, .iload_n 3, 1, 0, 0, 0), (1288, .iconst 1, 1, 0, 0, 0), (1289, .iadd, 1, 0, 0, 0), (1290, .iaload, 1, 0, 0, 0), (1291, .aload_n 0, 1, 0, 0, 0), (1292, .iload_n 3, 1, 0, 0, 0), (1293, .iconst 2, 1, 0, 0, 0), (1294, .iadd, 1, 0, 0, 0), (1295, .iaload, 1, 0, 0, 0), (1296, .invokevirtual 127, 3, 4158, 77, 0), (1299, .pop, 1, 0, 0, 0), (1300, .aload_n 2, 1, 0, 0, 0), (1301, .aload_n 0, 1, 0, 0, 0), (1302, .iload_n 3, 1, 0, 0, 0), (1303, .iconst 1, 1, 0, 0, 0), (1304, .iadd, 1, 0, 0, 0), (1305, .iaload, 1, 0, 0, 0), (1306, .aload_n 0, 1, 0, 0, 0), (1307, .iload_n 3, 1, 0, 0, 0), (1308, .iconst 2, 1, 0, 0, 0), (1309, .iadd, 1, 0, 0, 0), (1310, .iaload, 1, 0, 0, 0), (1311, .invokevirtual 130, 3, 7113, 181, 0), (1314, .pop, 1, 0, 0, 0), (1315, .goto 501, 3, 0, 0, 0)])
set_option maxRecDepth 100000 in
theorem kLc27 : fz_okM mLc27 = true := fz_okM_in (by decide +kernel) (by decide +kernel)
set_option maxHeartbeats 1000000 in
set_option maxRecDepth 100000 in
theorem lc27 (h : fz_H) (hI : fz_Iv h) (hX : fz_Xc h) (hXd : fz_Xd h) (hXh : fz_Xh h) (hXw : fz_Xw h) (hv1 : h 53 10 ≤ 10) (hv2 : h 53 42 ≤ h 53 41) (hr0 : h 9 5 = h 53 10) (hr1 : h 44 2 = h 53 44) (hr2 : h 20 2 = h 53 16) (hr3 : h 1 7 = h 53 0) (hr4 : h 1 8 = h 53 2) (hRS : fz_RS h) (hRP : fz_RP h) (hRK : fz_RK h) (hRR : fz_RR h) (hRT : fz_RT h) (hRE : fz_RE h) (hR2 : fz_R2 h) (hR3 : fz_R3 h) (hR4 : fz_R4 h) (hR28 : fz_R28 h) (hR5 : fz_R5 h) (hR6 : fz_R6 h) (hRG : fz_RG h) (hRL : fz_RL h) (hRC : fz_RC h) (hRJ : fz_RJ h) (hRW : fz_RW h) (i : Int) (hi : 0 ≤ i ∧ i + 6 ≤ h 200 100000 ∧ h 200 100000 ≤ 3072) {Q : fz_H → Option fz_V → Prop} (K : ∀ H : fz_H, fz_Gd H → H 200 = h 200 → fz_R 47 mLe 1816 [(3, fz_i i), (0, fz_r 200), (1, fz_r 0), (2, fz_r 53)] [] H Q) : fz_R 47 mLc27 1285 [(3, fz_i i), (0, fz_r 200), (1, fz_r 0), (2, fz_r 53)] [] h Q := by
  have hf : fz_fr fz_all h h := fz_fr_rf
  refine fz_aload_n kLc27 rfl rfl ?_
  refine fz_aload_n kLc27 rfl rfl ?_
  refine fz_iload_n kLc27 rfl rfl ?_
  refine fz_iconst ⟨by decide, by decide⟩ kLc27 rfl ?_
  refine fz_iaddN kLc27 rfl (by omega) ?_
  obtain ⟨a1, e2⟩ : ∃ z, h 200 ((i + 1)).toNat = z := ⟨_, rfl⟩
  refine fz_taldV (v := a1) kLc27 rfl ⟨by decide, by decide⟩ (by omega) (by omega) e2 ?_
  refine fz_aload_n kLc27 rfl rfl ?_
  refine fz_iload_n kLc27 rfl rfl ?_
  refine fz_iconst ⟨by decide, by decide⟩ kLc27 rfl ?_
  refine fz_iaddN kLc27 rfl (by omega) ?_
  obtain ⟨a3, e4⟩ : ∃ z, h 200 ((i + 2)).toNat = z := ⟨_, rfl⟩
  refine fz_taldV (v := a3) kLc27 rfl ⟨by decide, by decide⟩ (by omega) (by omega) e4 ?_
  refine fz_callV (d' := 5) (M' := mX10_walk) (As := [fz_i a1, fz_i a3]) (st := []) kLc27 rfl rfl vX10_walk rfl rfl rfl rfl (Nat.le_of_ble_eq_true rfl) (Nat.le_of_ble_eq_true rfl) (by decide) (sX10_walk h hI a1 a3 hRT hRE) (fun H5 r6 q7 o8 => ?_)
  obtain ⟨hI9, hf10, hRT11, hRE12, y15, rfl, f13, f14⟩ := q7
  clear o8
  have hf16 := fz_fr_tr hf hf10 (fz_su_all rfl)
  have hXd17 : fz_Xd H5 := fz_Xd_eq (funext fun s => hf10 80 s rfl) hXd
  have hXh18 : fz_Xh H5 := fz_Xh_eq (funext fun s => hf10 83 s rfl) hXh
  have hXw19 : fz_Xw H5 := fz_Xw_eq (hf10 53 19 rfl) (funext fun s => hf10 66 s rfl) (funext fun s => hf10 67 s rfl) (funext fun s => hf10 68 s rfl) (funext fun s => hf10 69 s rfl) hXw
  have hRS20 : fz_RS H5 := fz_RS_eq (funext fun s => hf10 48 s rfl) (funext fun s => hf10 49 s rfl) (funext fun s => hf10 50 s rfl) (funext fun s => hf10 51 s rfl) (funext fun s => hf10 83 s rfl) (funext fun s => hf10 84 s rfl) (hf10 44 2 rfl) hRS
  have hRP21 : fz_RP H5 := fz_RP_eq (funext fun s => hf10 52 s rfl) (funext fun s => hf10 85 s rfl) hRP
  have hRK22 : fz_RK H5 := fz_RK_eq (funext fun s => hf10 45 s rfl) (funext fun s => hf10 81 s rfl) hRK
  have hRR23 : fz_RR H5 := fz_RR_eq (hf10 44 3 rfl) (hf10 53 46 rfl) (funext fun s => hf10 46 s rfl) (funext fun s => hf10 82 s rfl) hRR
  have hR224 : fz_R2 H5 := fz_R2_eq (funext fun s => hf10 2 s rfl) (funext fun s => hf10 54 s rfl) hR2
  have hR325 : fz_R3 H5 := fz_R3_eq (funext fun s => hf10 3 s rfl) (funext fun s => hf10 57 s rfl) hR3
  have hR426 : fz_R4 H5 := fz_R4_eq (funext fun s => hf10 4 s rfl) (funext fun s => hf10 58 s rfl) hR4
  have hR2827 : fz_R28 H5 := fz_R28_eq (funext fun s => hf10 28 s rfl) (funext fun s => hf10 59 s rfl) hR28
  have hR528 : fz_R5 H5 := fz_R5_eq (funext fun s => hf10 5 s rfl) (funext fun s => hf10 55 s rfl) hR5
  have hR629 : fz_R6 H5 := fz_R6_eq (funext fun s => hf10 6 s rfl) (funext fun s => hf10 56 s rfl) hR6
  have hRG30 : fz_RG H5 := fz_RG_eq (hf10 27 8 rfl) (hf10 27 9 rfl) (hf10 53 8 rfl) (hf10 53 9 rfl) hRG
  have hRL31 : fz_RL H5 := fz_RL_eq (funext fun s => hf10 11 s rfl) (funext fun s => hf10 12 s rfl) (funext fun s => hf10 13 s rfl) (funext fun s => hf10 14 s rfl) (funext fun s => hf10 61 s rfl) (funext fun s => hf10 62 s rfl) (funext fun s => hf10 63 s rfl) (funext fun s => hf10 64 s rfl) (hf10 9 5 rfl) hRL
  have hRC32 : fz_RC H5 := fz_RC_eq (hf10 35 4 rfl) (hf10 35 5 rfl) (hf10 53 41 rfl) (hf10 53 42 rfl) (funext fun s => hf10 36 s rfl) (funext fun s => hf10 37 s rfl) (funext fun s => hf10 38 s rfl) (funext fun s => hf10 39 s rfl) (funext fun s => hf10 80 s rfl) (hf10 1 7 rfl) (hf10 1 8 rfl) (hf10 9 5 rfl) hRC
  have hRW33 : fz_RW H5 := fz_RW_eq (funext fun s => hf10 10 s rfl) (funext fun s => hf10 60 s rfl) (hf10 9 5 rfl) hRW
  have hX34 : fz_Xc H5 := fz_Xc_fr hf10 rfl hX
  have t35 : H5 53 10 = h 53 10 := hf10 53 10 rfl
  have t36 : H5 53 41 = h 53 41 := hf10 53 41 rfl
  have t37 : H5 53 42 = h 53 42 := hf10 53 42 rfl
  have t38 : H5 9 5 = h 9 5 := hf10 9 5 rfl
  have t39 : H5 53 10 = h 53 10 := hf10 53 10 rfl
  have t40 : H5 44 2 = h 44 2 := hf10 44 2 rfl
  have t41 : H5 53 44 = h 53 44 := hf10 53 44 rfl
  have t42 : H5 20 2 = h 20 2 := hf10 20 2 rfl
  have t43 : H5 53 16 = h 53 16 := hf10 53 16 rfl
  have t44 : H5 1 7 = h 1 7 := hf10 1 7 rfl
  have t45 : H5 53 0 = h 53 0 := hf10 53 0 rfl
  have t46 : H5 1 8 = h 1 8 := hf10 1 8 rfl
  have t47 : H5 53 2 = h 53 2 := hf10 53 2 rfl
  refine fz_pop rfl kLc27 rfl ?_
  refine fz_aload_n kLc27 rfl rfl ?_
  refine fz_aload_n kLc27 rfl rfl ?_
  refine fz_iload_n kLc27 rfl rfl ?_
  refine fz_iconst ⟨by decide, by decide⟩ kLc27 rfl ?_
  refine fz_iaddN kLc27 rfl (by omega) ?_
  refine fz_taldV (v := a1) kLc27 rfl ⟨by decide, by decide⟩ (by omega) (by rw [hf16 200 _ rfl]; omega) ((hf16 200 _ rfl).trans e2) ?_
  refine fz_aload_n kLc27 rfl rfl ?_
  refine fz_iload_n kLc27 rfl rfl ?_
  refine fz_iconst ⟨by decide, by decide⟩ kLc27 rfl ?_
  refine fz_iaddN kLc27 rfl (by omega) ?_
  refine fz_taldV (v := a3) kLc27 rfl ⟨by decide, by decide⟩ (by omega) (by rw [hf16 200 _ rfl]; omega) ((hf16 200 _ rfl).trans e4) ?_
  refine fz_callV (d' := 5) (M' := mX11_walk) (As := [fz_i a1, fz_i a3]) (st := []) kLc27 rfl rfl vX11_walk rfl rfl rfl rfl (Nat.le_of_ble_eq_true rfl) (Nat.le_of_ble_eq_true rfl) (by decide) (sX11_walk H5 hI9 a1 a3 hXw19) (fun H48 r49 q50 o51 => ?_)
  obtain ⟨hI52, hf53, hXw54, y57, rfl, f55, f56⟩ := q50
  clear o51
  have hf58 := fz_fr_tr hf16 hf53 (fz_su_all rfl)
  have hXd59 : fz_Xd H48 := fz_Xd_eq (funext fun s => hf53 80 s rfl) hXd17
  have hXh60 : fz_Xh H48 := fz_Xh_eq (funext fun s => hf53 83 s rfl) hXh18
  have hRS61 : fz_RS H48 := fz_RS_eq (funext fun s => hf53 48 s rfl) (funext fun s => hf53 49 s rfl) (funext fun s => hf53 50 s rfl) (funext fun s => hf53 51 s rfl) (funext fun s => hf53 83 s rfl) (funext fun s => hf53 84 s rfl) (hf53 44 2 rfl) hRS20
  have hRP62 : fz_RP H48 := fz_RP_eq (funext fun s => hf53 52 s rfl) (funext fun s => hf53 85 s rfl) hRP21
  have hRK63 : fz_RK H48 := fz_RK_eq (funext fun s => hf53 45 s rfl) (funext fun s => hf53 81 s rfl) hRK22
  have hRR64 : fz_RR H48 := fz_RR_eq (hf53 44 3 rfl) (hf53 53 46 rfl) (funext fun s => hf53 46 s rfl) (funext fun s => hf53 82 s rfl) hRR23
  have hRT65 : fz_RT H48 := fz_RT_eq (funext fun s => hf53 41 s rfl) (funext fun s => hf53 42 s rfl) (hf53 1 7 rfl) hRT11
  have hRE66 : fz_RE H48 := fz_RE_eq (funext fun s => hf53 5 s rfl) (funext fun s => hf53 6 s rfl) (hf53 1 8 rfl) (hf53 1 7 rfl) hRE12
  have hR267 : fz_R2 H48 := fz_R2_eq (funext fun s => hf53 2 s rfl) (funext fun s => hf53 54 s rfl) hR224
  have hR368 : fz_R3 H48 := fz_R3_eq (funext fun s => hf53 3 s rfl) (funext fun s => hf53 57 s rfl) hR325
  have hR469 : fz_R4 H48 := fz_R4_eq (funext fun s => hf53 4 s rfl) (funext fun s => hf53 58 s rfl) hR426
  have hR2870 : fz_R28 H48 := fz_R28_eq (funext fun s => hf53 28 s rfl) (funext fun s => hf53 59 s rfl) hR2827
  have hR571 : fz_R5 H48 := fz_R5_eq (funext fun s => hf53 5 s rfl) (funext fun s => hf53 55 s rfl) hR528
  have hR672 : fz_R6 H48 := fz_R6_eq (funext fun s => hf53 6 s rfl) (funext fun s => hf53 56 s rfl) hR629
  have hRG73 : fz_RG H48 := fz_RG_eq (hf53 27 8 rfl) (hf53 27 9 rfl) (hf53 53 8 rfl) (hf53 53 9 rfl) hRG30
  have hRL74 : fz_RL H48 := fz_RL_eq (funext fun s => hf53 11 s rfl) (funext fun s => hf53 12 s rfl) (funext fun s => hf53 13 s rfl) (funext fun s => hf53 14 s rfl) (funext fun s => hf53 61 s rfl) (funext fun s => hf53 62 s rfl) (funext fun s => hf53 63 s rfl) (funext fun s => hf53 64 s rfl) (hf53 9 5 rfl) hRL31
  have hRC75 : fz_RC H48 := fz_RC_eq (hf53 35 4 rfl) (hf53 35 5 rfl) (hf53 53 41 rfl) (hf53 53 42 rfl) (funext fun s => hf53 36 s rfl) (funext fun s => hf53 37 s rfl) (funext fun s => hf53 38 s rfl) (funext fun s => hf53 39 s rfl) (funext fun s => hf53 80 s rfl) (hf53 1 7 rfl) (hf53 1 8 rfl) (hf53 9 5 rfl) hRC32
  have hRW76 : fz_RW H48 := fz_RW_eq (funext fun s => hf53 10 s rfl) (funext fun s => hf53 60 s rfl) (hf53 9 5 rfl) hRW33
  have hX77 : fz_Xc H48 := fz_Xc_fr hf53 rfl hX34
  have t78 : H48 53 10 = H5 53 10 := hf53 53 10 rfl
  have t79 : H48 53 41 = H5 53 41 := hf53 53 41 rfl
  have t80 : H48 53 42 = H5 53 42 := hf53 53 42 rfl
  have t81 : H48 9 5 = H5 9 5 := hf53 9 5 rfl
  have t82 : H48 53 10 = H5 53 10 := hf53 53 10 rfl
  have t83 : H48 44 2 = H5 44 2 := hf53 44 2 rfl
  have t84 : H48 53 44 = H5 53 44 := hf53 53 44 rfl
  have t85 : H48 20 2 = H5 20 2 := hf53 20 2 rfl
  have t86 : H48 53 16 = H5 53 16 := hf53 53 16 rfl
  have t87 : H48 1 7 = H5 1 7 := hf53 1 7 rfl
  have t88 : H48 53 0 = H5 53 0 := hf53 53 0 rfl
  have t89 : H48 1 8 = H5 1 8 := hf53 1 8 rfl
  have t90 : H48 53 2 = H5 53 2 := hf53 53 2 rfl
  refine fz_pop rfl kLc27 rfl ?_
  refine fz_goto (tgt := 1816) kLc27 rfl (by decide) ?_
  have k91 := fz_walk_rel hRJ hR5 hR6 hR3 f14 f56 hr4 (hI.1 53 _).2 (fz_fr_lo hf10 rfl) (hf53 40 1 rfl) (funext fun s => hf53 41 s rfl) ((hf53 40 6 rfl).trans (hf10 40 6 rfl)) (funext fun s => (hf53 42 s rfl).trans (hf10 42 s rfl)) ((hf53 43 0 rfl).trans (hf10 43 0 rfl)) ((hf53 53 37 rfl).trans (hf10 53 37 rfl)) (funext fun s => (hf53 78 s rfl).trans (hf10 78 s rfl)) ((hf53 53 38 rfl).trans (hf10 53 38 rfl))
  have hRJ93 : fz_RJ H48 := k91.2
  exact K H48 ⟨hI52, hX77, hXd59, hXh60, hXw54, (by rw [((hf53 53 10 rfl).trans (hf10 53 10 rfl))]; exact hv1), (by rw [((hf53 53 42 rfl).trans (hf10 53 42 rfl)), ((hf53 53 41 rfl).trans (hf10 53 41 rfl))]; exact hv2), (((hf53 9 5 rfl).trans (hf10 9 5 rfl)).trans (hr0.trans ((hf53 53 10 rfl).trans (hf10 53 10 rfl)).symm)), (((hf53 44 2 rfl).trans (hf10 44 2 rfl)).trans (hr1.trans ((hf53 53 44 rfl).trans (hf10 53 44 rfl)).symm)), (((hf53 20 2 rfl).trans (hf10 20 2 rfl)).trans (hr2.trans ((hf53 53 16 rfl).trans (hf10 53 16 rfl)).symm)), (((hf53 1 7 rfl).trans (hf10 1 7 rfl)).trans (hr3.trans ((hf53 53 0 rfl).trans (hf10 53 0 rfl)).symm)), (((hf53 1 8 rfl).trans (hf10 1 8 rfl)).trans (hr4.trans ((hf53 53 2 rfl).trans (hf10 53 2 rfl)).symm)), hRS61, hRP62, hRK63, hRR64, hRT65, hRE66, hR267, hR368, hR469, hR2870, hR571, hR672, hRG73, hRL74, hRC75, hRJ93, hRW76⟩ (funext fun s => hf58 200 s rfl)
def mLc28 : fz_M := (yL_law, code, 4, (some .boolean), [(1318, .aload_n 1, 1, 0, 0, 0), (1319, .aload_n 0, 1, 0, 0, 0), (1320, .iload_n 3, 1, 0, 0, 0), (1321, .iconst 1, 1, 0, 0, 0), (1322, .iadd, 1, 0, 0, 0), (1323, .iaload, 1, 0, 0, 0), (1324, .aload_n 0, 1, 0, 0, 0), (1325, .iload_n 3, 1, 0, 0, 0), (1326, .iconst 2, 1, 0, 0, 0), (1327, .iadd, 1, 0, 0, 0), (1328, .iaload, 1, 0, 0, 0), (1329, .invokevirtual 131, 3, 4167, 27, 0), (1332, .pop, 1, 0, 0, 0), (1333, .aload_n 2, 1, 0, 0, 0), (1334, .aload_n 0, 1, 0, 0, 0), (1335, .iload_n 3, 1, 0, 0, 0), (1336, .iconst 1, 1, 0, 0, 0), (1337, .iadd, 1, 0, 0, 0), (1338, .iaload, 1, 0, 0, 0), (1339, .aload_n 0, 1, 0, 0, 0), (1340, .iload_n 3, 1, 0, 0, 0), (1341, .iconst 2, 1, 0, 0, 0), (1342, .iadd, 1, 0, 0, 0), (1343, .iaload, 1, 0, 0, 0), (1344, .invokevirtual 134, 3, 7117, 96, 0), (1347, .pop, 1, 0, 0, 0), (1348, .goto 468, 3, 0, 0, 0)])
set_option maxRecDepth 100000 in
theorem kLc28 : fz_okM mLc28 = true := fz_okM_in (by decide +kernel) (by decide +kernel)
set_option maxHeartbeats 1000000 in
set_option maxRecDepth 100000 in
theorem lc28 (h : fz_H) (hI : fz_Iv h) (hX : fz_Xc h) (hXd : fz_Xd h) (hXh : fz_Xh h) (hXw : fz_Xw h) (hv1 : h 53 10 ≤ 10) (hv2 : h 53 42 ≤ h 53 41) (hr0 : h 9 5 = h 53 10) (hr1 : h 44 2 = h 53 44) (hr2 : h 20 2 = h 53 16) (hr3 : h 1 7 = h 53 0) (hr4 : h 1 8 = h 53 2) (hRS : fz_RS h) (hRP : fz_RP h) (hRK : fz_RK h) (hRR : fz_RR h) (hRT : fz_RT h) (hRE : fz_RE h) (hR2 : fz_R2 h) (hR3 : fz_R3 h) (hR4 : fz_R4 h) (hR28 : fz_R28 h) (hR5 : fz_R5 h) (hR6 : fz_R6 h) (hRG : fz_RG h) (hRL : fz_RL h) (hRC : fz_RC h) (hRJ : fz_RJ h) (hRW : fz_RW h) (i : Int) (hi : 0 ≤ i ∧ i + 6 ≤ h 200 100000 ∧ h 200 100000 ≤ 3072) {Q : fz_H → Option fz_V → Prop} (K : ∀ H : fz_H, fz_Gd H → H 200 = h 200 → fz_R 47 mLe 1816 [(3, fz_i i), (0, fz_r 200), (1, fz_r 0), (2, fz_r 53)] [] H Q) : fz_R 47 mLc28 1318 [(3, fz_i i), (0, fz_r 200), (1, fz_r 0), (2, fz_r 53)] [] h Q := by
  have hf : fz_fr fz_all h h := fz_fr_rf
  refine fz_aload_n kLc28 rfl rfl ?_
  refine fz_aload_n kLc28 rfl rfl ?_
  refine fz_iload_n kLc28 rfl rfl ?_
  refine fz_iconst ⟨by decide, by decide⟩ kLc28 rfl ?_
  refine fz_iaddN kLc28 rfl (by omega) ?_
  obtain ⟨a1, e2⟩ : ∃ z, h 200 ((i + 1)).toNat = z := ⟨_, rfl⟩
  refine fz_taldV (v := a1) kLc28 rfl ⟨by decide, by decide⟩ (by omega) (by omega) e2 ?_
  refine fz_aload_n kLc28 rfl rfl ?_
  refine fz_iload_n kLc28 rfl rfl ?_
  refine fz_iconst ⟨by decide, by decide⟩ kLc28 rfl ?_
  refine fz_iaddN kLc28 rfl (by omega) ?_
  obtain ⟨a3, e4⟩ : ∃ z, h 200 ((i + 2)).toNat = z := ⟨_, rfl⟩
  refine fz_taldV (v := a3) kLc28 rfl ⟨by decide, by decide⟩ (by omega) (by omega) e4 ?_
  have b5 : 0 ≤ h 1 7 ∧ h 1 7 ≤ 8 := hI.1 1 _
  have b6 : 0 ≤ h 9 5 ∧ h 9 5 ≤ 10 := hI.1 9 _
  have b7 : 0 ≤ h 40 1 ∧ h 40 1 ≤ 999 := hI.1 40 _
  refine fz_callV (d' := 2) (M' := mX10_does) (As := [fz_i a1, fz_i a3]) (st := []) kLc28 rfl rfl vX10_does rfl rfl rfl rfl (Nat.le_of_ble_eq_true rfl) (Nat.le_of_ble_eq_true rfl) (by decide) (sX10_does h hI a1 a3 ) (fun H8 r9 q10 o11 => ?_)
  obtain ⟨hI12, hf13, y17, rfl, f14, f15, f16⟩ := q10
  clear o11
  have hf18 := fz_fr_tr hf hf13 (fz_su_all rfl)
  have hXd19 : fz_Xd H8 := fz_Xd_eq (funext fun s => hf13 80 s rfl) hXd
  have hXh20 : fz_Xh H8 := fz_Xh_eq (funext fun s => hf13 83 s rfl) hXh
  have hXw21 : fz_Xw H8 := fz_Xw_eq (hf13 53 19 rfl) (funext fun s => hf13 66 s rfl) (funext fun s => hf13 67 s rfl) (funext fun s => hf13 68 s rfl) (funext fun s => hf13 69 s rfl) hXw
  have hRS22 : fz_RS H8 := fz_RS_eq (funext fun s => hf13 48 s rfl) (funext fun s => hf13 49 s rfl) (funext fun s => hf13 50 s rfl) (funext fun s => hf13 51 s rfl) (funext fun s => hf13 83 s rfl) (funext fun s => hf13 84 s rfl) (hf13 44 2 rfl) hRS
  have hRP23 : fz_RP H8 := fz_RP_eq (funext fun s => hf13 52 s rfl) (funext fun s => hf13 85 s rfl) hRP
  have hRK24 : fz_RK H8 := fz_RK_eq (funext fun s => hf13 45 s rfl) (funext fun s => hf13 81 s rfl) hRK
  have hRR25 : fz_RR H8 := fz_RR_eq (hf13 44 3 rfl) (hf13 53 46 rfl) (funext fun s => hf13 46 s rfl) (funext fun s => hf13 82 s rfl) hRR
  have hRT26 : fz_RT H8 := fz_RT_eq (funext fun s => hf13 41 s rfl) (funext fun s => hf13 42 s rfl) (hf13 1 7 rfl) hRT
  have hRE27 : fz_RE H8 := fz_RE_eq (funext fun s => hf13 5 s rfl) (funext fun s => hf13 6 s rfl) (hf13 1 8 rfl) (hf13 1 7 rfl) hRE
  have hR228 : fz_R2 H8 := fz_R2_eq (funext fun s => hf13 2 s rfl) (funext fun s => hf13 54 s rfl) hR2
  have hR329 : fz_R3 H8 := fz_R3_eq (funext fun s => hf13 3 s rfl) (funext fun s => hf13 57 s rfl) hR3
  have hR430 : fz_R4 H8 := fz_R4_eq (funext fun s => hf13 4 s rfl) (funext fun s => hf13 58 s rfl) hR4
  have hR2831 : fz_R28 H8 := fz_R28_eq (funext fun s => hf13 28 s rfl) (funext fun s => hf13 59 s rfl) hR28
  have hR532 : fz_R5 H8 := fz_R5_eq (funext fun s => hf13 5 s rfl) (funext fun s => hf13 55 s rfl) hR5
  have hR633 : fz_R6 H8 := fz_R6_eq (funext fun s => hf13 6 s rfl) (funext fun s => hf13 56 s rfl) hR6
  have hRG34 : fz_RG H8 := fz_RG_eq (hf13 27 8 rfl) (hf13 27 9 rfl) (hf13 53 8 rfl) (hf13 53 9 rfl) hRG
  have hRJ35 : fz_RJ H8 := fz_RJ_eq (hf13 40 1 rfl) (hf13 53 34 rfl) (funext fun s => hf13 41 s rfl) (funext fun s => hf13 76 s rfl) (hf13 40 6 rfl) (hf13 53 37 rfl) (funext fun s => hf13 42 s rfl) (funext fun s => hf13 78 s rfl) (hf13 43 0 rfl) (hf13 53 38 rfl) hRJ
  have hX36 : fz_Xc H8 := fz_Xc_fr hf13 rfl hX
  have t37 : H8 53 10 = h 53 10 := hf13 53 10 rfl
  have t38 : H8 53 41 = h 53 41 := hf13 53 41 rfl
  have t39 : H8 53 42 = h 53 42 := hf13 53 42 rfl
  have t40 : H8 53 10 = h 53 10 := hf13 53 10 rfl
  have t41 : H8 44 2 = h 44 2 := hf13 44 2 rfl
  have t42 : H8 53 44 = h 53 44 := hf13 53 44 rfl
  have t43 : H8 20 2 = h 20 2 := hf13 20 2 rfl
  have t44 : H8 53 16 = h 53 16 := hf13 53 16 rfl
  have t45 : H8 1 7 = h 1 7 := hf13 1 7 rfl
  have t46 : H8 53 0 = h 53 0 := hf13 53 0 rfl
  have t47 : H8 1 8 = h 1 8 := hf13 1 8 rfl
  have t48 : H8 53 2 = h 53 2 := hf13 53 2 rfl
  refine fz_pop rfl kLc28 rfl ?_
  refine fz_aload_n kLc28 rfl rfl ?_
  refine fz_aload_n kLc28 rfl rfl ?_
  refine fz_iload_n kLc28 rfl rfl ?_
  refine fz_iconst ⟨by decide, by decide⟩ kLc28 rfl ?_
  refine fz_iaddN kLc28 rfl (by omega) ?_
  refine fz_taldV (v := a1) kLc28 rfl ⟨by decide, by decide⟩ (by omega) (by rw [hf18 200 _ rfl]; omega) ((hf18 200 _ rfl).trans e2) ?_
  refine fz_aload_n kLc28 rfl rfl ?_
  refine fz_iload_n kLc28 rfl rfl ?_
  refine fz_iconst ⟨by decide, by decide⟩ kLc28 rfl ?_
  refine fz_iaddN kLc28 rfl (by omega) ?_
  refine fz_taldV (v := a3) kLc28 rfl ⟨by decide, by decide⟩ (by omega) (by rw [hf18 200 _ rfl]; omega) ((hf18 200 _ rfl).trans e4) ?_
  have b49 : 0 ≤ H8 53 10 ∧ H8 53 10 ≤ 11 := hI12.1 53 _
  have b50 : 0 ≤ H8 53 0 ∧ H8 53 0 ≤ 8 := hI12.1 53 _
  have b51 : 0 ≤ H8 53 34 ∧ H8 53 34 ≤ 999 := hI12.1 53 _
  refine fz_callV (d' := 3) (M' := mX11_does) (As := [fz_i a1, fz_i a3]) (st := []) kLc28 rfl rfl vX11_does rfl rfl rfl rfl (Nat.le_of_ble_eq_true rfl) (Nat.le_of_ble_eq_true rfl) (by decide) (sX11_does H8 hI12 a1 a3 (by omega)) (fun H52 r53 q54 o55 => ?_)
  obtain ⟨hI56, hf57, y62, rfl, f58, f59, f60, f61⟩ := q54
  clear o55
  have hf63 := fz_fr_tr hf18 hf57 (fz_su_all rfl)
  have hXd64 : fz_Xd H52 := fz_Xd_eq (funext fun s => hf57 80 s rfl) hXd19
  have hXh65 : fz_Xh H52 := fz_Xh_eq (funext fun s => hf57 83 s rfl) hXh20
  have hXw66 : fz_Xw H52 := fz_Xw_eq (hf57 53 19 rfl) (funext fun s => hf57 66 s rfl) (funext fun s => hf57 67 s rfl) (funext fun s => hf57 68 s rfl) (funext fun s => hf57 69 s rfl) hXw21
  have hRS67 : fz_RS H52 := fz_RS_eq (funext fun s => hf57 48 s rfl) (funext fun s => hf57 49 s rfl) (funext fun s => hf57 50 s rfl) (funext fun s => hf57 51 s rfl) (funext fun s => hf57 83 s rfl) (funext fun s => hf57 84 s rfl) (hf57 44 2 rfl) hRS22
  have hRP68 : fz_RP H52 := fz_RP_eq (funext fun s => hf57 52 s rfl) (funext fun s => hf57 85 s rfl) hRP23
  have hRK69 : fz_RK H52 := fz_RK_eq (funext fun s => hf57 45 s rfl) (funext fun s => hf57 81 s rfl) hRK24
  have hRR70 : fz_RR H52 := fz_RR_eq (hf57 44 3 rfl) (hf57 53 46 rfl) (funext fun s => hf57 46 s rfl) (funext fun s => hf57 82 s rfl) hRR25
  have hRT71 : fz_RT H52 := fz_RT_eq (funext fun s => hf57 41 s rfl) (funext fun s => hf57 42 s rfl) (hf57 1 7 rfl) hRT26
  have hRE72 : fz_RE H52 := fz_RE_eq (funext fun s => hf57 5 s rfl) (funext fun s => hf57 6 s rfl) (hf57 1 8 rfl) (hf57 1 7 rfl) hRE27
  have hR273 : fz_R2 H52 := fz_R2_eq (funext fun s => hf57 2 s rfl) (funext fun s => hf57 54 s rfl) hR228
  have hR374 : fz_R3 H52 := fz_R3_eq (funext fun s => hf57 3 s rfl) (funext fun s => hf57 57 s rfl) hR329
  have hR475 : fz_R4 H52 := fz_R4_eq (funext fun s => hf57 4 s rfl) (funext fun s => hf57 58 s rfl) hR430
  have hR2876 : fz_R28 H52 := fz_R28_eq (funext fun s => hf57 28 s rfl) (funext fun s => hf57 59 s rfl) hR2831
  have hR577 : fz_R5 H52 := fz_R5_eq (funext fun s => hf57 5 s rfl) (funext fun s => hf57 55 s rfl) hR532
  have hR678 : fz_R6 H52 := fz_R6_eq (funext fun s => hf57 6 s rfl) (funext fun s => hf57 56 s rfl) hR633
  have hRG79 : fz_RG H52 := fz_RG_eq (hf57 27 8 rfl) (hf57 27 9 rfl) (hf57 53 8 rfl) (hf57 53 9 rfl) hRG34
  have hRJ80 : fz_RJ H52 := fz_RJ_eq (hf57 40 1 rfl) (hf57 53 34 rfl) (funext fun s => hf57 41 s rfl) (funext fun s => hf57 76 s rfl) (hf57 40 6 rfl) (hf57 53 37 rfl) (funext fun s => hf57 42 s rfl) (funext fun s => hf57 78 s rfl) (hf57 43 0 rfl) (hf57 53 38 rfl) hRJ35
  have hX81 : fz_Xc H52 := fz_Xc_fr hf57 rfl hX36
  have t82 : H52 53 41 = H8 53 41 := hf57 53 41 rfl
  have t83 : H52 53 42 = H8 53 42 := hf57 53 42 rfl
  have t84 : H52 9 5 = H8 9 5 := hf57 9 5 rfl
  have t85 : H52 44 2 = H8 44 2 := hf57 44 2 rfl
  have t86 : H52 53 44 = H8 53 44 := hf57 53 44 rfl
  have t87 : H52 20 2 = H8 20 2 := hf57 20 2 rfl
  have t88 : H52 53 16 = H8 53 16 := hf57 53 16 rfl
  have t89 : H52 1 7 = H8 1 7 := hf57 1 7 rfl
  have t90 : H52 53 0 = H8 53 0 := hf57 53 0 rfl
  have t91 : H52 1 8 = H8 1 8 := hf57 1 8 rfl
  have t92 : H52 53 2 = H8 53 2 := hf57 53 2 rfl
  refine fz_pop rfl kLc28 rfl ?_
  refine fz_goto (tgt := 1816) kLc28 rfl (by decide) ?_
  have k93 : 0 ≤ a1 ∧ a1 ≤ 39 → _ := fun z => fz_RT_i hRT (x := a1 / 10) (by omega)
  have k94 : 0 ≤ h 41 (a1 / 10).toNat ∧ h 41 (a1 / 10).toNat ≤ 7 := hI.1 41 _
  have hRL95 : fz_RL H52 := fz_RL_ap hRL f16 f61 (by omega) ⟨(funext fun s => hf13 61 s rfl), (funext fun s => hf13 62 s rfl), (funext fun s => hf13 63 s rfl), (funext fun s => hf13 64 s rfl)⟩ ⟨(funext fun s => hf57 11 s rfl), (funext fun s => hf57 12 s rfl), (funext fun s => hf57 13 s rfl), (funext fun s => hf57 14 s rfl)⟩ (by omega) (by omega) (show 0 ≤ h 9 5 from (hI.1 9 _).1) (fun _ _ _ => fz_doe (show h 41 _ = H8 76 _ from congrFun (hRJ.2.1.trans (funext fun s => hf13 76 s rfl).symm) _) (show h 40 1 = H8 53 34 from hRJ.1.trans (hf13 53 34 rfl).symm))
  have hRW97 : fz_RW H52 := fz_RW_ap hRW f16 f61 (by omega) (funext fun s => hf13 60 s rfl) (funext fun s => hf57 10 s rfl) (by omega) (by omega) (show 0 ≤ h 9 5 from (hI.1 9 _).1) (fun _ _ _ => fz_doe (show h 41 _ = H8 76 _ from congrFun (hRJ.2.1.trans (funext fun s => hf13 76 s rfl).symm) _) (show h 40 1 = H8 53 34 from hRJ.1.trans (hf13 53 34 rfl).symm))
  have hRC99 : fz_RC H52 := fz_RC_t ((hf57 35 4 rfl).trans (hf13 35 4 rfl)) ((hf57 35 5 rfl).trans (hf13 35 5 rfl)) ((hf57 53 41 rfl).trans (hf13 53 41 rfl)) ((hf57 53 42 rfl).trans (hf13 53 42 rfl)) (funext fun s => (hf57 36 s rfl).trans (hf13 36 s rfl)) (funext fun s => (hf57 37 s rfl).trans (hf13 37 s rfl)) (funext fun s => (hf57 38 s rfl).trans (hf13 38 s rfl)) (funext fun s => (hf57 39 s rfl).trans (hf13 39 s rfl)) (funext fun s => (hf57 80 s rfl).trans (hf13 80 s rfl)) (by omega) (by omega) (by omega) hRC
  exact K H52 ⟨hI56, hX81, hXd64, hXh65, hXw66, by omega, (by rw [((hf57 53 42 rfl).trans (hf13 53 42 rfl)), ((hf57 53 41 rfl).trans (hf13 53 41 rfl))]; exact hv2), by omega, (((hf57 44 2 rfl).trans (hf13 44 2 rfl)).trans (hr1.trans ((hf57 53 44 rfl).trans (hf13 53 44 rfl)).symm)), (((hf57 20 2 rfl).trans (hf13 20 2 rfl)).trans (hr2.trans ((hf57 53 16 rfl).trans (hf13 53 16 rfl)).symm)), (((hf57 1 7 rfl).trans (hf13 1 7 rfl)).trans (hr3.trans ((hf57 53 0 rfl).trans (hf13 53 0 rfl)).symm)), (((hf57 1 8 rfl).trans (hf13 1 8 rfl)).trans (hr4.trans ((hf57 53 2 rfl).trans (hf13 53 2 rfl)).symm)), hRS67, hRP68, hRK69, hRR70, hRT71, hRE72, hR273, hR374, hR475, hR2876, hR577, hR678, hRG79, hRL95, hRC99, hRJ80, hRW97⟩ (funext fun s => hf63 200 s rfl)
def mLc29 : fz_M := (yL_law, code, 4, (some .boolean), [(1351, .aload_n 1, 1, 0, 0, 0), (1352, .aload_n 0, 1, 0, 0, 0), (1353, .iload_n 3, 1, 0, 0, 0), (1354, .iconst 1, 1, 0, 0, 0), (1355, .iadd, 1, 0, 0, 0), (1356, .iaload, 1, 0, 0, 0), (1357, .invokevirtual 135, 3, 4171, 54, 0), (1360, .pop, 1, 0, 0, 0), (1361, .aload_n 2, 1, 0, 0, 0), (1362, .aload_n 0, 1, 0, 0, 0), (1363, .iload_n 3, 1, 0, 0, 0), (1364, .iconst 1, 1, 0, 0, 0), (1365, .iadd, 1, 0, 0, 0), (1366, .iaload, 1, 0, 0, 0), (1367, .invokevirtual 138, 3, 7121, 146, 0), (1370, .pop, 1, 0, 0, 0), (1371, .goto 445, 3, 0, 0, 0)])
set_option maxRecDepth 100000 in
theorem kLc29 : fz_okM mLc29 = true := fz_okM_in (by decide +kernel) (by decide +kernel)
set_option maxHeartbeats 1000000 in
set_option maxRecDepth 100000 in
theorem lc29 (h : fz_H) (hI : fz_Iv h) (hX : fz_Xc h) (hXd : fz_Xd h) (hXh : fz_Xh h) (hXw : fz_Xw h) (hv1 : h 53 10 ≤ 10) (hv2 : h 53 42 ≤ h 53 41) (hr0 : h 9 5 = h 53 10) (hr1 : h 44 2 = h 53 44) (hr2 : h 20 2 = h 53 16) (hr3 : h 1 7 = h 53 0) (hr4 : h 1 8 = h 53 2) (hRS : fz_RS h) (hRP : fz_RP h) (hRK : fz_RK h) (hRR : fz_RR h) (hRT : fz_RT h) (hRE : fz_RE h) (hR2 : fz_R2 h) (hR3 : fz_R3 h) (hR4 : fz_R4 h) (hR28 : fz_R28 h) (hR5 : fz_R5 h) (hR6 : fz_R6 h) (hRG : fz_RG h) (hRL : fz_RL h) (hRC : fz_RC h) (hRJ : fz_RJ h) (hRW : fz_RW h) (i : Int) (hi : 0 ≤ i ∧ i + 6 ≤ h 200 100000 ∧ h 200 100000 ≤ 3072) {Q : fz_H → Option fz_V → Prop} (K : ∀ H : fz_H, fz_Gd H → H 200 = h 200 → fz_R 47 mLe 1816 [(3, fz_i i), (0, fz_r 200), (1, fz_r 0), (2, fz_r 53)] [] H Q) : fz_R 47 mLc29 1351 [(3, fz_i i), (0, fz_r 200), (1, fz_r 0), (2, fz_r 53)] [] h Q := by
  have hf : fz_fr fz_all h h := fz_fr_rf
  refine fz_aload_n kLc29 rfl rfl ?_
  refine fz_aload_n kLc29 rfl rfl ?_
  refine fz_iload_n kLc29 rfl rfl ?_
  refine fz_iconst ⟨by decide, by decide⟩ kLc29 rfl ?_
  refine fz_iaddN kLc29 rfl (by omega) ?_
  obtain ⟨a1, e2⟩ : ∃ z, h 200 ((i + 1)).toNat = z := ⟨_, rfl⟩
  refine fz_taldV (v := a1) kLc29 rfl ⟨by decide, by decide⟩ (by omega) (by omega) e2 ?_
  refine fz_callV (d' := 0) (M' := mX10_led) (As := [fz_i a1]) (st := []) kLc29 rfl rfl vX10_led rfl rfl rfl rfl (Nat.le_of_ble_eq_true rfl) (Nat.le_of_ble_eq_true rfl) (by decide) (sX10_led h hI a1 ) (fun H3 r4 q5 o6 => ?_)
  obtain ⟨e7, y9, rfl, f8⟩ := q5
  subst H3
  clear o6
  refine fz_pop rfl kLc29 rfl ?_
  refine fz_aload_n kLc29 rfl rfl ?_
  refine fz_aload_n kLc29 rfl rfl ?_
  refine fz_iload_n kLc29 rfl rfl ?_
  refine fz_iconst ⟨by decide, by decide⟩ kLc29 rfl ?_
  refine fz_iaddN kLc29 rfl (by omega) ?_
  refine fz_taldV (v := a1) kLc29 rfl ⟨by decide, by decide⟩ (by omega) (by omega) e2 ?_
  refine fz_callV (d' := 1) (M' := mX11_led) (As := [fz_i a1]) (st := []) kLc29 rfl rfl vX11_led rfl rfl rfl rfl (Nat.le_of_ble_eq_true rfl) (Nat.le_of_ble_eq_true rfl) (by decide) (sX11_led h hI a1 ) (fun H10 r11 q12 o13 => ?_)
  obtain ⟨e14, y16, rfl, f15⟩ := q12
  subst H10
  clear o13
  refine fz_pop rfl kLc29 rfl ?_
  refine fz_goto (tgt := 1816) kLc29 rfl (by decide) ?_
  exact K h ⟨hI, hX, hXd, hXh, hXw, hv1, hv2, hr0, hr1, hr2, hr3, hr4, hRS, hRP, hRK, hRR, hRT, hRE, hR2, hR3, hR4, hR28, hR5, hR6, hRG, hRL, hRC, hRJ, hRW⟩ rfl
def mLc30 : fz_M := (yL_law, code, 4, (some .boolean), [(1374, .aload_n 1, 1, 0, 0, 0), (1375, .invokevirtual 139, 3, 4175, 39, 0), (1378, .pop, 1, 0, 0, 0), (1379, .aload_n 2, 1, 0, 0, 0), (1380, .invokevirtual 142, 3, 7125, 114, 0), (1383, .pop, 1, 0, 0, 0), (1384, .goto 432, 3, 0, 0, 0)])
set_option maxRecDepth 100000 in
theorem kLc30 : fz_okM mLc30 = true := fz_okM_in (by decide +kernel) (by decide +kernel)
set_option maxHeartbeats 1000000 in
set_option maxRecDepth 100000 in
theorem lc30 (h : fz_H) (hI : fz_Iv h) (hX : fz_Xc h) (hXd : fz_Xd h) (hXh : fz_Xh h) (hXw : fz_Xw h) (hv1 : h 53 10 ≤ 10) (hv2 : h 53 42 ≤ h 53 41) (hr0 : h 9 5 = h 53 10) (hr1 : h 44 2 = h 53 44) (hr2 : h 20 2 = h 53 16) (hr3 : h 1 7 = h 53 0) (hr4 : h 1 8 = h 53 2) (hRS : fz_RS h) (hRP : fz_RP h) (hRK : fz_RK h) (hRR : fz_RR h) (hRT : fz_RT h) (hRE : fz_RE h) (hR2 : fz_R2 h) (hR3 : fz_R3 h) (hR4 : fz_R4 h) (hR28 : fz_R28 h) (hR5 : fz_R5 h) (hR6 : fz_R6 h) (hRG : fz_RG h) (hRL : fz_RL h) (hRC : fz_RC h) (hRJ : fz_RJ h) (hRW : fz_RW h) (i : Int) (hi : 0 ≤ i ∧ i + 6 ≤ h 200 100000 ∧ h 200 100000 ≤ 3072) {Q : fz_H → Option fz_V → Prop} (K : ∀ H : fz_H, fz_Gd H → H 200 = h 200 → fz_R 47 mLe 1816 [(3, fz_i i), (0, fz_r 200), (1, fz_r 0), (2, fz_r 53)] [] H Q) : fz_R 47 mLc30 1374 [(3, fz_i i), (0, fz_r 200), (1, fz_r 0), (2, fz_r 53)] [] h Q := by
  have hf : fz_fr fz_all h h := fz_fr_rf
  refine fz_aload_n kLc30 rfl rfl ?_
  have b1 : 0 ≤ h 40 1 ∧ h 40 1 ≤ 999 := hI.1 40 _
  refine fz_callV (d' := 2) (M' := mX10_image) (As := []) (st := []) kLc30 rfl rfl vX10_image rfl rfl rfl rfl (Nat.le_of_ble_eq_true rfl) (Nat.le_of_ble_eq_true rfl) (by decide) (sX10_image h hI  hRT) (fun H2 r3 q4 o5 => ?_)
  obtain ⟨hI6, hf7, hRT8, y12, rfl, f9, f10, f11⟩ := q4
  clear o5
  have hf13 := fz_fr_tr hf hf7 (fz_su_all rfl)
  have hXd14 : fz_Xd H2 := fz_Xd_eq (funext fun s => hf7 80 s rfl) hXd
  have hXh15 : fz_Xh H2 := fz_Xh_eq (funext fun s => hf7 83 s rfl) hXh
  have hXw16 : fz_Xw H2 := fz_Xw_eq (hf7 53 19 rfl) (funext fun s => hf7 66 s rfl) (funext fun s => hf7 67 s rfl) (funext fun s => hf7 68 s rfl) (funext fun s => hf7 69 s rfl) hXw
  have hRS17 : fz_RS H2 := fz_RS_eq (funext fun s => hf7 48 s rfl) (funext fun s => hf7 49 s rfl) (funext fun s => hf7 50 s rfl) (funext fun s => hf7 51 s rfl) (funext fun s => hf7 83 s rfl) (funext fun s => hf7 84 s rfl) (hf7 44 2 rfl) hRS
  have hRP18 : fz_RP H2 := fz_RP_eq (funext fun s => hf7 52 s rfl) (funext fun s => hf7 85 s rfl) hRP
  have hRK19 : fz_RK H2 := fz_RK_eq (funext fun s => hf7 45 s rfl) (funext fun s => hf7 81 s rfl) hRK
  have hRR20 : fz_RR H2 := fz_RR_eq (hf7 44 3 rfl) (hf7 53 46 rfl) (funext fun s => hf7 46 s rfl) (funext fun s => hf7 82 s rfl) hRR
  have hRE21 : fz_RE H2 := fz_RE_eq (funext fun s => hf7 5 s rfl) (funext fun s => hf7 6 s rfl) (hf7 1 8 rfl) (hf7 1 7 rfl) hRE
  have hR222 : fz_R2 H2 := fz_R2_eq (funext fun s => hf7 2 s rfl) (funext fun s => hf7 54 s rfl) hR2
  have hR323 : fz_R3 H2 := fz_R3_eq (funext fun s => hf7 3 s rfl) (funext fun s => hf7 57 s rfl) hR3
  have hR424 : fz_R4 H2 := fz_R4_eq (funext fun s => hf7 4 s rfl) (funext fun s => hf7 58 s rfl) hR4
  have hR2825 : fz_R28 H2 := fz_R28_eq (funext fun s => hf7 28 s rfl) (funext fun s => hf7 59 s rfl) hR28
  have hR526 : fz_R5 H2 := fz_R5_eq (funext fun s => hf7 5 s rfl) (funext fun s => hf7 55 s rfl) hR5
  have hR627 : fz_R6 H2 := fz_R6_eq (funext fun s => hf7 6 s rfl) (funext fun s => hf7 56 s rfl) hR6
  have hRG28 : fz_RG H2 := fz_RG_eq (hf7 27 8 rfl) (hf7 27 9 rfl) (hf7 53 8 rfl) (hf7 53 9 rfl) hRG
  have hRL29 : fz_RL H2 := fz_RL_eq (funext fun s => hf7 11 s rfl) (funext fun s => hf7 12 s rfl) (funext fun s => hf7 13 s rfl) (funext fun s => hf7 14 s rfl) (funext fun s => hf7 61 s rfl) (funext fun s => hf7 62 s rfl) (funext fun s => hf7 63 s rfl) (funext fun s => hf7 64 s rfl) (hf7 9 5 rfl) hRL
  have hRC30 : fz_RC H2 := fz_RC_eq (hf7 35 4 rfl) (hf7 35 5 rfl) (hf7 53 41 rfl) (hf7 53 42 rfl) (funext fun s => hf7 36 s rfl) (funext fun s => hf7 37 s rfl) (funext fun s => hf7 38 s rfl) (funext fun s => hf7 39 s rfl) (funext fun s => hf7 80 s rfl) (hf7 1 7 rfl) (hf7 1 8 rfl) (hf7 9 5 rfl) hRC
  have hRW31 : fz_RW H2 := fz_RW_eq (funext fun s => hf7 10 s rfl) (funext fun s => hf7 60 s rfl) (hf7 9 5 rfl) hRW
  have hX32 : fz_Xc H2 := fz_Xc_fr hf7 rfl hX
  have t33 : H2 53 10 = h 53 10 := hf7 53 10 rfl
  have t34 : H2 53 41 = h 53 41 := hf7 53 41 rfl
  have t35 : H2 53 42 = h 53 42 := hf7 53 42 rfl
  have t36 : H2 9 5 = h 9 5 := hf7 9 5 rfl
  have t37 : H2 53 10 = h 53 10 := hf7 53 10 rfl
  have t38 : H2 44 2 = h 44 2 := hf7 44 2 rfl
  have t39 : H2 53 44 = h 53 44 := hf7 53 44 rfl
  have t40 : H2 20 2 = h 20 2 := hf7 20 2 rfl
  have t41 : H2 53 16 = h 53 16 := hf7 53 16 rfl
  have t42 : H2 1 7 = h 1 7 := hf7 1 7 rfl
  have t43 : H2 53 0 = h 53 0 := hf7 53 0 rfl
  have t44 : H2 1 8 = h 1 8 := hf7 1 8 rfl
  have t45 : H2 53 2 = h 53 2 := hf7 53 2 rfl
  refine fz_pop rfl kLc30 rfl ?_
  refine fz_aload_n kLc30 rfl rfl ?_
  have b46 : 0 ≤ H2 53 34 ∧ H2 53 34 ≤ 999 := hI6.1 53 _
  refine fz_callV (d' := 0) (M' := mX11_image) (As := []) (st := []) kLc30 rfl rfl vX11_image rfl rfl rfl rfl (Nat.le_of_ble_eq_true rfl) (Nat.le_of_ble_eq_true rfl) (by decide) (sX11_image H2 hI6  ) (fun H47 r48 q49 o50 => ?_)
  obtain ⟨hI51, hf52, y56, rfl, f53, f54, f55⟩ := q49
  clear o50
  have hf57 := fz_fr_tr hf13 hf52 (fz_su_all rfl)
  have hXd58 : fz_Xd H47 := fz_Xd_eq (funext fun s => hf52 80 s rfl) hXd14
  have hXh59 : fz_Xh H47 := fz_Xh_eq (funext fun s => hf52 83 s rfl) hXh15
  have hXw60 : fz_Xw H47 := fz_Xw_eq (hf52 53 19 rfl) (funext fun s => hf52 66 s rfl) (funext fun s => hf52 67 s rfl) (funext fun s => hf52 68 s rfl) (funext fun s => hf52 69 s rfl) hXw16
  have hRS61 : fz_RS H47 := fz_RS_eq (funext fun s => hf52 48 s rfl) (funext fun s => hf52 49 s rfl) (funext fun s => hf52 50 s rfl) (funext fun s => hf52 51 s rfl) (funext fun s => hf52 83 s rfl) (funext fun s => hf52 84 s rfl) (hf52 44 2 rfl) hRS17
  have hRP62 : fz_RP H47 := fz_RP_eq (funext fun s => hf52 52 s rfl) (funext fun s => hf52 85 s rfl) hRP18
  have hRK63 : fz_RK H47 := fz_RK_eq (funext fun s => hf52 45 s rfl) (funext fun s => hf52 81 s rfl) hRK19
  have hRR64 : fz_RR H47 := fz_RR_eq (hf52 44 3 rfl) (hf52 53 46 rfl) (funext fun s => hf52 46 s rfl) (funext fun s => hf52 82 s rfl) hRR20
  have hRT65 : fz_RT H47 := fz_RT_eq (funext fun s => hf52 41 s rfl) (funext fun s => hf52 42 s rfl) (hf52 1 7 rfl) hRT8
  have hRE66 : fz_RE H47 := fz_RE_eq (funext fun s => hf52 5 s rfl) (funext fun s => hf52 6 s rfl) (hf52 1 8 rfl) (hf52 1 7 rfl) hRE21
  have hR267 : fz_R2 H47 := fz_R2_eq (funext fun s => hf52 2 s rfl) (funext fun s => hf52 54 s rfl) hR222
  have hR368 : fz_R3 H47 := fz_R3_eq (funext fun s => hf52 3 s rfl) (funext fun s => hf52 57 s rfl) hR323
  have hR469 : fz_R4 H47 := fz_R4_eq (funext fun s => hf52 4 s rfl) (funext fun s => hf52 58 s rfl) hR424
  have hR2870 : fz_R28 H47 := fz_R28_eq (funext fun s => hf52 28 s rfl) (funext fun s => hf52 59 s rfl) hR2825
  have hR571 : fz_R5 H47 := fz_R5_eq (funext fun s => hf52 5 s rfl) (funext fun s => hf52 55 s rfl) hR526
  have hR672 : fz_R6 H47 := fz_R6_eq (funext fun s => hf52 6 s rfl) (funext fun s => hf52 56 s rfl) hR627
  have hRG73 : fz_RG H47 := fz_RG_eq (hf52 27 8 rfl) (hf52 27 9 rfl) (hf52 53 8 rfl) (hf52 53 9 rfl) hRG28
  have hRL74 : fz_RL H47 := fz_RL_eq (funext fun s => hf52 11 s rfl) (funext fun s => hf52 12 s rfl) (funext fun s => hf52 13 s rfl) (funext fun s => hf52 14 s rfl) (funext fun s => hf52 61 s rfl) (funext fun s => hf52 62 s rfl) (funext fun s => hf52 63 s rfl) (funext fun s => hf52 64 s rfl) (hf52 9 5 rfl) hRL29
  have hRC75 : fz_RC H47 := fz_RC_eq (hf52 35 4 rfl) (hf52 35 5 rfl) (hf52 53 41 rfl) (hf52 53 42 rfl) (funext fun s => hf52 36 s rfl) (funext fun s => hf52 37 s rfl) (funext fun s => hf52 38 s rfl) (funext fun s => hf52 39 s rfl) (funext fun s => hf52 80 s rfl) (hf52 1 7 rfl) (hf52 1 8 rfl) (hf52 9 5 rfl) hRC30
  have hRW76 : fz_RW H47 := fz_RW_eq (funext fun s => hf52 10 s rfl) (funext fun s => hf52 60 s rfl) (hf52 9 5 rfl) hRW31
  have hX77 : fz_Xc H47 := fz_Xc_fr hf52 rfl hX32
  have t78 : H47 53 10 = H2 53 10 := hf52 53 10 rfl
  have t79 : H47 53 41 = H2 53 41 := hf52 53 41 rfl
  have t80 : H47 53 42 = H2 53 42 := hf52 53 42 rfl
  have t81 : H47 9 5 = H2 9 5 := hf52 9 5 rfl
  have t82 : H47 53 10 = H2 53 10 := hf52 53 10 rfl
  have t83 : H47 44 2 = H2 44 2 := hf52 44 2 rfl
  have t84 : H47 53 44 = H2 53 44 := hf52 53 44 rfl
  have t85 : H47 20 2 = H2 20 2 := hf52 20 2 rfl
  have t86 : H47 53 16 = H2 53 16 := hf52 53 16 rfl
  have t87 : H47 1 7 = H2 1 7 := hf52 1 7 rfl
  have t88 : H47 53 0 = H2 53 0 := hf52 53 0 rfl
  have t89 : H47 1 8 = H2 1 8 := hf52 1 8 rfl
  have t90 : H47 53 2 = H2 53 2 := hf52 53 2 rfl
  refine fz_pop rfl kLc30 rfl ?_
  refine fz_goto (tgt := 1816) kLc30 rfl (by decide) ?_
  have hRJ91 : fz_RJ H47 := fz_image_rel hRJ f11 f55 (fz_fr_lo hf7 rfl) (fz_fr_hi hf52 rfl)
  exact K H47 ⟨hI51, hX77, hXd58, hXh59, hXw60, (by rw [((hf52 53 10 rfl).trans (hf7 53 10 rfl))]; exact hv1), (by rw [((hf52 53 42 rfl).trans (hf7 53 42 rfl)), ((hf52 53 41 rfl).trans (hf7 53 41 rfl))]; exact hv2), (((hf52 9 5 rfl).trans (hf7 9 5 rfl)).trans (hr0.trans ((hf52 53 10 rfl).trans (hf7 53 10 rfl)).symm)), (((hf52 44 2 rfl).trans (hf7 44 2 rfl)).trans (hr1.trans ((hf52 53 44 rfl).trans (hf7 53 44 rfl)).symm)), (((hf52 20 2 rfl).trans (hf7 20 2 rfl)).trans (hr2.trans ((hf52 53 16 rfl).trans (hf7 53 16 rfl)).symm)), (((hf52 1 7 rfl).trans (hf7 1 7 rfl)).trans (hr3.trans ((hf52 53 0 rfl).trans (hf7 53 0 rfl)).symm)), (((hf52 1 8 rfl).trans (hf7 1 8 rfl)).trans (hr4.trans ((hf52 53 2 rfl).trans (hf7 53 2 rfl)).symm)), hRS61, hRP62, hRK63, hRR64, hRT65, hRE66, hR267, hR368, hR469, hR2870, hR571, hR672, hRG73, hRL74, hRC75, hRJ91, hRW76⟩ (funext fun s => hf57 200 s rfl)
def mLc31 : fz_M := (yL_law, code, 4, (some .boolean), [(1387, .aload_n 1, 1, 0, 0, 0), (1388, .invokevirtual 143, 3, 4184, 19, 0), (1391, .pop, 1, 0, 0, 0), (1392, .aload_n 2, 1, 0, 0, 0), (1393, .invokevirtual 146, 3, 7129, 86, 0), (1396, .pop, 1, 0, 0, 0), (1397, .goto 419, 3, 0, 0, 0)])
set_option maxRecDepth 100000 in
theorem kLc31 : fz_okM mLc31 = true := fz_okM_in (by decide +kernel) (by decide +kernel)
set_option maxHeartbeats 1000000 in
set_option maxRecDepth 100000 in
theorem lc31 (h : fz_H) (hI : fz_Iv h) (hX : fz_Xc h) (hXd : fz_Xd h) (hXh : fz_Xh h) (hXw : fz_Xw h) (hv1 : h 53 10 ≤ 10) (hv2 : h 53 42 ≤ h 53 41) (hr0 : h 9 5 = h 53 10) (hr1 : h 44 2 = h 53 44) (hr2 : h 20 2 = h 53 16) (hr3 : h 1 7 = h 53 0) (hr4 : h 1 8 = h 53 2) (hRS : fz_RS h) (hRP : fz_RP h) (hRK : fz_RK h) (hRR : fz_RR h) (hRT : fz_RT h) (hRE : fz_RE h) (hR2 : fz_R2 h) (hR3 : fz_R3 h) (hR4 : fz_R4 h) (hR28 : fz_R28 h) (hR5 : fz_R5 h) (hR6 : fz_R6 h) (hRG : fz_RG h) (hRL : fz_RL h) (hRC : fz_RC h) (hRJ : fz_RJ h) (hRW : fz_RW h) (i : Int) (hi : 0 ≤ i ∧ i + 6 ≤ h 200 100000 ∧ h 200 100000 ≤ 3072) {Q : fz_H → Option fz_V → Prop} (K : ∀ H : fz_H, fz_Gd H → H 200 = h 200 → fz_R 47 mLe 1816 [(3, fz_i i), (0, fz_r 200), (1, fz_r 0), (2, fz_r 53)] [] H Q) : fz_R 47 mLc31 1387 [(3, fz_i i), (0, fz_r 200), (1, fz_r 0), (2, fz_r 53)] [] h Q := by
  have hf : fz_fr fz_all h h := fz_fr_rf
  refine fz_aload_n kLc31 rfl rfl ?_
  refine fz_callV (d' := 2) (M' := mX10_back) (As := []) (st := []) kLc31 rfl rfl vX10_back rfl rfl rfl rfl (Nat.le_of_ble_eq_true rfl) (Nat.le_of_ble_eq_true rfl) (by decide) (sX10_back h hI  hRT) (fun H1 r2 q3 o4 => ?_)
  obtain ⟨hI5, hf6, hRT7, y10, rfl, f8, f9⟩ := q3
  clear o4
  have hf11 := fz_fr_tr hf hf6 (fz_su_all rfl)
  have hXd12 : fz_Xd H1 := fz_Xd_eq (funext fun s => hf6 80 s rfl) hXd
  have hXh13 : fz_Xh H1 := fz_Xh_eq (funext fun s => hf6 83 s rfl) hXh
  have hXw14 : fz_Xw H1 := fz_Xw_eq (hf6 53 19 rfl) (funext fun s => hf6 66 s rfl) (funext fun s => hf6 67 s rfl) (funext fun s => hf6 68 s rfl) (funext fun s => hf6 69 s rfl) hXw
  have hRS15 : fz_RS H1 := fz_RS_eq (funext fun s => hf6 48 s rfl) (funext fun s => hf6 49 s rfl) (funext fun s => hf6 50 s rfl) (funext fun s => hf6 51 s rfl) (funext fun s => hf6 83 s rfl) (funext fun s => hf6 84 s rfl) (hf6 44 2 rfl) hRS
  have hRP16 : fz_RP H1 := fz_RP_eq (funext fun s => hf6 52 s rfl) (funext fun s => hf6 85 s rfl) hRP
  have hRK17 : fz_RK H1 := fz_RK_eq (funext fun s => hf6 45 s rfl) (funext fun s => hf6 81 s rfl) hRK
  have hRR18 : fz_RR H1 := fz_RR_eq (hf6 44 3 rfl) (hf6 53 46 rfl) (funext fun s => hf6 46 s rfl) (funext fun s => hf6 82 s rfl) hRR
  have hRE19 : fz_RE H1 := fz_RE_eq (funext fun s => hf6 5 s rfl) (funext fun s => hf6 6 s rfl) (hf6 1 8 rfl) (hf6 1 7 rfl) hRE
  have hR220 : fz_R2 H1 := fz_R2_eq (funext fun s => hf6 2 s rfl) (funext fun s => hf6 54 s rfl) hR2
  have hR321 : fz_R3 H1 := fz_R3_eq (funext fun s => hf6 3 s rfl) (funext fun s => hf6 57 s rfl) hR3
  have hR422 : fz_R4 H1 := fz_R4_eq (funext fun s => hf6 4 s rfl) (funext fun s => hf6 58 s rfl) hR4
  have hR2823 : fz_R28 H1 := fz_R28_eq (funext fun s => hf6 28 s rfl) (funext fun s => hf6 59 s rfl) hR28
  have hR524 : fz_R5 H1 := fz_R5_eq (funext fun s => hf6 5 s rfl) (funext fun s => hf6 55 s rfl) hR5
  have hR625 : fz_R6 H1 := fz_R6_eq (funext fun s => hf6 6 s rfl) (funext fun s => hf6 56 s rfl) hR6
  have hRG26 : fz_RG H1 := fz_RG_eq (hf6 27 8 rfl) (hf6 27 9 rfl) (hf6 53 8 rfl) (hf6 53 9 rfl) hRG
  have hRL27 : fz_RL H1 := fz_RL_eq (funext fun s => hf6 11 s rfl) (funext fun s => hf6 12 s rfl) (funext fun s => hf6 13 s rfl) (funext fun s => hf6 14 s rfl) (funext fun s => hf6 61 s rfl) (funext fun s => hf6 62 s rfl) (funext fun s => hf6 63 s rfl) (funext fun s => hf6 64 s rfl) (hf6 9 5 rfl) hRL
  have hRC28 : fz_RC H1 := fz_RC_eq (hf6 35 4 rfl) (hf6 35 5 rfl) (hf6 53 41 rfl) (hf6 53 42 rfl) (funext fun s => hf6 36 s rfl) (funext fun s => hf6 37 s rfl) (funext fun s => hf6 38 s rfl) (funext fun s => hf6 39 s rfl) (funext fun s => hf6 80 s rfl) (hf6 1 7 rfl) (hf6 1 8 rfl) (hf6 9 5 rfl) hRC
  have hRW29 : fz_RW H1 := fz_RW_eq (funext fun s => hf6 10 s rfl) (funext fun s => hf6 60 s rfl) (hf6 9 5 rfl) hRW
  have hX30 : fz_Xc H1 := fz_Xc_fr hf6 rfl hX
  have t31 : H1 53 10 = h 53 10 := hf6 53 10 rfl
  have t32 : H1 53 41 = h 53 41 := hf6 53 41 rfl
  have t33 : H1 53 42 = h 53 42 := hf6 53 42 rfl
  have t34 : H1 9 5 = h 9 5 := hf6 9 5 rfl
  have t35 : H1 53 10 = h 53 10 := hf6 53 10 rfl
  have t36 : H1 44 2 = h 44 2 := hf6 44 2 rfl
  have t37 : H1 53 44 = h 53 44 := hf6 53 44 rfl
  have t38 : H1 20 2 = h 20 2 := hf6 20 2 rfl
  have t39 : H1 53 16 = h 53 16 := hf6 53 16 rfl
  have t40 : H1 1 7 = h 1 7 := hf6 1 7 rfl
  have t41 : H1 53 0 = h 53 0 := hf6 53 0 rfl
  have t42 : H1 1 8 = h 1 8 := hf6 1 8 rfl
  have t43 : H1 53 2 = h 53 2 := hf6 53 2 rfl
  refine fz_pop rfl kLc31 rfl ?_
  refine fz_aload_n kLc31 rfl rfl ?_
  refine fz_callV (d' := 0) (M' := mX11_back) (As := []) (st := []) kLc31 rfl rfl vX11_back rfl rfl rfl rfl (Nat.le_of_ble_eq_true rfl) (Nat.le_of_ble_eq_true rfl) (by decide) (sX11_back H1 hI5  ) (fun H44 r45 q46 o47 => ?_)
  obtain ⟨hI48, hf49, y52, rfl, f50, f51⟩ := q46
  clear o47
  have hf53 := fz_fr_tr hf11 hf49 (fz_su_all rfl)
  have hXd54 : fz_Xd H44 := fz_Xd_eq (funext fun s => hf49 80 s rfl) hXd12
  have hXh55 : fz_Xh H44 := fz_Xh_eq (funext fun s => hf49 83 s rfl) hXh13
  have hXw56 : fz_Xw H44 := fz_Xw_eq (hf49 53 19 rfl) (funext fun s => hf49 66 s rfl) (funext fun s => hf49 67 s rfl) (funext fun s => hf49 68 s rfl) (funext fun s => hf49 69 s rfl) hXw14
  have hRS57 : fz_RS H44 := fz_RS_eq (funext fun s => hf49 48 s rfl) (funext fun s => hf49 49 s rfl) (funext fun s => hf49 50 s rfl) (funext fun s => hf49 51 s rfl) (funext fun s => hf49 83 s rfl) (funext fun s => hf49 84 s rfl) (hf49 44 2 rfl) hRS15
  have hRP58 : fz_RP H44 := fz_RP_eq (funext fun s => hf49 52 s rfl) (funext fun s => hf49 85 s rfl) hRP16
  have hRK59 : fz_RK H44 := fz_RK_eq (funext fun s => hf49 45 s rfl) (funext fun s => hf49 81 s rfl) hRK17
  have hRR60 : fz_RR H44 := fz_RR_eq (hf49 44 3 rfl) (hf49 53 46 rfl) (funext fun s => hf49 46 s rfl) (funext fun s => hf49 82 s rfl) hRR18
  have hRT61 : fz_RT H44 := fz_RT_eq (funext fun s => hf49 41 s rfl) (funext fun s => hf49 42 s rfl) (hf49 1 7 rfl) hRT7
  have hRE62 : fz_RE H44 := fz_RE_eq (funext fun s => hf49 5 s rfl) (funext fun s => hf49 6 s rfl) (hf49 1 8 rfl) (hf49 1 7 rfl) hRE19
  have hR263 : fz_R2 H44 := fz_R2_eq (funext fun s => hf49 2 s rfl) (funext fun s => hf49 54 s rfl) hR220
  have hR364 : fz_R3 H44 := fz_R3_eq (funext fun s => hf49 3 s rfl) (funext fun s => hf49 57 s rfl) hR321
  have hR465 : fz_R4 H44 := fz_R4_eq (funext fun s => hf49 4 s rfl) (funext fun s => hf49 58 s rfl) hR422
  have hR2866 : fz_R28 H44 := fz_R28_eq (funext fun s => hf49 28 s rfl) (funext fun s => hf49 59 s rfl) hR2823
  have hR567 : fz_R5 H44 := fz_R5_eq (funext fun s => hf49 5 s rfl) (funext fun s => hf49 55 s rfl) hR524
  have hR668 : fz_R6 H44 := fz_R6_eq (funext fun s => hf49 6 s rfl) (funext fun s => hf49 56 s rfl) hR625
  have hRG69 : fz_RG H44 := fz_RG_eq (hf49 27 8 rfl) (hf49 27 9 rfl) (hf49 53 8 rfl) (hf49 53 9 rfl) hRG26
  have hRL70 : fz_RL H44 := fz_RL_eq (funext fun s => hf49 11 s rfl) (funext fun s => hf49 12 s rfl) (funext fun s => hf49 13 s rfl) (funext fun s => hf49 14 s rfl) (funext fun s => hf49 61 s rfl) (funext fun s => hf49 62 s rfl) (funext fun s => hf49 63 s rfl) (funext fun s => hf49 64 s rfl) (hf49 9 5 rfl) hRL27
  have hRC71 : fz_RC H44 := fz_RC_eq (hf49 35 4 rfl) (hf49 35 5 rfl) (hf49 53 41 rfl) (hf49 53 42 rfl) (funext fun s => hf49 36 s rfl) (funext fun s => hf49 37 s rfl) (funext fun s => hf49 38 s rfl) (funext fun s => hf49 39 s rfl) (funext fun s => hf49 80 s rfl) (hf49 1 7 rfl) (hf49 1 8 rfl) (hf49 9 5 rfl) hRC28
  have hRW72 : fz_RW H44 := fz_RW_eq (funext fun s => hf49 10 s rfl) (funext fun s => hf49 60 s rfl) (hf49 9 5 rfl) hRW29
  have hX73 : fz_Xc H44 := fz_Xc_fr hf49 rfl hX30
  have t74 : H44 53 10 = H1 53 10 := hf49 53 10 rfl
  have t75 : H44 53 41 = H1 53 41 := hf49 53 41 rfl
  have t76 : H44 53 42 = H1 53 42 := hf49 53 42 rfl
  have t77 : H44 9 5 = H1 9 5 := hf49 9 5 rfl
  have t78 : H44 53 10 = H1 53 10 := hf49 53 10 rfl
  have t79 : H44 44 2 = H1 44 2 := hf49 44 2 rfl
  have t80 : H44 53 44 = H1 53 44 := hf49 53 44 rfl
  have t81 : H44 20 2 = H1 20 2 := hf49 20 2 rfl
  have t82 : H44 53 16 = H1 53 16 := hf49 53 16 rfl
  have t83 : H44 1 7 = H1 1 7 := hf49 1 7 rfl
  have t84 : H44 53 0 = H1 53 0 := hf49 53 0 rfl
  have t85 : H44 1 8 = H1 1 8 := hf49 1 8 rfl
  have t86 : H44 53 2 = H1 53 2 := hf49 53 2 rfl
  refine fz_pop rfl kLc31 rfl ?_
  refine fz_goto (tgt := 1816) kLc31 rfl (by decide) ?_
  have k87 := fz_back_rel hRJ f9 f51 (fz_fr_lo hf6 rfl) (fz_fr_hi hf49 rfl)
  have hRJ89 : fz_RJ H44 := k87.2
  exact K H44 ⟨hI48, hX73, hXd54, hXh55, hXw56, (by rw [((hf49 53 10 rfl).trans (hf6 53 10 rfl))]; exact hv1), (by rw [((hf49 53 42 rfl).trans (hf6 53 42 rfl)), ((hf49 53 41 rfl).trans (hf6 53 41 rfl))]; exact hv2), (((hf49 9 5 rfl).trans (hf6 9 5 rfl)).trans (hr0.trans ((hf49 53 10 rfl).trans (hf6 53 10 rfl)).symm)), (((hf49 44 2 rfl).trans (hf6 44 2 rfl)).trans (hr1.trans ((hf49 53 44 rfl).trans (hf6 53 44 rfl)).symm)), (((hf49 20 2 rfl).trans (hf6 20 2 rfl)).trans (hr2.trans ((hf49 53 16 rfl).trans (hf6 53 16 rfl)).symm)), (((hf49 1 7 rfl).trans (hf6 1 7 rfl)).trans (hr3.trans ((hf49 53 0 rfl).trans (hf6 53 0 rfl)).symm)), (((hf49 1 8 rfl).trans (hf6 1 8 rfl)).trans (hr4.trans ((hf49 53 2 rfl).trans (hf6 53 2 rfl)).symm)), hRS57, hRP58, hRK59, hRR60, hRT61, hRE62, hR263, hR364, hR465, hR2866, hR567, hR668, hRG69, hRL70, hRC71, hRJ89, hRW72⟩ (funext fun s => hf53 200 s rfl)
def mLc32 : fz_M := (yL_law, code, 4, (some .boolean), [(1400, .aload_n 1, 1, 0, 0, 0), (1401, .invokevirtual 147, 3, 4192, 76, 0), (1404, .pop, 1, 0, 0, 0), (1405, .aload_n 2, 1, 0, 0, 0), (1406, .invokevirtual 150, 3, 6109, 180, 0), (1409, .pop, 1, 0, 0, 0), (1410, .goto 406, 3, 0, 0, 0)])
set_option maxRecDepth 100000 in
theorem kLc32 : fz_okM mLc32 = true := fz_okM_in (by decide +kernel) (by decide +kernel)
set_option maxHeartbeats 1000000 in
set_option maxRecDepth 100000 in
theorem lc32 (h : fz_H) (hI : fz_Iv h) (hX : fz_Xc h) (hXd : fz_Xd h) (hXh : fz_Xh h) (hXw : fz_Xw h) (hv1 : h 53 10 ≤ 10) (hv2 : h 53 42 ≤ h 53 41) (hr0 : h 9 5 = h 53 10) (hr1 : h 44 2 = h 53 44) (hr2 : h 20 2 = h 53 16) (hr3 : h 1 7 = h 53 0) (hr4 : h 1 8 = h 53 2) (hRS : fz_RS h) (hRP : fz_RP h) (hRK : fz_RK h) (hRR : fz_RR h) (hRT : fz_RT h) (hRE : fz_RE h) (hR2 : fz_R2 h) (hR3 : fz_R3 h) (hR4 : fz_R4 h) (hR28 : fz_R28 h) (hR5 : fz_R5 h) (hR6 : fz_R6 h) (hRG : fz_RG h) (hRL : fz_RL h) (hRC : fz_RC h) (hRJ : fz_RJ h) (hRW : fz_RW h) (i : Int) (hi : 0 ≤ i ∧ i + 6 ≤ h 200 100000 ∧ h 200 100000 ≤ 3072) {Q : fz_H → Option fz_V → Prop} (K : ∀ H : fz_H, fz_Gd H → H 200 = h 200 → fz_R 47 mLe 1816 [(3, fz_i i), (0, fz_r 200), (1, fz_r 0), (2, fz_r 53)] [] H Q) : fz_R 47 mLc32 1400 [(3, fz_i i), (0, fz_r 200), (1, fz_r 0), (2, fz_r 53)] [] h Q := by
  have hf : fz_fr fz_all h h := fz_fr_rf
  refine fz_aload_n kLc32 rfl rfl ?_
  refine fz_callV (d' := 4) (M' := mX10_undo) (As := []) (st := []) kLc32 rfl rfl vX10_undo rfl rfl rfl rfl (Nat.le_of_ble_eq_true rfl) (Nat.le_of_ble_eq_true rfl) (by decide) (sX10_undo h hI  (hX)) (fun H1 r2 q3 o4 => ?_)
  obtain ⟨hI5, hf6, hX7, y10, rfl, f8, f9⟩ := q3
  clear o4
  have hf11 := fz_fr_tr hf hf6 (fz_su_all rfl)
  have hXd12 : fz_Xd H1 := fz_Xd_eq (funext fun s => hf6 80 s rfl) hXd
  have hXh13 : fz_Xh H1 := fz_Xh_eq (funext fun s => hf6 83 s rfl) hXh
  have hXw14 : fz_Xw H1 := fz_Xw_eq (hf6 53 19 rfl) (funext fun s => hf6 66 s rfl) (funext fun s => hf6 67 s rfl) (funext fun s => hf6 68 s rfl) (funext fun s => hf6 69 s rfl) hXw
  have hRS15 : fz_RS H1 := fz_RS_eq (funext fun s => hf6 48 s rfl) (funext fun s => hf6 49 s rfl) (funext fun s => hf6 50 s rfl) (funext fun s => hf6 51 s rfl) (funext fun s => hf6 83 s rfl) (funext fun s => hf6 84 s rfl) (hf6 44 2 rfl) hRS
  have hRP16 : fz_RP H1 := fz_RP_eq (funext fun s => hf6 52 s rfl) (funext fun s => hf6 85 s rfl) hRP
  have hRK17 : fz_RK H1 := fz_RK_eq (funext fun s => hf6 45 s rfl) (funext fun s => hf6 81 s rfl) hRK
  have hRR18 : fz_RR H1 := fz_RR_eq (hf6 44 3 rfl) (hf6 53 46 rfl) (funext fun s => hf6 46 s rfl) (funext fun s => hf6 82 s rfl) hRR
  have hRT19 : fz_RT H1 := fz_RT_eq (funext fun s => hf6 41 s rfl) (funext fun s => hf6 42 s rfl) (hf6 1 7 rfl) hRT
  have hRE20 : fz_RE H1 := fz_RE_eq (funext fun s => hf6 5 s rfl) (funext fun s => hf6 6 s rfl) (hf6 1 8 rfl) (hf6 1 7 rfl) hRE
  have hR521 : fz_R5 H1 := fz_R5_eq (funext fun s => hf6 5 s rfl) (funext fun s => hf6 55 s rfl) hR5
  have hR622 : fz_R6 H1 := fz_R6_eq (funext fun s => hf6 6 s rfl) (funext fun s => hf6 56 s rfl) hR6
  have hRJ23 : fz_RJ H1 := fz_RJ_eq (hf6 40 1 rfl) (hf6 53 34 rfl) (funext fun s => hf6 41 s rfl) (funext fun s => hf6 76 s rfl) (hf6 40 6 rfl) (hf6 53 37 rfl) (funext fun s => hf6 42 s rfl) (funext fun s => hf6 78 s rfl) (hf6 43 0 rfl) (hf6 53 38 rfl) hRJ
  have hRW24 : fz_RW H1 := fz_RW_eq (funext fun s => hf6 10 s rfl) (funext fun s => hf6 60 s rfl) (hf6 9 5 rfl) hRW
  have t25 : H1 53 10 = h 53 10 := hf6 53 10 rfl
  have t26 : H1 53 41 = h 53 41 := hf6 53 41 rfl
  have t27 : H1 53 42 = h 53 42 := hf6 53 42 rfl
  have t28 : H1 9 5 = h 9 5 := hf6 9 5 rfl
  have t29 : H1 53 10 = h 53 10 := hf6 53 10 rfl
  have t30 : H1 44 2 = h 44 2 := hf6 44 2 rfl
  have t31 : H1 53 44 = h 53 44 := hf6 53 44 rfl
  have t32 : H1 20 2 = h 20 2 := hf6 20 2 rfl
  have t33 : H1 53 16 = h 53 16 := hf6 53 16 rfl
  have t34 : H1 1 7 = h 1 7 := hf6 1 7 rfl
  have t35 : H1 53 0 = h 53 0 := hf6 53 0 rfl
  have t36 : H1 1 8 = h 1 8 := hf6 1 8 rfl
  have t37 : H1 53 2 = h 53 2 := hf6 53 2 rfl
  refine fz_pop rfl kLc32 rfl ?_
  refine fz_aload_n kLc32 rfl rfl ?_
  have b38 : 0 ≤ H1 53 42 ∧ H1 53 42 ≤ 40 := hI5.1 53 _
  have b39 : 0 ≤ H1 53 41 ∧ H1 53 41 ≤ 40 := hI5.1 53 _
  refine fz_callV (d' := 1) (M' := mX11_undo) (As := []) (st := []) kLc32 rfl rfl vX11_undo rfl rfl rfl rfl (Nat.le_of_ble_eq_true rfl) (Nat.le_of_ble_eq_true rfl) (by decide) (sX11_undo H1 hI5  hXd12 (by omega)) (fun H40 r41 q42 o43 => ?_)
  obtain ⟨hI44, hf45, hXd46, y50, rfl, f47, f48, f49⟩ := q42
  clear o43
  have hf51 := fz_fr_tr hf11 hf45 (fz_su_all rfl)
  have hXh52 : fz_Xh H40 := fz_Xh_eq (funext fun s => hf45 83 s rfl) hXh13
  have hXw53 : fz_Xw H40 := fz_Xw_eq (hf45 53 19 rfl) (funext fun s => hf45 66 s rfl) (funext fun s => hf45 67 s rfl) (funext fun s => hf45 68 s rfl) (funext fun s => hf45 69 s rfl) hXw14
  have hRS54 : fz_RS H40 := fz_RS_eq (funext fun s => hf45 48 s rfl) (funext fun s => hf45 49 s rfl) (funext fun s => hf45 50 s rfl) (funext fun s => hf45 51 s rfl) (funext fun s => hf45 83 s rfl) (funext fun s => hf45 84 s rfl) (hf45 44 2 rfl) hRS15
  have hRP55 : fz_RP H40 := fz_RP_eq (funext fun s => hf45 52 s rfl) (funext fun s => hf45 85 s rfl) hRP16
  have hRK56 : fz_RK H40 := fz_RK_eq (funext fun s => hf45 45 s rfl) (funext fun s => hf45 81 s rfl) hRK17
  have hRR57 : fz_RR H40 := fz_RR_eq (hf45 44 3 rfl) (hf45 53 46 rfl) (funext fun s => hf45 46 s rfl) (funext fun s => hf45 82 s rfl) hRR18
  have hRT58 : fz_RT H40 := fz_RT_eq (funext fun s => hf45 41 s rfl) (funext fun s => hf45 42 s rfl) (hf45 1 7 rfl) hRT19
  have hRE59 : fz_RE H40 := fz_RE_eq (funext fun s => hf45 5 s rfl) (funext fun s => hf45 6 s rfl) (hf45 1 8 rfl) (hf45 1 7 rfl) hRE20
  have hR560 : fz_R5 H40 := fz_R5_eq (funext fun s => hf45 5 s rfl) (funext fun s => hf45 55 s rfl) hR521
  have hR661 : fz_R6 H40 := fz_R6_eq (funext fun s => hf45 6 s rfl) (funext fun s => hf45 56 s rfl) hR622
  have hRJ62 : fz_RJ H40 := fz_RJ_eq (hf45 40 1 rfl) (hf45 53 34 rfl) (funext fun s => hf45 41 s rfl) (funext fun s => hf45 76 s rfl) (hf45 40 6 rfl) (hf45 53 37 rfl) (funext fun s => hf45 42 s rfl) (funext fun s => hf45 78 s rfl) (hf45 43 0 rfl) (hf45 53 38 rfl) hRJ23
  have hRW63 : fz_RW H40 := fz_RW_eq (funext fun s => hf45 10 s rfl) (funext fun s => hf45 60 s rfl) (hf45 9 5 rfl) hRW24
  have hX64 : fz_Xc H40 := fz_Xc_fr hf45 rfl hX7
  have t65 : H40 53 10 = H1 53 10 := hf45 53 10 rfl
  have t66 : H40 53 41 = H1 53 41 := hf45 53 41 rfl
  have t67 : H40 9 5 = H1 9 5 := hf45 9 5 rfl
  have t68 : H40 53 10 = H1 53 10 := hf45 53 10 rfl
  have t69 : H40 44 2 = H1 44 2 := hf45 44 2 rfl
  have t70 : H40 53 44 = H1 53 44 := hf45 53 44 rfl
  have t71 : H40 20 2 = H1 20 2 := hf45 20 2 rfl
  have t72 : H40 53 16 = H1 53 16 := hf45 53 16 rfl
  have t73 : H40 1 7 = H1 1 7 := hf45 1 7 rfl
  have t74 : H40 53 0 = H1 53 0 := hf45 53 0 rfl
  have t75 : H40 1 8 = H1 1 8 := hf45 1 8 rfl
  have t76 : H40 53 2 = H1 53 2 := hf45 53 2 rfl
  refine fz_pop rfl kLc32 rfl ?_
  refine fz_goto (tgt := 1816) kLc32 rfl (by decide) ?_
  have k77 := fz_undo_rel hRC hR2 hR3 hR4 hR28 hRG hRL f9 f49 (fz_fr_lo hf6 rfl)
  have hR279 : fz_R2 H40 := k77.2.1
  have hR381 : fz_R3 H40 := k77.2.2.1
  have hR483 : fz_R4 H40 := k77.2.2.2.1
  have hR2885 : fz_R28 H40 := k77.2.2.2.2.1
  have hRG87 : fz_RG H40 := k77.2.2.2.2.2.1
  have hRL89 : fz_RL H40 := k77.2.2.2.2.2.2.1
  have hRC91 : fz_RC H40 := k77.2.2.2.2.2.2.2
  exact K H40 ⟨hI44, hX64, hXd46, hXh52, hXw53, (by rw [((hf45 53 10 rfl).trans (hf6 53 10 rfl))]; exact hv1), by omega, (((hf45 9 5 rfl).trans (hf6 9 5 rfl)).trans (hr0.trans ((hf45 53 10 rfl).trans (hf6 53 10 rfl)).symm)), (((hf45 44 2 rfl).trans (hf6 44 2 rfl)).trans (hr1.trans ((hf45 53 44 rfl).trans (hf6 53 44 rfl)).symm)), (((hf45 20 2 rfl).trans (hf6 20 2 rfl)).trans (hr2.trans ((hf45 53 16 rfl).trans (hf6 53 16 rfl)).symm)), (((hf45 1 7 rfl).trans (hf6 1 7 rfl)).trans (hr3.trans ((hf45 53 0 rfl).trans (hf6 53 0 rfl)).symm)), (((hf45 1 8 rfl).trans (hf6 1 8 rfl)).trans (hr4.trans ((hf45 53 2 rfl).trans (hf6 53 2 rfl)).symm)), hRS54, hRP55, hRK56, hRR57, hRT58, hRE59, hR279, hR381, hR483, hR2885, hR560, hR661, hRG87, hRL89, hRC91, hRJ62, hRW63⟩ (funext fun s => hf51 200 s rfl)
def mLc33 : fz_M := (yL_law, code, 4, (some .boolean), [(1413, .aload_n 1, 1, 0, 0, 0), (1414, .invokevirtual 151, 3, 4200, 64, 0), (1417, .pop, 1, 0, 0, 0), (1418, .aload_n 2, 1, 0, 0, 0), (1419, .invokevirtual 154, 3, 6113, 165, 0), (1422, .pop, 1, 0, 0, 0), (1423, .goto 393, 3, 0, 0, 0)])
set_option maxRecDepth 100000 in
theorem kLc33 : fz_okM mLc33 = true := fz_okM_in (by decide +kernel) (by decide +kernel)
set_option maxHeartbeats 1000000 in
set_option maxRecDepth 100000 in
theorem lc33 (h : fz_H) (hI : fz_Iv h) (hX : fz_Xc h) (hXd : fz_Xd h) (hXh : fz_Xh h) (hXw : fz_Xw h) (hv1 : h 53 10 ≤ 10) (hv2 : h 53 42 ≤ h 53 41) (hr0 : h 9 5 = h 53 10) (hr1 : h 44 2 = h 53 44) (hr2 : h 20 2 = h 53 16) (hr3 : h 1 7 = h 53 0) (hr4 : h 1 8 = h 53 2) (hRS : fz_RS h) (hRP : fz_RP h) (hRK : fz_RK h) (hRR : fz_RR h) (hRT : fz_RT h) (hRE : fz_RE h) (hR2 : fz_R2 h) (hR3 : fz_R3 h) (hR4 : fz_R4 h) (hR28 : fz_R28 h) (hR5 : fz_R5 h) (hR6 : fz_R6 h) (hRG : fz_RG h) (hRL : fz_RL h) (hRC : fz_RC h) (hRJ : fz_RJ h) (hRW : fz_RW h) (i : Int) (hi : 0 ≤ i ∧ i + 6 ≤ h 200 100000 ∧ h 200 100000 ≤ 3072) {Q : fz_H → Option fz_V → Prop} (K : ∀ H : fz_H, fz_Gd H → H 200 = h 200 → fz_R 47 mLe 1816 [(3, fz_i i), (0, fz_r 200), (1, fz_r 0), (2, fz_r 53)] [] H Q) : fz_R 47 mLc33 1413 [(3, fz_i i), (0, fz_r 200), (1, fz_r 0), (2, fz_r 53)] [] h Q := by
  have hf : fz_fr fz_all h h := fz_fr_rf
  refine fz_aload_n kLc33 rfl rfl ?_
  refine fz_callV (d' := 4) (M' := mX10_redo) (As := []) (st := []) kLc33 rfl rfl vX10_redo rfl rfl rfl rfl (Nat.le_of_ble_eq_true rfl) (Nat.le_of_ble_eq_true rfl) (by decide) (sX10_redo h hI  (hX)) (fun H1 r2 q3 o4 => ?_)
  obtain ⟨hI5, hf6, hX7, y10, rfl, f8, f9⟩ := q3
  clear o4
  have hf11 := fz_fr_tr hf hf6 (fz_su_all rfl)
  have hXd12 : fz_Xd H1 := fz_Xd_eq (funext fun s => hf6 80 s rfl) hXd
  have hXh13 : fz_Xh H1 := fz_Xh_eq (funext fun s => hf6 83 s rfl) hXh
  have hXw14 : fz_Xw H1 := fz_Xw_eq (hf6 53 19 rfl) (funext fun s => hf6 66 s rfl) (funext fun s => hf6 67 s rfl) (funext fun s => hf6 68 s rfl) (funext fun s => hf6 69 s rfl) hXw
  have hRS15 : fz_RS H1 := fz_RS_eq (funext fun s => hf6 48 s rfl) (funext fun s => hf6 49 s rfl) (funext fun s => hf6 50 s rfl) (funext fun s => hf6 51 s rfl) (funext fun s => hf6 83 s rfl) (funext fun s => hf6 84 s rfl) (hf6 44 2 rfl) hRS
  have hRP16 : fz_RP H1 := fz_RP_eq (funext fun s => hf6 52 s rfl) (funext fun s => hf6 85 s rfl) hRP
  have hRK17 : fz_RK H1 := fz_RK_eq (funext fun s => hf6 45 s rfl) (funext fun s => hf6 81 s rfl) hRK
  have hRR18 : fz_RR H1 := fz_RR_eq (hf6 44 3 rfl) (hf6 53 46 rfl) (funext fun s => hf6 46 s rfl) (funext fun s => hf6 82 s rfl) hRR
  have hRT19 : fz_RT H1 := fz_RT_eq (funext fun s => hf6 41 s rfl) (funext fun s => hf6 42 s rfl) (hf6 1 7 rfl) hRT
  have hRE20 : fz_RE H1 := fz_RE_eq (funext fun s => hf6 5 s rfl) (funext fun s => hf6 6 s rfl) (hf6 1 8 rfl) (hf6 1 7 rfl) hRE
  have hR521 : fz_R5 H1 := fz_R5_eq (funext fun s => hf6 5 s rfl) (funext fun s => hf6 55 s rfl) hR5
  have hR622 : fz_R6 H1 := fz_R6_eq (funext fun s => hf6 6 s rfl) (funext fun s => hf6 56 s rfl) hR6
  have hRJ23 : fz_RJ H1 := fz_RJ_eq (hf6 40 1 rfl) (hf6 53 34 rfl) (funext fun s => hf6 41 s rfl) (funext fun s => hf6 76 s rfl) (hf6 40 6 rfl) (hf6 53 37 rfl) (funext fun s => hf6 42 s rfl) (funext fun s => hf6 78 s rfl) (hf6 43 0 rfl) (hf6 53 38 rfl) hRJ
  have hRW24 : fz_RW H1 := fz_RW_eq (funext fun s => hf6 10 s rfl) (funext fun s => hf6 60 s rfl) (hf6 9 5 rfl) hRW
  have t25 : H1 53 10 = h 53 10 := hf6 53 10 rfl
  have t26 : H1 53 41 = h 53 41 := hf6 53 41 rfl
  have t27 : H1 53 42 = h 53 42 := hf6 53 42 rfl
  have t28 : H1 9 5 = h 9 5 := hf6 9 5 rfl
  have t29 : H1 53 10 = h 53 10 := hf6 53 10 rfl
  have t30 : H1 44 2 = h 44 2 := hf6 44 2 rfl
  have t31 : H1 53 44 = h 53 44 := hf6 53 44 rfl
  have t32 : H1 20 2 = h 20 2 := hf6 20 2 rfl
  have t33 : H1 53 16 = h 53 16 := hf6 53 16 rfl
  have t34 : H1 1 7 = h 1 7 := hf6 1 7 rfl
  have t35 : H1 53 0 = h 53 0 := hf6 53 0 rfl
  have t36 : H1 1 8 = h 1 8 := hf6 1 8 rfl
  have t37 : H1 53 2 = h 53 2 := hf6 53 2 rfl
  refine fz_pop rfl kLc33 rfl ?_
  refine fz_aload_n kLc33 rfl rfl ?_
  have b38 : 0 ≤ H1 53 42 ∧ H1 53 42 ≤ 40 := hI5.1 53 _
  have b39 : 0 ≤ H1 53 41 ∧ H1 53 41 ≤ 40 := hI5.1 53 _
  refine fz_callV (d' := 1) (M' := mX11_redo) (As := []) (st := []) kLc33 rfl rfl vX11_redo rfl rfl rfl rfl (Nat.le_of_ble_eq_true rfl) (Nat.le_of_ble_eq_true rfl) (by decide) (sX11_redo H1 hI5  hXd12 (by omega)) (fun H40 r41 q42 o43 => ?_)
  obtain ⟨hI44, hf45, hXd46, y50, rfl, f47, f48, f49⟩ := q42
  clear o43
  have hf51 := fz_fr_tr hf11 hf45 (fz_su_all rfl)
  have hXh52 : fz_Xh H40 := fz_Xh_eq (funext fun s => hf45 83 s rfl) hXh13
  have hXw53 : fz_Xw H40 := fz_Xw_eq (hf45 53 19 rfl) (funext fun s => hf45 66 s rfl) (funext fun s => hf45 67 s rfl) (funext fun s => hf45 68 s rfl) (funext fun s => hf45 69 s rfl) hXw14
  have hRS54 : fz_RS H40 := fz_RS_eq (funext fun s => hf45 48 s rfl) (funext fun s => hf45 49 s rfl) (funext fun s => hf45 50 s rfl) (funext fun s => hf45 51 s rfl) (funext fun s => hf45 83 s rfl) (funext fun s => hf45 84 s rfl) (hf45 44 2 rfl) hRS15
  have hRP55 : fz_RP H40 := fz_RP_eq (funext fun s => hf45 52 s rfl) (funext fun s => hf45 85 s rfl) hRP16
  have hRK56 : fz_RK H40 := fz_RK_eq (funext fun s => hf45 45 s rfl) (funext fun s => hf45 81 s rfl) hRK17
  have hRR57 : fz_RR H40 := fz_RR_eq (hf45 44 3 rfl) (hf45 53 46 rfl) (funext fun s => hf45 46 s rfl) (funext fun s => hf45 82 s rfl) hRR18
  have hRT58 : fz_RT H40 := fz_RT_eq (funext fun s => hf45 41 s rfl) (funext fun s => hf45 42 s rfl) (hf45 1 7 rfl) hRT19
  have hRE59 : fz_RE H40 := fz_RE_eq (funext fun s => hf45 5 s rfl) (funext fun s => hf45 6 s rfl) (hf45 1 8 rfl) (hf45 1 7 rfl) hRE20
  have hR560 : fz_R5 H40 := fz_R5_eq (funext fun s => hf45 5 s rfl) (funext fun s => hf45 55 s rfl) hR521
  have hR661 : fz_R6 H40 := fz_R6_eq (funext fun s => hf45 6 s rfl) (funext fun s => hf45 56 s rfl) hR622
  have hRJ62 : fz_RJ H40 := fz_RJ_eq (hf45 40 1 rfl) (hf45 53 34 rfl) (funext fun s => hf45 41 s rfl) (funext fun s => hf45 76 s rfl) (hf45 40 6 rfl) (hf45 53 37 rfl) (funext fun s => hf45 42 s rfl) (funext fun s => hf45 78 s rfl) (hf45 43 0 rfl) (hf45 53 38 rfl) hRJ23
  have hRW63 : fz_RW H40 := fz_RW_eq (funext fun s => hf45 10 s rfl) (funext fun s => hf45 60 s rfl) (hf45 9 5 rfl) hRW24
  have hX64 : fz_Xc H40 := fz_Xc_fr hf45 rfl hX7
  have t65 : H40 53 10 = H1 53 10 := hf45 53 10 rfl
  have t66 : H40 53 41 = H1 53 41 := hf45 53 41 rfl
  have t67 : H40 9 5 = H1 9 5 := hf45 9 5 rfl
  have t68 : H40 53 10 = H1 53 10 := hf45 53 10 rfl
  have t69 : H40 44 2 = H1 44 2 := hf45 44 2 rfl
  have t70 : H40 53 44 = H1 53 44 := hf45 53 44 rfl
  have t71 : H40 20 2 = H1 20 2 := hf45 20 2 rfl
  have t72 : H40 53 16 = H1 53 16 := hf45 53 16 rfl
  have t73 : H40 1 7 = H1 1 7 := hf45 1 7 rfl
  have t74 : H40 53 0 = H1 53 0 := hf45 53 0 rfl
  have t75 : H40 1 8 = H1 1 8 := hf45 1 8 rfl
  have t76 : H40 53 2 = H1 53 2 := hf45 53 2 rfl
  refine fz_pop rfl kLc33 rfl ?_
  refine fz_goto (tgt := 1816) kLc33 rfl (by decide) ?_
  have k77 := fz_redo_rel hRC hR2 hR3 hR4 hR28 hRG hRL f9 f49 (fz_fr_lo hf6 rfl)
  have hR279 : fz_R2 H40 := k77.2.1
  have hR381 : fz_R3 H40 := k77.2.2.1
  have hR483 : fz_R4 H40 := k77.2.2.2.1
  have hR2885 : fz_R28 H40 := k77.2.2.2.2.1
  have hRG87 : fz_RG H40 := k77.2.2.2.2.2.1
  have hRL89 : fz_RL H40 := k77.2.2.2.2.2.2.1
  have hRC91 : fz_RC H40 := k77.2.2.2.2.2.2.2
  exact K H40 ⟨hI44, hX64, hXd46, hXh52, hXw53, (by rw [((hf45 53 10 rfl).trans (hf6 53 10 rfl))]; exact hv1), by omega, (((hf45 9 5 rfl).trans (hf6 9 5 rfl)).trans (hr0.trans ((hf45 53 10 rfl).trans (hf6 53 10 rfl)).symm)), (((hf45 44 2 rfl).trans (hf6 44 2 rfl)).trans (hr1.trans ((hf45 53 44 rfl).trans (hf6 53 44 rfl)).symm)), (((hf45 20 2 rfl).trans (hf6 20 2 rfl)).trans (hr2.trans ((hf45 53 16 rfl).trans (hf6 53 16 rfl)).symm)), (((hf45 1 7 rfl).trans (hf6 1 7 rfl)).trans (hr3.trans ((hf45 53 0 rfl).trans (hf6 53 0 rfl)).symm)), (((hf45 1 8 rfl).trans (hf6 1 8 rfl)).trans (hr4.trans ((hf45 53 2 rfl).trans (hf6 53 2 rfl)).symm)), hRS54, hRP55, hRK56, hRR57, hRT58, hRE59, hR279, hR381, hR483, hR2885, hR560, hR661, hRG87, hRL89, hRC91, hRJ62, hRW63⟩ (funext fun s => hf51 200 s rfl)
def mLc34 : fz_M := (yL_law, code, 4, (some .boolean), [(1426, .aload_n 1, 1, 0, 0, 0), (1427, .aload_n 0, 1, 0, 0, 0), (1428, .iload_n 3, 1, 0, 0, 0), (1429, .iconst 1, 1, 0, 0, 0), (1430, .iadd, 1, 0, 0, 0), (1431, .iaload, 1, 0, 0, 0), (1432, .invokevirtual 155, 3, 4208, 21, 0), (1435, .pop, 1, 0, 0, 0), (1436, .aload_n 2, 1, 0, 0, 0), (1437, .aload_n 0, 1, 0, 0, 0), (1438, .iload_n 3, 1, 0, 0, 0), (1439, .iconst 1, 1, 0, 0, 0), (1440, .iadd, 1, 0, 0, 0), (1441, .iaload, 1, 0, 0, 0), (1442, .invokevirtual 158, 3, 7133, 88, 0), (1445, .pop, 1, 0, 0, 0), (1446, .goto 370, 3, 0, 0, 0)])
set_option maxRecDepth 100000 in
theorem kLc34 : fz_okM mLc34 = true := fz_okM_in (by decide +kernel) (by decide +kernel)
set_option maxHeartbeats 1000000 in
set_option maxRecDepth 100000 in
theorem lc34 (h : fz_H) (hI : fz_Iv h) (hX : fz_Xc h) (hXd : fz_Xd h) (hXh : fz_Xh h) (hXw : fz_Xw h) (hv1 : h 53 10 ≤ 10) (hv2 : h 53 42 ≤ h 53 41) (hr0 : h 9 5 = h 53 10) (hr1 : h 44 2 = h 53 44) (hr2 : h 20 2 = h 53 16) (hr3 : h 1 7 = h 53 0) (hr4 : h 1 8 = h 53 2) (hRS : fz_RS h) (hRP : fz_RP h) (hRK : fz_RK h) (hRR : fz_RR h) (hRT : fz_RT h) (hRE : fz_RE h) (hR2 : fz_R2 h) (hR3 : fz_R3 h) (hR4 : fz_R4 h) (hR28 : fz_R28 h) (hR5 : fz_R5 h) (hR6 : fz_R6 h) (hRG : fz_RG h) (hRL : fz_RL h) (hRC : fz_RC h) (hRJ : fz_RJ h) (hRW : fz_RW h) (i : Int) (hi : 0 ≤ i ∧ i + 6 ≤ h 200 100000 ∧ h 200 100000 ≤ 3072) {Q : fz_H → Option fz_V → Prop} (K : ∀ H : fz_H, fz_Gd H → H 200 = h 200 → fz_R 47 mLe 1816 [(3, fz_i i), (0, fz_r 200), (1, fz_r 0), (2, fz_r 53)] [] H Q) : fz_R 47 mLc34 1426 [(3, fz_i i), (0, fz_r 200), (1, fz_r 0), (2, fz_r 53)] [] h Q := by
  have hf : fz_fr fz_all h h := fz_fr_rf
  refine fz_aload_n kLc34 rfl rfl ?_
  refine fz_aload_n kLc34 rfl rfl ?_
  refine fz_iload_n kLc34 rfl rfl ?_
  refine fz_iconst ⟨by decide, by decide⟩ kLc34 rfl ?_
  refine fz_iaddN kLc34 rfl (by omega) ?_
  obtain ⟨a1, e2⟩ : ∃ z, h 200 ((i + 1)).toNat = z := ⟨_, rfl⟩
  refine fz_taldV (v := a1) kLc34 rfl ⟨by decide, by decide⟩ (by omega) (by omega) e2 ?_
  have b3 : 0 ≤ h 44 2 ∧ h 44 2 ≤ 50 := hI.1 44 _
  refine fz_callV (d' := 1) (M' := mX10_body) (As := [fz_i a1]) (st := []) kLc34 rfl rfl vX10_body rfl rfl rfl rfl (Nat.le_of_ble_eq_true rfl) (Nat.le_of_ble_eq_true rfl) (by decide) (sX10_body h hI a1 ) (fun H4 r5 q6 o7 => ?_)
  obtain ⟨hI8, hf9, y13, rfl, f10, f11, f12⟩ := q6
  clear o7
  have hf14 := fz_fr_tr hf hf9 (fz_su_all rfl)
  have hXd15 : fz_Xd H4 := fz_Xd_eq (funext fun s => hf9 80 s rfl) hXd
  have hXh16 : fz_Xh H4 := fz_Xh_eq (funext fun s => hf9 83 s rfl) hXh
  have hXw17 : fz_Xw H4 := fz_Xw_eq (hf9 53 19 rfl) (funext fun s => hf9 66 s rfl) (funext fun s => hf9 67 s rfl) (funext fun s => hf9 68 s rfl) (funext fun s => hf9 69 s rfl) hXw
  have hRP18 : fz_RP H4 := fz_RP_eq (funext fun s => hf9 52 s rfl) (funext fun s => hf9 85 s rfl) hRP
  have hRR19 : fz_RR H4 := fz_RR_eq (hf9 44 3 rfl) (hf9 53 46 rfl) (funext fun s => hf9 46 s rfl) (funext fun s => hf9 82 s rfl) hRR
  have hRT20 : fz_RT H4 := fz_RT_eq (funext fun s => hf9 41 s rfl) (funext fun s => hf9 42 s rfl) (hf9 1 7 rfl) hRT
  have hRE21 : fz_RE H4 := fz_RE_eq (funext fun s => hf9 5 s rfl) (funext fun s => hf9 6 s rfl) (hf9 1 8 rfl) (hf9 1 7 rfl) hRE
  have hR222 : fz_R2 H4 := fz_R2_eq (funext fun s => hf9 2 s rfl) (funext fun s => hf9 54 s rfl) hR2
  have hR323 : fz_R3 H4 := fz_R3_eq (funext fun s => hf9 3 s rfl) (funext fun s => hf9 57 s rfl) hR3
  have hR424 : fz_R4 H4 := fz_R4_eq (funext fun s => hf9 4 s rfl) (funext fun s => hf9 58 s rfl) hR4
  have hR2825 : fz_R28 H4 := fz_R28_eq (funext fun s => hf9 28 s rfl) (funext fun s => hf9 59 s rfl) hR28
  have hR526 : fz_R5 H4 := fz_R5_eq (funext fun s => hf9 5 s rfl) (funext fun s => hf9 55 s rfl) hR5
  have hR627 : fz_R6 H4 := fz_R6_eq (funext fun s => hf9 6 s rfl) (funext fun s => hf9 56 s rfl) hR6
  have hRG28 : fz_RG H4 := fz_RG_eq (hf9 27 8 rfl) (hf9 27 9 rfl) (hf9 53 8 rfl) (hf9 53 9 rfl) hRG
  have hRL29 : fz_RL H4 := fz_RL_eq (funext fun s => hf9 11 s rfl) (funext fun s => hf9 12 s rfl) (funext fun s => hf9 13 s rfl) (funext fun s => hf9 14 s rfl) (funext fun s => hf9 61 s rfl) (funext fun s => hf9 62 s rfl) (funext fun s => hf9 63 s rfl) (funext fun s => hf9 64 s rfl) (hf9 9 5 rfl) hRL
  have hRC30 : fz_RC H4 := fz_RC_eq (hf9 35 4 rfl) (hf9 35 5 rfl) (hf9 53 41 rfl) (hf9 53 42 rfl) (funext fun s => hf9 36 s rfl) (funext fun s => hf9 37 s rfl) (funext fun s => hf9 38 s rfl) (funext fun s => hf9 39 s rfl) (funext fun s => hf9 80 s rfl) (hf9 1 7 rfl) (hf9 1 8 rfl) (hf9 9 5 rfl) hRC
  have hRJ31 : fz_RJ H4 := fz_RJ_eq (hf9 40 1 rfl) (hf9 53 34 rfl) (funext fun s => hf9 41 s rfl) (funext fun s => hf9 76 s rfl) (hf9 40 6 rfl) (hf9 53 37 rfl) (funext fun s => hf9 42 s rfl) (funext fun s => hf9 78 s rfl) (hf9 43 0 rfl) (hf9 53 38 rfl) hRJ
  have hRW32 : fz_RW H4 := fz_RW_eq (funext fun s => hf9 10 s rfl) (funext fun s => hf9 60 s rfl) (hf9 9 5 rfl) hRW
  have hX33 : fz_Xc H4 := fz_Xc_fr hf9 rfl hX
  have t34 : H4 53 10 = h 53 10 := hf9 53 10 rfl
  have t35 : H4 53 41 = h 53 41 := hf9 53 41 rfl
  have t36 : H4 53 42 = h 53 42 := hf9 53 42 rfl
  have t37 : H4 9 5 = h 9 5 := hf9 9 5 rfl
  have t38 : H4 53 10 = h 53 10 := hf9 53 10 rfl
  have t39 : H4 53 44 = h 53 44 := hf9 53 44 rfl
  have t40 : H4 20 2 = h 20 2 := hf9 20 2 rfl
  have t41 : H4 53 16 = h 53 16 := hf9 53 16 rfl
  have t42 : H4 1 7 = h 1 7 := hf9 1 7 rfl
  have t43 : H4 53 0 = h 53 0 := hf9 53 0 rfl
  have t44 : H4 1 8 = h 1 8 := hf9 1 8 rfl
  have t45 : H4 53 2 = h 53 2 := hf9 53 2 rfl
  refine fz_pop rfl kLc34 rfl ?_
  refine fz_aload_n kLc34 rfl rfl ?_
  refine fz_aload_n kLc34 rfl rfl ?_
  refine fz_iload_n kLc34 rfl rfl ?_
  refine fz_iconst ⟨by decide, by decide⟩ kLc34 rfl ?_
  refine fz_iaddN kLc34 rfl (by omega) ?_
  refine fz_taldV (v := a1) kLc34 rfl ⟨by decide, by decide⟩ (by omega) (by rw [hf14 200 _ rfl]; omega) ((hf14 200 _ rfl).trans e2) ?_
  have b46 : 0 ≤ H4 53 44 ∧ H4 53 44 ≤ 50 := hI8.1 53 _
  refine fz_callV (d' := 1) (M' := mX11_body) (As := [fz_i a1]) (st := []) kLc34 rfl rfl vX11_body rfl rfl rfl rfl (Nat.le_of_ble_eq_true rfl) (Nat.le_of_ble_eq_true rfl) (by decide) (sX11_body H4 hI8 a1 ) (fun H47 r48 q49 o50 => ?_)
  obtain ⟨hI51, hf52, y56, rfl, f53, f54, f55⟩ := q49
  clear o50
  have hf57 := fz_fr_tr hf14 hf52 (fz_su_all rfl)
  have hXd58 : fz_Xd H47 := fz_Xd_eq (funext fun s => hf52 80 s rfl) hXd15
  have hXh59 : fz_Xh H47 := fz_Xh_eq (funext fun s => hf52 83 s rfl) hXh16
  have hXw60 : fz_Xw H47 := fz_Xw_eq (hf52 53 19 rfl) (funext fun s => hf52 66 s rfl) (funext fun s => hf52 67 s rfl) (funext fun s => hf52 68 s rfl) (funext fun s => hf52 69 s rfl) hXw17
  have hRP61 : fz_RP H47 := fz_RP_eq (funext fun s => hf52 52 s rfl) (funext fun s => hf52 85 s rfl) hRP18
  have hRR62 : fz_RR H47 := fz_RR_eq (hf52 44 3 rfl) (hf52 53 46 rfl) (funext fun s => hf52 46 s rfl) (funext fun s => hf52 82 s rfl) hRR19
  have hRT63 : fz_RT H47 := fz_RT_eq (funext fun s => hf52 41 s rfl) (funext fun s => hf52 42 s rfl) (hf52 1 7 rfl) hRT20
  have hRE64 : fz_RE H47 := fz_RE_eq (funext fun s => hf52 5 s rfl) (funext fun s => hf52 6 s rfl) (hf52 1 8 rfl) (hf52 1 7 rfl) hRE21
  have hR265 : fz_R2 H47 := fz_R2_eq (funext fun s => hf52 2 s rfl) (funext fun s => hf52 54 s rfl) hR222
  have hR366 : fz_R3 H47 := fz_R3_eq (funext fun s => hf52 3 s rfl) (funext fun s => hf52 57 s rfl) hR323
  have hR467 : fz_R4 H47 := fz_R4_eq (funext fun s => hf52 4 s rfl) (funext fun s => hf52 58 s rfl) hR424
  have hR2868 : fz_R28 H47 := fz_R28_eq (funext fun s => hf52 28 s rfl) (funext fun s => hf52 59 s rfl) hR2825
  have hR569 : fz_R5 H47 := fz_R5_eq (funext fun s => hf52 5 s rfl) (funext fun s => hf52 55 s rfl) hR526
  have hR670 : fz_R6 H47 := fz_R6_eq (funext fun s => hf52 6 s rfl) (funext fun s => hf52 56 s rfl) hR627
  have hRG71 : fz_RG H47 := fz_RG_eq (hf52 27 8 rfl) (hf52 27 9 rfl) (hf52 53 8 rfl) (hf52 53 9 rfl) hRG28
  have hRL72 : fz_RL H47 := fz_RL_eq (funext fun s => hf52 11 s rfl) (funext fun s => hf52 12 s rfl) (funext fun s => hf52 13 s rfl) (funext fun s => hf52 14 s rfl) (funext fun s => hf52 61 s rfl) (funext fun s => hf52 62 s rfl) (funext fun s => hf52 63 s rfl) (funext fun s => hf52 64 s rfl) (hf52 9 5 rfl) hRL29
  have hRC73 : fz_RC H47 := fz_RC_eq (hf52 35 4 rfl) (hf52 35 5 rfl) (hf52 53 41 rfl) (hf52 53 42 rfl) (funext fun s => hf52 36 s rfl) (funext fun s => hf52 37 s rfl) (funext fun s => hf52 38 s rfl) (funext fun s => hf52 39 s rfl) (funext fun s => hf52 80 s rfl) (hf52 1 7 rfl) (hf52 1 8 rfl) (hf52 9 5 rfl) hRC30
  have hRJ74 : fz_RJ H47 := fz_RJ_eq (hf52 40 1 rfl) (hf52 53 34 rfl) (funext fun s => hf52 41 s rfl) (funext fun s => hf52 76 s rfl) (hf52 40 6 rfl) (hf52 53 37 rfl) (funext fun s => hf52 42 s rfl) (funext fun s => hf52 78 s rfl) (hf52 43 0 rfl) (hf52 53 38 rfl) hRJ31
  have hRW75 : fz_RW H47 := fz_RW_eq (funext fun s => hf52 10 s rfl) (funext fun s => hf52 60 s rfl) (hf52 9 5 rfl) hRW32
  have hX76 : fz_Xc H47 := fz_Xc_fr hf52 rfl hX33
  have t77 : H47 53 10 = H4 53 10 := hf52 53 10 rfl
  have t78 : H47 53 41 = H4 53 41 := hf52 53 41 rfl
  have t79 : H47 53 42 = H4 53 42 := hf52 53 42 rfl
  have t80 : H47 9 5 = H4 9 5 := hf52 9 5 rfl
  have t81 : H47 53 10 = H4 53 10 := hf52 53 10 rfl
  have t82 : H47 44 2 = H4 44 2 := hf52 44 2 rfl
  have t83 : H47 20 2 = H4 20 2 := hf52 20 2 rfl
  have t84 : H47 53 16 = H4 53 16 := hf52 53 16 rfl
  have t85 : H47 1 7 = H4 1 7 := hf52 1 7 rfl
  have t86 : H47 53 0 = H4 53 0 := hf52 53 0 rfl
  have t87 : H47 1 8 = H4 1 8 := hf52 1 8 rfl
  have t88 : H47 53 2 = H4 53 2 := hf52 53 2 rfl
  refine fz_pop rfl kLc34 rfl ?_
  refine fz_goto (tgt := 1816) kLc34 rfl (by decide) ?_
  have hRS89 : fz_RS H47 := fz_RS_b (funext fun s => (hf52 48 s rfl).trans (hf9 48 s rfl)) (funext fun s => (hf52 49 s rfl).trans (hf9 49 s rfl)) (funext fun s => (hf52 50 s rfl).trans (hf9 50 s rfl)) (funext fun s => (hf52 51 s rfl).trans (hf9 51 s rfl)) (funext fun s => (hf52 83 s rfl).trans (hf9 83 s rfl)) (funext fun s => (hf52 84 s rfl).trans (hf9 84 s rfl)) (by omega) hRS
  have hRK91 : fz_RK H47 := fz_RK_body hRK f12 f55 (by omega) (funext fun s => hf9 81 s rfl) (funext fun s => hf52 45 s rfl)
  exact K H47 ⟨hI51, hX76, hXd58, hXh59, hXw60, (by rw [((hf52 53 10 rfl).trans (hf9 53 10 rfl))]; exact hv1), (by rw [((hf52 53 42 rfl).trans (hf9 53 42 rfl)), ((hf52 53 41 rfl).trans (hf9 53 41 rfl))]; exact hv2), (((hf52 9 5 rfl).trans (hf9 9 5 rfl)).trans (hr0.trans ((hf52 53 10 rfl).trans (hf9 53 10 rfl)).symm)), by omega, (((hf52 20 2 rfl).trans (hf9 20 2 rfl)).trans (hr2.trans ((hf52 53 16 rfl).trans (hf9 53 16 rfl)).symm)), (((hf52 1 7 rfl).trans (hf9 1 7 rfl)).trans (hr3.trans ((hf52 53 0 rfl).trans (hf9 53 0 rfl)).symm)), (((hf52 1 8 rfl).trans (hf9 1 8 rfl)).trans (hr4.trans ((hf52 53 2 rfl).trans (hf9 53 2 rfl)).symm)), hRS89, hRP61, hRK91, hRR62, hRT63, hRE64, hR265, hR366, hR467, hR2868, hR569, hR670, hRG71, hRL72, hRC73, hRJ74, hRW75⟩ (funext fun s => hf57 200 s rfl)
def mLc35 : fz_M := (yL_law, code, 4, (some .boolean), [(1449, .aload_n 1, 1, 0, 0, 0), (1450, .aload_n 0, 1, 0, 0, 0), (1451, .iload_n 3, 1, 0, 0, 0), (1452, .iconst 1, 1, 0, 0, 0), (1453, .iadd, 1, 0, 0, 0), (1454, .iaload, 1, 0, 0, 0), (1455, .aload_n 0, 1, 0, 0, 0), (1456, .iload_n 3, 1, 0, 0, 0), (1457, .iconst 2, 1, 0, 0, 0), (1458, .iadd, 1, 0, 0, 0), (1459, .iaload, 1, 0, 0, 0), (1460, .aload_n 0, 1, 0, 0, 0), (1461, .iload_n 3, 1, 0, 0, 0), (1462, .iconst 3, 1, 0, 0, 0), (1463, .iadd, 1, 0, 0, 0), (1464, .iaload, 1, 0, 0, 0), (1465, .invokevirtual 159, 3, 4220, 13, 0), (1468, .pop, 1, 0, 0, 0), (1469, .aload_n 2, 1, 0, 0, 0), (1470, .aload_n 0, 1, 0, 0, 0), (1471, .iload_n 3, 1, 0, 0, 0), (1472, .iconst 1, 1, 0, 0, 0), (1473, .iadd, 1, 0, 0, 0), (1474, .iaload, 1, 0, 0, 0), (1475, .aload_n 0, 1, 0, 0, 0), (1476, .iload_n 3, 1, 0, 0, 0), (1477, .iconst 2, 1, 0, 0, 0), (1478, .iadd, 1, 0, 0, 0), (1479, .iaload, 1, 0, 0, 0), (1480, .aload_n 0, 1, 0, 0, 0), (1481, .iload_n 3, 1, 0, 0, 0), (1482, .iconst 3, 1, 0, 0, 0), (1483, .iadd, 1, 0, 0, 0), (1484, .iaload, 1, 0, 0, 0), (1485, .invokevirtual 162, 3, 7137, 81, 0), (1488, .pop, 1, 0, 0, 0), (1489, .goto 327, 3, 0, 0, 0)])
set_option maxRecDepth 100000 in
theorem kLc35 : fz_okM mLc35 = true := fz_okM_in (by decide +kernel) (by decide +kernel)
set_option maxHeartbeats 1000000 in
set_option maxRecDepth 100000 in
theorem lc35 (h : fz_H) (hI : fz_Iv h) (hX : fz_Xc h) (hXd : fz_Xd h) (hXh : fz_Xh h) (hXw : fz_Xw h) (hv1 : h 53 10 ≤ 10) (hv2 : h 53 42 ≤ h 53 41) (hr0 : h 9 5 = h 53 10) (hr1 : h 44 2 = h 53 44) (hr2 : h 20 2 = h 53 16) (hr3 : h 1 7 = h 53 0) (hr4 : h 1 8 = h 53 2) (hRS : fz_RS h) (hRP : fz_RP h) (hRK : fz_RK h) (hRR : fz_RR h) (hRT : fz_RT h) (hRE : fz_RE h) (hR2 : fz_R2 h) (hR3 : fz_R3 h) (hR4 : fz_R4 h) (hR28 : fz_R28 h) (hR5 : fz_R5 h) (hR6 : fz_R6 h) (hRG : fz_RG h) (hRL : fz_RL h) (hRC : fz_RC h) (hRJ : fz_RJ h) (hRW : fz_RW h) (i : Int) (hi : 0 ≤ i ∧ i + 6 ≤ h 200 100000 ∧ h 200 100000 ≤ 3072) {Q : fz_H → Option fz_V → Prop} (K : ∀ H : fz_H, fz_Gd H → H 200 = h 200 → fz_R 47 mLe 1816 [(3, fz_i i), (0, fz_r 200), (1, fz_r 0), (2, fz_r 53)] [] H Q) : fz_R 47 mLc35 1449 [(3, fz_i i), (0, fz_r 200), (1, fz_r 0), (2, fz_r 53)] [] h Q := by
  have hf : fz_fr fz_all h h := fz_fr_rf
  refine fz_aload_n kLc35 rfl rfl ?_
  refine fz_aload_n kLc35 rfl rfl ?_
  refine fz_iload_n kLc35 rfl rfl ?_
  refine fz_iconst ⟨by decide, by decide⟩ kLc35 rfl ?_
  refine fz_iaddN kLc35 rfl (by omega) ?_
  obtain ⟨a1, e2⟩ : ∃ z, h 200 ((i + 1)).toNat = z := ⟨_, rfl⟩
  refine fz_taldV (v := a1) kLc35 rfl ⟨by decide, by decide⟩ (by omega) (by omega) e2 ?_
  refine fz_aload_n kLc35 rfl rfl ?_
  refine fz_iload_n kLc35 rfl rfl ?_
  refine fz_iconst ⟨by decide, by decide⟩ kLc35 rfl ?_
  refine fz_iaddN kLc35 rfl (by omega) ?_
  obtain ⟨a3, e4⟩ : ∃ z, h 200 ((i + 2)).toNat = z := ⟨_, rfl⟩
  refine fz_taldV (v := a3) kLc35 rfl ⟨by decide, by decide⟩ (by omega) (by omega) e4 ?_
  refine fz_aload_n kLc35 rfl rfl ?_
  refine fz_iload_n kLc35 rfl rfl ?_
  refine fz_iconst ⟨by decide, by decide⟩ kLc35 rfl ?_
  refine fz_iaddN kLc35 rfl (by omega) ?_
  obtain ⟨a5, e6⟩ : ∃ z, h 200 ((i + 3)).toNat = z := ⟨_, rfl⟩
  refine fz_taldV (v := a5) kLc35 rfl ⟨by decide, by decide⟩ (by omega) (by omega) e6 ?_
  have b7 : 0 ≤ h 44 2 ∧ h 44 2 ≤ 50 := hI.1 44 _
  refine fz_callV (d' := 8) (M' := mX10_act) (As := [fz_i a1, fz_i a3, fz_i a5]) (st := []) kLc35 rfl rfl vX10_act rfl rfl rfl rfl (Nat.le_of_ble_eq_true rfl) (Nat.le_of_ble_eq_true rfl) (by decide) (sX10_act h hI a1 a3 a5 ) (fun H8 r9 q10 o11 => ?_)
  obtain ⟨hI12, hf13, y16, rfl, f14, f15⟩ := q10
  clear o11
  have hf17 := fz_fr_tr hf hf13 (fz_su_all rfl)
  have hXd18 : fz_Xd H8 := fz_Xd_eq (funext fun s => hf13 80 s rfl) hXd
  have hXh19 : fz_Xh H8 := fz_Xh_eq (funext fun s => hf13 83 s rfl) hXh
  have hXw20 : fz_Xw H8 := fz_Xw_eq (hf13 53 19 rfl) (funext fun s => hf13 66 s rfl) (funext fun s => hf13 67 s rfl) (funext fun s => hf13 68 s rfl) (funext fun s => hf13 69 s rfl) hXw
  have hRS21 : fz_RS H8 := fz_RS_eq (funext fun s => hf13 48 s rfl) (funext fun s => hf13 49 s rfl) (funext fun s => hf13 50 s rfl) (funext fun s => hf13 51 s rfl) (funext fun s => hf13 83 s rfl) (funext fun s => hf13 84 s rfl) (hf13 44 2 rfl) hRS
  have hRP22 : fz_RP H8 := fz_RP_eq (funext fun s => hf13 52 s rfl) (funext fun s => hf13 85 s rfl) hRP
  have hRK23 : fz_RK H8 := fz_RK_eq (funext fun s => hf13 45 s rfl) (funext fun s => hf13 81 s rfl) hRK
  have hRT24 : fz_RT H8 := fz_RT_eq (funext fun s => hf13 41 s rfl) (funext fun s => hf13 42 s rfl) (hf13 1 7 rfl) hRT
  have hRE25 : fz_RE H8 := fz_RE_eq (funext fun s => hf13 5 s rfl) (funext fun s => hf13 6 s rfl) (hf13 1 8 rfl) (hf13 1 7 rfl) hRE
  have hR226 : fz_R2 H8 := fz_R2_eq (funext fun s => hf13 2 s rfl) (funext fun s => hf13 54 s rfl) hR2
  have hR327 : fz_R3 H8 := fz_R3_eq (funext fun s => hf13 3 s rfl) (funext fun s => hf13 57 s rfl) hR3
  have hR428 : fz_R4 H8 := fz_R4_eq (funext fun s => hf13 4 s rfl) (funext fun s => hf13 58 s rfl) hR4
  have hR2829 : fz_R28 H8 := fz_R28_eq (funext fun s => hf13 28 s rfl) (funext fun s => hf13 59 s rfl) hR28
  have hR530 : fz_R5 H8 := fz_R5_eq (funext fun s => hf13 5 s rfl) (funext fun s => hf13 55 s rfl) hR5
  have hR631 : fz_R6 H8 := fz_R6_eq (funext fun s => hf13 6 s rfl) (funext fun s => hf13 56 s rfl) hR6
  have hRG32 : fz_RG H8 := fz_RG_eq (hf13 27 8 rfl) (hf13 27 9 rfl) (hf13 53 8 rfl) (hf13 53 9 rfl) hRG
  have hRL33 : fz_RL H8 := fz_RL_eq (funext fun s => hf13 11 s rfl) (funext fun s => hf13 12 s rfl) (funext fun s => hf13 13 s rfl) (funext fun s => hf13 14 s rfl) (funext fun s => hf13 61 s rfl) (funext fun s => hf13 62 s rfl) (funext fun s => hf13 63 s rfl) (funext fun s => hf13 64 s rfl) (hf13 9 5 rfl) hRL
  have hRC34 : fz_RC H8 := fz_RC_eq (hf13 35 4 rfl) (hf13 35 5 rfl) (hf13 53 41 rfl) (hf13 53 42 rfl) (funext fun s => hf13 36 s rfl) (funext fun s => hf13 37 s rfl) (funext fun s => hf13 38 s rfl) (funext fun s => hf13 39 s rfl) (funext fun s => hf13 80 s rfl) (hf13 1 7 rfl) (hf13 1 8 rfl) (hf13 9 5 rfl) hRC
  have hRJ35 : fz_RJ H8 := fz_RJ_eq (hf13 40 1 rfl) (hf13 53 34 rfl) (funext fun s => hf13 41 s rfl) (funext fun s => hf13 76 s rfl) (hf13 40 6 rfl) (hf13 53 37 rfl) (funext fun s => hf13 42 s rfl) (funext fun s => hf13 78 s rfl) (hf13 43 0 rfl) (hf13 53 38 rfl) hRJ
  have hRW36 : fz_RW H8 := fz_RW_eq (funext fun s => hf13 10 s rfl) (funext fun s => hf13 60 s rfl) (hf13 9 5 rfl) hRW
  have hX37 : fz_Xc H8 := fz_Xc_fr hf13 rfl hX
  have t38 : H8 53 10 = h 53 10 := hf13 53 10 rfl
  have t39 : H8 53 41 = h 53 41 := hf13 53 41 rfl
  have t40 : H8 53 42 = h 53 42 := hf13 53 42 rfl
  have t41 : H8 9 5 = h 9 5 := hf13 9 5 rfl
  have t42 : H8 53 10 = h 53 10 := hf13 53 10 rfl
  have t43 : H8 44 2 = h 44 2 := hf13 44 2 rfl
  have t44 : H8 53 44 = h 53 44 := hf13 53 44 rfl
  have t45 : H8 20 2 = h 20 2 := hf13 20 2 rfl
  have t46 : H8 53 16 = h 53 16 := hf13 53 16 rfl
  have t47 : H8 1 7 = h 1 7 := hf13 1 7 rfl
  have t48 : H8 53 0 = h 53 0 := hf13 53 0 rfl
  have t49 : H8 1 8 = h 1 8 := hf13 1 8 rfl
  have t50 : H8 53 2 = h 53 2 := hf13 53 2 rfl
  refine fz_pop rfl kLc35 rfl ?_
  refine fz_aload_n kLc35 rfl rfl ?_
  refine fz_aload_n kLc35 rfl rfl ?_
  refine fz_iload_n kLc35 rfl rfl ?_
  refine fz_iconst ⟨by decide, by decide⟩ kLc35 rfl ?_
  refine fz_iaddN kLc35 rfl (by omega) ?_
  refine fz_taldV (v := a1) kLc35 rfl ⟨by decide, by decide⟩ (by omega) (by rw [hf17 200 _ rfl]; omega) ((hf17 200 _ rfl).trans e2) ?_
  refine fz_aload_n kLc35 rfl rfl ?_
  refine fz_iload_n kLc35 rfl rfl ?_
  refine fz_iconst ⟨by decide, by decide⟩ kLc35 rfl ?_
  refine fz_iaddN kLc35 rfl (by omega) ?_
  refine fz_taldV (v := a3) kLc35 rfl ⟨by decide, by decide⟩ (by omega) (by rw [hf17 200 _ rfl]; omega) ((hf17 200 _ rfl).trans e4) ?_
  refine fz_aload_n kLc35 rfl rfl ?_
  refine fz_iload_n kLc35 rfl rfl ?_
  refine fz_iconst ⟨by decide, by decide⟩ kLc35 rfl ?_
  refine fz_iaddN kLc35 rfl (by omega) ?_
  refine fz_taldV (v := a5) kLc35 rfl ⟨by decide, by decide⟩ (by omega) (by rw [hf17 200 _ rfl]; omega) ((hf17 200 _ rfl).trans e6) ?_
  have b51 : 0 ≤ H8 53 44 ∧ H8 53 44 ≤ 50 := hI12.1 53 _
  refine fz_callV (d' := 13) (M' := mX11_act) (As := [fz_i a1, fz_i a3, fz_i a5]) (st := []) kLc35 rfl rfl vX11_act rfl rfl rfl rfl (Nat.le_of_ble_eq_true rfl) (Nat.le_of_ble_eq_true rfl) (by decide) (sX11_act H8 hI12 a1 a3 a5 ) (fun H52 r53 q54 o55 => ?_)
  obtain ⟨hI56, hf57, y60, rfl, f58, f59⟩ := q54
  clear o55
  have hf61 := fz_fr_tr hf17 hf57 (fz_su_all rfl)
  have hXd62 : fz_Xd H52 := fz_Xd_eq (funext fun s => hf57 80 s rfl) hXd18
  have hXh63 : fz_Xh H52 := fz_Xh_eq (funext fun s => hf57 83 s rfl) hXh19
  have hXw64 : fz_Xw H52 := fz_Xw_eq (hf57 53 19 rfl) (funext fun s => hf57 66 s rfl) (funext fun s => hf57 67 s rfl) (funext fun s => hf57 68 s rfl) (funext fun s => hf57 69 s rfl) hXw20
  have hRS65 : fz_RS H52 := fz_RS_eq (funext fun s => hf57 48 s rfl) (funext fun s => hf57 49 s rfl) (funext fun s => hf57 50 s rfl) (funext fun s => hf57 51 s rfl) (funext fun s => hf57 83 s rfl) (funext fun s => hf57 84 s rfl) (hf57 44 2 rfl) hRS21
  have hRP66 : fz_RP H52 := fz_RP_eq (funext fun s => hf57 52 s rfl) (funext fun s => hf57 85 s rfl) hRP22
  have hRK67 : fz_RK H52 := fz_RK_eq (funext fun s => hf57 45 s rfl) (funext fun s => hf57 81 s rfl) hRK23
  have hRT68 : fz_RT H52 := fz_RT_eq (funext fun s => hf57 41 s rfl) (funext fun s => hf57 42 s rfl) (hf57 1 7 rfl) hRT24
  have hRE69 : fz_RE H52 := fz_RE_eq (funext fun s => hf57 5 s rfl) (funext fun s => hf57 6 s rfl) (hf57 1 8 rfl) (hf57 1 7 rfl) hRE25
  have hR270 : fz_R2 H52 := fz_R2_eq (funext fun s => hf57 2 s rfl) (funext fun s => hf57 54 s rfl) hR226
  have hR371 : fz_R3 H52 := fz_R3_eq (funext fun s => hf57 3 s rfl) (funext fun s => hf57 57 s rfl) hR327
  have hR472 : fz_R4 H52 := fz_R4_eq (funext fun s => hf57 4 s rfl) (funext fun s => hf57 58 s rfl) hR428
  have hR2873 : fz_R28 H52 := fz_R28_eq (funext fun s => hf57 28 s rfl) (funext fun s => hf57 59 s rfl) hR2829
  have hR574 : fz_R5 H52 := fz_R5_eq (funext fun s => hf57 5 s rfl) (funext fun s => hf57 55 s rfl) hR530
  have hR675 : fz_R6 H52 := fz_R6_eq (funext fun s => hf57 6 s rfl) (funext fun s => hf57 56 s rfl) hR631
  have hRG76 : fz_RG H52 := fz_RG_eq (hf57 27 8 rfl) (hf57 27 9 rfl) (hf57 53 8 rfl) (hf57 53 9 rfl) hRG32
  have hRL77 : fz_RL H52 := fz_RL_eq (funext fun s => hf57 11 s rfl) (funext fun s => hf57 12 s rfl) (funext fun s => hf57 13 s rfl) (funext fun s => hf57 14 s rfl) (funext fun s => hf57 61 s rfl) (funext fun s => hf57 62 s rfl) (funext fun s => hf57 63 s rfl) (funext fun s => hf57 64 s rfl) (hf57 9 5 rfl) hRL33
  have hRC78 : fz_RC H52 := fz_RC_eq (hf57 35 4 rfl) (hf57 35 5 rfl) (hf57 53 41 rfl) (hf57 53 42 rfl) (funext fun s => hf57 36 s rfl) (funext fun s => hf57 37 s rfl) (funext fun s => hf57 38 s rfl) (funext fun s => hf57 39 s rfl) (funext fun s => hf57 80 s rfl) (hf57 1 7 rfl) (hf57 1 8 rfl) (hf57 9 5 rfl) hRC34
  have hRJ79 : fz_RJ H52 := fz_RJ_eq (hf57 40 1 rfl) (hf57 53 34 rfl) (funext fun s => hf57 41 s rfl) (funext fun s => hf57 76 s rfl) (hf57 40 6 rfl) (hf57 53 37 rfl) (funext fun s => hf57 42 s rfl) (funext fun s => hf57 78 s rfl) (hf57 43 0 rfl) (hf57 53 38 rfl) hRJ35
  have hRW80 : fz_RW H52 := fz_RW_eq (funext fun s => hf57 10 s rfl) (funext fun s => hf57 60 s rfl) (hf57 9 5 rfl) hRW36
  have hX81 : fz_Xc H52 := fz_Xc_fr hf57 rfl hX37
  have t82 : H52 53 10 = H8 53 10 := hf57 53 10 rfl
  have t83 : H52 53 41 = H8 53 41 := hf57 53 41 rfl
  have t84 : H52 53 42 = H8 53 42 := hf57 53 42 rfl
  have t85 : H52 9 5 = H8 9 5 := hf57 9 5 rfl
  have t86 : H52 53 10 = H8 53 10 := hf57 53 10 rfl
  have t87 : H52 44 2 = H8 44 2 := hf57 44 2 rfl
  have t88 : H52 53 44 = H8 53 44 := hf57 53 44 rfl
  have t89 : H52 20 2 = H8 20 2 := hf57 20 2 rfl
  have t90 : H52 53 16 = H8 53 16 := hf57 53 16 rfl
  have t91 : H52 1 7 = H8 1 7 := hf57 1 7 rfl
  have t92 : H52 53 0 = H8 53 0 := hf57 53 0 rfl
  have t93 : H52 1 8 = H8 1 8 := hf57 1 8 rfl
  have t94 : H52 53 2 = H8 53 2 := hf57 53 2 rfl
  refine fz_pop rfl kLc35 rfl ?_
  refine fz_goto (tgt := 1816) kLc35 rfl (by decide) ?_
  have hRR95 : fz_RR H52 := fz_RR_act f15 f59 (fz_atr_eq (by omega) ((hf13 81 _ rfl).trans (congrFun hRK.symm _))) (hf57 44 3 rfl) (funext fun s => hf57 46 s rfl)
  exact K H52 ⟨hI56, hX81, hXd62, hXh63, hXw64, (by rw [((hf57 53 10 rfl).trans (hf13 53 10 rfl))]; exact hv1), (by rw [((hf57 53 42 rfl).trans (hf13 53 42 rfl)), ((hf57 53 41 rfl).trans (hf13 53 41 rfl))]; exact hv2), (((hf57 9 5 rfl).trans (hf13 9 5 rfl)).trans (hr0.trans ((hf57 53 10 rfl).trans (hf13 53 10 rfl)).symm)), (((hf57 44 2 rfl).trans (hf13 44 2 rfl)).trans (hr1.trans ((hf57 53 44 rfl).trans (hf13 53 44 rfl)).symm)), (((hf57 20 2 rfl).trans (hf13 20 2 rfl)).trans (hr2.trans ((hf57 53 16 rfl).trans (hf13 53 16 rfl)).symm)), (((hf57 1 7 rfl).trans (hf13 1 7 rfl)).trans (hr3.trans ((hf57 53 0 rfl).trans (hf13 53 0 rfl)).symm)), (((hf57 1 8 rfl).trans (hf13 1 8 rfl)).trans (hr4.trans ((hf57 53 2 rfl).trans (hf13 53 2 rfl)).symm)), hRS65, hRP66, hRK67, hRR95, hRT68, hRE69, hR270, hR371, hR472, hR2873, hR574, hR675, hRG76, hRL77, hRC78, hRJ79, hRW80⟩ (funext fun s => hf61 200 s rfl)
def mLc36 : fz_M := (yL_law, code, 4, (some .boolean), [(1492, .aload_n 1, 1, 0, 0, 0), (1493, .aload_n 0, 1, 0, 0, 0), (1494, .iload_n 3, 1, 0, 0, 0), (1495, .iconst 1, 1, 0, 0, 0), (1496, .iadd, 1, 0, 0, 0), (1497, .iaload, 1, 0, 0, 0), (1498, .invokevirtual 163, 3, 5008, 75, 0), (1501, .pop, 1, 0, 0, 0), (1502, .aload_n 2, 1, 0, 0, 0), (1503, .aload_n 0, 1, 0, 0, 0), (1504, .iload_n 3, 1, 0, 0, 0), (1505, .iconst 1, 1, 0, 0, 0), (1506, .iadd, 1, 0, 0, 0), (1507, .iaload, 1, 0, 0, 0), (1508, .invokevirtual 166, 3, 7164, 178, 0), (1511, .pop, 1, 0, 0, 0), (1512, .goto 304, 3, 0, 0, 0)])
set_option maxRecDepth 100000 in
theorem kLc36 : fz_okM mLc36 = true := fz_okM_in (by decide +kernel) (by decide +kernel)
set_option maxHeartbeats 1000000 in
set_option maxRecDepth 100000 in
theorem lc36 (h : fz_H) (hI : fz_Iv h) (hX : fz_Xc h) (hXd : fz_Xd h) (hXh : fz_Xh h) (hXw : fz_Xw h) (hv1 : h 53 10 ≤ 10) (hv2 : h 53 42 ≤ h 53 41) (hr0 : h 9 5 = h 53 10) (hr1 : h 44 2 = h 53 44) (hr2 : h 20 2 = h 53 16) (hr3 : h 1 7 = h 53 0) (hr4 : h 1 8 = h 53 2) (hRS : fz_RS h) (hRP : fz_RP h) (hRK : fz_RK h) (hRR : fz_RR h) (hRT : fz_RT h) (hRE : fz_RE h) (hR2 : fz_R2 h) (hR3 : fz_R3 h) (hR4 : fz_R4 h) (hR28 : fz_R28 h) (hR5 : fz_R5 h) (hR6 : fz_R6 h) (hRG : fz_RG h) (hRL : fz_RL h) (hRC : fz_RC h) (hRJ : fz_RJ h) (hRW : fz_RW h) (i : Int) (hi : 0 ≤ i ∧ i + 6 ≤ h 200 100000 ∧ h 200 100000 ≤ 3072) {Q : fz_H → Option fz_V → Prop} (K : ∀ H : fz_H, fz_Gd H → H 200 = h 200 → fz_R 47 mLe 1816 [(3, fz_i i), (0, fz_r 200), (1, fz_r 0), (2, fz_r 53)] [] H Q) : fz_R 47 mLc36 1492 [(3, fz_i i), (0, fz_r 200), (1, fz_r 0), (2, fz_r 53)] [] h Q := by
  have hf : fz_fr fz_all h h := fz_fr_rf
  refine fz_aload_n kLc36 rfl rfl ?_
  refine fz_aload_n kLc36 rfl rfl ?_
  refine fz_iload_n kLc36 rfl rfl ?_
  refine fz_iconst ⟨by decide, by decide⟩ kLc36 rfl ?_
  refine fz_iaddN kLc36 rfl (by omega) ?_
  obtain ⟨a1, e2⟩ : ∃ z, h 200 ((i + 1)).toNat = z := ⟨_, rfl⟩
  refine fz_taldV (v := a1) kLc36 rfl ⟨by decide, by decide⟩ (by omega) (by omega) e2 ?_
  have b3 : (-2147483648) ≤ h 44 3 ∧ h 44 3 ≤ 2147483647 := hI.1 44 _
  refine fz_callV (d' := 1) (M' := mX10_trace) (As := [fz_i a1]) (st := []) kLc36 rfl rfl vX10_trace rfl rfl rfl rfl (Nat.le_of_ble_eq_true rfl) (Nat.le_of_ble_eq_true rfl) (by decide) (sX10_trace h hI a1 ) (fun H4 r5 q6 o7 => ?_)
  obtain ⟨e8, y11, rfl, f9, f10⟩ := q6
  subst H4
  clear o7
  refine fz_pop rfl kLc36 rfl ?_
  refine fz_aload_n kLc36 rfl rfl ?_
  refine fz_aload_n kLc36 rfl rfl ?_
  refine fz_iload_n kLc36 rfl rfl ?_
  refine fz_iconst ⟨by decide, by decide⟩ kLc36 rfl ?_
  refine fz_iaddN kLc36 rfl (by omega) ?_
  refine fz_taldV (v := a1) kLc36 rfl ⟨by decide, by decide⟩ (by omega) (by omega) e2 ?_
  have b12 : 0 ≤ h 53 46 ∧ h 53 46 ≤ 1000 := hI.1 53 _
  refine fz_callV (d' := 1) (M' := mX11_trace) (As := [fz_i a1]) (st := []) kLc36 rfl rfl vX11_trace rfl rfl rfl rfl (Nat.le_of_ble_eq_true rfl) (Nat.le_of_ble_eq_true rfl) (by decide) (sX11_trace h hI a1 ) (fun H13 r14 q15 o16 => ?_)
  obtain ⟨e17, y20, rfl, f18, f19⟩ := q15
  subst H13
  clear o16
  refine fz_pop rfl kLc36 rfl ?_
  refine fz_goto (tgt := 1816) kLc36 rfl (by decide) ?_
  exact K h ⟨hI, hX, hXd, hXh, hXw, hv1, hv2, hr0, hr1, hr2, hr3, hr4, hRS, hRP, hRK, hRR, hRT, hRE, hR2, hR3, hR4, hR28, hR5, hR6, hRG, hRL, hRC, hRJ, hRW⟩ rfl
def mLc37 : fz_M := (yL_law, code, 4, (some .boolean), [(1515, .aload_n 1, 1, 0, 0, 0), (1516, .aload_n 0, 1, 0, 0, 0), (1517, .iload_n 3, 1, 0, 0, 0), (1518, .iconst 1, 1, 0, 0, 0), (1519, .iadd, 1, 0, 0, 0), (1520, .iaload, 1, 0, 0, 0), (1521, .aload_n 0, 1, 0, 0, 0), (1522, .iload_n 3, 1, 0, 0, 0), (1523, .iconst 2, 1, 0, 0, 0), (1524, .iadd, 1, 0, 0, 0), (1525, .iaload, 1, 0, 0, 0), (1526, .invokevirtual 167, 3, 5013, 51, 0), (1529, .pop, 1, 0, 0, 0), (1530, .aload_n 2, 1, 0, 0, 0), (1531, .aload_n 0, 1, 0, 0, 0), (1532, .iload_n 3, 1, 0, 0, 0), (1533, .iconst 1, 1, 0, 0, 0), (1534, .iadd, 1, 0, 0, 0), (1535, .iaload, 1, 0, 0, 0), (1536, .aload_n 0, 1, 0, 0, 0), (1537, .iload_n 3, 1, 0, 0, 0), (1538, .iconst 2, 1, 0, 0, 0), (1539, .iadd, 1, 0, 0, 0), (1540, .iaload, 1, 0, 0, 0), (1541, .invokevirtual 170, 3, 7168, 142, 0), (1544, .pop, 1, 0, 0, 0), (1545, .goto 271, 3, 0, 0, 0)])
set_option maxRecDepth 100000 in
theorem kLc37 : fz_okM mLc37 = true := fz_okM_in (by decide +kernel) (by decide +kernel)
set_option maxHeartbeats 1000000 in
set_option maxRecDepth 100000 in
theorem lc37 (h : fz_H) (hI : fz_Iv h) (hX : fz_Xc h) (hXd : fz_Xd h) (hXh : fz_Xh h) (hXw : fz_Xw h) (hv1 : h 53 10 ≤ 10) (hv2 : h 53 42 ≤ h 53 41) (hr0 : h 9 5 = h 53 10) (hr1 : h 44 2 = h 53 44) (hr2 : h 20 2 = h 53 16) (hr3 : h 1 7 = h 53 0) (hr4 : h 1 8 = h 53 2) (hRS : fz_RS h) (hRP : fz_RP h) (hRK : fz_RK h) (hRR : fz_RR h) (hRT : fz_RT h) (hRE : fz_RE h) (hR2 : fz_R2 h) (hR3 : fz_R3 h) (hR4 : fz_R4 h) (hR28 : fz_R28 h) (hR5 : fz_R5 h) (hR6 : fz_R6 h) (hRG : fz_RG h) (hRL : fz_RL h) (hRC : fz_RC h) (hRJ : fz_RJ h) (hRW : fz_RW h) (i : Int) (hi : 0 ≤ i ∧ i + 6 ≤ h 200 100000 ∧ h 200 100000 ≤ 3072) {Q : fz_H → Option fz_V → Prop} (K : ∀ H : fz_H, fz_Gd H → H 200 = h 200 → fz_R 47 mLe 1816 [(3, fz_i i), (0, fz_r 200), (1, fz_r 0), (2, fz_r 53)] [] H Q) : fz_R 47 mLc37 1515 [(3, fz_i i), (0, fz_r 200), (1, fz_r 0), (2, fz_r 53)] [] h Q := by
  have hf : fz_fr fz_all h h := fz_fr_rf
  refine fz_aload_n kLc37 rfl rfl ?_
  refine fz_aload_n kLc37 rfl rfl ?_
  refine fz_iload_n kLc37 rfl rfl ?_
  refine fz_iconst ⟨by decide, by decide⟩ kLc37 rfl ?_
  refine fz_iaddN kLc37 rfl (by omega) ?_
  obtain ⟨a1, e2⟩ : ∃ z, h 200 ((i + 1)).toNat = z := ⟨_, rfl⟩
  refine fz_taldV (v := a1) kLc37 rfl ⟨by decide, by decide⟩ (by omega) (by omega) e2 ?_
  refine fz_aload_n kLc37 rfl rfl ?_
  refine fz_iload_n kLc37 rfl rfl ?_
  refine fz_iconst ⟨by decide, by decide⟩ kLc37 rfl ?_
  refine fz_iaddN kLc37 rfl (by omega) ?_
  obtain ⟨a3, e4⟩ : ∃ z, h 200 ((i + 2)).toNat = z := ⟨_, rfl⟩
  refine fz_taldV (v := a3) kLc37 rfl ⟨by decide, by decide⟩ (by omega) (by omega) e4 ?_
  have b5 : 0 ≤ h 44 2 ∧ h 44 2 ≤ 50 := hI.1 44 _
  refine fz_callV (d' := 1) (M' := mX10_keep) (As := [fz_i a1, fz_i a3]) (st := []) kLc37 rfl rfl vX10_keep rfl rfl rfl rfl (Nat.le_of_ble_eq_true rfl) (Nat.le_of_ble_eq_true rfl) (by decide) (sX10_keep h hI a1 a3 ) (fun H6 r7 q8 o9 => ?_)
  obtain ⟨hI10, hf11, y15, rfl, f12, f13, f14⟩ := q8
  clear o9
  have hf16 := fz_fr_tr hf hf11 (fz_su_all rfl)
  have hXd17 : fz_Xd H6 := fz_Xd_eq (funext fun s => hf11 80 s rfl) hXd
  have hXh18 : fz_Xh H6 := fz_Xh_eq (funext fun s => hf11 83 s rfl) hXh
  have hXw19 : fz_Xw H6 := fz_Xw_eq (hf11 53 19 rfl) (funext fun s => hf11 66 s rfl) (funext fun s => hf11 67 s rfl) (funext fun s => hf11 68 s rfl) (funext fun s => hf11 69 s rfl) hXw
  have hRP20 : fz_RP H6 := fz_RP_eq (funext fun s => hf11 52 s rfl) (funext fun s => hf11 85 s rfl) hRP
  have hRK21 : fz_RK H6 := fz_RK_eq (funext fun s => hf11 45 s rfl) (funext fun s => hf11 81 s rfl) hRK
  have hRR22 : fz_RR H6 := fz_RR_eq (hf11 44 3 rfl) (hf11 53 46 rfl) (funext fun s => hf11 46 s rfl) (funext fun s => hf11 82 s rfl) hRR
  have hRT23 : fz_RT H6 := fz_RT_eq (funext fun s => hf11 41 s rfl) (funext fun s => hf11 42 s rfl) (hf11 1 7 rfl) hRT
  have hRE24 : fz_RE H6 := fz_RE_eq (funext fun s => hf11 5 s rfl) (funext fun s => hf11 6 s rfl) (hf11 1 8 rfl) (hf11 1 7 rfl) hRE
  have hR225 : fz_R2 H6 := fz_R2_eq (funext fun s => hf11 2 s rfl) (funext fun s => hf11 54 s rfl) hR2
  have hR326 : fz_R3 H6 := fz_R3_eq (funext fun s => hf11 3 s rfl) (funext fun s => hf11 57 s rfl) hR3
  have hR427 : fz_R4 H6 := fz_R4_eq (funext fun s => hf11 4 s rfl) (funext fun s => hf11 58 s rfl) hR4
  have hR2828 : fz_R28 H6 := fz_R28_eq (funext fun s => hf11 28 s rfl) (funext fun s => hf11 59 s rfl) hR28
  have hR529 : fz_R5 H6 := fz_R5_eq (funext fun s => hf11 5 s rfl) (funext fun s => hf11 55 s rfl) hR5
  have hR630 : fz_R6 H6 := fz_R6_eq (funext fun s => hf11 6 s rfl) (funext fun s => hf11 56 s rfl) hR6
  have hRG31 : fz_RG H6 := fz_RG_eq (hf11 27 8 rfl) (hf11 27 9 rfl) (hf11 53 8 rfl) (hf11 53 9 rfl) hRG
  have hRL32 : fz_RL H6 := fz_RL_eq (funext fun s => hf11 11 s rfl) (funext fun s => hf11 12 s rfl) (funext fun s => hf11 13 s rfl) (funext fun s => hf11 14 s rfl) (funext fun s => hf11 61 s rfl) (funext fun s => hf11 62 s rfl) (funext fun s => hf11 63 s rfl) (funext fun s => hf11 64 s rfl) (hf11 9 5 rfl) hRL
  have hRC33 : fz_RC H6 := fz_RC_eq (hf11 35 4 rfl) (hf11 35 5 rfl) (hf11 53 41 rfl) (hf11 53 42 rfl) (funext fun s => hf11 36 s rfl) (funext fun s => hf11 37 s rfl) (funext fun s => hf11 38 s rfl) (funext fun s => hf11 39 s rfl) (funext fun s => hf11 80 s rfl) (hf11 1 7 rfl) (hf11 1 8 rfl) (hf11 9 5 rfl) hRC
  have hRJ34 : fz_RJ H6 := fz_RJ_eq (hf11 40 1 rfl) (hf11 53 34 rfl) (funext fun s => hf11 41 s rfl) (funext fun s => hf11 76 s rfl) (hf11 40 6 rfl) (hf11 53 37 rfl) (funext fun s => hf11 42 s rfl) (funext fun s => hf11 78 s rfl) (hf11 43 0 rfl) (hf11 53 38 rfl) hRJ
  have hRW35 : fz_RW H6 := fz_RW_eq (funext fun s => hf11 10 s rfl) (funext fun s => hf11 60 s rfl) (hf11 9 5 rfl) hRW
  have hX36 : fz_Xc H6 := fz_Xc_fr hf11 rfl hX
  have t37 : H6 53 10 = h 53 10 := hf11 53 10 rfl
  have t38 : H6 53 41 = h 53 41 := hf11 53 41 rfl
  have t39 : H6 53 42 = h 53 42 := hf11 53 42 rfl
  have t40 : H6 9 5 = h 9 5 := hf11 9 5 rfl
  have t41 : H6 53 10 = h 53 10 := hf11 53 10 rfl
  have t42 : H6 44 2 = h 44 2 := hf11 44 2 rfl
  have t43 : H6 53 44 = h 53 44 := hf11 53 44 rfl
  have t44 : H6 20 2 = h 20 2 := hf11 20 2 rfl
  have t45 : H6 53 16 = h 53 16 := hf11 53 16 rfl
  have t46 : H6 1 7 = h 1 7 := hf11 1 7 rfl
  have t47 : H6 53 0 = h 53 0 := hf11 53 0 rfl
  have t48 : H6 1 8 = h 1 8 := hf11 1 8 rfl
  have t49 : H6 53 2 = h 53 2 := hf11 53 2 rfl
  refine fz_pop rfl kLc37 rfl ?_
  refine fz_aload_n kLc37 rfl rfl ?_
  refine fz_aload_n kLc37 rfl rfl ?_
  refine fz_iload_n kLc37 rfl rfl ?_
  refine fz_iconst ⟨by decide, by decide⟩ kLc37 rfl ?_
  refine fz_iaddN kLc37 rfl (by omega) ?_
  refine fz_taldV (v := a1) kLc37 rfl ⟨by decide, by decide⟩ (by omega) (by rw [hf16 200 _ rfl]; omega) ((hf16 200 _ rfl).trans e2) ?_
  refine fz_aload_n kLc37 rfl rfl ?_
  refine fz_iload_n kLc37 rfl rfl ?_
  refine fz_iconst ⟨by decide, by decide⟩ kLc37 rfl ?_
  refine fz_iaddN kLc37 rfl (by omega) ?_
  refine fz_taldV (v := a3) kLc37 rfl ⟨by decide, by decide⟩ (by omega) (by rw [hf16 200 _ rfl]; omega) ((hf16 200 _ rfl).trans e4) ?_
  have b50 : 0 ≤ H6 53 44 ∧ H6 53 44 ≤ 50 := hI10.1 53 _
  refine fz_callV (d' := 2) (M' := mX11_keep) (As := [fz_i a1, fz_i a3]) (st := []) kLc37 rfl rfl vX11_keep rfl rfl rfl rfl (Nat.le_of_ble_eq_true rfl) (Nat.le_of_ble_eq_true rfl) (by decide) (sX11_keep H6 hI10 a1 a3 hXh18) (fun H51 r52 q53 o54 => ?_)
  obtain ⟨hI55, hf56, hXh57, y61, rfl, f58, f59, f60⟩ := q53
  clear o54
  have hf62 := fz_fr_tr hf16 hf56 (fz_su_all rfl)
  have hXd63 : fz_Xd H51 := fz_Xd_eq (funext fun s => hf56 80 s rfl) hXd17
  have hXw64 : fz_Xw H51 := fz_Xw_eq (hf56 53 19 rfl) (funext fun s => hf56 66 s rfl) (funext fun s => hf56 67 s rfl) (funext fun s => hf56 68 s rfl) (funext fun s => hf56 69 s rfl) hXw19
  have hRP65 : fz_RP H51 := fz_RP_eq (funext fun s => hf56 52 s rfl) (funext fun s => hf56 85 s rfl) hRP20
  have hRK66 : fz_RK H51 := fz_RK_eq (funext fun s => hf56 45 s rfl) (funext fun s => hf56 81 s rfl) hRK21
  have hRR67 : fz_RR H51 := fz_RR_eq (hf56 44 3 rfl) (hf56 53 46 rfl) (funext fun s => hf56 46 s rfl) (funext fun s => hf56 82 s rfl) hRR22
  have hRT68 : fz_RT H51 := fz_RT_eq (funext fun s => hf56 41 s rfl) (funext fun s => hf56 42 s rfl) (hf56 1 7 rfl) hRT23
  have hRE69 : fz_RE H51 := fz_RE_eq (funext fun s => hf56 5 s rfl) (funext fun s => hf56 6 s rfl) (hf56 1 8 rfl) (hf56 1 7 rfl) hRE24
  have hR270 : fz_R2 H51 := fz_R2_eq (funext fun s => hf56 2 s rfl) (funext fun s => hf56 54 s rfl) hR225
  have hR371 : fz_R3 H51 := fz_R3_eq (funext fun s => hf56 3 s rfl) (funext fun s => hf56 57 s rfl) hR326
  have hR472 : fz_R4 H51 := fz_R4_eq (funext fun s => hf56 4 s rfl) (funext fun s => hf56 58 s rfl) hR427
  have hR2873 : fz_R28 H51 := fz_R28_eq (funext fun s => hf56 28 s rfl) (funext fun s => hf56 59 s rfl) hR2828
  have hR574 : fz_R5 H51 := fz_R5_eq (funext fun s => hf56 5 s rfl) (funext fun s => hf56 55 s rfl) hR529
  have hR675 : fz_R6 H51 := fz_R6_eq (funext fun s => hf56 6 s rfl) (funext fun s => hf56 56 s rfl) hR630
  have hRG76 : fz_RG H51 := fz_RG_eq (hf56 27 8 rfl) (hf56 27 9 rfl) (hf56 53 8 rfl) (hf56 53 9 rfl) hRG31
  have hRL77 : fz_RL H51 := fz_RL_eq (funext fun s => hf56 11 s rfl) (funext fun s => hf56 12 s rfl) (funext fun s => hf56 13 s rfl) (funext fun s => hf56 14 s rfl) (funext fun s => hf56 61 s rfl) (funext fun s => hf56 62 s rfl) (funext fun s => hf56 63 s rfl) (funext fun s => hf56 64 s rfl) (hf56 9 5 rfl) hRL32
  have hRC78 : fz_RC H51 := fz_RC_eq (hf56 35 4 rfl) (hf56 35 5 rfl) (hf56 53 41 rfl) (hf56 53 42 rfl) (funext fun s => hf56 36 s rfl) (funext fun s => hf56 37 s rfl) (funext fun s => hf56 38 s rfl) (funext fun s => hf56 39 s rfl) (funext fun s => hf56 80 s rfl) (hf56 1 7 rfl) (hf56 1 8 rfl) (hf56 9 5 rfl) hRC33
  have hRJ79 : fz_RJ H51 := fz_RJ_eq (hf56 40 1 rfl) (hf56 53 34 rfl) (funext fun s => hf56 41 s rfl) (funext fun s => hf56 76 s rfl) (hf56 40 6 rfl) (hf56 53 37 rfl) (funext fun s => hf56 42 s rfl) (funext fun s => hf56 78 s rfl) (hf56 43 0 rfl) (hf56 53 38 rfl) hRJ34
  have hRW80 : fz_RW H51 := fz_RW_eq (funext fun s => hf56 10 s rfl) (funext fun s => hf56 60 s rfl) (hf56 9 5 rfl) hRW35
  have hX81 : fz_Xc H51 := fz_Xc_fr hf56 rfl hX36
  have t82 : H51 53 10 = H6 53 10 := hf56 53 10 rfl
  have t83 : H51 53 41 = H6 53 41 := hf56 53 41 rfl
  have t84 : H51 53 42 = H6 53 42 := hf56 53 42 rfl
  have t85 : H51 9 5 = H6 9 5 := hf56 9 5 rfl
  have t86 : H51 53 10 = H6 53 10 := hf56 53 10 rfl
  have t87 : H51 44 2 = H6 44 2 := hf56 44 2 rfl
  have t88 : H51 53 44 = H6 53 44 := hf56 53 44 rfl
  have t89 : H51 20 2 = H6 20 2 := hf56 20 2 rfl
  have t90 : H51 53 16 = H6 53 16 := hf56 53 16 rfl
  have t91 : H51 1 7 = H6 1 7 := hf56 1 7 rfl
  have t92 : H51 53 0 = H6 53 0 := hf56 53 0 rfl
  have t93 : H51 1 8 = H6 1 8 := hf56 1 8 rfl
  have t94 : H51 53 2 = H6 53 2 := hf56 53 2 rfl
  refine fz_pop rfl kLc37 rfl ?_
  refine fz_goto (tgt := 1816) kLc37 rfl (by decide) ?_
  have hRS95 : fz_RS H51 := fz_RS_keep hRS f14 f60 (by omega)
  exact K H51 ⟨hI55, hX81, hXd63, hXh57, hXw64, (by rw [((hf56 53 10 rfl).trans (hf11 53 10 rfl))]; exact hv1), (by rw [((hf56 53 42 rfl).trans (hf11 53 42 rfl)), ((hf56 53 41 rfl).trans (hf11 53 41 rfl))]; exact hv2), (((hf56 9 5 rfl).trans (hf11 9 5 rfl)).trans (hr0.trans ((hf56 53 10 rfl).trans (hf11 53 10 rfl)).symm)), (((hf56 44 2 rfl).trans (hf11 44 2 rfl)).trans (hr1.trans ((hf56 53 44 rfl).trans (hf11 53 44 rfl)).symm)), (((hf56 20 2 rfl).trans (hf11 20 2 rfl)).trans (hr2.trans ((hf56 53 16 rfl).trans (hf11 53 16 rfl)).symm)), (((hf56 1 7 rfl).trans (hf11 1 7 rfl)).trans (hr3.trans ((hf56 53 0 rfl).trans (hf11 53 0 rfl)).symm)), (((hf56 1 8 rfl).trans (hf11 1 8 rfl)).trans (hr4.trans ((hf56 53 2 rfl).trans (hf11 53 2 rfl)).symm)), hRS95, hRP65, hRK66, hRR67, hRT68, hRE69, hR270, hR371, hR472, hR2873, hR574, hR675, hRG76, hRL77, hRC78, hRJ79, hRW80⟩ (funext fun s => hf62 200 s rfl)
def mLc38 : fz_M := (yL_law, code, 4, (some .boolean), [(1548, .aload_n 1, 1, 0, 0, 0), (1549, .aload_n 0, 1, 0, 0, 0), (1550, .iload_n 3, 1, 0, 0, 0), (1551, .iconst 1, 1, 0, 0, 0), (1552, .iadd, 1, 0, 0, 0), (1553, .iaload, 1, 0, 0, 0), (1554, .aload_n 0, 1, 0, 0, 0), (1555, .iload_n 3, 1, 0, 0, 0), (1556, .iconst 2, 1, 0, 0, 0), (1557, .iadd, 1, 0, 0, 0), (1558, .iaload, 1, 0, 0, 0), (1559, .aload_n 0, 1, 0, 0, 0), (1560, .iload_n 3, 1, 0, 0, 0), (1561, .iconst 3, 1, 0, 0, 0), (1562, .iadd, 1, 0, 0, 0), (1563, .iaload, 1, 0, 0, 0), (1564, .invokevirtual 171, 3, 5022, 69, 0), (1567, .pop, 1, 0, 0, 0), (1568, .aload_n 2, 1, 0, 0, 0), (1569, .aload_n 0, 1, 0, 0, 0), (1570, .iload_n 3, 1, 0, 0, 0), (1571, .iconst 1, 1, 0, 0, 0), (1572, .iadd, 1, 0, 0, 0), (1573, .iaload, 1, 0, 0, 0), (1574, .aload_n 0, 1, 0, 0, 0), (1575, .iload_n 3, 1, 0, 0, 0), (1576, .iconst 2, 1, 0, 0, 0), (1577, .iadd, 1, 0, 0, 0), (1578, .iaload, 1, 0, 0, 0), (1579, .aload_n 0, 1, 0, 0, 0), (1580, .iload_n 3, 1, 0, 0, 0), (1581, .iconst 3, 1, 0, 0, 0), (1582, .iadd, 1, 0, 0, 0), (1583, .iaload, 1, 0, 0, 0), (1584, .invokevirtual 174, 3, 7172, 169, 0), (1587, .pop, 1, 0, 0, 0), (1588, .goto 228, 3, 0, 0, 0)])
set_option maxRecDepth 100000 in
theorem kLc38 : fz_okM mLc38 = true := fz_okM_in (by decide +kernel) (by decide +kernel)
set_option maxHeartbeats 1000000 in
set_option maxRecDepth 100000 in
theorem lc38 (h : fz_H) (hI : fz_Iv h) (hX : fz_Xc h) (hXd : fz_Xd h) (hXh : fz_Xh h) (hXw : fz_Xw h) (hv1 : h 53 10 ≤ 10) (hv2 : h 53 42 ≤ h 53 41) (hr0 : h 9 5 = h 53 10) (hr1 : h 44 2 = h 53 44) (hr2 : h 20 2 = h 53 16) (hr3 : h 1 7 = h 53 0) (hr4 : h 1 8 = h 53 2) (hRS : fz_RS h) (hRP : fz_RP h) (hRK : fz_RK h) (hRR : fz_RR h) (hRT : fz_RT h) (hRE : fz_RE h) (hR2 : fz_R2 h) (hR3 : fz_R3 h) (hR4 : fz_R4 h) (hR28 : fz_R28 h) (hR5 : fz_R5 h) (hR6 : fz_R6 h) (hRG : fz_RG h) (hRL : fz_RL h) (hRC : fz_RC h) (hRJ : fz_RJ h) (hRW : fz_RW h) (i : Int) (hi : 0 ≤ i ∧ i + 6 ≤ h 200 100000 ∧ h 200 100000 ≤ 3072) {Q : fz_H → Option fz_V → Prop} (K : ∀ H : fz_H, fz_Gd H → H 200 = h 200 → fz_R 47 mLe 1816 [(3, fz_i i), (0, fz_r 200), (1, fz_r 0), (2, fz_r 53)] [] H Q) : fz_R 47 mLc38 1548 [(3, fz_i i), (0, fz_r 200), (1, fz_r 0), (2, fz_r 53)] [] h Q := by
  have hf : fz_fr fz_all h h := fz_fr_rf
  refine fz_aload_n kLc38 rfl rfl ?_
  refine fz_aload_n kLc38 rfl rfl ?_
  refine fz_iload_n kLc38 rfl rfl ?_
  refine fz_iconst ⟨by decide, by decide⟩ kLc38 rfl ?_
  refine fz_iaddN kLc38 rfl (by omega) ?_
  obtain ⟨a1, e2⟩ : ∃ z, h 200 ((i + 1)).toNat = z := ⟨_, rfl⟩
  refine fz_taldV (v := a1) kLc38 rfl ⟨by decide, by decide⟩ (by omega) (by omega) e2 ?_
  refine fz_aload_n kLc38 rfl rfl ?_
  refine fz_iload_n kLc38 rfl rfl ?_
  refine fz_iconst ⟨by decide, by decide⟩ kLc38 rfl ?_
  refine fz_iaddN kLc38 rfl (by omega) ?_
  obtain ⟨a3, e4⟩ : ∃ z, h 200 ((i + 2)).toNat = z := ⟨_, rfl⟩
  refine fz_taldV (v := a3) kLc38 rfl ⟨by decide, by decide⟩ (by omega) (by omega) e4 ?_
  refine fz_aload_n kLc38 rfl rfl ?_
  refine fz_iload_n kLc38 rfl rfl ?_
  refine fz_iconst ⟨by decide, by decide⟩ kLc38 rfl ?_
  refine fz_iaddN kLc38 rfl (by omega) ?_
  obtain ⟨a5, e6⟩ : ∃ z, h 200 ((i + 3)).toNat = z := ⟨_, rfl⟩
  refine fz_taldV (v := a5) kLc38 rfl ⟨by decide, by decide⟩ (by omega) (by omega) e6 ?_
  refine fz_callV (d' := 3) (M' := mX10_row) (As := [fz_i a1, fz_i a3, fz_i a5]) (st := []) kLc38 rfl rfl vX10_row rfl rfl rfl rfl (Nat.le_of_ble_eq_true rfl) (Nat.le_of_ble_eq_true rfl) (by decide) (sX10_row h hI a1 a3 a5 ) (fun H7 r8 q9 o10 => ?_)
  obtain ⟨hI11, hf12, y16, rfl, f13, f14, f15⟩ := q9
  clear o10
  have hf17 := fz_fr_tr hf hf12 (fz_su_all rfl)
  have hXd18 : fz_Xd H7 := fz_Xd_eq (funext fun s => hf12 80 s rfl) hXd
  have hXh19 : fz_Xh H7 := fz_Xh_eq (funext fun s => hf12 83 s rfl) hXh
  have hXw20 : fz_Xw H7 := fz_Xw_eq (hf12 53 19 rfl) (funext fun s => hf12 66 s rfl) (funext fun s => hf12 67 s rfl) (funext fun s => hf12 68 s rfl) (funext fun s => hf12 69 s rfl) hXw
  have hRK21 : fz_RK H7 := fz_RK_eq (funext fun s => hf12 45 s rfl) (funext fun s => hf12 81 s rfl) hRK
  have hRR22 : fz_RR H7 := fz_RR_eq (hf12 44 3 rfl) (hf12 53 46 rfl) (funext fun s => hf12 46 s rfl) (funext fun s => hf12 82 s rfl) hRR
  have hRT23 : fz_RT H7 := fz_RT_eq (funext fun s => hf12 41 s rfl) (funext fun s => hf12 42 s rfl) (hf12 1 7 rfl) hRT
  have hRE24 : fz_RE H7 := fz_RE_eq (funext fun s => hf12 5 s rfl) (funext fun s => hf12 6 s rfl) (hf12 1 8 rfl) (hf12 1 7 rfl) hRE
  have hR225 : fz_R2 H7 := fz_R2_eq (funext fun s => hf12 2 s rfl) (funext fun s => hf12 54 s rfl) hR2
  have hR326 : fz_R3 H7 := fz_R3_eq (funext fun s => hf12 3 s rfl) (funext fun s => hf12 57 s rfl) hR3
  have hR427 : fz_R4 H7 := fz_R4_eq (funext fun s => hf12 4 s rfl) (funext fun s => hf12 58 s rfl) hR4
  have hR2828 : fz_R28 H7 := fz_R28_eq (funext fun s => hf12 28 s rfl) (funext fun s => hf12 59 s rfl) hR28
  have hR529 : fz_R5 H7 := fz_R5_eq (funext fun s => hf12 5 s rfl) (funext fun s => hf12 55 s rfl) hR5
  have hR630 : fz_R6 H7 := fz_R6_eq (funext fun s => hf12 6 s rfl) (funext fun s => hf12 56 s rfl) hR6
  have hRG31 : fz_RG H7 := fz_RG_eq (hf12 27 8 rfl) (hf12 27 9 rfl) (hf12 53 8 rfl) (hf12 53 9 rfl) hRG
  have hRL32 : fz_RL H7 := fz_RL_eq (funext fun s => hf12 11 s rfl) (funext fun s => hf12 12 s rfl) (funext fun s => hf12 13 s rfl) (funext fun s => hf12 14 s rfl) (funext fun s => hf12 61 s rfl) (funext fun s => hf12 62 s rfl) (funext fun s => hf12 63 s rfl) (funext fun s => hf12 64 s rfl) (hf12 9 5 rfl) hRL
  have hRC33 : fz_RC H7 := fz_RC_eq (hf12 35 4 rfl) (hf12 35 5 rfl) (hf12 53 41 rfl) (hf12 53 42 rfl) (funext fun s => hf12 36 s rfl) (funext fun s => hf12 37 s rfl) (funext fun s => hf12 38 s rfl) (funext fun s => hf12 39 s rfl) (funext fun s => hf12 80 s rfl) (hf12 1 7 rfl) (hf12 1 8 rfl) (hf12 9 5 rfl) hRC
  have hRJ34 : fz_RJ H7 := fz_RJ_eq (hf12 40 1 rfl) (hf12 53 34 rfl) (funext fun s => hf12 41 s rfl) (funext fun s => hf12 76 s rfl) (hf12 40 6 rfl) (hf12 53 37 rfl) (funext fun s => hf12 42 s rfl) (funext fun s => hf12 78 s rfl) (hf12 43 0 rfl) (hf12 53 38 rfl) hRJ
  have hRW35 : fz_RW H7 := fz_RW_eq (funext fun s => hf12 10 s rfl) (funext fun s => hf12 60 s rfl) (hf12 9 5 rfl) hRW
  have hX36 : fz_Xc H7 := fz_Xc_fr hf12 rfl hX
  have t37 : H7 53 10 = h 53 10 := hf12 53 10 rfl
  have t38 : H7 53 41 = h 53 41 := hf12 53 41 rfl
  have t39 : H7 53 42 = h 53 42 := hf12 53 42 rfl
  have t40 : H7 9 5 = h 9 5 := hf12 9 5 rfl
  have t41 : H7 53 10 = h 53 10 := hf12 53 10 rfl
  have t42 : H7 44 2 = h 44 2 := hf12 44 2 rfl
  have t43 : H7 53 44 = h 53 44 := hf12 53 44 rfl
  have t44 : H7 20 2 = h 20 2 := hf12 20 2 rfl
  have t45 : H7 53 16 = h 53 16 := hf12 53 16 rfl
  have t46 : H7 1 7 = h 1 7 := hf12 1 7 rfl
  have t47 : H7 53 0 = h 53 0 := hf12 53 0 rfl
  have t48 : H7 1 8 = h 1 8 := hf12 1 8 rfl
  have t49 : H7 53 2 = h 53 2 := hf12 53 2 rfl
  refine fz_pop rfl kLc38 rfl ?_
  refine fz_aload_n kLc38 rfl rfl ?_
  refine fz_aload_n kLc38 rfl rfl ?_
  refine fz_iload_n kLc38 rfl rfl ?_
  refine fz_iconst ⟨by decide, by decide⟩ kLc38 rfl ?_
  refine fz_iaddN kLc38 rfl (by omega) ?_
  refine fz_taldV (v := a1) kLc38 rfl ⟨by decide, by decide⟩ (by omega) (by rw [hf17 200 _ rfl]; omega) ((hf17 200 _ rfl).trans e2) ?_
  refine fz_aload_n kLc38 rfl rfl ?_
  refine fz_iload_n kLc38 rfl rfl ?_
  refine fz_iconst ⟨by decide, by decide⟩ kLc38 rfl ?_
  refine fz_iaddN kLc38 rfl (by omega) ?_
  refine fz_taldV (v := a3) kLc38 rfl ⟨by decide, by decide⟩ (by omega) (by rw [hf17 200 _ rfl]; omega) ((hf17 200 _ rfl).trans e4) ?_
  refine fz_aload_n kLc38 rfl rfl ?_
  refine fz_iload_n kLc38 rfl rfl ?_
  refine fz_iconst ⟨by decide, by decide⟩ kLc38 rfl ?_
  refine fz_iaddN kLc38 rfl (by omega) ?_
  refine fz_taldV (v := a5) kLc38 rfl ⟨by decide, by decide⟩ (by omega) (by rw [hf17 200 _ rfl]; omega) ((hf17 200 _ rfl).trans e6) ?_
  refine fz_callV (d' := 2) (M' := mX11_row) (As := [fz_i a1, fz_i a3, fz_i a5]) (st := []) kLc38 rfl rfl vX11_row rfl rfl rfl rfl (Nat.le_of_ble_eq_true rfl) (Nat.le_of_ble_eq_true rfl) (by decide) (sX11_row H7 hI11 a1 a3 a5 hXh19) (fun H50 r51 q52 o53 => ?_)
  obtain ⟨hI54, hf55, hXh56, y60, rfl, f57, f58, f59⟩ := q52
  clear o53
  have hf61 := fz_fr_tr hf17 hf55 (fz_su_all rfl)
  have hXd62 : fz_Xd H50 := fz_Xd_eq (funext fun s => hf55 80 s rfl) hXd18
  have hXw63 : fz_Xw H50 := fz_Xw_eq (hf55 53 19 rfl) (funext fun s => hf55 66 s rfl) (funext fun s => hf55 67 s rfl) (funext fun s => hf55 68 s rfl) (funext fun s => hf55 69 s rfl) hXw20
  have hRK64 : fz_RK H50 := fz_RK_eq (funext fun s => hf55 45 s rfl) (funext fun s => hf55 81 s rfl) hRK21
  have hRR65 : fz_RR H50 := fz_RR_eq (hf55 44 3 rfl) (hf55 53 46 rfl) (funext fun s => hf55 46 s rfl) (funext fun s => hf55 82 s rfl) hRR22
  have hRT66 : fz_RT H50 := fz_RT_eq (funext fun s => hf55 41 s rfl) (funext fun s => hf55 42 s rfl) (hf55 1 7 rfl) hRT23
  have hRE67 : fz_RE H50 := fz_RE_eq (funext fun s => hf55 5 s rfl) (funext fun s => hf55 6 s rfl) (hf55 1 8 rfl) (hf55 1 7 rfl) hRE24
  have hR268 : fz_R2 H50 := fz_R2_eq (funext fun s => hf55 2 s rfl) (funext fun s => hf55 54 s rfl) hR225
  have hR369 : fz_R3 H50 := fz_R3_eq (funext fun s => hf55 3 s rfl) (funext fun s => hf55 57 s rfl) hR326
  have hR470 : fz_R4 H50 := fz_R4_eq (funext fun s => hf55 4 s rfl) (funext fun s => hf55 58 s rfl) hR427
  have hR2871 : fz_R28 H50 := fz_R28_eq (funext fun s => hf55 28 s rfl) (funext fun s => hf55 59 s rfl) hR2828
  have hR572 : fz_R5 H50 := fz_R5_eq (funext fun s => hf55 5 s rfl) (funext fun s => hf55 55 s rfl) hR529
  have hR673 : fz_R6 H50 := fz_R6_eq (funext fun s => hf55 6 s rfl) (funext fun s => hf55 56 s rfl) hR630
  have hRG74 : fz_RG H50 := fz_RG_eq (hf55 27 8 rfl) (hf55 27 9 rfl) (hf55 53 8 rfl) (hf55 53 9 rfl) hRG31
  have hRL75 : fz_RL H50 := fz_RL_eq (funext fun s => hf55 11 s rfl) (funext fun s => hf55 12 s rfl) (funext fun s => hf55 13 s rfl) (funext fun s => hf55 14 s rfl) (funext fun s => hf55 61 s rfl) (funext fun s => hf55 62 s rfl) (funext fun s => hf55 63 s rfl) (funext fun s => hf55 64 s rfl) (hf55 9 5 rfl) hRL32
  have hRC76 : fz_RC H50 := fz_RC_eq (hf55 35 4 rfl) (hf55 35 5 rfl) (hf55 53 41 rfl) (hf55 53 42 rfl) (funext fun s => hf55 36 s rfl) (funext fun s => hf55 37 s rfl) (funext fun s => hf55 38 s rfl) (funext fun s => hf55 39 s rfl) (funext fun s => hf55 80 s rfl) (hf55 1 7 rfl) (hf55 1 8 rfl) (hf55 9 5 rfl) hRC33
  have hRJ77 : fz_RJ H50 := fz_RJ_eq (hf55 40 1 rfl) (hf55 53 34 rfl) (funext fun s => hf55 41 s rfl) (funext fun s => hf55 76 s rfl) (hf55 40 6 rfl) (hf55 53 37 rfl) (funext fun s => hf55 42 s rfl) (funext fun s => hf55 78 s rfl) (hf55 43 0 rfl) (hf55 53 38 rfl) hRJ34
  have hRW78 : fz_RW H50 := fz_RW_eq (funext fun s => hf55 10 s rfl) (funext fun s => hf55 60 s rfl) (hf55 9 5 rfl) hRW35
  have hX79 : fz_Xc H50 := fz_Xc_fr hf55 rfl hX36
  have t80 : H50 53 10 = H7 53 10 := hf55 53 10 rfl
  have t81 : H50 53 41 = H7 53 41 := hf55 53 41 rfl
  have t82 : H50 53 42 = H7 53 42 := hf55 53 42 rfl
  have t83 : H50 9 5 = H7 9 5 := hf55 9 5 rfl
  have t84 : H50 53 10 = H7 53 10 := hf55 53 10 rfl
  have t85 : H50 44 2 = H7 44 2 := hf55 44 2 rfl
  have t86 : H50 53 44 = H7 53 44 := hf55 53 44 rfl
  have t87 : H50 20 2 = H7 20 2 := hf55 20 2 rfl
  have t88 : H50 53 16 = H7 53 16 := hf55 53 16 rfl
  have t89 : H50 1 7 = H7 1 7 := hf55 1 7 rfl
  have t90 : H50 53 0 = H7 53 0 := hf55 53 0 rfl
  have t91 : H50 1 8 = H7 1 8 := hf55 1 8 rfl
  have t92 : H50 53 2 = H7 53 2 := hf55 53 2 rfl
  refine fz_pop rfl kLc38 rfl ?_
  refine fz_goto (tgt := 1816) kLc38 rfl (by decide) ?_
  have hRS93 : fz_RS H50 := fz_RS_row hRS f15 f59
  have hRP95 : fz_RP H50 := fz_RP_row hRP f15 f59
  exact K H50 ⟨hI54, hX79, hXd62, hXh56, hXw63, (by rw [((hf55 53 10 rfl).trans (hf12 53 10 rfl))]; exact hv1), (by rw [((hf55 53 42 rfl).trans (hf12 53 42 rfl)), ((hf55 53 41 rfl).trans (hf12 53 41 rfl))]; exact hv2), (((hf55 9 5 rfl).trans (hf12 9 5 rfl)).trans (hr0.trans ((hf55 53 10 rfl).trans (hf12 53 10 rfl)).symm)), (((hf55 44 2 rfl).trans (hf12 44 2 rfl)).trans (hr1.trans ((hf55 53 44 rfl).trans (hf12 53 44 rfl)).symm)), (((hf55 20 2 rfl).trans (hf12 20 2 rfl)).trans (hr2.trans ((hf55 53 16 rfl).trans (hf12 53 16 rfl)).symm)), (((hf55 1 7 rfl).trans (hf12 1 7 rfl)).trans (hr3.trans ((hf55 53 0 rfl).trans (hf12 53 0 rfl)).symm)), (((hf55 1 8 rfl).trans (hf12 1 8 rfl)).trans (hr4.trans ((hf55 53 2 rfl).trans (hf12 53 2 rfl)).symm)), hRS93, hRP95, hRK64, hRR65, hRT66, hRE67, hR268, hR369, hR470, hR2871, hR572, hR673, hRG74, hRL75, hRC76, hRJ77, hRW78⟩ (funext fun s => hf61 200 s rfl)
def mLc39 : fz_M := (yL_law, code, 4, (some .boolean), [(1591, .aload_n 1, 1, 0, 0, 0), (1592, .aload_n 0, 1, 0, 0, 0), (1593, .iload_n 3, 1, 0, 0, 0), (1594, .iconst 1, 1, 0, 0, 0), (1595, .iadd, 1, 0, 0, 0), (1596, .iaload, 1, 0, 0, 0), (1597, .aload_n 0, 1, 0, 0, 0), (1598, .iload_n 3, 1, 0, 0, 0), (1599, .iconst 2, 1, 0, 0, 0), (1600, .iadd, 1, 0, 0, 0), (1601, .iaload, 1, 0, 0, 0), (1602, .aload_n 0, 1, 0, 0, 0), (1603, .iload_n 3, 1, 0, 0, 0), (1604, .iconst 3, 1, 0, 0, 0), (1605, .iadd, 1, 0, 0, 0), (1606, .iaload, 1, 0, 0, 0), (1607, .i2l, 1, 0, 0, 0), (1608, .bipush 32, 2, 0, 0, 0), (1610, .lshl, 1, 0, 0, 0), (1611, .aload_n 0, 1, 0, 0, 0), (1612, .iload_n 3, 1, 0, 0, 0), (1613, .iconst 4, 1, 0, 0, 0), (1614, .iadd, 1, 0, 0, 0), (1615, .iaload, 1, 0, 0, 0), (1616, .i2l, 1, 0, 0, 0), (1617, .ldc2_w 175, 3, 7203, 0, 0), (1620, .land, 1, 0, 0, 0), (1621, .lor, 1, 0, 0, 0), (1622, .invokevirtual 177, 3, 5036, 62, 0), (1625, .pop, 1, 0, 0, 0), (1626, .aload_n 2, 1, 0, 0, 0), (1627, .aload_n 0, 1, 0, 0, 0), (1628, .iload_n 3, 1, 0, 0, 0), (1629, .iconst 1, 1, 0, 0, 0), (1630, .iadd, 1, 0, 0, 0), (1631, .iaload, 1, 0, 0, 0), (1632, .aload_n 0, 1, 0, 0, 0), (1633, .iload_n 3, 1, 0, 0, 0), (1634, .iconst 2, 1, 0, 0, 0), (1635, .iadd, 1, 0, 0, 0), (1636, .iaload, 1, 0, 0, 0), (1637, .aload_n 0, 1, 0, 0, 0), (1638, .iload_n 3, 1, 0, 0, 0), (1639, .iconst 3, 1, 0, 0, 0), (1640, .iadd, 1, 0, 0, 0), (1641, .iaload, 1, 0, 0, 0), (1642, .i2l, 1, 0, 0, 0), (1643, .bipush 32, 2, 0, 0, 0), (1645, .lshl, 1, 0, 0, 0), (1646, .aload_n 0, 1, 0, 0, 0), (1647, .iload_n 3, 1, 0, 0, 0), (1648, .iconst 4, 1, 0, 0, 0), (1649, .iadd, 1, 0, 0, 0), (1650, .iaload, 1, 0, 0, 0), (1651, .i2l, 1, 0, 0, 0), (1652, .ldc2_w 175, 3, 7203, 0, 0), (1655, .land, 1, 0, 0, 0), (1656, .lor, 1, 0, 0, 0), (1657, .invokevirtual 181, 3, 7176, 161, 0), (1660, .pop, 1, 0, 0, 0), (1661, .goto 155, 3, 0, 0, 0)])
set_option maxRecDepth 100000 in
theorem kLc39 : fz_okM mLc39 = true := fz_okM_in (by decide +kernel) (by decide +kernel)
set_option maxHeartbeats 1000000 in
set_option maxRecDepth 100000 in
theorem lc39 (h : fz_H) (hI : fz_Iv h) (hX : fz_Xc h) (hXd : fz_Xd h) (hXh : fz_Xh h) (hXw : fz_Xw h) (hv1 : h 53 10 ≤ 10) (hv2 : h 53 42 ≤ h 53 41) (hr0 : h 9 5 = h 53 10) (hr1 : h 44 2 = h 53 44) (hr2 : h 20 2 = h 53 16) (hr3 : h 1 7 = h 53 0) (hr4 : h 1 8 = h 53 2) (hRS : fz_RS h) (hRP : fz_RP h) (hRK : fz_RK h) (hRR : fz_RR h) (hRT : fz_RT h) (hRE : fz_RE h) (hR2 : fz_R2 h) (hR3 : fz_R3 h) (hR4 : fz_R4 h) (hR28 : fz_R28 h) (hR5 : fz_R5 h) (hR6 : fz_R6 h) (hRG : fz_RG h) (hRL : fz_RL h) (hRC : fz_RC h) (hRJ : fz_RJ h) (hRW : fz_RW h) (i : Int) (hi : 0 ≤ i ∧ i + 6 ≤ h 200 100000 ∧ h 200 100000 ≤ 3072) {Q : fz_H → Option fz_V → Prop} (K : ∀ H : fz_H, fz_Gd H → H 200 = h 200 → fz_R 47 mLe 1816 [(3, fz_i i), (0, fz_r 200), (1, fz_r 0), (2, fz_r 53)] [] H Q) : fz_R 47 mLc39 1591 [(3, fz_i i), (0, fz_r 200), (1, fz_r 0), (2, fz_r 53)] [] h Q := by
  have hf : fz_fr fz_all h h := fz_fr_rf
  refine fz_aload_n kLc39 rfl rfl ?_
  refine fz_aload_n kLc39 rfl rfl ?_
  refine fz_iload_n kLc39 rfl rfl ?_
  refine fz_iconst ⟨by decide, by decide⟩ kLc39 rfl ?_
  refine fz_iaddN kLc39 rfl (by omega) ?_
  obtain ⟨a1, e2⟩ : ∃ z, h 200 ((i + 1)).toNat = z := ⟨_, rfl⟩
  refine fz_taldV (v := a1) kLc39 rfl ⟨by decide, by decide⟩ (by omega) (by omega) e2 ?_
  refine fz_aload_n kLc39 rfl rfl ?_
  refine fz_iload_n kLc39 rfl rfl ?_
  refine fz_iconst ⟨by decide, by decide⟩ kLc39 rfl ?_
  refine fz_iaddN kLc39 rfl (by omega) ?_
  obtain ⟨a3, e4⟩ : ∃ z, h 200 ((i + 2)).toNat = z := ⟨_, rfl⟩
  refine fz_taldV (v := a3) kLc39 rfl ⟨by decide, by decide⟩ (by omega) (by omega) e4 ?_
  refine fz_aload_n kLc39 rfl rfl ?_
  refine fz_iload_n kLc39 rfl rfl ?_
  refine fz_iconst ⟨by decide, by decide⟩ kLc39 rfl ?_
  refine fz_iaddN kLc39 rfl (by omega) ?_
  obtain ⟨a5, e6⟩ : ∃ z, h 200 ((i + 3)).toNat = z := ⟨_, rfl⟩
  refine fz_taldV (v := a5) kLc39 rfl ⟨by decide, by decide⟩ (by omega) (by omega) e6 ?_
  refine fz_i2l kLc39 rfl ?_
  refine fz_bipush ⟨by decide, by decide⟩ kLc39 rfl ?_
  refine fz_lshl kLc39 rfl ?_
  refine fz_aload_n kLc39 rfl rfl ?_
  refine fz_iload_n kLc39 rfl rfl ?_
  refine fz_iconst ⟨by decide, by decide⟩ kLc39 rfl ?_
  refine fz_iaddN kLc39 rfl (by omega) ?_
  obtain ⟨a7, e8⟩ : ∃ z, h 200 ((i + 4)).toNat = z := ⟨_, rfl⟩
  refine fz_taldV (v := a7) kLc39 rfl ⟨by decide, by decide⟩ (by omega) (by omega) e8 ?_
  refine fz_i2l kLc39 rfl ?_
  refine fz_ldc2 (x := 4294967295) kLc39 rfl rfl rfl ?_
  refine fz_land kLc39 rfl ?_
  refine fz_lor kLc39 rfl ?_
  refine fz_callV (d' := 3) (M' := mX10_put) (As := [fz_i a1, fz_i a3, fz_l (fz_orl (fz_shll a5 32) (fz_andl a7 4294967295))]) (st := []) kLc39 rfl rfl vX10_put rfl rfl rfl rfl (Nat.le_of_ble_eq_true rfl) (Nat.le_of_ble_eq_true rfl) (by decide) (sX10_put h hI a1 a3 (fz_orl (fz_shll a5 32) (fz_andl a7 4294967295)) ) (fun H9 r10 q11 o12 => ?_)
  obtain ⟨hI13, hf14, y18, rfl, f15, f16, f17⟩ := q11
  clear o12
  have hf19 := fz_fr_tr hf hf14 (fz_su_all rfl)
  have hXd20 : fz_Xd H9 := fz_Xd_eq (funext fun s => hf14 80 s rfl) hXd
  have hXh21 : fz_Xh H9 := fz_Xh_eq (funext fun s => hf14 83 s rfl) hXh
  have hXw22 : fz_Xw H9 := fz_Xw_eq (hf14 53 19 rfl) (funext fun s => hf14 66 s rfl) (funext fun s => hf14 67 s rfl) (funext fun s => hf14 68 s rfl) (funext fun s => hf14 69 s rfl) hXw
  have hRS23 : fz_RS H9 := fz_RS_eq (funext fun s => hf14 48 s rfl) (funext fun s => hf14 49 s rfl) (funext fun s => hf14 50 s rfl) (funext fun s => hf14 51 s rfl) (funext fun s => hf14 83 s rfl) (funext fun s => hf14 84 s rfl) (hf14 44 2 rfl) hRS
  have hRK24 : fz_RK H9 := fz_RK_eq (funext fun s => hf14 45 s rfl) (funext fun s => hf14 81 s rfl) hRK
  have hRR25 : fz_RR H9 := fz_RR_eq (hf14 44 3 rfl) (hf14 53 46 rfl) (funext fun s => hf14 46 s rfl) (funext fun s => hf14 82 s rfl) hRR
  have hRT26 : fz_RT H9 := fz_RT_eq (funext fun s => hf14 41 s rfl) (funext fun s => hf14 42 s rfl) (hf14 1 7 rfl) hRT
  have hRE27 : fz_RE H9 := fz_RE_eq (funext fun s => hf14 5 s rfl) (funext fun s => hf14 6 s rfl) (hf14 1 8 rfl) (hf14 1 7 rfl) hRE
  have hR228 : fz_R2 H9 := fz_R2_eq (funext fun s => hf14 2 s rfl) (funext fun s => hf14 54 s rfl) hR2
  have hR329 : fz_R3 H9 := fz_R3_eq (funext fun s => hf14 3 s rfl) (funext fun s => hf14 57 s rfl) hR3
  have hR430 : fz_R4 H9 := fz_R4_eq (funext fun s => hf14 4 s rfl) (funext fun s => hf14 58 s rfl) hR4
  have hR2831 : fz_R28 H9 := fz_R28_eq (funext fun s => hf14 28 s rfl) (funext fun s => hf14 59 s rfl) hR28
  have hR532 : fz_R5 H9 := fz_R5_eq (funext fun s => hf14 5 s rfl) (funext fun s => hf14 55 s rfl) hR5
  have hR633 : fz_R6 H9 := fz_R6_eq (funext fun s => hf14 6 s rfl) (funext fun s => hf14 56 s rfl) hR6
  have hRG34 : fz_RG H9 := fz_RG_eq (hf14 27 8 rfl) (hf14 27 9 rfl) (hf14 53 8 rfl) (hf14 53 9 rfl) hRG
  have hRL35 : fz_RL H9 := fz_RL_eq (funext fun s => hf14 11 s rfl) (funext fun s => hf14 12 s rfl) (funext fun s => hf14 13 s rfl) (funext fun s => hf14 14 s rfl) (funext fun s => hf14 61 s rfl) (funext fun s => hf14 62 s rfl) (funext fun s => hf14 63 s rfl) (funext fun s => hf14 64 s rfl) (hf14 9 5 rfl) hRL
  have hRC36 : fz_RC H9 := fz_RC_eq (hf14 35 4 rfl) (hf14 35 5 rfl) (hf14 53 41 rfl) (hf14 53 42 rfl) (funext fun s => hf14 36 s rfl) (funext fun s => hf14 37 s rfl) (funext fun s => hf14 38 s rfl) (funext fun s => hf14 39 s rfl) (funext fun s => hf14 80 s rfl) (hf14 1 7 rfl) (hf14 1 8 rfl) (hf14 9 5 rfl) hRC
  have hRJ37 : fz_RJ H9 := fz_RJ_eq (hf14 40 1 rfl) (hf14 53 34 rfl) (funext fun s => hf14 41 s rfl) (funext fun s => hf14 76 s rfl) (hf14 40 6 rfl) (hf14 53 37 rfl) (funext fun s => hf14 42 s rfl) (funext fun s => hf14 78 s rfl) (hf14 43 0 rfl) (hf14 53 38 rfl) hRJ
  have hRW38 : fz_RW H9 := fz_RW_eq (funext fun s => hf14 10 s rfl) (funext fun s => hf14 60 s rfl) (hf14 9 5 rfl) hRW
  have hX39 : fz_Xc H9 := fz_Xc_fr hf14 rfl hX
  have t40 : H9 53 10 = h 53 10 := hf14 53 10 rfl
  have t41 : H9 53 41 = h 53 41 := hf14 53 41 rfl
  have t42 : H9 53 42 = h 53 42 := hf14 53 42 rfl
  have t43 : H9 9 5 = h 9 5 := hf14 9 5 rfl
  have t44 : H9 53 10 = h 53 10 := hf14 53 10 rfl
  have t45 : H9 44 2 = h 44 2 := hf14 44 2 rfl
  have t46 : H9 53 44 = h 53 44 := hf14 53 44 rfl
  have t47 : H9 20 2 = h 20 2 := hf14 20 2 rfl
  have t48 : H9 53 16 = h 53 16 := hf14 53 16 rfl
  have t49 : H9 1 7 = h 1 7 := hf14 1 7 rfl
  have t50 : H9 53 0 = h 53 0 := hf14 53 0 rfl
  have t51 : H9 1 8 = h 1 8 := hf14 1 8 rfl
  have t52 : H9 53 2 = h 53 2 := hf14 53 2 rfl
  refine fz_pop rfl kLc39 rfl ?_
  refine fz_aload_n kLc39 rfl rfl ?_
  refine fz_aload_n kLc39 rfl rfl ?_
  refine fz_iload_n kLc39 rfl rfl ?_
  refine fz_iconst ⟨by decide, by decide⟩ kLc39 rfl ?_
  refine fz_iaddN kLc39 rfl (by omega) ?_
  refine fz_taldV (v := a1) kLc39 rfl ⟨by decide, by decide⟩ (by omega) (by rw [hf19 200 _ rfl]; omega) ((hf19 200 _ rfl).trans e2) ?_
  refine fz_aload_n kLc39 rfl rfl ?_
  refine fz_iload_n kLc39 rfl rfl ?_
  refine fz_iconst ⟨by decide, by decide⟩ kLc39 rfl ?_
  refine fz_iaddN kLc39 rfl (by omega) ?_
  refine fz_taldV (v := a3) kLc39 rfl ⟨by decide, by decide⟩ (by omega) (by rw [hf19 200 _ rfl]; omega) ((hf19 200 _ rfl).trans e4) ?_
  refine fz_aload_n kLc39 rfl rfl ?_
  refine fz_iload_n kLc39 rfl rfl ?_
  refine fz_iconst ⟨by decide, by decide⟩ kLc39 rfl ?_
  refine fz_iaddN kLc39 rfl (by omega) ?_
  refine fz_taldV (v := a5) kLc39 rfl ⟨by decide, by decide⟩ (by omega) (by rw [hf19 200 _ rfl]; omega) ((hf19 200 _ rfl).trans e6) ?_
  refine fz_i2l kLc39 rfl ?_
  refine fz_bipush ⟨by decide, by decide⟩ kLc39 rfl ?_
  refine fz_lshl kLc39 rfl ?_
  refine fz_aload_n kLc39 rfl rfl ?_
  refine fz_iload_n kLc39 rfl rfl ?_
  refine fz_iconst ⟨by decide, by decide⟩ kLc39 rfl ?_
  refine fz_iaddN kLc39 rfl (by omega) ?_
  refine fz_taldV (v := a7) kLc39 rfl ⟨by decide, by decide⟩ (by omega) (by rw [hf19 200 _ rfl]; omega) ((hf19 200 _ rfl).trans e8) ?_
  refine fz_i2l kLc39 rfl ?_
  refine fz_ldc2 (x := 4294967295) kLc39 rfl rfl rfl ?_
  refine fz_land kLc39 rfl ?_
  refine fz_lor kLc39 rfl ?_
  refine fz_callV (d' := 2) (M' := mX11_put) (As := [fz_i a1, fz_i a3, fz_l (fz_orl (fz_shll a5 32) (fz_andl a7 4294967295))]) (st := []) kLc39 rfl rfl vX11_put rfl rfl rfl rfl (Nat.le_of_ble_eq_true rfl) (Nat.le_of_ble_eq_true rfl) (by decide) (sX11_put H9 hI13 a1 a3 (fz_orl (fz_shll a5 32) (fz_andl a7 4294967295)) ) (fun H53 r54 q55 o56 => ?_)
  obtain ⟨hI57, hf58, y62, rfl, f59, f60, f61⟩ := q55
  clear o56
  have hf63 := fz_fr_tr hf19 hf58 (fz_su_all rfl)
  have hXd64 : fz_Xd H53 := fz_Xd_eq (funext fun s => hf58 80 s rfl) hXd20
  have hXh65 : fz_Xh H53 := fz_Xh_eq (funext fun s => hf58 83 s rfl) hXh21
  have hXw66 : fz_Xw H53 := fz_Xw_eq (hf58 53 19 rfl) (funext fun s => hf58 66 s rfl) (funext fun s => hf58 67 s rfl) (funext fun s => hf58 68 s rfl) (funext fun s => hf58 69 s rfl) hXw22
  have hRS67 : fz_RS H53 := fz_RS_eq (funext fun s => hf58 48 s rfl) (funext fun s => hf58 49 s rfl) (funext fun s => hf58 50 s rfl) (funext fun s => hf58 51 s rfl) (funext fun s => hf58 83 s rfl) (funext fun s => hf58 84 s rfl) (hf58 44 2 rfl) hRS23
  have hRK68 : fz_RK H53 := fz_RK_eq (funext fun s => hf58 45 s rfl) (funext fun s => hf58 81 s rfl) hRK24
  have hRR69 : fz_RR H53 := fz_RR_eq (hf58 44 3 rfl) (hf58 53 46 rfl) (funext fun s => hf58 46 s rfl) (funext fun s => hf58 82 s rfl) hRR25
  have hRT70 : fz_RT H53 := fz_RT_eq (funext fun s => hf58 41 s rfl) (funext fun s => hf58 42 s rfl) (hf58 1 7 rfl) hRT26
  have hRE71 : fz_RE H53 := fz_RE_eq (funext fun s => hf58 5 s rfl) (funext fun s => hf58 6 s rfl) (hf58 1 8 rfl) (hf58 1 7 rfl) hRE27
  have hR272 : fz_R2 H53 := fz_R2_eq (funext fun s => hf58 2 s rfl) (funext fun s => hf58 54 s rfl) hR228
  have hR373 : fz_R3 H53 := fz_R3_eq (funext fun s => hf58 3 s rfl) (funext fun s => hf58 57 s rfl) hR329
  have hR474 : fz_R4 H53 := fz_R4_eq (funext fun s => hf58 4 s rfl) (funext fun s => hf58 58 s rfl) hR430
  have hR2875 : fz_R28 H53 := fz_R28_eq (funext fun s => hf58 28 s rfl) (funext fun s => hf58 59 s rfl) hR2831
  have hR576 : fz_R5 H53 := fz_R5_eq (funext fun s => hf58 5 s rfl) (funext fun s => hf58 55 s rfl) hR532
  have hR677 : fz_R6 H53 := fz_R6_eq (funext fun s => hf58 6 s rfl) (funext fun s => hf58 56 s rfl) hR633
  have hRG78 : fz_RG H53 := fz_RG_eq (hf58 27 8 rfl) (hf58 27 9 rfl) (hf58 53 8 rfl) (hf58 53 9 rfl) hRG34
  have hRL79 : fz_RL H53 := fz_RL_eq (funext fun s => hf58 11 s rfl) (funext fun s => hf58 12 s rfl) (funext fun s => hf58 13 s rfl) (funext fun s => hf58 14 s rfl) (funext fun s => hf58 61 s rfl) (funext fun s => hf58 62 s rfl) (funext fun s => hf58 63 s rfl) (funext fun s => hf58 64 s rfl) (hf58 9 5 rfl) hRL35
  have hRC80 : fz_RC H53 := fz_RC_eq (hf58 35 4 rfl) (hf58 35 5 rfl) (hf58 53 41 rfl) (hf58 53 42 rfl) (funext fun s => hf58 36 s rfl) (funext fun s => hf58 37 s rfl) (funext fun s => hf58 38 s rfl) (funext fun s => hf58 39 s rfl) (funext fun s => hf58 80 s rfl) (hf58 1 7 rfl) (hf58 1 8 rfl) (hf58 9 5 rfl) hRC36
  have hRJ81 : fz_RJ H53 := fz_RJ_eq (hf58 40 1 rfl) (hf58 53 34 rfl) (funext fun s => hf58 41 s rfl) (funext fun s => hf58 76 s rfl) (hf58 40 6 rfl) (hf58 53 37 rfl) (funext fun s => hf58 42 s rfl) (funext fun s => hf58 78 s rfl) (hf58 43 0 rfl) (hf58 53 38 rfl) hRJ37
  have hRW82 : fz_RW H53 := fz_RW_eq (funext fun s => hf58 10 s rfl) (funext fun s => hf58 60 s rfl) (hf58 9 5 rfl) hRW38
  have hX83 : fz_Xc H53 := fz_Xc_fr hf58 rfl hX39
  have t84 : H53 53 10 = H9 53 10 := hf58 53 10 rfl
  have t85 : H53 53 41 = H9 53 41 := hf58 53 41 rfl
  have t86 : H53 53 42 = H9 53 42 := hf58 53 42 rfl
  have t87 : H53 9 5 = H9 9 5 := hf58 9 5 rfl
  have t88 : H53 53 10 = H9 53 10 := hf58 53 10 rfl
  have t89 : H53 44 2 = H9 44 2 := hf58 44 2 rfl
  have t90 : H53 53 44 = H9 53 44 := hf58 53 44 rfl
  have t91 : H53 20 2 = H9 20 2 := hf58 20 2 rfl
  have t92 : H53 53 16 = H9 53 16 := hf58 53 16 rfl
  have t93 : H53 1 7 = H9 1 7 := hf58 1 7 rfl
  have t94 : H53 53 0 = H9 53 0 := hf58 53 0 rfl
  have t95 : H53 1 8 = H9 1 8 := hf58 1 8 rfl
  have t96 : H53 53 2 = H9 53 2 := hf58 53 2 rfl
  refine fz_pop rfl kLc39 rfl ?_
  refine fz_goto (tgt := 1816) kLc39 rfl (by decide) ?_
  have hRP97 : fz_RP H53 := fz_RP_put hRP hRS f17 f61 (funext fun s => hf14 83 s rfl) (funext fun s => hf14 84 s rfl)
  exact K H53 ⟨hI57, hX83, hXd64, hXh65, hXw66, (by rw [((hf58 53 10 rfl).trans (hf14 53 10 rfl))]; exact hv1), (by rw [((hf58 53 42 rfl).trans (hf14 53 42 rfl)), ((hf58 53 41 rfl).trans (hf14 53 41 rfl))]; exact hv2), (((hf58 9 5 rfl).trans (hf14 9 5 rfl)).trans (hr0.trans ((hf58 53 10 rfl).trans (hf14 53 10 rfl)).symm)), (((hf58 44 2 rfl).trans (hf14 44 2 rfl)).trans (hr1.trans ((hf58 53 44 rfl).trans (hf14 53 44 rfl)).symm)), (((hf58 20 2 rfl).trans (hf14 20 2 rfl)).trans (hr2.trans ((hf58 53 16 rfl).trans (hf14 53 16 rfl)).symm)), (((hf58 1 7 rfl).trans (hf14 1 7 rfl)).trans (hr3.trans ((hf58 53 0 rfl).trans (hf14 53 0 rfl)).symm)), (((hf58 1 8 rfl).trans (hf14 1 8 rfl)).trans (hr4.trans ((hf58 53 2 rfl).trans (hf14 53 2 rfl)).symm)), hRS67, hRP97, hRK68, hRR69, hRT70, hRE71, hR272, hR373, hR474, hR2875, hR576, hR677, hRG78, hRL79, hRC80, hRJ81, hRW82⟩ (funext fun s => hf63 200 s rfl)
def mLc40 : fz_M := (yL_law, code, 4, (some .boolean), [(1664, .aload_n 1, 1, 0, 0, 0), (1665, .aload_n 0, 1, 0, 0, 0), (1666, .iload_n 3, 1, 0, 0, 0), (1667, .iconst 1, 1, 0, 0, 0), (1668, .iadd, 1, 0, 0, 0), (1669, .iaload, 1, 0, 0, 0), (1670, .aload_n 0, 1, 0, 0, 0), (1671, .iload_n 3, 1, 0, 0, 0), (1672, .iconst 2, 1, 0, 0, 0), (1673, .iadd, 1, 0, 0, 0), (1674, .iaload, 1, 0, 0, 0), (1675, .invokevirtual 182, 3, 5052, 29, 0), (1678, .pop2, 1, 0, 0, 0), (1679, .aload_n 2, 1, 0, 0, 0), (1680, .aload_n 0, 1, 0, 0, 0), (1681, .iload_n 3, 1, 0, 0, 0), (1682, .iconst 1, 1, 0, 0, 0), (1683, .iadd, 1, 0, 0, 0), (1684, .iaload, 1, 0, 0, 0), (1685, .aload_n 0, 1, 0, 0, 0), (1686, .iload_n 3, 1, 0, 0, 0), (1687, .iconst 2, 1, 0, 0, 0), (1688, .iadd, 1, 0, 0, 0), (1689, .iaload, 1, 0, 0, 0), (1690, .invokevirtual 186, 3, 7187, 98, 0), (1693, .pop2, 1, 0, 0, 0), (1694, .goto 122, 3, 0, 0, 0)])
set_option maxRecDepth 100000 in
theorem kLc40 : fz_okM mLc40 = true := fz_okM_in (by decide +kernel) (by decide +kernel)
set_option maxHeartbeats 1000000 in
set_option maxRecDepth 100000 in
theorem lc40 (h : fz_H) (hI : fz_Iv h) (hX : fz_Xc h) (hXd : fz_Xd h) (hXh : fz_Xh h) (hXw : fz_Xw h) (hv1 : h 53 10 ≤ 10) (hv2 : h 53 42 ≤ h 53 41) (hr0 : h 9 5 = h 53 10) (hr1 : h 44 2 = h 53 44) (hr2 : h 20 2 = h 53 16) (hr3 : h 1 7 = h 53 0) (hr4 : h 1 8 = h 53 2) (hRS : fz_RS h) (hRP : fz_RP h) (hRK : fz_RK h) (hRR : fz_RR h) (hRT : fz_RT h) (hRE : fz_RE h) (hR2 : fz_R2 h) (hR3 : fz_R3 h) (hR4 : fz_R4 h) (hR28 : fz_R28 h) (hR5 : fz_R5 h) (hR6 : fz_R6 h) (hRG : fz_RG h) (hRL : fz_RL h) (hRC : fz_RC h) (hRJ : fz_RJ h) (hRW : fz_RW h) (i : Int) (hi : 0 ≤ i ∧ i + 6 ≤ h 200 100000 ∧ h 200 100000 ≤ 3072) {Q : fz_H → Option fz_V → Prop} (K : ∀ H : fz_H, fz_Gd H → H 200 = h 200 → fz_R 47 mLe 1816 [(3, fz_i i), (0, fz_r 200), (1, fz_r 0), (2, fz_r 53)] [] H Q) : fz_R 47 mLc40 1664 [(3, fz_i i), (0, fz_r 200), (1, fz_r 0), (2, fz_r 53)] [] h Q := by
  have hf : fz_fr fz_all h h := fz_fr_rf
  refine fz_aload_n kLc40 rfl rfl ?_
  refine fz_aload_n kLc40 rfl rfl ?_
  refine fz_iload_n kLc40 rfl rfl ?_
  refine fz_iconst ⟨by decide, by decide⟩ kLc40 rfl ?_
  refine fz_iaddN kLc40 rfl (by omega) ?_
  obtain ⟨a1, e2⟩ : ∃ z, h 200 ((i + 1)).toNat = z := ⟨_, rfl⟩
  refine fz_taldV (v := a1) kLc40 rfl ⟨by decide, by decide⟩ (by omega) (by omega) e2 ?_
  refine fz_aload_n kLc40 rfl rfl ?_
  refine fz_iload_n kLc40 rfl rfl ?_
  refine fz_iconst ⟨by decide, by decide⟩ kLc40 rfl ?_
  refine fz_iaddN kLc40 rfl (by omega) ?_
  obtain ⟨a3, e4⟩ : ∃ z, h 200 ((i + 2)).toNat = z := ⟨_, rfl⟩
  refine fz_taldV (v := a3) kLc40 rfl ⟨by decide, by decide⟩ (by omega) (by omega) e4 ?_
  refine fz_callV (d' := 3) (M' := mX10_element) (As := [fz_i a1, fz_i a3]) (st := []) kLc40 rfl rfl vX10_element rfl rfl rfl rfl (Nat.le_of_ble_eq_true rfl) (Nat.le_of_ble_eq_true rfl) (by decide) (sX10_element h hI a1 a3 ) (fun H5 r6 q7 o8 => ?_)
  obtain ⟨e9, y12, rfl, f10, f11⟩ := q7
  subst H5
  clear o8
  refine fz_pop2 kLc40 rfl ?_
  refine fz_aload_n kLc40 rfl rfl ?_
  refine fz_aload_n kLc40 rfl rfl ?_
  refine fz_iload_n kLc40 rfl rfl ?_
  refine fz_iconst ⟨by decide, by decide⟩ kLc40 rfl ?_
  refine fz_iaddN kLc40 rfl (by omega) ?_
  refine fz_taldV (v := a1) kLc40 rfl ⟨by decide, by decide⟩ (by omega) (by omega) e2 ?_
  refine fz_aload_n kLc40 rfl rfl ?_
  refine fz_iload_n kLc40 rfl rfl ?_
  refine fz_iconst ⟨by decide, by decide⟩ kLc40 rfl ?_
  refine fz_iaddN kLc40 rfl (by omega) ?_
  refine fz_taldV (v := a3) kLc40 rfl ⟨by decide, by decide⟩ (by omega) (by omega) e4 ?_
  refine fz_callV (d' := 2) (M' := mX11_element) (As := [fz_i a1, fz_i a3]) (st := []) kLc40 rfl rfl vX11_element rfl rfl rfl rfl (Nat.le_of_ble_eq_true rfl) (Nat.le_of_ble_eq_true rfl) (by decide) (sX11_element h hI a1 a3 ) (fun H13 r14 q15 o16 => ?_)
  obtain ⟨e17, y20, rfl, f18, f19⟩ := q15
  subst H13
  clear o16
  refine fz_pop2 kLc40 rfl ?_
  refine fz_goto (tgt := 1816) kLc40 rfl (by decide) ?_
  exact K h ⟨hI, hX, hXd, hXh, hXw, hv1, hv2, hr0, hr1, hr2, hr3, hr4, hRS, hRP, hRK, hRR, hRT, hRE, hR2, hR3, hR4, hR28, hR5, hR6, hRG, hRL, hRC, hRJ, hRW⟩ rfl
def mLc41 : fz_M := (yL_law, code, 4, (some .boolean), [(1697, .aload_n 1, 1, 0, 0, 0), (1698, .aload_n 0, 1, 0, 0, 0), (1699, .iload_n 3, 1, 0, 0, 0), (1700, .iconst 1, 1, 0, 0, 0), (1701, .iadd, 1, 0, 0, 0), (1702, .iaload, 1, 0, 0, 0), (1703, .aload_n 0, 1, 0, 0, 0), (1704, .iload_n 3, 1, 0, 0, 0), (1705, .iconst 2, 1, 0, 0, 0), (1706, .iadd, 1, 0, 0, 0), (1707, .iaload, 1, 0, 0, 0), (1708, .aload_n 0, 1, 0, 0, 0), (1709, .iload_n 3, 1, 0, 0, 0), (1710, .iconst 3, 1, 0, 0, 0), (1711, .iadd, 1, 0, 0, 0), (1712, .iaload, 1, 0, 0, 0), (1713, .aload_n 0, 1, 0, 0, 0), (1714, .iload_n 3, 1, 0, 0, 0), (1715, .iconst 4, 1, 0, 0, 0), (1716, .iadd, 1, 0, 0, 0), (1717, .iaload, 1, 0, 0, 0), (1718, .aload_n 0, 1, 0, 0, 0), (1719, .iload_n 3, 1, 0, 0, 0), (1720, .iconst 5, 1, 0, 0, 0), (1721, .iadd, 1, 0, 0, 0), (1722, .iaload, 1, 0, 0, 0), (1723, .invokevirtual 187, 3, 5056, 71, 0), (1726, .pop, 1, 0, 0, 0), (1727, .aload_n 2, 1, 0, 0, 0), (1728, .aload_n 0, 1, 0, 0, 0), (1729, .iload_n 3, 1, 0, 0, 0), (1730, .iconst 1, 1, 0, 0, 0), (1731, .iadd, 1, 0, 0, 0), (1732, .iaload, 1, 0, 0, 0), (1733, .aload_n 0, 1, 0, 0, 0), (1734, .iload_n 3, 1, 0, 0, 0), (1735, .iconst 2, 1, 0, 0, 0), (1736, .iadd, 1, 0, 0, 0), (1737, .iaload, 1, 0, 0, 0), (1738, .aload_n 0, 1, 0, 0, 0), (1739, .iload_n 3, 1, 0, 0, 0), (1740, .iconst 3, 1, 0, 0, 0), (1741, .iadd, 1, 0, 0, 0), (1742, .iaload, 1, 0, 0, 0), (1743, .aload_n 0, 1, 0, 0, 0), (1744, .iload_n 3, 1, 0, 0, 0), (1745, .iconst 4, 1, 0, 0, 0), (1746, .iadd, 1, 0, 0, 0), (1747, .iaload, 1, 0, 0, 0), (1748, .aload_n 0, 1, 0, 0, 0), (1749, .iload_n 3, 1, 0, 0, 0), (1750, .iconst 5, 1, 0, 0, 0), (1751, .iadd, 1, 0, 0, 0), (1752, .iaload, 1, 0, 0, 0), (1753, .invokevirtual 191, 3, 7191, 173, 0), (1756, .pop, 1, 0, 0, 0), (1757, .goto 59, 3, 0, 0, 0)])
set_option maxRecDepth 100000 in
theorem kLc41 : fz_okM mLc41 = true := fz_okM_in (by decide +kernel) (by decide +kernel)
set_option maxHeartbeats 1000000 in
set_option maxRecDepth 100000 in
theorem lc41 (h : fz_H) (hI : fz_Iv h) (hX : fz_Xc h) (hXd : fz_Xd h) (hXh : fz_Xh h) (hXw : fz_Xw h) (hv1 : h 53 10 ≤ 10) (hv2 : h 53 42 ≤ h 53 41) (hr0 : h 9 5 = h 53 10) (hr1 : h 44 2 = h 53 44) (hr2 : h 20 2 = h 53 16) (hr3 : h 1 7 = h 53 0) (hr4 : h 1 8 = h 53 2) (hRS : fz_RS h) (hRP : fz_RP h) (hRK : fz_RK h) (hRR : fz_RR h) (hRT : fz_RT h) (hRE : fz_RE h) (hR2 : fz_R2 h) (hR3 : fz_R3 h) (hR4 : fz_R4 h) (hR28 : fz_R28 h) (hR5 : fz_R5 h) (hR6 : fz_R6 h) (hRG : fz_RG h) (hRL : fz_RL h) (hRC : fz_RC h) (hRJ : fz_RJ h) (hRW : fz_RW h) (i : Int) (hi : 0 ≤ i ∧ i + 6 ≤ h 200 100000 ∧ h 200 100000 ≤ 3072) {Q : fz_H → Option fz_V → Prop} (K : ∀ H : fz_H, fz_Gd H → H 200 = h 200 → fz_R 47 mLe 1816 [(3, fz_i i), (0, fz_r 200), (1, fz_r 0), (2, fz_r 53)] [] H Q) : fz_R 47 mLc41 1697 [(3, fz_i i), (0, fz_r 200), (1, fz_r 0), (2, fz_r 53)] [] h Q := by
  have hf : fz_fr fz_all h h := fz_fr_rf
  refine fz_aload_n kLc41 rfl rfl ?_
  refine fz_aload_n kLc41 rfl rfl ?_
  refine fz_iload_n kLc41 rfl rfl ?_
  refine fz_iconst ⟨by decide, by decide⟩ kLc41 rfl ?_
  refine fz_iaddN kLc41 rfl (by omega) ?_
  obtain ⟨a1, e2⟩ : ∃ z, h 200 ((i + 1)).toNat = z := ⟨_, rfl⟩
  refine fz_taldV (v := a1) kLc41 rfl ⟨by decide, by decide⟩ (by omega) (by omega) e2 ?_
  refine fz_aload_n kLc41 rfl rfl ?_
  refine fz_iload_n kLc41 rfl rfl ?_
  refine fz_iconst ⟨by decide, by decide⟩ kLc41 rfl ?_
  refine fz_iaddN kLc41 rfl (by omega) ?_
  obtain ⟨a3, e4⟩ : ∃ z, h 200 ((i + 2)).toNat = z := ⟨_, rfl⟩
  refine fz_taldV (v := a3) kLc41 rfl ⟨by decide, by decide⟩ (by omega) (by omega) e4 ?_
  refine fz_aload_n kLc41 rfl rfl ?_
  refine fz_iload_n kLc41 rfl rfl ?_
  refine fz_iconst ⟨by decide, by decide⟩ kLc41 rfl ?_
  refine fz_iaddN kLc41 rfl (by omega) ?_
  obtain ⟨a5, e6⟩ : ∃ z, h 200 ((i + 3)).toNat = z := ⟨_, rfl⟩
  refine fz_taldV (v := a5) kLc41 rfl ⟨by decide, by decide⟩ (by omega) (by omega) e6 ?_
  refine fz_aload_n kLc41 rfl rfl ?_
  refine fz_iload_n kLc41 rfl rfl ?_
  refine fz_iconst ⟨by decide, by decide⟩ kLc41 rfl ?_
  refine fz_iaddN kLc41 rfl (by omega) ?_
  obtain ⟨a7, e8⟩ : ∃ z, h 200 ((i + 4)).toNat = z := ⟨_, rfl⟩
  refine fz_taldV (v := a7) kLc41 rfl ⟨by decide, by decide⟩ (by omega) (by omega) e8 ?_
  refine fz_aload_n kLc41 rfl rfl ?_
  refine fz_iload_n kLc41 rfl rfl ?_
  refine fz_iconst ⟨by decide, by decide⟩ kLc41 rfl ?_
  refine fz_iaddN kLc41 rfl (by omega) ?_
  obtain ⟨a9, e10⟩ : ∃ z, h 200 ((i + 5)).toNat = z := ⟨_, rfl⟩
  refine fz_taldV (v := a9) kLc41 rfl ⟨by decide, by decide⟩ (by omega) (by omega) e10 ?_
  refine fz_callV (d' := 2) (M' := mX10_shift) (As := [fz_i a1, fz_i a3, fz_i a5, fz_i a7, fz_i a9]) (st := []) kLc41 rfl rfl vX10_shift rfl rfl rfl rfl (Nat.le_of_ble_eq_true rfl) (Nat.le_of_ble_eq_true rfl) (by decide) (sX10_shift h hI a1 a3 a5 a7 a9 ) (fun H11 r12 q13 o14 => ?_)
  obtain ⟨hI15, hf16, y20, rfl, f17, f18, f19⟩ := q13
  clear o14
  have hf21 := fz_fr_tr hf hf16 (fz_su_all rfl)
  have hXd22 : fz_Xd H11 := fz_Xd_eq (funext fun s => hf16 80 s rfl) hXd
  have hXh23 : fz_Xh H11 := fz_Xh_eq (funext fun s => hf16 83 s rfl) hXh
  have hXw24 : fz_Xw H11 := fz_Xw_eq (hf16 53 19 rfl) (funext fun s => hf16 66 s rfl) (funext fun s => hf16 67 s rfl) (funext fun s => hf16 68 s rfl) (funext fun s => hf16 69 s rfl) hXw
  have hRS25 : fz_RS H11 := fz_RS_eq (funext fun s => hf16 48 s rfl) (funext fun s => hf16 49 s rfl) (funext fun s => hf16 50 s rfl) (funext fun s => hf16 51 s rfl) (funext fun s => hf16 83 s rfl) (funext fun s => hf16 84 s rfl) (hf16 44 2 rfl) hRS
  have hRK26 : fz_RK H11 := fz_RK_eq (funext fun s => hf16 45 s rfl) (funext fun s => hf16 81 s rfl) hRK
  have hRR27 : fz_RR H11 := fz_RR_eq (hf16 44 3 rfl) (hf16 53 46 rfl) (funext fun s => hf16 46 s rfl) (funext fun s => hf16 82 s rfl) hRR
  have hRT28 : fz_RT H11 := fz_RT_eq (funext fun s => hf16 41 s rfl) (funext fun s => hf16 42 s rfl) (hf16 1 7 rfl) hRT
  have hRE29 : fz_RE H11 := fz_RE_eq (funext fun s => hf16 5 s rfl) (funext fun s => hf16 6 s rfl) (hf16 1 8 rfl) (hf16 1 7 rfl) hRE
  have hR230 : fz_R2 H11 := fz_R2_eq (funext fun s => hf16 2 s rfl) (funext fun s => hf16 54 s rfl) hR2
  have hR331 : fz_R3 H11 := fz_R3_eq (funext fun s => hf16 3 s rfl) (funext fun s => hf16 57 s rfl) hR3
  have hR432 : fz_R4 H11 := fz_R4_eq (funext fun s => hf16 4 s rfl) (funext fun s => hf16 58 s rfl) hR4
  have hR2833 : fz_R28 H11 := fz_R28_eq (funext fun s => hf16 28 s rfl) (funext fun s => hf16 59 s rfl) hR28
  have hR534 : fz_R5 H11 := fz_R5_eq (funext fun s => hf16 5 s rfl) (funext fun s => hf16 55 s rfl) hR5
  have hR635 : fz_R6 H11 := fz_R6_eq (funext fun s => hf16 6 s rfl) (funext fun s => hf16 56 s rfl) hR6
  have hRG36 : fz_RG H11 := fz_RG_eq (hf16 27 8 rfl) (hf16 27 9 rfl) (hf16 53 8 rfl) (hf16 53 9 rfl) hRG
  have hRL37 : fz_RL H11 := fz_RL_eq (funext fun s => hf16 11 s rfl) (funext fun s => hf16 12 s rfl) (funext fun s => hf16 13 s rfl) (funext fun s => hf16 14 s rfl) (funext fun s => hf16 61 s rfl) (funext fun s => hf16 62 s rfl) (funext fun s => hf16 63 s rfl) (funext fun s => hf16 64 s rfl) (hf16 9 5 rfl) hRL
  have hRC38 : fz_RC H11 := fz_RC_eq (hf16 35 4 rfl) (hf16 35 5 rfl) (hf16 53 41 rfl) (hf16 53 42 rfl) (funext fun s => hf16 36 s rfl) (funext fun s => hf16 37 s rfl) (funext fun s => hf16 38 s rfl) (funext fun s => hf16 39 s rfl) (funext fun s => hf16 80 s rfl) (hf16 1 7 rfl) (hf16 1 8 rfl) (hf16 9 5 rfl) hRC
  have hRJ39 : fz_RJ H11 := fz_RJ_eq (hf16 40 1 rfl) (hf16 53 34 rfl) (funext fun s => hf16 41 s rfl) (funext fun s => hf16 76 s rfl) (hf16 40 6 rfl) (hf16 53 37 rfl) (funext fun s => hf16 42 s rfl) (funext fun s => hf16 78 s rfl) (hf16 43 0 rfl) (hf16 53 38 rfl) hRJ
  have hRW40 : fz_RW H11 := fz_RW_eq (funext fun s => hf16 10 s rfl) (funext fun s => hf16 60 s rfl) (hf16 9 5 rfl) hRW
  have hX41 : fz_Xc H11 := fz_Xc_fr hf16 rfl hX
  have t42 : H11 53 10 = h 53 10 := hf16 53 10 rfl
  have t43 : H11 53 41 = h 53 41 := hf16 53 41 rfl
  have t44 : H11 53 42 = h 53 42 := hf16 53 42 rfl
  have t45 : H11 9 5 = h 9 5 := hf16 9 5 rfl
  have t46 : H11 53 10 = h 53 10 := hf16 53 10 rfl
  have t47 : H11 44 2 = h 44 2 := hf16 44 2 rfl
  have t48 : H11 53 44 = h 53 44 := hf16 53 44 rfl
  have t49 : H11 20 2 = h 20 2 := hf16 20 2 rfl
  have t50 : H11 53 16 = h 53 16 := hf16 53 16 rfl
  have t51 : H11 1 7 = h 1 7 := hf16 1 7 rfl
  have t52 : H11 53 0 = h 53 0 := hf16 53 0 rfl
  have t53 : H11 1 8 = h 1 8 := hf16 1 8 rfl
  have t54 : H11 53 2 = h 53 2 := hf16 53 2 rfl
  refine fz_pop rfl kLc41 rfl ?_
  refine fz_aload_n kLc41 rfl rfl ?_
  refine fz_aload_n kLc41 rfl rfl ?_
  refine fz_iload_n kLc41 rfl rfl ?_
  refine fz_iconst ⟨by decide, by decide⟩ kLc41 rfl ?_
  refine fz_iaddN kLc41 rfl (by omega) ?_
  refine fz_taldV (v := a1) kLc41 rfl ⟨by decide, by decide⟩ (by omega) (by rw [hf21 200 _ rfl]; omega) ((hf21 200 _ rfl).trans e2) ?_
  refine fz_aload_n kLc41 rfl rfl ?_
  refine fz_iload_n kLc41 rfl rfl ?_
  refine fz_iconst ⟨by decide, by decide⟩ kLc41 rfl ?_
  refine fz_iaddN kLc41 rfl (by omega) ?_
  refine fz_taldV (v := a3) kLc41 rfl ⟨by decide, by decide⟩ (by omega) (by rw [hf21 200 _ rfl]; omega) ((hf21 200 _ rfl).trans e4) ?_
  refine fz_aload_n kLc41 rfl rfl ?_
  refine fz_iload_n kLc41 rfl rfl ?_
  refine fz_iconst ⟨by decide, by decide⟩ kLc41 rfl ?_
  refine fz_iaddN kLc41 rfl (by omega) ?_
  refine fz_taldV (v := a5) kLc41 rfl ⟨by decide, by decide⟩ (by omega) (by rw [hf21 200 _ rfl]; omega) ((hf21 200 _ rfl).trans e6) ?_
  refine fz_aload_n kLc41 rfl rfl ?_
  refine fz_iload_n kLc41 rfl rfl ?_
  refine fz_iconst ⟨by decide, by decide⟩ kLc41 rfl ?_
  refine fz_iaddN kLc41 rfl (by omega) ?_
  refine fz_taldV (v := a7) kLc41 rfl ⟨by decide, by decide⟩ (by omega) (by rw [hf21 200 _ rfl]; omega) ((hf21 200 _ rfl).trans e8) ?_
  refine fz_aload_n kLc41 rfl rfl ?_
  refine fz_iload_n kLc41 rfl rfl ?_
  refine fz_iconst ⟨by decide, by decide⟩ kLc41 rfl ?_
  refine fz_iaddN kLc41 rfl (by omega) ?_
  refine fz_taldV (v := a9) kLc41 rfl ⟨by decide, by decide⟩ (by omega) (by rw [hf21 200 _ rfl]; omega) ((hf21 200 _ rfl).trans e10) ?_
  refine fz_callV (d' := 2) (M' := mX11_shift) (As := [fz_i a1, fz_i a3, fz_i a5, fz_i a7, fz_i a9]) (st := []) kLc41 rfl rfl vX11_shift rfl rfl rfl rfl (Nat.le_of_ble_eq_true rfl) (Nat.le_of_ble_eq_true rfl) (by decide) (sX11_shift H11 hI15 a1 a3 a5 a7 a9 ) (fun H55 r56 q57 o58 => ?_)
  obtain ⟨hI59, hf60, y64, rfl, f61, f62, f63⟩ := q57
  clear o58
  have hf65 := fz_fr_tr hf21 hf60 (fz_su_all rfl)
  have hXd66 : fz_Xd H55 := fz_Xd_eq (funext fun s => hf60 80 s rfl) hXd22
  have hXh67 : fz_Xh H55 := fz_Xh_eq (funext fun s => hf60 83 s rfl) hXh23
  have hXw68 : fz_Xw H55 := fz_Xw_eq (hf60 53 19 rfl) (funext fun s => hf60 66 s rfl) (funext fun s => hf60 67 s rfl) (funext fun s => hf60 68 s rfl) (funext fun s => hf60 69 s rfl) hXw24
  have hRS69 : fz_RS H55 := fz_RS_eq (funext fun s => hf60 48 s rfl) (funext fun s => hf60 49 s rfl) (funext fun s => hf60 50 s rfl) (funext fun s => hf60 51 s rfl) (funext fun s => hf60 83 s rfl) (funext fun s => hf60 84 s rfl) (hf60 44 2 rfl) hRS25
  have hRK70 : fz_RK H55 := fz_RK_eq (funext fun s => hf60 45 s rfl) (funext fun s => hf60 81 s rfl) hRK26
  have hRR71 : fz_RR H55 := fz_RR_eq (hf60 44 3 rfl) (hf60 53 46 rfl) (funext fun s => hf60 46 s rfl) (funext fun s => hf60 82 s rfl) hRR27
  have hRT72 : fz_RT H55 := fz_RT_eq (funext fun s => hf60 41 s rfl) (funext fun s => hf60 42 s rfl) (hf60 1 7 rfl) hRT28
  have hRE73 : fz_RE H55 := fz_RE_eq (funext fun s => hf60 5 s rfl) (funext fun s => hf60 6 s rfl) (hf60 1 8 rfl) (hf60 1 7 rfl) hRE29
  have hR274 : fz_R2 H55 := fz_R2_eq (funext fun s => hf60 2 s rfl) (funext fun s => hf60 54 s rfl) hR230
  have hR375 : fz_R3 H55 := fz_R3_eq (funext fun s => hf60 3 s rfl) (funext fun s => hf60 57 s rfl) hR331
  have hR476 : fz_R4 H55 := fz_R4_eq (funext fun s => hf60 4 s rfl) (funext fun s => hf60 58 s rfl) hR432
  have hR2877 : fz_R28 H55 := fz_R28_eq (funext fun s => hf60 28 s rfl) (funext fun s => hf60 59 s rfl) hR2833
  have hR578 : fz_R5 H55 := fz_R5_eq (funext fun s => hf60 5 s rfl) (funext fun s => hf60 55 s rfl) hR534
  have hR679 : fz_R6 H55 := fz_R6_eq (funext fun s => hf60 6 s rfl) (funext fun s => hf60 56 s rfl) hR635
  have hRG80 : fz_RG H55 := fz_RG_eq (hf60 27 8 rfl) (hf60 27 9 rfl) (hf60 53 8 rfl) (hf60 53 9 rfl) hRG36
  have hRL81 : fz_RL H55 := fz_RL_eq (funext fun s => hf60 11 s rfl) (funext fun s => hf60 12 s rfl) (funext fun s => hf60 13 s rfl) (funext fun s => hf60 14 s rfl) (funext fun s => hf60 61 s rfl) (funext fun s => hf60 62 s rfl) (funext fun s => hf60 63 s rfl) (funext fun s => hf60 64 s rfl) (hf60 9 5 rfl) hRL37
  have hRC82 : fz_RC H55 := fz_RC_eq (hf60 35 4 rfl) (hf60 35 5 rfl) (hf60 53 41 rfl) (hf60 53 42 rfl) (funext fun s => hf60 36 s rfl) (funext fun s => hf60 37 s rfl) (funext fun s => hf60 38 s rfl) (funext fun s => hf60 39 s rfl) (funext fun s => hf60 80 s rfl) (hf60 1 7 rfl) (hf60 1 8 rfl) (hf60 9 5 rfl) hRC38
  have hRJ83 : fz_RJ H55 := fz_RJ_eq (hf60 40 1 rfl) (hf60 53 34 rfl) (funext fun s => hf60 41 s rfl) (funext fun s => hf60 76 s rfl) (hf60 40 6 rfl) (hf60 53 37 rfl) (funext fun s => hf60 42 s rfl) (funext fun s => hf60 78 s rfl) (hf60 43 0 rfl) (hf60 53 38 rfl) hRJ39
  have hRW84 : fz_RW H55 := fz_RW_eq (funext fun s => hf60 10 s rfl) (funext fun s => hf60 60 s rfl) (hf60 9 5 rfl) hRW40
  have hX85 : fz_Xc H55 := fz_Xc_fr hf60 rfl hX41
  have t86 : H55 53 10 = H11 53 10 := hf60 53 10 rfl
  have t87 : H55 53 41 = H11 53 41 := hf60 53 41 rfl
  have t88 : H55 53 42 = H11 53 42 := hf60 53 42 rfl
  have t89 : H55 9 5 = H11 9 5 := hf60 9 5 rfl
  have t90 : H55 53 10 = H11 53 10 := hf60 53 10 rfl
  have t91 : H55 44 2 = H11 44 2 := hf60 44 2 rfl
  have t92 : H55 53 44 = H11 53 44 := hf60 53 44 rfl
  have t93 : H55 20 2 = H11 20 2 := hf60 20 2 rfl
  have t94 : H55 53 16 = H11 53 16 := hf60 53 16 rfl
  have t95 : H55 1 7 = H11 1 7 := hf60 1 7 rfl
  have t96 : H55 53 0 = H11 53 0 := hf60 53 0 rfl
  have t97 : H55 1 8 = H11 1 8 := hf60 1 8 rfl
  have t98 : H55 53 2 = H11 53 2 := hf60 53 2 rfl
  refine fz_pop rfl kLc41 rfl ?_
  refine fz_goto (tgt := 1816) kLc41 rfl (by decide) ?_
  have hRP99 : fz_RP H55 := fz_RP_shift hRP hRS f19 f63 (funext fun s => hf16 83 s rfl) (funext fun s => hf16 84 s rfl)
  exact K H55 ⟨hI59, hX85, hXd66, hXh67, hXw68, (by rw [((hf60 53 10 rfl).trans (hf16 53 10 rfl))]; exact hv1), (by rw [((hf60 53 42 rfl).trans (hf16 53 42 rfl)), ((hf60 53 41 rfl).trans (hf16 53 41 rfl))]; exact hv2), (((hf60 9 5 rfl).trans (hf16 9 5 rfl)).trans (hr0.trans ((hf60 53 10 rfl).trans (hf16 53 10 rfl)).symm)), (((hf60 44 2 rfl).trans (hf16 44 2 rfl)).trans (hr1.trans ((hf60 53 44 rfl).trans (hf16 53 44 rfl)).symm)), (((hf60 20 2 rfl).trans (hf16 20 2 rfl)).trans (hr2.trans ((hf60 53 16 rfl).trans (hf16 53 16 rfl)).symm)), (((hf60 1 7 rfl).trans (hf16 1 7 rfl)).trans (hr3.trans ((hf60 53 0 rfl).trans (hf16 53 0 rfl)).symm)), (((hf60 1 8 rfl).trans (hf16 1 8 rfl)).trans (hr4.trans ((hf60 53 2 rfl).trans (hf16 53 2 rfl)).symm)), hRS69, hRP99, hRK70, hRR71, hRT72, hRE73, hR274, hR375, hR476, hR2877, hR578, hR679, hRG80, hRL81, hRC82, hRJ83, hRW84⟩ (funext fun s => hf65 200 s rfl)
def mLc42 : fz_M := (yL_law, code, 4, (some .boolean), [(1760, .aload_n 1, 1, 0, 0, 0), (1761, .aload_n 0, 1, 0, 0, 0), (1762, .iload_n 3, 1, 0, 0, 0), (1763, .iconst 1, 1, 0, 0, 0), (1764, .iadd, 1, 0, 0, 0), (1765, .iaload, 1, 0, 0, 0), (1766, .aload_n 0, 1, 0, 0, 0), (1767, .iload_n 3, 1, 0, 0, 0), (1768, .iconst 2, 1, 0, 0, 0), (1769, .iadd, 1, 0, 0, 0), (1770, .iaload, 1, 0, 0, 0), (1771, .invokevirtual 192, 3, 5065, 72, 0), (1774, .aload_n 2, 1, 0, 0, 0), (1775, .aload_n 0, 1, 0, 0, 0), (1776, .iload_n 3, 1, 0, 0, 0), (1777, .iconst 1, 1, 0, 0, 0), (1778, .iadd, 1, 0, 0, 0), (1779, .iaload, 1, 0, 0, 0), (1780, .aload_n 0, 1, 0, 0, 0), (1781, .iload_n 3, 1, 0, 0, 0), (1782, .iconst 2, 1, 0, 0, 0), (1783, .iadd, 1, 0, 0, 0), (1784, .iaload, 1, 0, 0, 0), (1785, .invokevirtual 195, 3, 7195, 175, 0), (1788, .if_icmp .eq 28, 3, 0, 0, 0), (1791, .iconst 0, 1, 0, 0, 0), (1792, .ireturn, 1, 0, 0, 0)])
set_option maxRecDepth 100000 in
theorem kLc42 : fz_okM mLc42 = true := fz_okM_in (by decide +kernel) (by decide +kernel)
set_option maxHeartbeats 1000000 in
set_option maxRecDepth 100000 in
theorem lc42 (h : fz_H) (hI : fz_Iv h) (hX : fz_Xc h) (hXd : fz_Xd h) (hXh : fz_Xh h) (hXw : fz_Xw h) (hv1 : h 53 10 ≤ 10) (hv2 : h 53 42 ≤ h 53 41) (hr0 : h 9 5 = h 53 10) (hr1 : h 44 2 = h 53 44) (hr2 : h 20 2 = h 53 16) (hr3 : h 1 7 = h 53 0) (hr4 : h 1 8 = h 53 2) (hRS : fz_RS h) (hRP : fz_RP h) (hRK : fz_RK h) (hRR : fz_RR h) (hRT : fz_RT h) (hRE : fz_RE h) (hR2 : fz_R2 h) (hR3 : fz_R3 h) (hR4 : fz_R4 h) (hR28 : fz_R28 h) (hR5 : fz_R5 h) (hR6 : fz_R6 h) (hRG : fz_RG h) (hRL : fz_RL h) (hRC : fz_RC h) (hRJ : fz_RJ h) (hRW : fz_RW h) (i : Int) (hi : 0 ≤ i ∧ i + 6 ≤ h 200 100000 ∧ h 200 100000 ≤ 3072) {Q : fz_H → Option fz_V → Prop} (K : ∀ H : fz_H, fz_Gd H → H 200 = h 200 → fz_R 47 mLe 1816 [(3, fz_i i), (0, fz_r 200), (1, fz_r 0), (2, fz_r 53)] [] H Q) : fz_R 47 mLc42 1760 [(3, fz_i i), (0, fz_r 200), (1, fz_r 0), (2, fz_r 53)] [] h Q := by
  have hf : fz_fr fz_all h h := fz_fr_rf
  refine fz_aload_n kLc42 rfl rfl ?_
  refine fz_aload_n kLc42 rfl rfl ?_
  refine fz_iload_n kLc42 rfl rfl ?_
  refine fz_iconst ⟨by decide, by decide⟩ kLc42 rfl ?_
  refine fz_iaddN kLc42 rfl (by omega) ?_
  obtain ⟨a1, e2⟩ : ∃ z, h 200 ((i + 1)).toNat = z := ⟨_, rfl⟩
  refine fz_taldV (v := a1) kLc42 rfl ⟨by decide, by decide⟩ (by omega) (by omega) e2 ?_
  refine fz_aload_n kLc42 rfl rfl ?_
  refine fz_iload_n kLc42 rfl rfl ?_
  refine fz_iconst ⟨by decide, by decide⟩ kLc42 rfl ?_
  refine fz_iaddN kLc42 rfl (by omega) ?_
  obtain ⟨a3, e4⟩ : ∃ z, h 200 ((i + 2)).toNat = z := ⟨_, rfl⟩
  refine fz_taldV (v := a3) kLc42 rfl ⟨by decide, by decide⟩ (by omega) (by omega) e4 ?_
  have b5 : 0 ≤ h 44 2 ∧ h 44 2 ≤ 50 := hI.1 44 _
  refine fz_callV (d' := 2) (M' := mX10_taken) (As := [fz_i a1, fz_i a3]) (st := []) kLc42 rfl rfl vX10_taken rfl rfl rfl rfl (Nat.le_of_ble_eq_true rfl) (Nat.le_of_ble_eq_true rfl) (by decide) (sX10_taken h hI a1 a3 ) (fun H6 r7 q8 o9 => ?_)
  obtain ⟨e10, y13, rfl, f11, f12⟩ := q8
  subst H6
  clear o9
  refine fz_aload_n kLc42 rfl rfl ?_
  refine fz_aload_n kLc42 rfl rfl ?_
  refine fz_iload_n kLc42 rfl rfl ?_
  refine fz_iconst ⟨by decide, by decide⟩ kLc42 rfl ?_
  refine fz_iaddN kLc42 rfl (by omega) ?_
  refine fz_taldV (v := a1) kLc42 rfl ⟨by decide, by decide⟩ (by omega) (by omega) e2 ?_
  refine fz_aload_n kLc42 rfl rfl ?_
  refine fz_iload_n kLc42 rfl rfl ?_
  refine fz_iconst ⟨by decide, by decide⟩ kLc42 rfl ?_
  refine fz_iaddN kLc42 rfl (by omega) ?_
  refine fz_taldV (v := a3) kLc42 rfl ⟨by decide, by decide⟩ (by omega) (by omega) e4 ?_
  refine fz_callV (d' := 2) (M' := mX11_taken) (As := [fz_i a1, fz_i a3]) (st := [fz_i y13]) kLc42 rfl rfl vX11_taken rfl rfl rfl rfl (Nat.le_of_ble_eq_true rfl) (Nat.le_of_ble_eq_true rfl) (by decide) (sX11_taken_x h hI a1 a3 hXh) (fun H14 r15 q16 o17 => ?_)
  obtain ⟨e18, y21, rfl, f19, f20⟩ := q16
  subst H14
  clear o17
  have k22 : 0 ≤ a1 ∧ a1 ≤ 5 → _ := fun z => fz_RS_i hRS z
  have k23 : 0 ≤ a1 ∧ a1 ≤ 5 → h 48 a1.toNat = 1 → fz_tk (h 81 (h 83 a1.toNat - 10).toNat) a3 = fz_tk (h 45 (h 49 a1.toNat).toNat) a3 := fun z1 z2 => congrArg (fun x => fz_tk x a3) (fz_kd hRS hRK z1 z2)
  refine fz_icmp_eq (tgt := 1816) kLc42 rfl (by decide) (fun c24 => ?_) (fun c24 => ?_)
  · exact K h ⟨hI, hX, hXd, hXh, hXw, hv1, hv2, hr0, hr1, hr2, hr3, hr4, hRS, hRP, hRK, hRR, hRT, hRE, hR2, hR3, hR4, hR28, hR5, hR6, hRG, hRL, hRC, hRJ, hRW⟩ rfl
  · refine fz_iconst ⟨by decide, by decide⟩ kLc42 rfl ?_
    exfalso; omega
def mLc43 : fz_M := (yL_law, code, 4, (some .boolean), [(1793, .aload_n 1, 1, 0, 0, 0), (1794, .aload_n 0, 1, 0, 0, 0), (1795, .iload_n 3, 1, 0, 0, 0), (1796, .iconst 1, 1, 0, 0, 0), (1797, .iadd, 1, 0, 0, 0), (1798, .iaload, 1, 0, 0, 0), (1799, .invokevirtual 196, 3, 5077, 23, 0), (1802, .pop, 1, 0, 0, 0), (1803, .aload_n 2, 1, 0, 0, 0), (1804, .aload_n 0, 1, 0, 0, 0), (1805, .iload_n 3, 1, 0, 0, 0), (1806, .iconst 1, 1, 0, 0, 0), (1807, .iadd, 1, 0, 0, 0), (1808, .iaload, 1, 0, 0, 0), (1809, .invokevirtual 199, 3, 7199, 91, 0), (1812, .pop, 1, 0, 0, 0), (1813, .goto 3, 3, 0, 0, 0)])
set_option maxRecDepth 100000 in
theorem kLc43 : fz_okM mLc43 = true := fz_okM_in (by decide +kernel) (by decide +kernel)
set_option maxHeartbeats 1000000 in
set_option maxRecDepth 100000 in
theorem lc43 (h : fz_H) (hI : fz_Iv h) (hX : fz_Xc h) (hXd : fz_Xd h) (hXh : fz_Xh h) (hXw : fz_Xw h) (hv1 : h 53 10 ≤ 10) (hv2 : h 53 42 ≤ h 53 41) (hr0 : h 9 5 = h 53 10) (hr1 : h 44 2 = h 53 44) (hr2 : h 20 2 = h 53 16) (hr3 : h 1 7 = h 53 0) (hr4 : h 1 8 = h 53 2) (hRS : fz_RS h) (hRP : fz_RP h) (hRK : fz_RK h) (hRR : fz_RR h) (hRT : fz_RT h) (hRE : fz_RE h) (hR2 : fz_R2 h) (hR3 : fz_R3 h) (hR4 : fz_R4 h) (hR28 : fz_R28 h) (hR5 : fz_R5 h) (hR6 : fz_R6 h) (hRG : fz_RG h) (hRL : fz_RL h) (hRC : fz_RC h) (hRJ : fz_RJ h) (hRW : fz_RW h) (i : Int) (hi : 0 ≤ i ∧ i + 6 ≤ h 200 100000 ∧ h 200 100000 ≤ 3072) {Q : fz_H → Option fz_V → Prop} (K : ∀ H : fz_H, fz_Gd H → H 200 = h 200 → fz_R 47 mLe 1816 [(3, fz_i i), (0, fz_r 200), (1, fz_r 0), (2, fz_r 53)] [] H Q) : fz_R 47 mLc43 1793 [(3, fz_i i), (0, fz_r 200), (1, fz_r 0), (2, fz_r 53)] [] h Q := by
  have hf : fz_fr fz_all h h := fz_fr_rf
  refine fz_aload_n kLc43 rfl rfl ?_
  refine fz_aload_n kLc43 rfl rfl ?_
  refine fz_iload_n kLc43 rfl rfl ?_
  refine fz_iconst ⟨by decide, by decide⟩ kLc43 rfl ?_
  refine fz_iaddN kLc43 rfl (by omega) ?_
  obtain ⟨a1, e2⟩ : ∃ z, h 200 ((i + 1)).toNat = z := ⟨_, rfl⟩
  refine fz_taldV (v := a1) kLc43 rfl ⟨by decide, by decide⟩ (by omega) (by omega) e2 ?_
  have b3 : 0 ≤ h 1 7 ∧ h 1 7 ≤ 8 := hI.1 1 _
  have b4 : 0 ≤ h 1 8 ∧ h 1 8 ≤ 12 := hI.1 1 _
  have b5 : 0 ≤ h 9 5 ∧ h 9 5 ≤ 10 := hI.1 9 _
  have b6 : 0 ≤ h 20 2 ∧ h 20 2 ≤ 120 := hI.1 20 _
  have b7 : 0 ≤ h 35 4 ∧ h 35 4 ≤ 40 := hI.1 35 _
  have b8 : 0 ≤ h 44 2 ∧ h 44 2 ≤ 50 := hI.1 44 _
  have b9 : (-2147483648) ≤ h 44 3 ∧ h 44 3 ≤ 2147483647 := hI.1 44 _
  refine fz_callV (d' := 0) (M' := mX10_count) (As := [fz_i a1]) (st := []) kLc43 rfl rfl vX10_count rfl rfl rfl rfl (Nat.le_of_ble_eq_true rfl) (Nat.le_of_ble_eq_true rfl) (by decide) (sX10_count h hI a1 ) (fun H10 r11 q12 o13 => ?_)
  obtain ⟨e14, y17, rfl, f15, f16⟩ := q12
  subst H10
  clear o13
  refine fz_pop rfl kLc43 rfl ?_
  refine fz_aload_n kLc43 rfl rfl ?_
  refine fz_aload_n kLc43 rfl rfl ?_
  refine fz_iload_n kLc43 rfl rfl ?_
  refine fz_iconst ⟨by decide, by decide⟩ kLc43 rfl ?_
  refine fz_iaddN kLc43 rfl (by omega) ?_
  refine fz_taldV (v := a1) kLc43 rfl ⟨by decide, by decide⟩ (by omega) (by omega) e2 ?_
  have b18 : 0 ≤ h 53 0 ∧ h 53 0 ≤ 8 := hI.1 53 _
  have b19 : 0 ≤ h 53 2 ∧ h 53 2 ≤ 12 := hI.1 53 _
  have b20 : 0 ≤ h 53 10 ∧ h 53 10 ≤ 11 := hI.1 53 _
  have b21 : 0 ≤ h 53 16 ∧ h 53 16 ≤ 120 := hI.1 53 _
  have b22 : 0 ≤ h 53 42 ∧ h 53 42 ≤ 40 := hI.1 53 _
  have b23 : 0 ≤ h 53 44 ∧ h 53 44 ≤ 50 := hI.1 53 _
  have b24 : 0 ≤ h 53 46 ∧ h 53 46 ≤ 1000 := hI.1 53 _
  refine fz_callV (d' := 0) (M' := mX11_count) (As := [fz_i a1]) (st := []) kLc43 rfl rfl vX11_count rfl rfl rfl rfl (Nat.le_of_ble_eq_true rfl) (Nat.le_of_ble_eq_true rfl) (by decide) (sX11_count h hI a1 ) (fun H25 r26 q27 o28 => ?_)
  obtain ⟨e29, y32, rfl, f30, f31⟩ := q27
  subst H25
  clear o28
  refine fz_pop rfl kLc43 rfl ?_
  refine fz_goto (tgt := 1816) kLc43 rfl (by decide) ?_
  exact K h ⟨hI, hX, hXd, hXh, hXw, hv1, hv2, hr0, hr1, hr2, hr3, hr4, hRS, hRP, hRK, hRR, hRT, hRE, hR2, hR3, hR4, hR28, hR5, hR6, hRG, hRL, hRC, hRJ, hRW⟩ rfl
