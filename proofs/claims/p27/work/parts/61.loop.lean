/-! ===== the law's loop ===== -/
def mLh : fz_M := (yL_law, code, 4, (some .boolean), [(18, .iload_n 3, 1, 0, 0, 0), (19, .aload_n 0, 1, 0, 0, 0), (20, .arraylength, 1, 0, 0, 0), (21, .bipush 6, 2, 0, 0, 0), (23, .isub, 1, 0, 0, 0), (24, .if_icmp .gt 1799, 3, 0, 0, 0), (27, .aload_n 0, 1, 0, 0, 0), (28, .iload_n 3, 1, 0, 0, 0), (29, .iaload, 1, 0, 0, 0), (30, .bipush 63, 2, 0, 0, 0), (32, .iand, 1, 0, 0, 0), (33, .tableswitch 1784 0 43 #[191, 214, 247, 290, 333, 376, 409, 432, 445, 478, 511, 544, 577, 620, 663, 706, 749, 802, 855, 898, 941, 984, 1027, 1080, 1123, 1156, 1200, 1253, 1286, 1319, 1342, 1355, 1368, 1381, 1394, 1417, 1460, 1483, 1516, 1559, 1632, 1665, 1728, 1761], 191, 0, 0, 0)])
set_option maxRecDepth 100000 in
theorem kLh : fz_okM mLh = true := fz_okM_in (by decide +kernel) (by decide +kernel)
set_option maxHeartbeats 4000000 in
set_option maxRecDepth 100000 in
theorem lw_once (h : fz_H) (hI : fz_Iv h) (hX : fz_Xc h) (hXd : fz_Xd h) (hXh : fz_Xh h) (hXw : fz_Xw h) (hv1 : h 53 10 ≤ 10) (hv2 : h 53 42 ≤ h 53 41) (hr0 : h 9 5 = h 53 10) (hr1 : h 44 2 = h 53 44) (hr2 : h 20 2 = h 53 16) (hr3 : h 1 7 = h 53 0) (hr4 : h 1 8 = h 53 2) (hRS : fz_RS h) (hRP : fz_RP h) (hRK : fz_RK h) (hRR : fz_RR h) (hRT : fz_RT h) (hRE : fz_RE h) (hR2 : fz_R2 h) (hR3 : fz_R3 h) (hR4 : fz_R4 h) (hR28 : fz_R28 h) (hR5 : fz_R5 h) (hR6 : fz_R6 h) (hRG : fz_RG h) (hRL : fz_RL h) (hRC : fz_RC h) (hRJ : fz_RJ h) (hRW : fz_RW h) (hRV : fz_RV h) (hRM : fz_RM h) (hRP2 : fz_RP2 h) (hRA : fz_RA h) (hRU : fz_RU h) (hRD : fz_RD h) (i : Int) (hi : 0 ≤ i ∧ i ≤ 3072 ∧ 0 ≤ h 200 100000 ∧ h 200 100000 ≤ 3072) (K : ∀ H : fz_H, fz_Gd H → H 200 = h 200 → i + 6 ≤ h 200 100000 → fz_R 47 mLe 1817 [(3, fz_i i), (0, fz_r 200), (1, fz_r 0), (2, fz_r 53)] [] H (fun _ r => r = some (fz_i 1))) : fz_R 47 mLh 18 [(3, fz_i i), (0, fz_r 200), (1, fz_r 0), (2, fz_r 53)] [] h (fun _ r => r = some (fz_i 1)) := by
  have hf : fz_fr fz_all h h := fz_fr_rf
  refine fz_iload_n kLh rfl rfl ?_
  refine fz_aload_n kLh rfl rfl ?_
  refine fz_tlen kLh rfl ⟨by decide, by decide⟩ (by omega) ?_
  refine fz_bipush ⟨by decide, by decide⟩ kLh rfl ?_
  refine fz_isubN kLh rfl (by omega) ?_
  refine fz_icmp_gt (tgt := 1823) kLh rfl (by decide) (fun c1 => ?_) (fun c1 => ?_)
  · exact fz_sw (fz_iconst (M := mLe) ⟨by decide, by decide⟩ kLe rfl (fz_zret kLe rfl rfl (by omega) rfl))
  · refine fz_aload_n kLh rfl rfl ?_
    refine fz_iload_n kLh rfl rfl ?_
    obtain ⟨a2, e3⟩ : ∃ z, h 200 (i).toNat = z := ⟨_, rfl⟩
    refine fz_taldV (v := a2) kLh rfl ⟨by decide, by decide⟩ (by omega) (by omega) e3 ?_
    refine fz_bipush ⟨by decide, by decide⟩ kLh rfl ?_
    refine fz_iand kLh rfl ?_
    have b4 : -2147483648 ≤ (fz_and a2 63) ∧ (fz_and a2 63) < 2147483648 := fz_b32 _
    have b5 : 0 ≤ (fz_and a2 63) ∧ (fz_and a2 63) ≤ 63 := fz_and_m (by omega) (by omega)
    rcases (show (fz_and a2 63) = 0 ∨ (fz_and a2 63) = 1 ∨ (fz_and a2 63) = 2 ∨ (fz_and a2 63) = 3 ∨ (fz_and a2 63) = 4 ∨ (fz_and a2 63) = 5 ∨ (fz_and a2 63) = 6 ∨ (fz_and a2 63) = 7 ∨ (fz_and a2 63) = 8 ∨ (fz_and a2 63) = 9 ∨ (fz_and a2 63) = 10 ∨ (fz_and a2 63) = 11 ∨ (fz_and a2 63) = 12 ∨ (fz_and a2 63) = 13 ∨ (fz_and a2 63) = 14 ∨ (fz_and a2 63) = 15 ∨ (fz_and a2 63) = 16 ∨ (fz_and a2 63) = 17 ∨ (fz_and a2 63) = 18 ∨ (fz_and a2 63) = 19 ∨ (fz_and a2 63) = 20 ∨ (fz_and a2 63) = 21 ∨ (fz_and a2 63) = 22 ∨ (fz_and a2 63) = 23 ∨ (fz_and a2 63) = 24 ∨ (fz_and a2 63) = 25 ∨ (fz_and a2 63) = 26 ∨ (fz_and a2 63) = 27 ∨ (fz_and a2 63) = 28 ∨ (fz_and a2 63) = 29 ∨ (fz_and a2 63) = 30 ∨ (fz_and a2 63) = 31 ∨ (fz_and a2 63) = 32 ∨ (fz_and a2 63) = 33 ∨ (fz_and a2 63) = 34 ∨ (fz_and a2 63) = 35 ∨ (fz_and a2 63) = 36 ∨ (fz_and a2 63) = 37 ∨ (fz_and a2 63) = 38 ∨ (fz_and a2 63) = 39 ∨ (fz_and a2 63) = 40 ∨ (fz_and a2 63) = 41 ∨ (fz_and a2 63) = 42 ∨ (fz_and a2 63) = 43 ∨ ((fz_and a2 63) < 0 ∨ 43 < (fz_and a2 63)) by omega) with c6 | c6 | c6 | c6 | c6 | c6 | c6 | c6 | c6 | c6 | c6 | c6 | c6 | c6 | c6 | c6 | c6 | c6 | c6 | c6 | c6 | c6 | c6 | c6 | c6 | c6 | c6 | c6 | c6 | c6 | c6 | c6 | c6 | c6 | c6 | c6 | c6 | c6 | c6 | c6 | c6 | c6 | c6 | c6 | c6
    · refine fz_tswC (j := 0) (tgt := 224) kLh rfl c6 (by decide) (by decide) rfl (by decide) ?_
      exact fz_sw (lc0 h hI hX hXd hXh hXw hv1 hv2 hr0 hr1 hr2 hr3 hr4 hRS hRP hRK hRR hRT hRE hR2 hR3 hR4 hR28 hR5 hR6 hRG hRL hRC hRJ hRW hRV hRM hRP2 hRA hRU hRD i (by omega) (fun H g e => K H g e (by omega)))
    · refine fz_tswC (j := 1) (tgt := 247) kLh rfl c6 (by decide) (by decide) rfl (by decide) ?_
      exact fz_sw (lc1 h hI hX hXd hXh hXw hv1 hv2 hr0 hr1 hr2 hr3 hr4 hRS hRP hRK hRR hRT hRE hR2 hR3 hR4 hR28 hR5 hR6 hRG hRL hRC hRJ hRW hRV hRM hRP2 hRA hRU hRD i (by omega) (fun H g e => K H g e (by omega)))
    · refine fz_tswC (j := 2) (tgt := 280) kLh rfl c6 (by decide) (by decide) rfl (by decide) ?_
      exact fz_sw (lc2 h hI hX hXd hXh hXw hv1 hv2 hr0 hr1 hr2 hr3 hr4 hRS hRP hRK hRR hRT hRE hR2 hR3 hR4 hR28 hR5 hR6 hRG hRL hRC hRJ hRW hRV hRM hRP2 hRA hRU hRD i (by omega) (fun H g e => K H g e (by omega)))
    · refine fz_tswC (j := 3) (tgt := 323) kLh rfl c6 (by decide) (by decide) rfl (by decide) ?_
      exact fz_sw (lc3 h hI hX hXd hXh hXw hv1 hv2 hr0 hr1 hr2 hr3 hr4 hRS hRP hRK hRR hRT hRE hR2 hR3 hR4 hR28 hR5 hR6 hRG hRL hRC hRJ hRW hRV hRM hRP2 hRA hRU hRD i (by omega) (fun H g e => K H g e (by omega)))
    · refine fz_tswC (j := 4) (tgt := 366) kLh rfl c6 (by decide) (by decide) rfl (by decide) ?_
      exact fz_sw (lc4 h hI hX hXd hXh hXw hv1 hv2 hr0 hr1 hr2 hr3 hr4 hRS hRP hRK hRR hRT hRE hR2 hR3 hR4 hR28 hR5 hR6 hRG hRL hRC hRJ hRW hRV hRM hRP2 hRA hRU hRD i (by omega) (fun H g e => K H g e (by omega)))
    · refine fz_tswC (j := 5) (tgt := 409) kLh rfl c6 (by decide) (by decide) rfl (by decide) ?_
      exact fz_sw (lc5 h hI hX hXd hXh hXw hv1 hv2 hr0 hr1 hr2 hr3 hr4 hRS hRP hRK hRR hRT hRE hR2 hR3 hR4 hR28 hR5 hR6 hRG hRL hRC hRJ hRW hRV hRM hRP2 hRA hRU hRD i (by omega) (fun H g e => K H g e (by omega)))
    · refine fz_tswC (j := 6) (tgt := 442) kLh rfl c6 (by decide) (by decide) rfl (by decide) ?_
      exact fz_sw (lc6 h hI hX hXd hXh hXw hv1 hv2 hr0 hr1 hr2 hr3 hr4 hRS hRP hRK hRR hRT hRE hR2 hR3 hR4 hR28 hR5 hR6 hRG hRL hRC hRJ hRW hRV hRM hRP2 hRA hRU hRD i (by omega) (fun H g e => K H g e (by omega)))
    · refine fz_tswC (j := 7) (tgt := 465) kLh rfl c6 (by decide) (by decide) rfl (by decide) ?_
      exact fz_sw (lc7 h hI hX hXd hXh hXw hv1 hv2 hr0 hr1 hr2 hr3 hr4 hRS hRP hRK hRR hRT hRE hR2 hR3 hR4 hR28 hR5 hR6 hRG hRL hRC hRJ hRW hRV hRM hRP2 hRA hRU hRD i (by omega) (fun H g e => K H g e (by omega)))
    · refine fz_tswC (j := 8) (tgt := 478) kLh rfl c6 (by decide) (by decide) rfl (by decide) ?_
      exact fz_sw (lc8 h hI hX hXd hXh hXw hv1 hv2 hr0 hr1 hr2 hr3 hr4 hRS hRP hRK hRR hRT hRE hR2 hR3 hR4 hR28 hR5 hR6 hRG hRL hRC hRJ hRW hRV hRM hRP2 hRA hRU hRD i (by omega) (fun H g e => K H g e (by omega)))
    · refine fz_tswC (j := 9) (tgt := 511) kLh rfl c6 (by decide) (by decide) rfl (by decide) ?_
      exact fz_sw (lc9 h hI hX hXd hXh hXw hv1 hv2 hr0 hr1 hr2 hr3 hr4 hRS hRP hRK hRR hRT hRE hR2 hR3 hR4 hR28 hR5 hR6 hRG hRL hRC hRJ hRW hRV hRM hRP2 hRA hRU hRD i (by omega) (fun H g e => K H g e (by omega)))
    · refine fz_tswC (j := 10) (tgt := 544) kLh rfl c6 (by decide) (by decide) rfl (by decide) ?_
      exact fz_sw (lc10 h hI hX hXd hXh hXw hv1 hv2 hr0 hr1 hr2 hr3 hr4 hRS hRP hRK hRR hRT hRE hR2 hR3 hR4 hR28 hR5 hR6 hRG hRL hRC hRJ hRW hRV hRM hRP2 hRA hRU hRD i (by omega) (fun H g e => K H g e (by omega)))
    · refine fz_tswC (j := 11) (tgt := 577) kLh rfl c6 (by decide) (by decide) rfl (by decide) ?_
      exact fz_sw (lc11 h hI hX hXd hXh hXw hv1 hv2 hr0 hr1 hr2 hr3 hr4 hRS hRP hRK hRR hRT hRE hR2 hR3 hR4 hR28 hR5 hR6 hRG hRL hRC hRJ hRW hRV hRM hRP2 hRA hRU hRD i (by omega) (fun H g e => K H g e (by omega)))
    · refine fz_tswC (j := 12) (tgt := 610) kLh rfl c6 (by decide) (by decide) rfl (by decide) ?_
      exact fz_sw (lc12 h hI hX hXd hXh hXw hv1 hv2 hr0 hr1 hr2 hr3 hr4 hRS hRP hRK hRR hRT hRE hR2 hR3 hR4 hR28 hR5 hR6 hRG hRL hRC hRJ hRW hRV hRM hRP2 hRA hRU hRD i (by omega) (fun H g e => K H g e (by omega)))
    · refine fz_tswC (j := 13) (tgt := 653) kLh rfl c6 (by decide) (by decide) rfl (by decide) ?_
      exact fz_sw (lc13 h hI hX hXd hXh hXw hv1 hv2 hr0 hr1 hr2 hr3 hr4 hRS hRP hRK hRR hRT hRE hR2 hR3 hR4 hR28 hR5 hR6 hRG hRL hRC hRJ hRW hRV hRM hRP2 hRA hRU hRD i (by omega) (fun H g e => K H g e (by omega)))
    · refine fz_tswC (j := 14) (tgt := 696) kLh rfl c6 (by decide) (by decide) rfl (by decide) ?_
      exact fz_sw (lc14 h hI hX hXd hXh hXw hv1 hv2 hr0 hr1 hr2 hr3 hr4 hRS hRP hRK hRR hRT hRE hR2 hR3 hR4 hR28 hR5 hR6 hRG hRL hRC hRJ hRW hRV hRM hRP2 hRA hRU hRD i (by omega) (fun H g e => K H g e (by omega)))
    · refine fz_tswC (j := 15) (tgt := 739) kLh rfl c6 (by decide) (by decide) rfl (by decide) ?_
      exact fz_sw (lc15 h hI hX hXd hXh hXw hv1 hv2 hr0 hr1 hr2 hr3 hr4 hRS hRP hRK hRR hRT hRE hR2 hR3 hR4 hR28 hR5 hR6 hRG hRL hRC hRJ hRW hRV hRM hRP2 hRA hRU hRD i (by omega) (fun H g e => K H g e (by omega)))
    · refine fz_tswC (j := 16) (tgt := 782) kLh rfl c6 (by decide) (by decide) rfl (by decide) ?_
      exact fz_sw (lc16 h hI hX hXd hXh hXw hv1 hv2 hr0 hr1 hr2 hr3 hr4 hRS hRP hRK hRR hRT hRE hR2 hR3 hR4 hR28 hR5 hR6 hRG hRL hRC hRJ hRW hRV hRM hRP2 hRA hRU hRD i (by omega) (fun H g e => K H g e (by omega)))
    · refine fz_tswC (j := 17) (tgt := 835) kLh rfl c6 (by decide) (by decide) rfl (by decide) ?_
      exact fz_sw (lc17 h hI hX hXd hXh hXw hv1 hv2 hr0 hr1 hr2 hr3 hr4 hRS hRP hRK hRR hRT hRE hR2 hR3 hR4 hR28 hR5 hR6 hRG hRL hRC hRJ hRW hRV hRM hRP2 hRA hRU hRD i (by omega) (fun H g e => K H g e (by omega)))
    · refine fz_tswC (j := 18) (tgt := 888) kLh rfl c6 (by decide) (by decide) rfl (by decide) ?_
      exact fz_sw (lc18 h hI hX hXd hXh hXw hv1 hv2 hr0 hr1 hr2 hr3 hr4 hRS hRP hRK hRR hRT hRE hR2 hR3 hR4 hR28 hR5 hR6 hRG hRL hRC hRJ hRW hRV hRM hRP2 hRA hRU hRD i (by omega) (fun H g e => K H g e (by omega)))
    · refine fz_tswC (j := 19) (tgt := 931) kLh rfl c6 (by decide) (by decide) rfl (by decide) ?_
      exact fz_sw (lc19 h hI hX hXd hXh hXw hv1 hv2 hr0 hr1 hr2 hr3 hr4 hRS hRP hRK hRR hRT hRE hR2 hR3 hR4 hR28 hR5 hR6 hRG hRL hRC hRJ hRW hRV hRM hRP2 hRA hRU hRD i (by omega) (fun H g e => K H g e (by omega)))
    · refine fz_tswC (j := 20) (tgt := 974) kLh rfl c6 (by decide) (by decide) rfl (by decide) ?_
      exact fz_sw (lc20 h hI hX hXd hXh hXw hv1 hv2 hr0 hr1 hr2 hr3 hr4 hRS hRP hRK hRR hRT hRE hR2 hR3 hR4 hR28 hR5 hR6 hRG hRL hRC hRJ hRW hRV hRM hRP2 hRA hRU hRD i (by omega) (fun H g e => K H g e (by omega)))
    · refine fz_tswC (j := 21) (tgt := 1017) kLh rfl c6 (by decide) (by decide) rfl (by decide) ?_
      exact fz_sw (lc21 h hI hX hXd hXh hXw hv1 hv2 hr0 hr1 hr2 hr3 hr4 hRS hRP hRK hRR hRT hRE hR2 hR3 hR4 hR28 hR5 hR6 hRG hRL hRC hRJ hRW hRV hRM hRP2 hRA hRU hRD i (by omega) (fun H g e => K H g e (by omega)))
    · refine fz_tswC (j := 22) (tgt := 1060) kLh rfl c6 (by decide) (by decide) rfl (by decide) ?_
      exact fz_sw (lc22 h hI hX hXd hXh hXw hv1 hv2 hr0 hr1 hr2 hr3 hr4 hRS hRP hRK hRR hRT hRE hR2 hR3 hR4 hR28 hR5 hR6 hRG hRL hRC hRJ hRW hRV hRM hRP2 hRA hRU hRD i (by omega) (fun H g e => K H g e (by omega)))
    · refine fz_tswC (j := 23) (tgt := 1113) kLh rfl c6 (by decide) (by decide) rfl (by decide) ?_
      exact fz_sw (lc23 h hI hX hXd hXh hXw hv1 hv2 hr0 hr1 hr2 hr3 hr4 hRS hRP hRK hRR hRT hRE hR2 hR3 hR4 hR28 hR5 hR6 hRG hRL hRC hRJ hRW hRV hRM hRP2 hRA hRU hRD i (by omega) (fun H g e => K H g e (by omega)))
    · refine fz_tswC (j := 24) (tgt := 1156) kLh rfl c6 (by decide) (by decide) rfl (by decide) ?_
      exact fz_sw (lc24 h hI hX hXd hXh hXw hv1 hv2 hr0 hr1 hr2 hr3 hr4 hRS hRP hRK hRR hRT hRE hR2 hR3 hR4 hR28 hR5 hR6 hRG hRL hRC hRJ hRW hRV hRM hRP2 hRA hRU hRD i (by omega) (fun H g e => K H g e (by omega)))
    · refine fz_tswC (j := 25) (tgt := 1189) kLh rfl c6 (by decide) (by decide) rfl (by decide) ?_
      exact fz_sw (lc25 h hI hX hXd hXh hXw hv1 hv2 hr0 hr1 hr2 hr3 hr4 hRS hRP hRK hRR hRT hRE hR2 hR3 hR4 hR28 hR5 hR6 hRG hRL hRC hRJ hRW hRV hRM hRP2 hRA hRU hRD i (by omega) (fun H g e => K H g e (by omega)))
    · refine fz_tswC (j := 26) (tgt := 1233) kLh rfl c6 (by decide) (by decide) rfl (by decide) ?_
      exact fz_sw (lc26 h hI hX hXd hXh hXw hv1 hv2 hr0 hr1 hr2 hr3 hr4 hRS hRP hRK hRR hRT hRE hR2 hR3 hR4 hR28 hR5 hR6 hRG hRL hRC hRJ hRW hRV hRM hRP2 hRA hRU hRD i (by omega) (fun H g e => K H g e (by omega)))
    · refine fz_tswC (j := 27) (tgt := 1286) kLh rfl c6 (by decide) (by decide) rfl (by decide) ?_
      exact fz_sw (lc27 h hI hX hXd hXh hXw hv1 hv2 hr0 hr1 hr2 hr3 hr4 hRS hRP hRK hRR hRT hRE hR2 hR3 hR4 hR28 hR5 hR6 hRG hRL hRC hRJ hRW hRV hRM hRP2 hRA hRU hRD i (by omega) (fun H g e => K H g e (by omega)))
    · refine fz_tswC (j := 28) (tgt := 1319) kLh rfl c6 (by decide) (by decide) rfl (by decide) ?_
      exact fz_sw (lc28 h hI hX hXd hXh hXw hv1 hv2 hr0 hr1 hr2 hr3 hr4 hRS hRP hRK hRR hRT hRE hR2 hR3 hR4 hR28 hR5 hR6 hRG hRL hRC hRJ hRW hRV hRM hRP2 hRA hRU hRD i (by omega) (fun H g e => K H g e (by omega)))
    · refine fz_tswC (j := 29) (tgt := 1352) kLh rfl c6 (by decide) (by decide) rfl (by decide) ?_
      exact fz_sw (lc29 h hI hX hXd hXh hXw hv1 hv2 hr0 hr1 hr2 hr3 hr4 hRS hRP hRK hRR hRT hRE hR2 hR3 hR4 hR28 hR5 hR6 hRG hRL hRC hRJ hRW hRV hRM hRP2 hRA hRU hRD i (by omega) (fun H g e => K H g e (by omega)))
    · refine fz_tswC (j := 30) (tgt := 1375) kLh rfl c6 (by decide) (by decide) rfl (by decide) ?_
      exact fz_sw (lc30 h hI hX hXd hXh hXw hv1 hv2 hr0 hr1 hr2 hr3 hr4 hRS hRP hRK hRR hRT hRE hR2 hR3 hR4 hR28 hR5 hR6 hRG hRL hRC hRJ hRW hRV hRM hRP2 hRA hRU hRD i (by omega) (fun H g e => K H g e (by omega)))
    · refine fz_tswC (j := 31) (tgt := 1388) kLh rfl c6 (by decide) (by decide) rfl (by decide) ?_
      exact fz_sw (lc31 h hI hX hXd hXh hXw hv1 hv2 hr0 hr1 hr2 hr3 hr4 hRS hRP hRK hRR hRT hRE hR2 hR3 hR4 hR28 hR5 hR6 hRG hRL hRC hRJ hRW hRV hRM hRP2 hRA hRU hRD i (by omega) (fun H g e => K H g e (by omega)))
    · refine fz_tswC (j := 32) (tgt := 1401) kLh rfl c6 (by decide) (by decide) rfl (by decide) ?_
      exact fz_sw (lc32 h hI hX hXd hXh hXw hv1 hv2 hr0 hr1 hr2 hr3 hr4 hRS hRP hRK hRR hRT hRE hR2 hR3 hR4 hR28 hR5 hR6 hRG hRL hRC hRJ hRW hRV hRM hRP2 hRA hRU hRD i (by omega) (fun H g e => K H g e (by omega)))
    · refine fz_tswC (j := 33) (tgt := 1414) kLh rfl c6 (by decide) (by decide) rfl (by decide) ?_
      exact fz_sw (lc33 h hI hX hXd hXh hXw hv1 hv2 hr0 hr1 hr2 hr3 hr4 hRS hRP hRK hRR hRT hRE hR2 hR3 hR4 hR28 hR5 hR6 hRG hRL hRC hRJ hRW hRV hRM hRP2 hRA hRU hRD i (by omega) (fun H g e => K H g e (by omega)))
    · refine fz_tswC (j := 34) (tgt := 1427) kLh rfl c6 (by decide) (by decide) rfl (by decide) ?_
      exact fz_sw (lc34 h hI hX hXd hXh hXw hv1 hv2 hr0 hr1 hr2 hr3 hr4 hRS hRP hRK hRR hRT hRE hR2 hR3 hR4 hR28 hR5 hR6 hRG hRL hRC hRJ hRW hRV hRM hRP2 hRA hRU hRD i (by omega) (fun H g e => K H g e (by omega)))
    · refine fz_tswC (j := 35) (tgt := 1450) kLh rfl c6 (by decide) (by decide) rfl (by decide) ?_
      exact fz_sw (lc35 h hI hX hXd hXh hXw hv1 hv2 hr0 hr1 hr2 hr3 hr4 hRS hRP hRK hRR hRT hRE hR2 hR3 hR4 hR28 hR5 hR6 hRG hRL hRC hRJ hRW hRV hRM hRP2 hRA hRU hRD i (by omega) (fun H g e => K H g e (by omega)))
    · refine fz_tswC (j := 36) (tgt := 1493) kLh rfl c6 (by decide) (by decide) rfl (by decide) ?_
      exact fz_sw (lc36 h hI hX hXd hXh hXw hv1 hv2 hr0 hr1 hr2 hr3 hr4 hRS hRP hRK hRR hRT hRE hR2 hR3 hR4 hR28 hR5 hR6 hRG hRL hRC hRJ hRW hRV hRM hRP2 hRA hRU hRD i (by omega) (fun H g e => K H g e (by omega)))
    · refine fz_tswC (j := 37) (tgt := 1516) kLh rfl c6 (by decide) (by decide) rfl (by decide) ?_
      exact fz_sw (lc37 h hI hX hXd hXh hXw hv1 hv2 hr0 hr1 hr2 hr3 hr4 hRS hRP hRK hRR hRT hRE hR2 hR3 hR4 hR28 hR5 hR6 hRG hRL hRC hRJ hRW hRV hRM hRP2 hRA hRU hRD i (by omega) (fun H g e => K H g e (by omega)))
    · refine fz_tswC (j := 38) (tgt := 1549) kLh rfl c6 (by decide) (by decide) rfl (by decide) ?_
      exact fz_sw (lc38 h hI hX hXd hXh hXw hv1 hv2 hr0 hr1 hr2 hr3 hr4 hRS hRP hRK hRR hRT hRE hR2 hR3 hR4 hR28 hR5 hR6 hRG hRL hRC hRJ hRW hRV hRM hRP2 hRA hRU hRD i (by omega) (fun H g e => K H g e (by omega)))
    · refine fz_tswC (j := 39) (tgt := 1592) kLh rfl c6 (by decide) (by decide) rfl (by decide) ?_
      exact fz_sw (lc39 h hI hX hXd hXh hXw hv1 hv2 hr0 hr1 hr2 hr3 hr4 hRS hRP hRK hRR hRT hRE hR2 hR3 hR4 hR28 hR5 hR6 hRG hRL hRC hRJ hRW hRV hRM hRP2 hRA hRU hRD i (by omega) (fun H g e => K H g e (by omega)))
    · refine fz_tswC (j := 40) (tgt := 1665) kLh rfl c6 (by decide) (by decide) rfl (by decide) ?_
      exact fz_sw (lc40 h hI hX hXd hXh hXw hv1 hv2 hr0 hr1 hr2 hr3 hr4 hRS hRP hRK hRR hRT hRE hR2 hR3 hR4 hR28 hR5 hR6 hRG hRL hRC hRJ hRW hRV hRM hRP2 hRA hRU hRD i (by omega) (fun H g e => K H g e (by omega)))
    · refine fz_tswC (j := 41) (tgt := 1698) kLh rfl c6 (by decide) (by decide) rfl (by decide) ?_
      exact fz_sw (lc41 h hI hX hXd hXh hXw hv1 hv2 hr0 hr1 hr2 hr3 hr4 hRS hRP hRK hRR hRT hRE hR2 hR3 hR4 hR28 hR5 hR6 hRG hRL hRC hRJ hRW hRV hRM hRP2 hRA hRU hRD i (by omega) (fun H g e => K H g e (by omega)))
    · refine fz_tswC (j := 42) (tgt := 1761) kLh rfl c6 (by decide) (by decide) rfl (by decide) ?_
      exact fz_sw (lc42 h hI hX hXd hXh hXw hv1 hv2 hr0 hr1 hr2 hr3 hr4 hRS hRP hRK hRR hRT hRE hR2 hR3 hR4 hR28 hR5 hR6 hRG hRL hRC hRJ hRW hRV hRM hRP2 hRA hRU hRD i (by omega) (fun H g e => K H g e (by omega)))
    · refine fz_tswC (j := 43) (tgt := 1794) kLh rfl c6 (by decide) (by decide) rfl (by decide) ?_
      exact fz_sw (lc43 h hI hX hXd hXh hXw hv1 hv2 hr0 hr1 hr2 hr3 hr4 hRS hRP hRK hRR hRT hRE hR2 hR3 hR4 hR28 hR5 hR6 hRG hRL hRC hRJ hRW hRV hRM hRP2 hRA hRU hRD i (by omega) (fun H g e => K H g e (by omega)))
    · refine fz_tswO (tgt := 1817) kLh rfl c6 (by decide) ?_
      exact fz_sw (K h ⟨hI, hX, hXd, hXh, hXw, hv1, hv2, hr0, hr1, hr2, hr3, hr4, hRS, hRP, hRK, hRR, hRT, hRE, hR2, hR3, hR4, hR28, hR5, hR6, hRG, hRL, hRC, hRJ, hRW, hRV, hRM, hRP2, hRA, hRU, hRD⟩ rfl (by omega))
set_option maxRecDepth 100000 in
theorem lw_loop (sc : Nat → Int) (hsc : 0 ≤ sc 100000 ∧ sc 100000 ≤ 3072) : ∀ (n : Nat) (i : Int) (h : fz_H), fz_Gd h → h 200 = sc → 0 ≤ i ∧ i ≤ 3072 → (3073 - i).toNat < n → fz_R 47 mLh 18 [(3, fz_i i), (0, fz_r 200), (1, fz_r 0), (2, fz_r 53)] [] h (fun _ r => r = some (fz_i 1)) := by
  intro n
  induction n with
  | zero => intro i h g e hi hn; exact absurd hn (by omega)
  | succ n ih =>
    intro i h g e hi hn
    obtain ⟨hI, hX, hXd, hXh, hXw, hv1, hv2, hr0, hr1, hr2, hr3, hr4, hRS, hRP, hRK, hRR, hRT, hRE, hR2, hR3, hR4, hR28, hR5, hR6, hRG, hRL, hRC, hRJ, hRW, hRV, hRM, hRP2, hRA, hRU, hRD⟩ := g
    refine lw_once h hI hX hXd hXh hXw hv1 hv2 hr0 hr1 hr2 hr3 hr4 hRS hRP hRK hRR hRT hRE hR2 hR3 hR4 hR28 hR5 hR6 hRG hRL hRC hRJ hRW hRV hRM hRP2 hRA hRU hRD i (by rw [e]; omega) (fun H gH eH hle => ?_)
    rw [e] at hle
    refine fz_iincN (ls' := [(3, fz_i (i + 6)), (0, fz_r 200), (1, fz_r 0), (2, fz_r 53)]) kLe rfl (by decide) rfl (by omega) rfl ?_
    refine fz_goto (tgt := 18) kLe rfl (by decide) ?_
    exact fz_sw (ih (i + 6) H gH (eH.trans e) (by omega) (by omega))
