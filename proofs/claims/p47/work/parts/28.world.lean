/-! ===== helps for the law's own methods ===== -/
theorem st_tmod {v n : Int} (hv : -2147483648 ≤ v ∧ v ≤ 2147483647) (hn : 1 ≤ n ∧ n ≤ 1000) : fz_w (Int.tmod v n) = Int.tmod v n ∧ -n < Int.tmod v n ∧ Int.tmod v n < n ∧ (0 ≤ Int.tmod v n → Int.tmod v n = v % n) ∧ (Int.tmod v n < 0 → Int.tmod v n + n = v % n) := by
  have t1 : (Int.tmod v n).natAbs < n.natAbs := by
    rw [Int.natAbs_tmod]
    exact Nat.mod_lt _ (by omega)
  have e : n * Int.tdiv v n + Int.tmod v n = v := Int.mul_tdiv_add_tmod v n
  have m : ∀ k : Int, (Int.tmod v n + k * n) % n = v % n := fun k => by
    have e2 : v = Int.tmod v n + k * n + n * (Int.tdiv v n - k) := by
      have e3 : n * (Int.tdiv v n - k) = n * Int.tdiv v n - n * k := Int.mul_sub _ _ _
      have e4 : n * k = k * n := Int.mul_comm _ _
      omega
    have e5 : (Int.tmod v n + k * n + n * (Int.tdiv v n - k)) % n = (Int.tmod v n + k * n) % n := Int.add_mul_emod_self_left _ _ _
    rw [← e2] at e5
    exact e5.symm
  refine ⟨fz_w_id (by omega) (by omega), by omega, by omega, fun h => ?_, fun h => ?_⟩
  · have := m 0
    rw [Int.zero_mul, Int.add_zero, Int.emod_eq_of_lt h (by omega)] at this
    exact this
  · have := m 1
    rw [Int.one_mul, Int.emod_eq_of_lt (by omega) (by omega)] at this
    exact this
theorem st_oth {a q n o : Int} (ha : 0 ≤ a ∧ a < n) (hq : 0 ≤ q ∧ q < n - 1) (e : o = (a + 1 + q) % n) : o ≠ a ∧ 0 ≤ o ∧ o < n := by
  by_cases c : a + 1 + q < n
  · rw [Int.emod_eq_of_lt (by omega) c] at e
    omega
  · have e2 : (a + 1 + q - n + n * 1) % n = (a + 1 + q - n) % n := Int.add_mul_emod_self_left _ _ _
    rw [show a + 1 + q - n + n * 1 = a + 1 + q by omega, Int.emod_eq_of_lt (show 0 ≤ a + 1 + q - n by omega) (by omega)] at e2
    rw [e2] at e
    omega
theorem st_lC {nu wh : Int} : (fz_lC nu wh).1 ≤ 28 := by
  unfold fz_lC
  by_cases c0 : wh = 0
  · rw [if_pos c0]; exact (by decide : 2 ≤ 28)
  rw [if_neg c0]
  by_cases c1 : wh = 1
  · rw [if_pos c1]; exact (by decide : 3 ≤ 28)
  rw [if_neg c1]
  by_cases c2 : wh = 2
  · rw [if_pos c2]; exact (by decide : 4 ≤ 28)
  rw [if_neg c2]
  by_cases c3 : wh = 3
  · rw [if_pos c3]; exact (by decide : 12 ≤ 28)
  rw [if_neg c3]
  by_cases c4 : wh = 4
  · rw [if_pos c4]; exact (by decide : 13 ≤ 28)
  rw [if_neg c4]
  by_cases c5 : wh = 5
  · rw [if_pos c5]; exact (by decide : 14 ≤ 28)
  rw [if_neg c5]
  by_cases c6 : wh = 6
  · rw [if_pos c6]; exact (by decide : 28 ≤ 28)
  rw [if_neg c6]
  by_cases c7 : wh = 7
  · rw [if_pos c7]; exact (by decide : 27 ≤ 28)
  rw [if_neg c7]
  exact (by decide : 27 ≤ 28)
theorem st_aC {h h' : fz_H} {nu wh v : Int} {c : Nat} (a : fz_aC h h' nu wh v) (hc : 29 ≤ c) : h' c = h c := by
  rw [a c (by omega) (by omega)]
  exact fz_up_ne (by have := @st_lC nu wh; omega)
/-- a change adds at most one to the tape of changes -/
theorem st_mC_d {h h' : fz_H} {nu wh v r : Int} (m : fz_mC h h' nu wh v r) (hI : fz_Iv h') : h' 35 4 ≤ h 35 4 + 1 ∧ 0 ≤ h' 35 4 := by
  have b := hI.1 35 4
  have b2 : (0 : Int) ≤ h' 35 4 := b.1
  rcases m with ⟨-, -, e⟩ | ⟨-, -, -, e⟩ | ⟨-, -, -, g, c, f, a⟩
  · rw [e] at b2 ⊢; omega
  · rw [e] at b2 ⊢; omega
  · have e : h' 35 = g 35 := st_aC a (by decide)
    rw [e] at b2 ⊢
    rcases c with ⟨-, c1, -⟩ | ⟨hd, g1, -, c1, -⟩
    · omega
    · omega
abbrev qL_at (h : fz_H) (k : Int) : fz_H → Option fz_V → Prop := fun h' r0 => h' = h ∧ ∃ r : Int, r0 = some (fz_i r) ∧ ((-2147483648) ≤ r ∧ r ≤ 2147483647)
set_option maxHeartbeats 1000000 in
set_option maxRecDepth 100000 in
theorem sL_at (h : fz_H) (hI : fz_Iv h) (k : Int) (hp0 : 0 ≤ k) (hp1 : 0 ≤ h 200 100000 ∧ h 200 100000 ≤ 3072) : fz_R 0 mL_at 0 [(0, fz_r 200), (1, fz_i k)] [] h (qL_at h k) := by
  refine fz_knowl (fun hk => ?_)
  have hr_k : -2147483648 ≤ k ∧ k < 2147483648 := hk _ (List.Mem.tail _ (List.Mem.head _))
  clear hk
  refine fz_iload_n kL_at rfl rfl ?_
  refine fz_aload_n kL_at rfl rfl ?_
  refine fz_tlen kL_at rfl ⟨by decide, by decide⟩ (by omega) ?_
  refine fz_icmp_ge (tgt := 12) kL_at rfl (by decide) (fun c1 => ?_) (fun c1 => ?_)
  · refine fz_iconst ⟨by decide, by decide⟩ kL_at rfl ?_
    exact fz_iret kL_at rfl rfl (fun _ => ⟨rfl, _, rfl, (by omega)⟩)
  · refine fz_aload_n kL_at rfl rfl ?_
    refine fz_iload_n kL_at rfl rfl ?_
    obtain ⟨a2, e3⟩ : ∃ z, h 200 (k).toNat = z := ⟨_, rfl⟩
    refine fz_taldV (v := a2) kL_at rfl ⟨by decide, by decide⟩ (by omega) (by omega) e3 ?_
    refine fz_goto (tgt := 13) kL_at rfl (by decide) ?_
    exact fz_iret kL_at rfl rfl (fun _ => ⟨rfl, _, rfl, (by omega)⟩)

abbrev qL_some (h : fz_H) (v n : Int) : fz_H → Option fz_V → Prop := fun h' r0 => h' = h ∧ ∃ r : Int, r0 = some (fz_i r) ∧ ((-2147483647) ≤ r ∧ r ≤ 2147483647) ∧ (0 ≤ r ∧ r < n) ∧ (r = v % n)
set_option maxHeartbeats 1000000 in
set_option maxRecDepth 100000 in
theorem sL_some (h : fz_H) (hI : fz_Iv h) (v n : Int) (hp0 : 1 ≤ n ∧ n ≤ 1000) : fz_R 0 mL_some 0 [(0, fz_i v), (1, fz_i n)] [] h (qL_some h v n) := by
  refine fz_knowl (fun hk => ?_)
  have hr_v : -2147483648 ≤ v ∧ v < 2147483648 := hk _ (List.Mem.head _)
  have hr_n : -2147483648 ≤ n ∧ n < 2147483648 := hk _ (List.Mem.tail _ (List.Mem.head _))
  clear hk
  refine fz_iload_n kL_some rfl rfl ?_
  refine fz_iload_n kL_some rfl rfl ?_
  refine fz_irem (by omega) kL_some rfl ?_
  have b1 := fz_w_b (Int.tmod v n)
  have k2 := st_tmod (v := v) (n := n) (by omega) (by omega)
  refine fz_istore_n (ls' := [(2, fz_i (fz_w (Int.tmod v n))), (0, fz_i v), (1, fz_i n)]) kL_some rfl (by decide) rfl ?_
  refine fz_iload_n kL_some rfl rfl ?_
  refine fz_if_ge (tgt := 14) kL_some rfl (by decide) (fun c4 => ?_) (fun c4 => ?_)
  · refine fz_iload_n kL_some rfl rfl ?_
    exact fz_iret kL_some rfl rfl (fun _ => ⟨rfl, _, rfl, (by omega), (by omega), (by omega)⟩)
  · refine fz_iload_n kL_some rfl rfl ?_
    refine fz_iload_n kL_some rfl rfl ?_
    refine fz_iaddN kL_some rfl (by omega) ?_
    refine fz_goto (tgt := 15) kL_some rfl (by decide) ?_
    exact fz_iret kL_some rfl rfl (fun _ => ⟨rfl, _, rfl, (by omega), (by omega), (by omega)⟩)

abbrev qL_world (h : fz_H) : fz_H → Option fz_V → Prop := fun h' r0 => fz_Iv h' ∧ fz_fr [(1, 7), (1, 8), (2, 99999), (3, 99999), (4, 99999), (5, 99999), (6, 99999), (7, 99999), (8, 99999), (9, 5), (10, 99999), (11, 99999), (12, 99999), (13, 99999), (14, 99999), (15, 4), (16, 99999), (17, 99999), (20, 2), (20, 3), (20, 4), (21, 4), (22, 99999), (23, 99999), (26, 99999), (27, 8), (27, 9), (28, 99999), (35, 4), (35, 5), (36, 99999), (37, 99999), (38, 99999), (39, 99999), (53, 99999)] h h' ∧ fz_Xc h' ∧ fz_RE h' ∧ fz_RV h' ∧ r0 = none ∧ h' 53 0 = h' 1 7 ∧ h' 53 1 = h' 1 8 ∧ h' 53 2 = h' 9 5 ∧ h' 9 5 ≤ 8 ∧ h' 20 2 = 0 ∧ h' 35 4 ≤ 19 ∧ fz_RP2 h' ∧ st_L1 h'
set_option maxHeartbeats 1000000 in
set_option maxRecDepth 100000 in
theorem sL_w669 (h H : fz_H) (b0 : Int) (hI : fz_Iv H) (hf : fz_fr [(1, 7), (1, 8), (2, 99999), (3, 99999), (4, 99999), (5, 99999), (6, 99999), (7, 99999), (8, 99999), (9, 5), (10, 99999), (11, 99999), (12, 99999), (13, 99999), (14, 99999), (15, 4), (16, 99999), (17, 99999), (20, 2), (20, 3), (20, 4), (21, 4), (22, 99999), (23, 99999), (26, 99999), (27, 8), (27, 9), (28, 99999), (35, 4), (35, 5), (36, 99999), (37, 99999), (38, 99999), (39, 99999), (53, 99999)] h H) (hX : fz_Xc H) (hRE : fz_RE H) (hRV : fz_RV H) (hRP2 : fz_RP2 H) (hL1 : st_L1 H) (hp0 : 0 ≤ h 200 100000 ∧ h 200 100000 ≤ 3072) (hp1 : 0 ≤ h 205 100000 ∧ h 205 100000 ≤ 120) (hp2 : h 1 7 = 0 ∧ h 1 8 = 0 ∧ h 9 5 = 0 ∧ h 20 2 = 0 ∧ h 35 4 = 0) (hp3 : h 53 1 = 0 ∧ h 53 2 = 0) (hq0 : 0 ≤ b0 ∧ b0 ≤ 8) (hq1 : H 53 0 = b0) (hq2 : H 53 1 = H 1 8) (hq3 : H 53 2 = H 9 5) (hq4 : H 20 2 = 0) (hq5 : H 1 7 = b0) (hq6 : H 9 5 ≤ 8) (hq7 : 0 ≤ H 35 4 ∧ H 35 4 ≤ 19) : fz_R 47 mL_world 669 [(0, fz_r 0), (1, fz_r 200), (2, fz_r 53), (3, fz_r 205)] [] H (qL_world h) := by
  refine fz_iconst ⟨by decide, by decide⟩ kL_world rfl ?_
  refine fz_istore (ls' := [(7, fz_i 0), (0, fz_r 0), (1, fz_r 200), (2, fz_r 53), (3, fz_r 205)]) kL_world rfl (by decide) rfl ?_
  have lp11 : ∀ (n10 : Nat) (x1 : Int) (H7 : fz_H), fz_Iv H7 → fz_fr [(1, 7), (1, 8), (2, 99999), (3, 99999), (4, 99999), (5, 99999), (6, 99999), (7, 99999), (8, 99999), (9, 5), (10, 99999), (11, 99999), (12, 99999), (13, 99999), (14, 99999), (15, 4), (16, 99999), (17, 99999), (20, 2), (20, 3), (20, 4), (21, 4), (22, 99999), (23, 99999), (26, 99999), (27, 8), (27, 9), (28, 99999), (35, 4), (35, 5), (36, 99999), (37, 99999), (38, 99999), (39, 99999), (53, 99999)] h H7 → fz_RE H7 → fz_RV H7 → fz_RP2 H7 → fz_Xc H7 → st_L1 H7 → (0 ≤ x1 ∧ x1 ≤ 120) → (H7 53 0 = b0) → (H7 53 1 = H7 1 8) → (H7 53 2 = H7 9 5) → (H7 1 7 = b0) → (H7 9 5 ≤ 8) → (0 ≤ H7 35 4 ∧ H7 35 4 ≤ 19) → (x1 ≤ h 205 100000) → (1 ≤ x1 ∨ H7 20 2 = 0) → (h 205 100000 - x1).toNat < n10 → fz_R 47 mL_world 672 [(7, fz_i x1), (0, fz_r 0), (1, fz_r 200), (2, fz_r 53), (3, fz_r 205)] [] H7 (qL_world h) := by
    intro n10
    induction n10 with
    | zero => intro x1 H7 hI8 hf9 hRE2 hRV3 hRP24 hXq5 hL16 hv14 hv15 hv16 hv17 hv18 hv19 hv20 hv21 hv22 hm13; exact absurd hm13 (by omega)
    | succ n10 ih12 =>
      intro x1 H7 hI8 hf9 hRE2 hRV3 hRP24 hXq5 hL16 hv14 hv15 hv16 hv17 hv18 hv19 hv20 hv21 hv22 hm13
      refine fz_iload kL_world rfl rfl ?_
      refine fz_aload_n kL_world rfl rfl ?_
      have e23 : H7 205 100000 = h 205 100000 := hf9 205 100000 rfl
      refine fz_slen kL_world rfl rfl (by omega) (Nat.le_of_ble_eq_true rfl) (by decide) ?_
      rw [e23]
      refine fz_icmp_ge (tgt := 698) kL_world rfl (by decide) (fun c24 => ?_) (fun c24 => ?_)
      · refine fz_aload_n kL_world rfl rfl ?_
        have e25 : H7 205 100000 = h 205 100000 := hf9 205 100000 rfl
        refine fz_slen kL_world rfl rfl (by omega) (Nat.le_of_ble_eq_true rfl) (by decide) ?_
        rw [e25]
        refine fz_if_le (tgt := 710) kL_world rfl (by decide) (fun c26 => ?_) (fun c26 => ?_)
        · exact fz_vret kL_world rfl rfl ⟨hI8, hf9, hXq5, hRE2, hRV3, rfl, (by omega), (by omega), (by omega), (by omega), (by omega), (by omega), (by exact hRP24), (by exact hL16)⟩
        · refine fz_aload_n kL_world rfl rfl ?_
          refine fz_callV (d' := 46) (M' := mX10_law) (As := []) (st := []) kL_world rfl rfl vX10_law rfl rfl rfl rfl (Nat.le_of_ble_eq_true rfl) (Nat.le_of_ble_eq_true rfl) (by decide) (sX10_law H7 hI8  ) (fun H29 r30 q31 o32 => ?_)
          obtain ⟨hI33, hf34, y38, rfl, f35, f36, f37⟩ := q31
          clear o32
          have hf39 := fz_fr_tr hf9 hf34 (show fz_su [(15, 4), (16, 99999), (17, 99999), (20, 2), (20, 3), (20, 4), (21, 4), (22, 99999), (23, 99999)] [(1, 7), (1, 8), (2, 99999), (3, 99999), (4, 99999), (5, 99999), (6, 99999), (7, 99999), (8, 99999), (9, 5), (10, 99999), (11, 99999), (12, 99999), (13, 99999), (14, 99999), (15, 4), (16, 99999), (17, 99999), (20, 2), (20, 3), (20, 4), (21, 4), (22, 99999), (23, 99999), (26, 99999), (27, 8), (27, 9), (28, 99999), (35, 4), (35, 5), (36, 99999), (37, 99999), (38, 99999), (39, 99999), (53, 99999)] = true from rfl)
          have hRE40 : fz_RE H29 := fz_RE_eq (funext fun s => hf34 5 s rfl) (funext fun s => hf34 6 s rfl) (hf34 1 8 rfl) (hf34 1 7 rfl) hRE2
          have hRV41 : fz_RV H29 := fz_RV_eq (funext fun s => hf34 7 s rfl) (funext fun s => hf34 8 s rfl) (funext fun s => hf34 3 s rfl) (funext fun s => hf34 4 s rfl) (funext fun s => hf34 5 s rfl) (funext fun s => hf34 6 s rfl) (hf34 1 7 rfl) (hf34 1 8 rfl) hRV3
          have hRP242 : fz_RP2 H29 := fz_RP2_eq (funext fun s => hf34 11 s rfl) (hf34 9 5 rfl) (hf34 1 7 rfl) hRP24
          have hL143 : st_L1 H29 := st_L1_eq (funext fun s => hf34 3 s rfl) (hf34 1 8 rfl) hL16
          have hX44 : fz_Xc H29 := fz_Xc_fr hf34 rfl hXq5
          have t45 : H29 53 0 = H7 53 0 := hf34 53 0 rfl
          have t46 : H29 53 1 = H7 53 1 := hf34 53 1 rfl
          have t47 : H29 53 2 = H7 53 2 := hf34 53 2 rfl
          have t48 : H29 35 4 = H7 35 4 := hf34 35 4 rfl
          have t49 : H29 1 7 = H7 1 7 := hf34 1 7 rfl
          have t50 : H29 1 8 = H7 1 8 := hf34 1 8 rfl
          have t51 : H29 9 5 = H7 9 5 := hf34 9 5 rfl
          refine fz_pop rfl kL_world rfl ?_
          exact fz_vret kL_world rfl rfl ⟨hI33, hf39, hX44, hRE40, hRV41, rfl, (by omega), (by omega), (by omega), (by omega), (by omega), (by omega), (by exact hRP242), (by exact hL143)⟩
      · refine fz_aload_n kL_world rfl rfl ?_
        refine fz_aload_n kL_world rfl rfl ?_
        refine fz_iload kL_world rfl rfl ?_
        have e54 : H7 205 100000 = h 205 100000 := hf9 205 100000 rfl
        refine fz_sat (i := x1) kL_world rfl rfl (by omega) (Nat.le_of_ble_eq_true rfl) (by decide) (fun z55 e56 => ?_)
        have b57 : 0 ≤ H7 20 2 ∧ H7 20 2 ≤ 120 := hI8.1 20 _
        refine fz_callV (d' := 1) (M' := mX10_feed) (As := [fz_i z55]) (st := []) kL_world rfl rfl vX10_feed rfl rfl rfl rfl (Nat.le_of_ble_eq_true rfl) (Nat.le_of_ble_eq_true rfl) (by decide) (sX10_feed H7 hI8 z55 ) (fun H58 r59 q60 o61 => ?_)
        obtain ⟨hI62, hf63, y68, rfl, f64, f65, f66, f67⟩ := q60
        clear o61
        have hf69 := fz_fr_tr hf9 hf63 (show fz_su [(20, 2), (26, 99999)] [(1, 7), (1, 8), (2, 99999), (3, 99999), (4, 99999), (5, 99999), (6, 99999), (7, 99999), (8, 99999), (9, 5), (10, 99999), (11, 99999), (12, 99999), (13, 99999), (14, 99999), (15, 4), (16, 99999), (17, 99999), (20, 2), (20, 3), (20, 4), (21, 4), (22, 99999), (23, 99999), (26, 99999), (27, 8), (27, 9), (28, 99999), (35, 4), (35, 5), (36, 99999), (37, 99999), (38, 99999), (39, 99999), (53, 99999)] = true from rfl)
        have hRE70 : fz_RE H58 := fz_RE_eq (funext fun s => hf63 5 s rfl) (funext fun s => hf63 6 s rfl) (hf63 1 8 rfl) (hf63 1 7 rfl) hRE2
        have hRV71 : fz_RV H58 := fz_RV_eq (funext fun s => hf63 7 s rfl) (funext fun s => hf63 8 s rfl) (funext fun s => hf63 3 s rfl) (funext fun s => hf63 4 s rfl) (funext fun s => hf63 5 s rfl) (funext fun s => hf63 6 s rfl) (hf63 1 7 rfl) (hf63 1 8 rfl) hRV3
        have hRP272 : fz_RP2 H58 := fz_RP2_eq (funext fun s => hf63 11 s rfl) (hf63 9 5 rfl) (hf63 1 7 rfl) hRP24
        have hL173 : st_L1 H58 := st_L1_eq (funext fun s => hf63 3 s rfl) (hf63 1 8 rfl) hL16
        have hX74 : fz_Xc H58 := fz_Xc_fr hf63 rfl hXq5
        have t75 : H58 53 0 = H7 53 0 := hf63 53 0 rfl
        have t76 : H58 53 1 = H7 53 1 := hf63 53 1 rfl
        have t77 : H58 53 2 = H7 53 2 := hf63 53 2 rfl
        have t78 : H58 35 4 = H7 35 4 := hf63 35 4 rfl
        have t79 : H58 1 7 = H7 1 7 := hf63 1 7 rfl
        have t80 : H58 1 8 = H7 1 8 := hf63 1 8 rfl
        have t81 : H58 9 5 = H7 9 5 := hf63 9 5 rfl
        refine fz_pop rfl kL_world rfl ?_
        refine fz_iincN (ls' := [(7, fz_i (x1 + 1)), (0, fz_r 0), (1, fz_r 200), (2, fz_r 53), (3, fz_r 205)]) kL_world rfl (by decide) rfl (by omega) rfl ?_
        refine fz_goto (tgt := 672) kL_world rfl (by decide) ?_
        exact ih12 (x1 + 1) H58 hI62 hf69 hRE70 hRV71 hRP272 hX74 hL173 (by omega) (by omega) (by omega) (by omega) (by omega) (by omega) (by omega) (by omega) (by omega) (by omega)
  exact lp11 _ 0 H hI hf hRE hRV hRP2 hX hL1 (by omega) (by omega) (by omega) (by omega) (by omega) (by omega) (by omega) (by omega) (by omega) (Nat.lt_succ_self _)

set_option maxHeartbeats 1000000 in
set_option maxRecDepth 100000 in
theorem sL_w448 (h H : fz_H) (x b0 : Int) (hI : fz_Iv H) (hf : fz_fr [(1, 7), (1, 8), (2, 99999), (3, 99999), (4, 99999), (5, 99999), (6, 99999), (7, 99999), (8, 99999), (9, 5), (10, 99999), (11, 99999), (12, 99999), (13, 99999), (14, 99999), (15, 4), (16, 99999), (17, 99999), (20, 2), (20, 3), (20, 4), (21, 4), (22, 99999), (23, 99999), (26, 99999), (27, 8), (27, 9), (28, 99999), (35, 4), (35, 5), (36, 99999), (37, 99999), (38, 99999), (39, 99999), (53, 99999)] h H) (hX : fz_Xc H) (hRE : fz_RE H) (hRV : fz_RV H) (hL1 : st_L1 H) (hp0 : 0 ≤ h 200 100000 ∧ h 200 100000 ≤ 3072) (hp1 : 0 ≤ h 205 100000 ∧ h 205 100000 ≤ 120) (hp2 : h 1 7 = 0 ∧ h 1 8 = 0 ∧ h 9 5 = 0 ∧ h 20 2 = 0 ∧ h 35 4 = 0) (hp3 : h 53 1 = 0 ∧ h 53 2 = 0) (hq0 : -2147483648 ≤ x ∧ x < 2147483648) (hq1 : 0 ≤ b0 ∧ b0 ≤ 8) (hq2 : H 53 0 = b0) (hq3 : H 53 1 = H 1 8) (hq4 : H 53 2 = H 9 5) (hq5 : H 20 2 = 0) (hq6 : H 1 7 = b0) (hq7 : H 9 5 = 0) (hq8 : 0 ≤ H 35 4 ∧ H 35 4 ≤ 19) : fz_R 47 mL_world 448 [(4, fz_i x), (0, fz_r 0), (1, fz_r 200), (2, fz_r 53), (3, fz_r 205)] [] H (qL_world h) := by
  refine fz_aload_n kL_world rfl rfl ?_
  refine fz_iconst ⟨by decide, by decide⟩ kL_world rfl ?_
  obtain ⟨v1, e2⟩ : ∃ z, H 53 (0) = z := ⟨_, rfl⟩
  refine fz_ialdV (n := 40) (v := v1) kL_world rfl rfl (by omega) (by omega) e2 ?_
  have b3 : (-2147483648) ≤ v1 ∧ v1 ≤ 2147483647 := by rw [← e2]; exact hI.1 53 _
  have J4 : ∀ j5 : Int, 0 ≤ j5 ∧ j5 ≤ 8 → (j5 = 0 ∨ 1 ≤ b0) → fz_R 47 mL_world 468 [(4, fz_i x), (0, fz_r 0), (1, fz_r 200), (2, fz_r 53), (3, fz_r 205)] [fz_i j5] H (qL_world h) := by
    intro j5 hj6 hj8
    refine fz_istore (ls' := [(6, fz_i j5), (4, fz_i x), (0, fz_r 0), (1, fz_r 200), (2, fz_r 53), (3, fz_r 205)]) kL_world rfl (by decide) rfl ?_
    refine fz_iconst ⟨by decide, by decide⟩ kL_world rfl ?_
    refine fz_istore (ls' := [(7, fz_i 0), (6, fz_i j5), (4, fz_i x), (0, fz_r 0), (1, fz_r 200), (2, fz_r 53), (3, fz_r 205)]) kL_world rfl (by decide) rfl ?_
    have hRP29 : fz_RP2 H := fun j hj => absurd hj (by omega)
    have lp21 : ∀ (n20 : Nat) (x11 : Int) (H17 : fz_H), fz_Iv H17 → fz_fr [(1, 7), (1, 8), (2, 99999), (3, 99999), (4, 99999), (5, 99999), (6, 99999), (7, 99999), (8, 99999), (9, 5), (10, 99999), (11, 99999), (12, 99999), (13, 99999), (14, 99999), (15, 4), (16, 99999), (17, 99999), (20, 2), (20, 3), (20, 4), (21, 4), (22, 99999), (23, 99999), (26, 99999), (27, 8), (27, 9), (28, 99999), (35, 4), (35, 5), (36, 99999), (37, 99999), (38, 99999), (39, 99999), (53, 99999)] h H17 → fz_RE H17 → fz_RV H17 → fz_RP2 H17 → fz_Xc H17 → st_L1 H17 → (0 ≤ x11 ∧ x11 ≤ 8) → (H17 53 0 = b0) → (H17 53 1 = H17 1 8) → (H17 53 2 = H17 9 5) → (H17 20 2 = 0) → (H17 1 7 = b0) → (H17 9 5 = x11) → (x11 ≤ j5) → (0 ≤ H17 35 4 ∧ H17 35 4 ≤ 19) → (j5 - x11).toNat < n20 → fz_R 47 mL_world 473 [(7, fz_i x11), (6, fz_i j5), (4, fz_i x), (0, fz_r 0), (1, fz_r 200), (2, fz_r 53), (3, fz_r 205)] [] H17 (qL_world h) := by
      intro n20
      induction n20 with
      | zero => intro x11 H17 hI18 hf19 hRE12 hRV13 hRP214 hXq15 hL116 hv24 hv25 hv26 hv27 hv28 hv29 hv30 hv31 hv32 hm23; exact absurd hm23 (by omega)
      | succ n20 ih22 =>
        intro x11 H17 hI18 hf19 hRE12 hRV13 hRP214 hXq15 hL116 hv24 hv25 hv26 hv27 hv28 hv29 hv30 hv31 hv32 hm23
        refine fz_iload kL_world rfl rfl ?_
        refine fz_iload kL_world rfl rfl ?_
        refine fz_icmp_ge (tgt := 669) kL_world rfl (by decide) (fun c33 => ?_) (fun c33 => ?_)
        · refine fz_sub (fz_pk_sub (ls' := [(0, fz_r 0), (1, fz_r 200), (2, fz_r 53), (3, fz_r 205)]) [3, 4, 5, 6] rfl) ?_
          exact sL_w669 h H17 b0 hI18 hf19 hXq15 hRE12 hRV13 hRP214 hL116 hp0 hp1 hp2 hp3 (by omega) (by omega) (by omega) (by omega) (by omega) (by omega) (by omega) (by omega)
        · refine fz_aload_n kL_world rfl rfl ?_
          refine fz_bipush ⟨by decide, by decide⟩ kL_world rfl ?_
          refine fz_iload kL_world rfl rfl ?_
          refine fz_bipush ⟨by decide, by decide⟩ kL_world rfl ?_
          refine fz_iremN kL_world rfl (by omega) (by omega) (by omega) ?_
          refine fz_iaddN kL_world rfl (by omega) ?_
          have e34 : H17 200 100000 = h 200 100000 := hf19 200 100000 rfl
          refine fz_callS (d' := 0) (M' := mL_at) (As := [fz_r 200, fz_i (14 + (x11 % 8))]) (st := []) kL_world rfl rfl vL_at rfl rfl (Nat.le_of_ble_eq_true rfl) (Nat.le_of_ble_eq_true rfl) (by decide) (sL_at H17 hI18 (14 + (x11 % 8)) (by omega) (by omega)) (fun H35 r36 q37 o38 => ?_)
          obtain ⟨e39, y41, rfl, f40⟩ := q37
          subst H35
          clear o38
          refine fz_iload kL_world rfl rfl ?_
          refine fz_bipush ⟨by decide, by decide⟩ kL_world rfl ?_
          refine fz_idivN kL_world rfl (by omega) (by omega) (by omega) ?_
          refine fz_bipush ⟨by decide, by decide⟩ kL_world rfl ?_
          refine fz_imulN kL_world rfl (by omega) ?_
          refine fz_eqi (y := 0) (by omega) ?_
          refine fz_ixor kL_world rfl ?_
          have b42 : -2147483648 ≤ (fz_xor y41 0) ∧ (fz_xor y41 0) < 2147483648 := fz_b32 _
          refine fz_istore (ls' := [(8, fz_i (fz_xor y41 0)), (7, fz_i x11), (6, fz_i j5), (4, fz_i x), (0, fz_r 0), (1, fz_r 200), (2, fz_r 53), (3, fz_r 205)]) kL_world rfl (by decide) rfl ?_
          refine fz_iload kL_world rfl rfl ?_
          refine fz_iload kL_world rfl rfl ?_
          refine fz_bipush ⟨by decide, by decide⟩ kL_world rfl ?_
          refine fz_ishr kL_world rfl ?_
          have b44 : -2147483648 ≤ (fz_shr x 28) ∧ (fz_shr x 28) < 2147483648 := fz_b32 _
          refine fz_iconst ⟨by decide, by decide⟩ kL_world rfl ?_
          refine fz_iand kL_world rfl ?_
          have b46 : -2147483648 ≤ (fz_and (fz_shr x 28) 1) ∧ (fz_and (fz_shr x 28) 1) < 2147483648 := fz_b32 _
          have b47 : 0 ≤ (fz_and (fz_shr x 28) 1) ∧ (fz_and (fz_shr x 28) 1) ≤ 1 := fz_and_m (by omega) (by omega)
          have J48 : ∀ j49 : Int, 2 ≤ j49 ∧ j49 ≤ 4 → fz_R 47 mL_world 520 [(8, fz_i (fz_xor y41 0)), (7, fz_i x11), (6, fz_i j5), (4, fz_i x), (0, fz_r 0), (1, fz_r 200), (2, fz_r 53), (3, fz_r 205)] [fz_i j49, fz_i (fz_xor y41 0)] H17 (qL_world h) := by
            intro j49 hj50
            refine fz_callS (d' := 0) (M' := mL_some) (As := [fz_i (fz_xor y41 0), fz_i j49]) (st := []) kL_world rfl rfl vL_some rfl rfl (Nat.le_of_ble_eq_true rfl) (Nat.le_of_ble_eq_true rfl) (by decide) (sL_some H17 hI18 (fz_xor y41 0) j49 (by omega)) (fun H52 r53 q54 o55 => ?_)
            obtain ⟨e56, y60, rfl, f57, f58, f59⟩ := q54
            subst H52
            clear o55
            refine fz_istore (ls' := [(9, fz_i y60), (8, fz_i (fz_xor y41 0)), (7, fz_i x11), (6, fz_i j5), (4, fz_i x), (0, fz_r 0), (1, fz_r 200), (2, fz_r 53), (3, fz_r 205)]) kL_world rfl (by decide) rfl ?_
            refine fz_iload kL_world rfl rfl ?_
            refine fz_iconst ⟨by decide, by decide⟩ kL_world rfl ?_
            refine fz_ishr kL_world rfl ?_
            have b61 : -2147483648 ≤ (fz_shr (fz_xor y41 0) 3) ∧ (fz_shr (fz_xor y41 0) 3) < 2147483648 := fz_b32 _
            refine fz_aload_n kL_world rfl rfl ?_
            refine fz_iconst ⟨by decide, by decide⟩ kL_world rfl ?_
            obtain ⟨v63, e64⟩ : ∃ z, H17 53 (0) = z := ⟨_, rfl⟩
            refine fz_ialdV (n := 40) (v := v63) kL_world rfl rfl (by omega) (by omega) e64 ?_
            have b65 : (-2147483648) ≤ v63 ∧ v63 ≤ 2147483647 := by rw [← e64]; exact hI18.1 53 _
            have k67 : 1 ≤ v63 ∧ v63 ≤ 8 := by omega
            refine fz_callS (d' := 0) (M' := mL_some) (As := [fz_i (fz_shr (fz_xor y41 0) 3), fz_i v63]) (st := []) kL_world rfl rfl vL_some rfl rfl (Nat.le_of_ble_eq_true rfl) (Nat.le_of_ble_eq_true rfl) (by decide) (sL_some H17 hI18 (fz_shr (fz_xor y41 0) 3) v63 (by omega)) (fun H68 r69 q70 o71 => ?_)
            obtain ⟨e72, y76, rfl, f73, f74, f75⟩ := q70
            subst H68
            clear o71
            refine fz_istore (ls' := [(10, fz_i y76), (9, fz_i y60), (8, fz_i (fz_xor y41 0)), (7, fz_i x11), (6, fz_i j5), (4, fz_i x), (0, fz_r 0), (1, fz_r 200), (2, fz_r 53), (3, fz_r 205)]) kL_world rfl (by decide) rfl ?_
            refine fz_iload kL_world rfl rfl ?_
            refine fz_bipush ⟨by decide, by decide⟩ kL_world rfl ?_
            refine fz_ishr kL_world rfl ?_
            have b77 : -2147483648 ≤ (fz_shr (fz_xor y41 0) 8) ∧ (fz_shr (fz_xor y41 0) 8) < 2147483648 := fz_b32 _
            refine fz_iconst ⟨by decide, by decide⟩ kL_world rfl ?_
            refine fz_iand kL_world rfl ?_
            have b79 : -2147483648 ≤ (fz_and (fz_shr (fz_xor y41 0) 8) 1) ∧ (fz_and (fz_shr (fz_xor y41 0) 8) 1) < 2147483648 := fz_b32 _
            have b80 : 0 ≤ (fz_and (fz_shr (fz_xor y41 0) 8) 1) ∧ (fz_and (fz_shr (fz_xor y41 0) 8) 1) ≤ 1 := fz_and_m (by omega) (by omega)
            have J81 : ∀ j82 : Int, 0 ≤ j82 ∧ j82 ≤ 999 → fz_R 47 mL_world 571 [(10, fz_i y76), (9, fz_i y60), (8, fz_i (fz_xor y41 0)), (7, fz_i x11), (6, fz_i j5), (4, fz_i x), (0, fz_r 0), (1, fz_r 200), (2, fz_r 53), (3, fz_r 205)] [fz_i j82] H17 (qL_world h) := by
              intro j82 hj83
              refine fz_istore (ls' := [(11, fz_i j82), (10, fz_i y76), (9, fz_i y60), (8, fz_i (fz_xor y41 0)), (7, fz_i x11), (6, fz_i j5), (4, fz_i x), (0, fz_r 0), (1, fz_r 200), (2, fz_r 53), (3, fz_r 205)]) kL_world rfl (by decide) rfl ?_
              refine fz_iload kL_world rfl rfl ?_
              refine fz_bipush ⟨by decide, by decide⟩ kL_world rfl ?_
              refine fz_ishr kL_world rfl ?_
              have b85 : -2147483648 ≤ (fz_shr (fz_xor y41 0) 19) ∧ (fz_shr (fz_xor y41 0) 19) < 2147483648 := fz_b32 _
              refine fz_iconst ⟨by decide, by decide⟩ kL_world rfl ?_
              refine fz_callS (d' := 0) (M' := mL_some) (As := [fz_i (fz_shr (fz_xor y41 0) 19), fz_i 5]) (st := []) kL_world rfl rfl vL_some rfl rfl (Nat.le_of_ble_eq_true rfl) (Nat.le_of_ble_eq_true rfl) (by decide) (sL_some H17 hI18 (fz_shr (fz_xor y41 0) 19) 5 (by omega)) (fun H87 r88 q89 o90 => ?_)
              obtain ⟨e91, y95, rfl, f92, f93, f94⟩ := q89
              subst H87
              clear o90
              refine fz_istore (ls' := [(12, fz_i y95), (11, fz_i j82), (10, fz_i y76), (9, fz_i y60), (8, fz_i (fz_xor y41 0)), (7, fz_i x11), (6, fz_i j5), (4, fz_i x), (0, fz_r 0), (1, fz_r 200), (2, fz_r 53), (3, fz_r 205)]) kL_world rfl (by decide) rfl ?_
              refine fz_iconst ⟨by decide, by decide⟩ kL_world rfl ?_
              refine fz_iload kL_world rfl rfl ?_
              refine fz_bipush ⟨by decide, by decide⟩ kL_world rfl ?_
              refine fz_ishr kL_world rfl ?_
              have b96 : -2147483648 ≤ (fz_shr (fz_xor y41 0) 22) ∧ (fz_shr (fz_xor y41 0) 22) < 2147483648 := fz_b32 _
              refine fz_bipush ⟨by decide, by decide⟩ kL_world rfl ?_
              refine fz_callS (d' := 0) (M' := mL_some) (As := [fz_i (fz_shr (fz_xor y41 0) 22), fz_i 9]) (st := [fz_i 1]) kL_world rfl rfl vL_some rfl rfl (Nat.le_of_ble_eq_true rfl) (Nat.le_of_ble_eq_true rfl) (by decide) (sL_some H17 hI18 (fz_shr (fz_xor y41 0) 22) 9 (by omega)) (fun H98 r99 q100 o101 => ?_)
              obtain ⟨e102, y106, rfl, f103, f104, f105⟩ := q100
              subst H98
              clear o101
              refine fz_iaddN kL_world rfl (by omega) ?_
              refine fz_istore (ls' := [(13, fz_i (1 + y106)), (12, fz_i y95), (11, fz_i j82), (10, fz_i y76), (9, fz_i y60), (8, fz_i (fz_xor y41 0)), (7, fz_i x11), (6, fz_i j5), (4, fz_i x), (0, fz_r 0), (1, fz_r 200), (2, fz_r 53), (3, fz_r 205)]) kL_world rfl (by decide) rfl ?_
              refine fz_aload_n kL_world rfl rfl ?_
              refine fz_bipush ⟨by decide, by decide⟩ kL_world rfl ?_
              refine fz_iload kL_world rfl rfl ?_
              refine fz_iaddN kL_world rfl (by omega) ?_
              refine fz_iload kL_world rfl rfl ?_
              refine fz_bipush ⟨by decide, by decide⟩ kL_world rfl ?_
              refine fz_iload kL_world rfl rfl ?_
              refine fz_imulN kL_world rfl (by omega) ?_
              refine fz_iaddN kL_world rfl (by omega) ?_
              refine fz_bipush ⟨by decide, by decide⟩ kL_world rfl ?_
              refine fz_iload kL_world rfl rfl ?_
              refine fz_imulN kL_world rfl (by omega) ?_
              refine fz_iaddN kL_world rfl (by omega) ?_
              refine fz_sipush ⟨by decide, by decide⟩ kL_world rfl ?_
              refine fz_iload kL_world rfl rfl ?_
              refine fz_imulN kL_world rfl (by omega) ?_
              refine fz_iaddN kL_world rfl (by omega) ?_
              refine fz_ldc (x := 1000000) kL_world rfl rfl rfl ?_
              refine fz_iload kL_world rfl rfl ?_
              refine fz_imulN kL_world rfl (by omega) ?_
              refine fz_iaddN kL_world rfl (by omega) ?_
              refine fz_iast (n := 40) kL_world rfl rfl (by omega) (by omega) ?_
              refine fz_nmu (S := [(1, 7), (1, 8), (2, 99999), (3, 99999), (4, 99999), (5, 99999), (6, 99999), (7, 99999), (8, 99999), (9, 5), (10, 99999), (11, 99999), (12, 99999), (13, 99999), (14, 99999), (15, 4), (16, 99999), (17, 99999), (20, 2), (20, 3), (20, 4), (21, 4), (22, 99999), (23, 99999), (26, 99999), (27, 8), (27, 9), (28, 99999), (35, 4), (35, 5), (36, 99999), (37, 99999), (38, 99999), (39, 99999), (53, 99999)]) (h0 := h) (fz_Iv_up hI18 (by decide) (show ((-2147483648) : Int) ≤ (((((1 + y106) + (10 * y95)) + (100 * y76)) + (1000 * j82)) + (1000000 * y60)) by omega) (show ((((((1 + y106) + (10 * y95)) + (100 * y76)) + (1000 * j82)) + (1000000 * y60)) : Int) ≤ 2147483647 by omega)) (fz_fr_up hf19 rfl) (fun H107 hI108 hf109 e110 => ?_)
              have t111 : H107 20 2 = H17 20 2 := by rw [e110]; exact fz_up_o (by decide)
              have t112 : H107 35 4 = H17 35 4 := by rw [e110]; exact fz_up_o (by decide)
              have t113 : H107 1 7 = H17 1 7 := by rw [e110]; exact fz_up_o (by decide)
              have t114 : H107 1 8 = H17 1 8 := by rw [e110]; exact fz_up_o (by decide)
              have t115 : H107 9 5 = H17 9 5 := by rw [e110]; exact fz_up_o (by decide)
              have hX116 : fz_Xc H107 := by rw [e110]; exact fz_Xc_up (by decide) (by decide) (by decide) hXq15
              have hRE117 : fz_RE H107 := fz_RE_eq (by rw [e110]; exact fz_up_ne (by decide)) (by rw [e110]; exact fz_up_ne (by decide)) (by rw [e110]; exact fz_up_o (by decide)) (by rw [e110]; exact fz_up_o (by decide)) hRE12
              have hRV118 : fz_RV H107 := fz_RV_eq (by rw [e110]; exact fz_up_ne (by decide)) (by rw [e110]; exact fz_up_ne (by decide)) (by rw [e110]; exact fz_up_ne (by decide)) (by rw [e110]; exact fz_up_ne (by decide)) (by rw [e110]; exact fz_up_ne (by decide)) (by rw [e110]; exact fz_up_ne (by decide)) (by rw [e110]; exact fz_up_o (by decide)) (by rw [e110]; exact fz_up_o (by decide)) hRV13
              have hRP2119 : fz_RP2 H107 := fz_RP2_eq (by rw [e110]; exact fz_up_ne (by decide)) (by rw [e110]; exact fz_up_o (by decide)) (by rw [e110]; exact fz_up_o (by decide)) hRP214
              have hL1120 : st_L1 H107 := st_L1_eq (by rw [e110]; exact fz_up_ne (by decide)) (by rw [e110]; exact fz_up_o (by decide)) hL116
              have t121 : H107 53 0 = H17 53 0 := by rw [e110]; exact fz_up_s (by omega)
              have t122 : H107 53 1 = H17 53 1 := by rw [e110]; exact fz_up_s (by omega)
              have t123 : H107 53 2 = H17 53 2 := by rw [e110]; exact fz_up_s (by omega)
              refine fz_aload_n kL_world rfl rfl ?_
              refine fz_iconst ⟨by decide, by decide⟩ kL_world rfl ?_
              refine fz_dup2 rfl rfl kL_world rfl ?_
              obtain ⟨v124, e125⟩ : ∃ z, H107 53 (2) = z := ⟨_, rfl⟩
              refine fz_ialdV (n := 40) (v := v124) kL_world rfl rfl (by omega) (by omega) e125 ?_
              have b126 : (-2147483648) ≤ v124 ∧ v124 ≤ 2147483647 := by rw [← e125]; exact hI108.1 53 _
              have k128 : 0 ≤ v124 ∧ v124 ≤ 12 := by omega
              refine fz_iconst ⟨by decide, by decide⟩ kL_world rfl ?_
              refine fz_iaddN kL_world rfl (by omega) ?_
              refine fz_iast (n := 40) kL_world rfl rfl (by omega) (by omega) ?_
              refine fz_nmu (S := [(1, 7), (1, 8), (2, 99999), (3, 99999), (4, 99999), (5, 99999), (6, 99999), (7, 99999), (8, 99999), (9, 5), (10, 99999), (11, 99999), (12, 99999), (13, 99999), (14, 99999), (15, 4), (16, 99999), (17, 99999), (20, 2), (20, 3), (20, 4), (21, 4), (22, 99999), (23, 99999), (26, 99999), (27, 8), (27, 9), (28, 99999), (35, 4), (35, 5), (36, 99999), (37, 99999), (38, 99999), (39, 99999), (53, 99999)]) (h0 := h) (fz_Iv_up hI108 (by decide) (show ((-2147483648) : Int) ≤ (v124 + 1) by omega) (show ((v124 + 1) : Int) ≤ 2147483647 by omega)) (fz_fr_up hf109 rfl) (fun H129 hI130 hf131 e132 => ?_)
              have t133 : H129 20 2 = H107 20 2 := by rw [e132]; exact fz_up_o (by decide)
              have t134 : H129 35 4 = H107 35 4 := by rw [e132]; exact fz_up_o (by decide)
              have t135 : H129 1 7 = H107 1 7 := by rw [e132]; exact fz_up_o (by decide)
              have t136 : H129 1 8 = H107 1 8 := by rw [e132]; exact fz_up_o (by decide)
              have t137 : H129 9 5 = H107 9 5 := by rw [e132]; exact fz_up_o (by decide)
              have hX138 : fz_Xc H129 := by rw [e132]; exact fz_Xc_up (by decide) (by decide) (by decide) hX116
              have hRE139 : fz_RE H129 := fz_RE_eq (by rw [e132]; exact fz_up_ne (by decide)) (by rw [e132]; exact fz_up_ne (by decide)) (by rw [e132]; exact fz_up_o (by decide)) (by rw [e132]; exact fz_up_o (by decide)) hRE117
              have hRV140 : fz_RV H129 := fz_RV_eq (by rw [e132]; exact fz_up_ne (by decide)) (by rw [e132]; exact fz_up_ne (by decide)) (by rw [e132]; exact fz_up_ne (by decide)) (by rw [e132]; exact fz_up_ne (by decide)) (by rw [e132]; exact fz_up_ne (by decide)) (by rw [e132]; exact fz_up_ne (by decide)) (by rw [e132]; exact fz_up_o (by decide)) (by rw [e132]; exact fz_up_o (by decide)) hRV118
              have hRP2141 : fz_RP2 H129 := fz_RP2_eq (by rw [e132]; exact fz_up_ne (by decide)) (by rw [e132]; exact fz_up_o (by decide)) (by rw [e132]; exact fz_up_o (by decide)) hRP2119
              have hL1142 : st_L1 H129 := st_L1_eq (by rw [e132]; exact fz_up_ne (by decide)) (by rw [e132]; exact fz_up_o (by decide)) hL1120
              have t143 : H129 53 0 = H107 53 0 := by rw [e132]; exact fz_up_s (by decide)
              have t144 : H129 53 1 = H107 53 1 := by rw [e132]; exact fz_up_s (by decide)
              have t145 : H129 53 2 = (v124 + 1) := by rw [e132]; exact fz_up_e
              refine fz_aload_n kL_world rfl rfl ?_
              refine fz_bipush ⟨by decide, by decide⟩ kL_world rfl ?_
              refine fz_iload kL_world rfl rfl ?_
              refine fz_imulN kL_world rfl (by omega) ?_
              refine fz_iload kL_world rfl rfl ?_
              refine fz_iaddN kL_world rfl (by omega) ?_
              refine fz_sipush ⟨by decide, by decide⟩ kL_world rfl ?_
              refine fz_iload kL_world rfl rfl ?_
              refine fz_imulN kL_world rfl (by omega) ?_
              refine fz_iload kL_world rfl rfl ?_
              refine fz_iaddN kL_world rfl (by omega) ?_
              refine fz_iload kL_world rfl rfl ?_
              have b146 : 0 ≤ H129 1 7 ∧ H129 1 7 ≤ 8 := hI130.1 1 _
              have b147 : 0 ≤ H129 9 5 ∧ H129 9 5 ≤ 10 := hI130.1 9 _
              refine fz_callV (d' := 2) (M' := mX10_deed) (As := [fz_i ((10 * y60) + y95), fz_i ((1000 * y76) + j82), fz_i (1 + y106)]) (st := []) kL_world rfl rfl vX10_deed rfl rfl rfl rfl (Nat.le_of_ble_eq_true rfl) (Nat.le_of_ble_eq_true rfl) (by decide) (sX10_deed H129 hI130 ((10 * y60) + y95) ((1000 * y76) + j82) (1 + y106) ) (fun H148 r149 q150 o151 => ?_)
              obtain ⟨hI152, hf153, y158, rfl, f154, f155, f156, f157⟩ := q150
              clear o151
              have hf159 := fz_fr_tr hf131 hf153 (show fz_su [(9, 5), (10, 99999), (11, 99999), (12, 99999), (13, 99999), (14, 99999)] [(1, 7), (1, 8), (2, 99999), (3, 99999), (4, 99999), (5, 99999), (6, 99999), (7, 99999), (8, 99999), (9, 5), (10, 99999), (11, 99999), (12, 99999), (13, 99999), (14, 99999), (15, 4), (16, 99999), (17, 99999), (20, 2), (20, 3), (20, 4), (21, 4), (22, 99999), (23, 99999), (26, 99999), (27, 8), (27, 9), (28, 99999), (35, 4), (35, 5), (36, 99999), (37, 99999), (38, 99999), (39, 99999), (53, 99999)] = true from rfl)
              have hRE160 : fz_RE H148 := fz_RE_eq (funext fun s => hf153 5 s rfl) (funext fun s => hf153 6 s rfl) (hf153 1 8 rfl) (hf153 1 7 rfl) hRE139
              have hRV161 : fz_RV H148 := fz_RV_eq (funext fun s => hf153 7 s rfl) (funext fun s => hf153 8 s rfl) (funext fun s => hf153 3 s rfl) (funext fun s => hf153 4 s rfl) (funext fun s => hf153 5 s rfl) (funext fun s => hf153 6 s rfl) (hf153 1 7 rfl) (hf153 1 8 rfl) hRV140
              have hL1162 : st_L1 H148 := st_L1_eq (funext fun s => hf153 3 s rfl) (hf153 1 8 rfl) hL1142
              have hX163 : fz_Xc H148 := fz_Xc_fr hf153 rfl hX138
              have t164 : H148 53 0 = H129 53 0 := hf153 53 0 rfl
              have t165 : H148 53 1 = H129 53 1 := hf153 53 1 rfl
              have t166 : H148 53 2 = H129 53 2 := hf153 53 2 rfl
              have t167 : H148 20 2 = H129 20 2 := hf153 20 2 rfl
              have t168 : H148 35 4 = H129 35 4 := hf153 35 4 rfl
              have t169 : H148 1 7 = H129 1 7 := hf153 1 7 rfl
              have t170 : H148 1 8 = H129 1 8 := hf153 1 8 rfl
              have hRP2171 : fz_RP2 H148 := fz_RP2_ap hRP2141 f156 rfl (by omega) (by omega) (by omega) (fun _ _ _ => by dsimp only; omega)
              refine fz_pop rfl kL_world rfl ?_
              refine fz_iincN (ls' := [(7, fz_i (x11 + 1)), (13, fz_i (1 + y106)), (12, fz_i y95), (11, fz_i j82), (10, fz_i y76), (9, fz_i y60), (8, fz_i (fz_xor y41 0)), (6, fz_i j5), (4, fz_i x), (0, fz_r 0), (1, fz_r 200), (2, fz_r 53), (3, fz_r 205)]) kL_world rfl (by decide) rfl (by omega) rfl ?_
              refine fz_goto (tgt := 473) kL_world rfl (by decide) ?_
              refine fz_sub (fz_pk_sub (ls' := [(7, fz_i (x11 + 1)), (6, fz_i j5), (4, fz_i x), (0, fz_r 0), (1, fz_r 200), (2, fz_r 53), (3, fz_r 205)]) [0, 7, 8, 9, 10, 11, 12] rfl) ?_
              exact ih22 (x11 + 1) H148 hI152 hf159 hRE160 hRV161 hRP2171 hX163 hL1162 (by omega) (by omega) (by omega) (by omega) (by omega) (by omega) (by omega) (by omega) (by omega) (by omega)
            refine fz_if_ne (tgt := 560) kL_world rfl (by decide) (fun c173 => ?_) (fun c173 => ?_)
            · refine fz_iload kL_world rfl rfl ?_
              refine fz_bipush ⟨by decide, by decide⟩ kL_world rfl ?_
              refine fz_ishr kL_world rfl ?_
              have b174 : -2147483648 ≤ (fz_shr (fz_xor y41 0) 9) ∧ (fz_shr (fz_xor y41 0) 9) < 2147483648 := fz_b32 _
              refine fz_sipush ⟨by decide, by decide⟩ kL_world rfl ?_
              refine fz_callS (d' := 0) (M' := mL_some) (As := [fz_i (fz_shr (fz_xor y41 0) 9), fz_i 1000]) (st := []) kL_world rfl rfl vL_some rfl rfl (Nat.le_of_ble_eq_true rfl) (Nat.le_of_ble_eq_true rfl) (by decide) (sL_some H17 hI18 (fz_shr (fz_xor y41 0) 9) 1000 (by omega)) (fun H176 r177 q178 o179 => ?_)
              obtain ⟨e180, y184, rfl, f181, f182, f183⟩ := q178
              subst H176
              clear o179
              exact J81 y184 (by omega)
            · refine fz_iload kL_world rfl rfl ?_
              refine fz_bipush ⟨by decide, by decide⟩ kL_world rfl ?_
              refine fz_ishr kL_world rfl ?_
              have b185 : -2147483648 ≤ (fz_shr (fz_xor y41 0) 9) ∧ (fz_shr (fz_xor y41 0) 9) < 2147483648 := fz_b32 _
              refine fz_bipush ⟨by decide, by decide⟩ kL_world rfl ?_
              refine fz_callS (d' := 0) (M' := mL_some) (As := [fz_i (fz_shr (fz_xor y41 0) 9), fz_i 60]) (st := []) kL_world rfl rfl vL_some rfl rfl (Nat.le_of_ble_eq_true rfl) (Nat.le_of_ble_eq_true rfl) (by decide) (sL_some H17 hI18 (fz_shr (fz_xor y41 0) 9) 60 (by omega)) (fun H187 r188 q189 o190 => ?_)
              obtain ⟨e191, y195, rfl, f192, f193, f194⟩ := q189
              subst H187
              clear o190
              refine fz_goto (tgt := 571) kL_world rfl (by decide) ?_
              exact J81 y195 (by omega)
          refine fz_if_ne (tgt := 519) kL_world rfl (by decide) (fun c196 => ?_) (fun c196 => ?_)
          · refine fz_iconst ⟨by decide, by decide⟩ kL_world rfl ?_
            exact J48 4 (by omega)
          · refine fz_iconst ⟨by decide, by decide⟩ kL_world rfl ?_
            refine fz_goto (tgt := 520) kL_world rfl (by decide) ?_
            exact J48 2 (by omega)
    exact lp21 _ 0 H hI hf hRE hRV hRP29 hX hL1 (by omega) (by omega) (by omega) (by omega) (by omega) (by omega) (by omega) (by omega) (by omega) (Nat.lt_succ_self _)
  refine fz_if_ne (tgt := 458) kL_world rfl (by decide) (fun c197 => ?_) (fun c197 => ?_)
  · refine fz_iload kL_world rfl rfl ?_
    refine fz_bipush ⟨by decide, by decide⟩ kL_world rfl ?_
    refine fz_ishr kL_world rfl ?_
    have b198 : -2147483648 ≤ (fz_shr x 9) ∧ (fz_shr x 9) < 2147483648 := fz_b32 _
    refine fz_bipush ⟨by decide, by decide⟩ kL_world rfl ?_
    refine fz_callS (d' := 0) (M' := mL_some) (As := [fz_i (fz_shr x 9), fz_i 9]) (st := []) kL_world rfl rfl vL_some rfl rfl (Nat.le_of_ble_eq_true rfl) (Nat.le_of_ble_eq_true rfl) (by decide) (sL_some H hI (fz_shr x 9) 9 (by omega)) (fun H200 r201 q202 o203 => ?_)
    obtain ⟨e204, y208, rfl, f205, f206, f207⟩ := q202
    subst H200
    clear o203
    exact J4 y208 (by omega) (by omega)
  · refine fz_iconst ⟨by decide, by decide⟩ kL_world rfl ?_
    refine fz_goto (tgt := 468) kL_world rfl (by decide) ?_
    exact J4 0 (by omega) (by omega)

set_option maxHeartbeats 1000000 in
set_option maxRecDepth 100000 in
theorem sL_w382 (h H : fz_H) (x b0 on ot hr ca r n v : Int) (hI : fz_Iv H) (hf : fz_fr [(1, 7), (1, 8), (2, 99999), (3, 99999), (4, 99999), (5, 99999), (6, 99999), (7, 99999), (8, 99999), (9, 5), (10, 99999), (11, 99999), (12, 99999), (13, 99999), (14, 99999), (15, 4), (16, 99999), (17, 99999), (20, 2), (20, 3), (20, 4), (21, 4), (22, 99999), (23, 99999), (26, 99999), (27, 8), (27, 9), (28, 99999), (35, 4), (35, 5), (36, 99999), (37, 99999), (38, 99999), (39, 99999), (53, 99999)] h H) (hX : fz_Xc H) (hRE : fz_RE H) (hRV : fz_RV H) (hL1 : st_L1 H) (hp0 : 0 ≤ h 200 100000 ∧ h 200 100000 ≤ 3072) (hp1 : 0 ≤ h 205 100000 ∧ h 205 100000 ≤ 120) (hp2 : h 1 7 = 0 ∧ h 1 8 = 0 ∧ h 9 5 = 0 ∧ h 20 2 = 0 ∧ h 35 4 = 0) (hp3 : h 53 1 = 0 ∧ h 53 2 = 0) (hq0 : 0 ≤ b0 ∧ b0 ≤ 8) (hq1 : 0 ≤ ca ∧ ca ≤ 1) (hq2 : 1 ≤ hr ∧ hr ≤ 24) (hq3 : 0 ≤ on ∧ on < b0) (hq4 : 0 ≤ ot ∧ ot < b0) (hq5 : ot ≠ on) (hq6 : 0 ≤ r ∧ r < n) (hq7 : n ≤ 12) (hq8 : H 53 0 = b0) (hq9 : H 53 1 = H 1 8) (hq10 : H 53 2 = H 9 5) (hq11 : H 20 2 = 0) (hq12 : H 1 7 = b0) (hq13 : H 1 8 = r) (hq14 : H 9 5 = 0) (hq15 : 0 ≤ H 35 4 ∧ H 35 4 ≤ 7 + r) (k : ∀ (G : fz_H), fz_Iv G → fz_fr [(1, 7), (1, 8), (2, 99999), (3, 99999), (4, 99999), (5, 99999), (6, 99999), (7, 99999), (8, 99999), (9, 5), (10, 99999), (11, 99999), (12, 99999), (13, 99999), (14, 99999), (15, 4), (16, 99999), (17, 99999), (20, 2), (20, 3), (20, 4), (21, 4), (22, 99999), (23, 99999), (26, 99999), (27, 8), (27, 9), (28, 99999), (35, 4), (35, 5), (36, 99999), (37, 99999), (38, 99999), (39, 99999), (53, 99999)] h G → fz_Xc G → fz_RE G → fz_RV G → st_L1 G → (G 53 0 = b0) → (G 53 1 = G 1 8) → (G 53 2 = G 9 5) → (G 20 2 = 0) → (G 1 7 = b0) → (G 1 8 = r + 1) → (G 9 5 = 0) → (0 ≤ G 35 4 ∧ G 35 4 ≤ 8 + r) → fz_R 47 mL_world 442 [(6, fz_i r), (5, fz_i n), (4, fz_i x), (0, fz_r 0), (1, fz_r 200), (2, fz_r 53), (3, fz_r 205)] [] G (qL_world h)) : fz_R 47 mL_world 382 [(11, fz_i ca), (10, fz_i hr), (9, fz_i ot), (8, fz_i on), (7, fz_i v), (6, fz_i r), (5, fz_i n), (4, fz_i x), (0, fz_r 0), (1, fz_r 200), (2, fz_r 53), (3, fz_r 205)] [] H (qL_world h) := by
  refine fz_aload_n kL_world rfl rfl ?_
  refine fz_bipush ⟨by decide, by decide⟩ kL_world rfl ?_
  refine fz_iload kL_world rfl rfl ?_
  refine fz_iaddN kL_world rfl (by omega) ?_
  refine fz_iload kL_world rfl rfl ?_
  refine fz_bipush ⟨by decide, by decide⟩ kL_world rfl ?_
  refine fz_iload kL_world rfl rfl ?_
  refine fz_imulN kL_world rfl (by omega) ?_
  refine fz_iaddN kL_world rfl (by omega) ?_
  refine fz_bipush ⟨by decide, by decide⟩ kL_world rfl ?_
  refine fz_iload kL_world rfl rfl ?_
  refine fz_imulN kL_world rfl (by omega) ?_
  refine fz_iaddN kL_world rfl (by omega) ?_
  refine fz_sipush ⟨by decide, by decide⟩ kL_world rfl ?_
  refine fz_iload kL_world rfl rfl ?_
  refine fz_imulN kL_world rfl (by omega) ?_
  refine fz_iaddN kL_world rfl (by omega) ?_
  refine fz_iast (n := 40) kL_world rfl rfl (by omega) (by omega) ?_
  refine fz_nmu (S := [(1, 7), (1, 8), (2, 99999), (3, 99999), (4, 99999), (5, 99999), (6, 99999), (7, 99999), (8, 99999), (9, 5), (10, 99999), (11, 99999), (12, 99999), (13, 99999), (14, 99999), (15, 4), (16, 99999), (17, 99999), (20, 2), (20, 3), (20, 4), (21, 4), (22, 99999), (23, 99999), (26, 99999), (27, 8), (27, 9), (28, 99999), (35, 4), (35, 5), (36, 99999), (37, 99999), (38, 99999), (39, 99999), (53, 99999)]) (h0 := h) (fz_Iv_up hI (by decide) (show ((-2147483648) : Int) ≤ (((on + (10 * ot)) + (100 * hr)) + (10000 * ca)) by omega) (show ((((on + (10 * ot)) + (100 * hr)) + (10000 * ca)) : Int) ≤ 2147483647 by omega)) (fz_fr_up hf rfl) (fun H1 hI2 hf3 e4 => ?_)
  have t5 : H1 20 2 = H 20 2 := by rw [e4]; exact fz_up_o (by decide)
  have t6 : H1 35 4 = H 35 4 := by rw [e4]; exact fz_up_o (by decide)
  have t7 : H1 1 7 = H 1 7 := by rw [e4]; exact fz_up_o (by decide)
  have t8 : H1 1 8 = H 1 8 := by rw [e4]; exact fz_up_o (by decide)
  have t9 : H1 9 5 = H 9 5 := by rw [e4]; exact fz_up_o (by decide)
  have hX10 : fz_Xc H1 := by rw [e4]; exact fz_Xc_up (by decide) (by decide) (by decide) hX
  have hRE11 : fz_RE H1 := fz_RE_eq (by rw [e4]; exact fz_up_ne (by decide)) (by rw [e4]; exact fz_up_ne (by decide)) (by rw [e4]; exact fz_up_o (by decide)) (by rw [e4]; exact fz_up_o (by decide)) hRE
  have hRV12 : fz_RV H1 := fz_RV_eq (by rw [e4]; exact fz_up_ne (by decide)) (by rw [e4]; exact fz_up_ne (by decide)) (by rw [e4]; exact fz_up_ne (by decide)) (by rw [e4]; exact fz_up_ne (by decide)) (by rw [e4]; exact fz_up_ne (by decide)) (by rw [e4]; exact fz_up_ne (by decide)) (by rw [e4]; exact fz_up_o (by decide)) (by rw [e4]; exact fz_up_o (by decide)) hRV
  have hL113 : st_L1 H1 := st_L1_eq (by rw [e4]; exact fz_up_ne (by decide)) (by rw [e4]; exact fz_up_o (by decide)) hL1
  have t14 : H1 53 0 = H 53 0 := by rw [e4]; exact fz_up_s (by omega)
  have t15 : H1 53 1 = H 53 1 := by rw [e4]; exact fz_up_s (by omega)
  have t16 : H1 53 2 = H 53 2 := by rw [e4]; exact fz_up_s (by omega)
  refine fz_aload_n kL_world rfl rfl ?_
  refine fz_iconst ⟨by decide, by decide⟩ kL_world rfl ?_
  refine fz_dup2 rfl rfl kL_world rfl ?_
  obtain ⟨v17, e18⟩ : ∃ z, H1 53 (1) = z := ⟨_, rfl⟩
  refine fz_ialdV (n := 40) (v := v17) kL_world rfl rfl (by omega) (by omega) e18 ?_
  have b19 : (-2147483648) ≤ v17 ∧ v17 ≤ 2147483647 := by rw [← e18]; exact hI2.1 53 _
  have k21 : 0 ≤ v17 ∧ v17 ≤ 12 := by omega
  refine fz_iconst ⟨by decide, by decide⟩ kL_world rfl ?_
  refine fz_iaddN kL_world rfl (by omega) ?_
  refine fz_iast (n := 40) kL_world rfl rfl (by omega) (by omega) ?_
  refine fz_nmu (S := [(1, 7), (1, 8), (2, 99999), (3, 99999), (4, 99999), (5, 99999), (6, 99999), (7, 99999), (8, 99999), (9, 5), (10, 99999), (11, 99999), (12, 99999), (13, 99999), (14, 99999), (15, 4), (16, 99999), (17, 99999), (20, 2), (20, 3), (20, 4), (21, 4), (22, 99999), (23, 99999), (26, 99999), (27, 8), (27, 9), (28, 99999), (35, 4), (35, 5), (36, 99999), (37, 99999), (38, 99999), (39, 99999), (53, 99999)]) (h0 := h) (fz_Iv_up hI2 (by decide) (show ((-2147483648) : Int) ≤ (v17 + 1) by omega) (show ((v17 + 1) : Int) ≤ 2147483647 by omega)) (fz_fr_up hf3 rfl) (fun H22 hI23 hf24 e25 => ?_)
  have t26 : H22 20 2 = H1 20 2 := by rw [e25]; exact fz_up_o (by decide)
  have t27 : H22 35 4 = H1 35 4 := by rw [e25]; exact fz_up_o (by decide)
  have t28 : H22 1 7 = H1 1 7 := by rw [e25]; exact fz_up_o (by decide)
  have t29 : H22 1 8 = H1 1 8 := by rw [e25]; exact fz_up_o (by decide)
  have t30 : H22 9 5 = H1 9 5 := by rw [e25]; exact fz_up_o (by decide)
  have hX31 : fz_Xc H22 := by rw [e25]; exact fz_Xc_up (by decide) (by decide) (by decide) hX10
  have hRE32 : fz_RE H22 := fz_RE_eq (by rw [e25]; exact fz_up_ne (by decide)) (by rw [e25]; exact fz_up_ne (by decide)) (by rw [e25]; exact fz_up_o (by decide)) (by rw [e25]; exact fz_up_o (by decide)) hRE11
  have hRV33 : fz_RV H22 := fz_RV_eq (by rw [e25]; exact fz_up_ne (by decide)) (by rw [e25]; exact fz_up_ne (by decide)) (by rw [e25]; exact fz_up_ne (by decide)) (by rw [e25]; exact fz_up_ne (by decide)) (by rw [e25]; exact fz_up_ne (by decide)) (by rw [e25]; exact fz_up_ne (by decide)) (by rw [e25]; exact fz_up_o (by decide)) (by rw [e25]; exact fz_up_o (by decide)) hRV12
  have hL134 : st_L1 H22 := st_L1_eq (by rw [e25]; exact fz_up_ne (by decide)) (by rw [e25]; exact fz_up_o (by decide)) hL113
  have t35 : H22 53 0 = H1 53 0 := by rw [e25]; exact fz_up_s (by decide)
  have t36 : H22 53 1 = (v17 + 1) := by rw [e25]; exact fz_up_e
  have t37 : H22 53 2 = H1 53 2 := by rw [e25]; exact fz_up_s (by decide)
  refine fz_aload_n kL_world rfl rfl ?_
  refine fz_bipush ⟨by decide, by decide⟩ kL_world rfl ?_
  refine fz_iload kL_world rfl rfl ?_
  refine fz_imulN kL_world rfl (by omega) ?_
  refine fz_iload kL_world rfl rfl ?_
  refine fz_iaddN kL_world rfl (by omega) ?_
  refine fz_iload kL_world rfl rfl ?_
  have b38 : 0 ≤ H22 1 7 ∧ H22 1 7 ≤ 8 := hI23.1 1 _
  have b39 : 0 ≤ H22 1 8 ∧ H22 1 8 ≤ 12 := hI23.1 1 _
  refine fz_callV (d' := 4) (M' := mX10_road) (As := [fz_i ((10 * on) + ot), fz_i hr]) (st := []) kL_world rfl rfl vX10_road rfl rfl rfl rfl (Nat.le_of_ble_eq_true rfl) (Nat.le_of_ble_eq_true rfl) (by decide) (sX10_road H22 hI23 ((10 * on) + ot) hr hRE32 hRV33) (fun H40 r41 q42 o43 => ?_)
  obtain ⟨hI44, hf45, hRE46, hRV47, y51, rfl, f48, f49, f50⟩ := q42
  clear o43
  have hf52 := fz_fr_tr hf24 hf45 (show fz_su [(1, 8), (3, 99999), (4, 99999), (5, 99999), (6, 99999), (7, 99999), (8, 99999)] [(1, 7), (1, 8), (2, 99999), (3, 99999), (4, 99999), (5, 99999), (6, 99999), (7, 99999), (8, 99999), (9, 5), (10, 99999), (11, 99999), (12, 99999), (13, 99999), (14, 99999), (15, 4), (16, 99999), (17, 99999), (20, 2), (20, 3), (20, 4), (21, 4), (22, 99999), (23, 99999), (26, 99999), (27, 8), (27, 9), (28, 99999), (35, 4), (35, 5), (36, 99999), (37, 99999), (38, 99999), (39, 99999), (53, 99999)] = true from rfl)
  have hX53 : fz_Xc H40 := fz_Xc_fr hf45 rfl hX31
  have t54 : H40 53 0 = H22 53 0 := hf45 53 0 rfl
  have t55 : H40 53 1 = H22 53 1 := hf45 53 1 rfl
  have t56 : H40 53 2 = H22 53 2 := hf45 53 2 rfl
  have t57 : H40 20 2 = H22 20 2 := hf45 20 2 rfl
  have t58 : H40 35 4 = H22 35 4 := hf45 35 4 rfl
  have t59 : H40 1 7 = H22 1 7 := hf45 1 7 rfl
  have t60 : H40 9 5 = H22 9 5 := hf45 9 5 rfl
  have hL161 : st_L1 H40 := st_L1_ro f50 (by omega) (by omega) hL134
  refine fz_pop rfl kL_world rfl ?_
  refine fz_aload_n kL_world rfl rfl ?_
  refine fz_iload kL_world rfl rfl ?_
  refine fz_iconst ⟨by decide, by decide⟩ kL_world rfl ?_
  refine fz_iload kL_world rfl rfl ?_
  refine fz_callV (d' := 4) (M' := mX10_mend) (As := [fz_i r, fz_i 2, fz_i ca]) (st := []) kL_world rfl rfl vX10_mend rfl rfl rfl rfl (Nat.le_of_ble_eq_true rfl) (Nat.le_of_ble_eq_true rfl) (by decide) (sX10_mend H40 hI44 r 2 ca (hX53) hRE46 hRV47) (fun H63 r64 q65 o66 => ?_)
  obtain ⟨hI67, hf68, hX69, hRE70, hRV71, y74, rfl, f72, f73⟩ := q65
  clear o66
  have hf75 := fz_fr_tr hf52 hf68 (show fz_su [(2, 99999), (3, 99999), (4, 99999), (7, 99999), (8, 99999), (12, 99999), (13, 99999), (14, 99999), (27, 8), (27, 9), (28, 99999), (35, 4), (35, 5), (36, 99999), (37, 99999), (38, 99999), (39, 99999)] [(1, 7), (1, 8), (2, 99999), (3, 99999), (4, 99999), (5, 99999), (6, 99999), (7, 99999), (8, 99999), (9, 5), (10, 99999), (11, 99999), (12, 99999), (13, 99999), (14, 99999), (15, 4), (16, 99999), (17, 99999), (20, 2), (20, 3), (20, 4), (21, 4), (22, 99999), (23, 99999), (26, 99999), (27, 8), (27, 9), (28, 99999), (35, 4), (35, 5), (36, 99999), (37, 99999), (38, 99999), (39, 99999), (53, 99999)] = true from rfl)
  have t76 : H63 53 0 = H40 53 0 := hf68 53 0 rfl
  have t77 : H63 53 1 = H40 53 1 := hf68 53 1 rfl
  have t78 : H63 53 2 = H40 53 2 := hf68 53 2 rfl
  have t79 : H63 20 2 = H40 20 2 := hf68 20 2 rfl
  have t80 : H63 1 7 = H40 1 7 := hf68 1 7 rfl
  have t81 : H63 1 8 = H40 1 8 := hf68 1 8 rfl
  have t82 : H63 9 5 = H40 9 5 := hf68 9 5 rfl
  have k83 := st_mC_d f73 hI67
  have hL184 : st_L1 H63 := st_L1_mC f73 (by decide) (hf68 1 8 rfl) hL161
  refine fz_pop rfl kL_world rfl ?_
  refine fz_sub (fz_pk_sub (ls' := [(6, fz_i r), (5, fz_i n), (4, fz_i x), (0, fz_r 0), (1, fz_r 200), (2, fz_r 53), (3, fz_r 205)]) [5, 6, 7, 8, 9, 10, 11] rfl) ?_
  exact k H63 hI67 hf75 hX69 hRE70 hRV71 hL184  (by omega) (by omega) (by omega) (by omega) (by omega) (by omega) (by omega) (by omega)

set_option maxHeartbeats 1000000 in
set_option maxRecDepth 100000 in
theorem sL_w261 (h H : fz_H) (x b0 : Int) (hI : fz_Iv H) (hf : fz_fr [(1, 7), (1, 8), (2, 99999), (3, 99999), (4, 99999), (5, 99999), (6, 99999), (7, 99999), (8, 99999), (9, 5), (10, 99999), (11, 99999), (12, 99999), (13, 99999), (14, 99999), (15, 4), (16, 99999), (17, 99999), (20, 2), (20, 3), (20, 4), (21, 4), (22, 99999), (23, 99999), (26, 99999), (27, 8), (27, 9), (28, 99999), (35, 4), (35, 5), (36, 99999), (37, 99999), (38, 99999), (39, 99999), (53, 99999)] h H) (hX : fz_Xc H) (hRE : fz_RE H) (hRV : fz_RV H) (hL1 : st_L1 H) (hp0 : 0 ≤ h 200 100000 ∧ h 200 100000 ≤ 3072) (hp1 : 0 ≤ h 205 100000 ∧ h 205 100000 ≤ 120) (hp2 : h 1 7 = 0 ∧ h 1 8 = 0 ∧ h 9 5 = 0 ∧ h 20 2 = 0 ∧ h 35 4 = 0) (hp3 : h 53 1 = 0 ∧ h 53 2 = 0) (hq0 : -2147483648 ≤ x ∧ x < 2147483648) (hq1 : 0 ≤ b0 ∧ b0 ≤ 8) (hq2 : H 53 0 = b0) (hq3 : H 53 1 = H 1 8) (hq4 : H 53 2 = H 9 5) (hq5 : H 20 2 = 0) (hq6 : H 1 7 = b0) (hq7 : H 1 8 = 0) (hq8 : H 9 5 = 0) (hq9 : 0 ≤ H 35 4 ∧ H 35 4 ≤ 7) : fz_R 47 mL_world 261 [(4, fz_i x), (0, fz_r 0), (1, fz_r 200), (2, fz_r 53), (3, fz_r 205)] [] H (qL_world h) := by
  refine fz_aload_n kL_world rfl rfl ?_
  refine fz_iconst ⟨by decide, by decide⟩ kL_world rfl ?_
  obtain ⟨v1, e2⟩ : ∃ z, H 53 (0) = z := ⟨_, rfl⟩
  refine fz_ialdV (n := 40) (v := v1) kL_world rfl rfl (by omega) (by omega) e2 ?_
  have b3 : (-2147483648) ≤ v1 ∧ v1 ≤ 2147483647 := by rw [← e2]; exact hI.1 53 _
  refine fz_iconst ⟨by decide, by decide⟩ kL_world rfl ?_
  have J4 : ∀ j5 : Int, 0 ≤ j5 ∧ j5 ≤ 12 → (j5 = 0 ∨ 2 ≤ b0) → fz_R 47 mL_world 294 [(4, fz_i x), (0, fz_r 0), (1, fz_r 200), (2, fz_r 53), (3, fz_r 205)] [fz_i j5] H (qL_world h) := by
    intro j5 hj6 hj8
    refine fz_istore (ls' := [(5, fz_i j5), (4, fz_i x), (0, fz_r 0), (1, fz_r 200), (2, fz_r 53), (3, fz_r 205)]) kL_world rfl (by decide) rfl ?_
    refine fz_iconst ⟨by decide, by decide⟩ kL_world rfl ?_
    refine fz_istore (ls' := [(6, fz_i 0), (5, fz_i j5), (4, fz_i x), (0, fz_r 0), (1, fz_r 200), (2, fz_r 53), (3, fz_r 205)]) kL_world rfl (by decide) rfl ?_
    have lp18 : ∀ (n17 : Nat) (x9 : Int) (H14 : fz_H), fz_Iv H14 → fz_fr [(1, 7), (1, 8), (2, 99999), (3, 99999), (4, 99999), (5, 99999), (6, 99999), (7, 99999), (8, 99999), (9, 5), (10, 99999), (11, 99999), (12, 99999), (13, 99999), (14, 99999), (15, 4), (16, 99999), (17, 99999), (20, 2), (20, 3), (20, 4), (21, 4), (22, 99999), (23, 99999), (26, 99999), (27, 8), (27, 9), (28, 99999), (35, 4), (35, 5), (36, 99999), (37, 99999), (38, 99999), (39, 99999), (53, 99999)] h H14 → fz_RE H14 → fz_RV H14 → fz_Xc H14 → st_L1 H14 → (0 ≤ x9 ∧ x9 ≤ 12) → (H14 53 0 = b0) → (H14 53 1 = H14 1 8) → (H14 53 2 = H14 9 5) → (H14 20 2 = 0) → (H14 1 7 = b0) → (H14 1 8 = x9) → (x9 ≤ j5) → (H14 9 5 = 0) → (0 ≤ H14 35 4 ∧ H14 35 4 ≤ 7 + x9) → (j5 - x9).toNat < n17 → fz_R 47 mL_world 299 [(6, fz_i x9), (5, fz_i j5), (4, fz_i x), (0, fz_r 0), (1, fz_r 200), (2, fz_r 53), (3, fz_r 205)] [] H14 (qL_world h) := by
      intro n17
      induction n17 with
      | zero => intro x9 H14 hI15 hf16 hRE10 hRV11 hXq12 hL113 hv21 hv22 hv23 hv24 hv25 hv26 hv27 hv28 hv29 hv30 hm20; exact absurd hm20 (by omega)
      | succ n17 ih19 =>
        intro x9 H14 hI15 hf16 hRE10 hRV11 hXq12 hL113 hv21 hv22 hv23 hv24 hv25 hv26 hv27 hv28 hv29 hv30 hm20
        refine fz_iload kL_world rfl rfl ?_
        refine fz_iload kL_world rfl rfl ?_
        refine fz_icmp_ge (tgt := 448) kL_world rfl (by decide) (fun c31 => ?_) (fun c31 => ?_)
        · refine fz_sub (fz_pk_sub (ls' := [(4, fz_i x), (0, fz_r 0), (1, fz_r 200), (2, fz_r 53), (3, fz_r 205)]) [2, 3, 4, 5, 6] rfl) ?_
          exact sL_w448 h H14 x b0 hI15 hf16 hXq12 hRE10 hRV11 hL113 hp0 hp1 hp2 hp3 (by omega) (by omega) (by omega) (by omega) (by omega) (by omega) (by omega) (by omega) (by omega)
        · refine fz_aload_n kL_world rfl rfl ?_
          refine fz_iconst ⟨by decide, by decide⟩ kL_world rfl ?_
          refine fz_iload kL_world rfl rfl ?_
          refine fz_iaddN kL_world rfl (by omega) ?_
          have e32 : H14 200 100000 = h 200 100000 := hf16 200 100000 rfl
          refine fz_callS (d' := 0) (M' := mL_at) (As := [fz_r 200, fz_i (2 + x9)]) (st := []) kL_world rfl rfl vL_at rfl rfl (Nat.le_of_ble_eq_true rfl) (Nat.le_of_ble_eq_true rfl) (by decide) (sL_at H14 hI15 (2 + x9) (by omega) (by omega)) (fun H33 r34 q35 o36 => ?_)
          obtain ⟨e37, y39, rfl, f38⟩ := q35
          subst H33
          clear o36
          refine fz_istore (ls' := [(7, fz_i y39), (6, fz_i x9), (5, fz_i j5), (4, fz_i x), (0, fz_r 0), (1, fz_r 200), (2, fz_r 53), (3, fz_r 205)]) kL_world rfl (by decide) rfl ?_
          refine fz_iload kL_world rfl rfl ?_
          refine fz_aload_n kL_world rfl rfl ?_
          refine fz_iconst ⟨by decide, by decide⟩ kL_world rfl ?_
          obtain ⟨v40, e41⟩ : ∃ z, H14 53 (0) = z := ⟨_, rfl⟩
          refine fz_ialdV (n := 40) (v := v40) kL_world rfl rfl (by omega) (by omega) e41 ?_
          have b42 : (-2147483648) ≤ v40 ∧ v40 ≤ 2147483647 := by rw [← e41]; exact hI15.1 53 _
          have k44 : 1 ≤ v40 ∧ v40 ≤ 8 := by omega
          refine fz_callS (d' := 0) (M' := mL_some) (As := [fz_i y39, fz_i v40]) (st := []) kL_world rfl rfl vL_some rfl rfl (Nat.le_of_ble_eq_true rfl) (Nat.le_of_ble_eq_true rfl) (by decide) (sL_some H14 hI15 y39 v40 (by omega)) (fun H45 r46 q47 o48 => ?_)
          obtain ⟨e49, y53, rfl, f50, f51, f52⟩ := q47
          subst H45
          clear o48
          refine fz_istore (ls' := [(8, fz_i y53), (7, fz_i y39), (6, fz_i x9), (5, fz_i j5), (4, fz_i x), (0, fz_r 0), (1, fz_r 200), (2, fz_r 53), (3, fz_r 205)]) kL_world rfl (by decide) rfl ?_
          refine fz_iload kL_world rfl rfl ?_
          refine fz_iconst ⟨by decide, by decide⟩ kL_world rfl ?_
          refine fz_iaddN kL_world rfl (by omega) ?_
          refine fz_iload kL_world rfl rfl ?_
          refine fz_iconst ⟨by decide, by decide⟩ kL_world rfl ?_
          refine fz_ishr kL_world rfl ?_
          have b54 : -2147483648 ≤ (fz_shr y39 3) ∧ (fz_shr y39 3) < 2147483648 := fz_b32 _
          refine fz_aload_n kL_world rfl rfl ?_
          refine fz_iconst ⟨by decide, by decide⟩ kL_world rfl ?_
          obtain ⟨v56, e57⟩ : ∃ z, H14 53 (0) = z := ⟨_, rfl⟩
          refine fz_ialdV (n := 40) (v := v56) kL_world rfl rfl (by omega) (by omega) e57 ?_
          have b58 : (-2147483648) ≤ v56 ∧ v56 ≤ 2147483647 := by rw [← e57]; exact hI15.1 53 _
          have k60 : 2 ≤ v56 ∧ v56 ≤ 8 := by omega
          refine fz_iconst ⟨by decide, by decide⟩ kL_world rfl ?_
          refine fz_isubN kL_world rfl (by omega) ?_
          refine fz_callS (d' := 0) (M' := mL_some) (As := [fz_i (fz_shr y39 3), fz_i (v56 - 1)]) (st := [fz_i (y53 + 1)]) kL_world rfl rfl vL_some rfl rfl (Nat.le_of_ble_eq_true rfl) (Nat.le_of_ble_eq_true rfl) (by decide) (sL_some H14 hI15 (fz_shr y39 3) (v56 - 1) (by omega)) (fun H61 r62 q63 o64 => ?_)
          obtain ⟨e65, y69, rfl, f66, f67, f68⟩ := q63
          subst H61
          clear o64
          refine fz_iaddN kL_world rfl (by omega) ?_
          refine fz_aload_n kL_world rfl rfl ?_
          refine fz_iconst ⟨by decide, by decide⟩ kL_world rfl ?_
          obtain ⟨v70, e71⟩ : ∃ z, H14 53 (0) = z := ⟨_, rfl⟩
          refine fz_ialdV (n := 40) (v := v70) kL_world rfl rfl (by omega) (by omega) e71 ?_
          have b72 : (-2147483648) ≤ v70 ∧ v70 ≤ 2147483647 := by rw [← e71]; exact hI15.1 53 _
          have k74 : 1 ≤ v70 ∧ v70 ≤ 8 := by omega
          refine fz_callS (d' := 0) (M' := mL_some) (As := [fz_i ((y53 + 1) + y69), fz_i v70]) (st := []) kL_world rfl rfl vL_some rfl rfl (Nat.le_of_ble_eq_true rfl) (Nat.le_of_ble_eq_true rfl) (by decide) (sL_some H14 hI15 ((y53 + 1) + y69) v70 (by omega)) (fun H75 r76 q77 o78 => ?_)
          obtain ⟨e79, y83, rfl, f80, f81, f82⟩ := q77
          subst H75
          clear o78
          have k84 := st_oth (n := v70) (by omega) (by omega) f82
          refine fz_istore (ls' := [(9, fz_i y83), (8, fz_i y53), (7, fz_i y39), (6, fz_i x9), (5, fz_i j5), (4, fz_i x), (0, fz_r 0), (1, fz_r 200), (2, fz_r 53), (3, fz_r 205)]) kL_world rfl (by decide) rfl ?_
          refine fz_iconst ⟨by decide, by decide⟩ kL_world rfl ?_
          refine fz_iload kL_world rfl rfl ?_
          refine fz_bipush ⟨by decide, by decide⟩ kL_world rfl ?_
          refine fz_ishr kL_world rfl ?_
          have b85 : -2147483648 ≤ (fz_shr y39 7) ∧ (fz_shr y39 7) < 2147483648 := fz_b32 _
          refine fz_bipush ⟨by decide, by decide⟩ kL_world rfl ?_
          refine fz_callS (d' := 0) (M' := mL_some) (As := [fz_i (fz_shr y39 7), fz_i 24]) (st := [fz_i 1]) kL_world rfl rfl vL_some rfl rfl (Nat.le_of_ble_eq_true rfl) (Nat.le_of_ble_eq_true rfl) (by decide) (sL_some H14 hI15 (fz_shr y39 7) 24 (by omega)) (fun H87 r88 q89 o90 => ?_)
          obtain ⟨e91, y95, rfl, f92, f93, f94⟩ := q89
          subst H87
          clear o90
          refine fz_iaddN kL_world rfl (by omega) ?_
          refine fz_istore (ls' := [(10, fz_i (1 + y95)), (9, fz_i y83), (8, fz_i y53), (7, fz_i y39), (6, fz_i x9), (5, fz_i j5), (4, fz_i x), (0, fz_r 0), (1, fz_r 200), (2, fz_r 53), (3, fz_r 205)]) kL_world rfl (by decide) rfl ?_
          refine fz_iload kL_world rfl rfl ?_
          refine fz_bipush ⟨by decide, by decide⟩ kL_world rfl ?_
          refine fz_ishr kL_world rfl ?_
          have b96 : -2147483648 ≤ (fz_shr y39 13) ∧ (fz_shr y39 13) < 2147483648 := fz_b32 _
          refine fz_iconst ⟨by decide, by decide⟩ kL_world rfl ?_
          refine fz_iand kL_world rfl ?_
          have b98 : -2147483648 ≤ (fz_and (fz_shr y39 13) 3) ∧ (fz_and (fz_shr y39 13) 3) < 2147483648 := fz_b32 _
          have b99 : 0 ≤ (fz_and (fz_shr y39 13) 3) ∧ (fz_and (fz_shr y39 13) 3) ≤ 3 := fz_and_m (by omega) (by omega)
          have J100 : ∀ j101 : Int, 0 ≤ j101 ∧ j101 ≤ 1 → fz_R 47 mL_world 380 [(10, fz_i (1 + y95)), (9, fz_i y83), (8, fz_i y53), (7, fz_i y39), (6, fz_i x9), (5, fz_i j5), (4, fz_i x), (0, fz_r 0), (1, fz_r 200), (2, fz_r 53), (3, fz_r 205)] [fz_i j101] H14 (qL_world h) := by
            intro j101 hj102
            refine fz_istore (ls' := [(11, fz_i j101), (10, fz_i (1 + y95)), (9, fz_i y83), (8, fz_i y53), (7, fz_i y39), (6, fz_i x9), (5, fz_i j5), (4, fz_i x), (0, fz_r 0), (1, fz_r 200), (2, fz_r 53), (3, fz_r 205)]) kL_world rfl (by decide) rfl ?_
            refine sL_w382 h H14 x b0 y53 y83 (1 + y95) j101 x9 j5 y39 hI15 hf16 hXq12 hRE10 hRV11 hL113 hp0 hp1 hp2 hp3 (by omega) (by omega) (by omega) (by omega) (by omega) (by omega) (by omega) (by omega) (by omega) (by omega) (by omega) (by omega) (by omega) (by omega) (by omega) (by omega) (fun H104 hI105 hf106 hX107 hRE108 hRV109 hL1110 f111 f112 f113 f114 f115 f116 f117 f118 => ?_)
            refine fz_iincN (ls' := [(6, fz_i (x9 + 1)), (5, fz_i j5), (4, fz_i x), (0, fz_r 0), (1, fz_r 200), (2, fz_r 53), (3, fz_r 205)]) kL_world rfl (by decide) rfl (by omega) rfl ?_
            refine fz_goto (tgt := 299) kL_world rfl (by decide) ?_
            exact ih19 (x9 + 1) H104 hI105 hf106 hRE108 hRV109 hX107 hL1110 (by omega) (by omega) (by omega) (by omega) (by omega) (by omega) (by omega) (by omega) (by omega) (by omega) (by omega)
          refine fz_if_ne (tgt := 379) kL_world rfl (by decide) (fun c119 => ?_) (fun c119 => ?_)
          · refine fz_iconst ⟨by decide, by decide⟩ kL_world rfl ?_
            exact J100 1 (by omega)
          · refine fz_iconst ⟨by decide, by decide⟩ kL_world rfl ?_
            refine fz_goto (tgt := 380) kL_world rfl (by decide) ?_
            exact J100 0 (by omega)
    exact lp18 _ 0 H hI hf hRE hRV hX hL1 (by omega) (by omega) (by omega) (by omega) (by omega) (by omega) (by omega) (by omega) (by omega) (by omega) (Nat.lt_succ_self _)
  refine fz_icmp_ge (tgt := 272) kL_world rfl (by decide) (fun c120 => ?_) (fun c120 => ?_)
  · refine fz_iload kL_world rfl rfl ?_
    refine fz_bipush ⟨by decide, by decide⟩ kL_world rfl ?_
    refine fz_ishr kL_world rfl ?_
    have b121 : -2147483648 ≤ (fz_shr x 12) ∧ (fz_shr x 12) < 2147483648 := fz_b32 _
    refine fz_aload_n kL_world rfl rfl ?_
    refine fz_iconst ⟨by decide, by decide⟩ kL_world rfl ?_
    obtain ⟨v123, e124⟩ : ∃ z, H 53 (0) = z := ⟨_, rfl⟩
    refine fz_ialdV (n := 40) (v := v123) kL_world rfl rfl (by omega) (by omega) e124 ?_
    have b125 : (-2147483648) ≤ v123 ∧ v123 ≤ 2147483647 := by rw [← e124]; exact hI.1 53 _
    refine fz_iconst ⟨by decide, by decide⟩ kL_world rfl ?_
    have J126 : ∀ j127 : Int, 7 ≤ j127 ∧ j127 ≤ 13 → fz_R 47 mL_world 291 [(4, fz_i x), (0, fz_r 0), (1, fz_r 200), (2, fz_r 53), (3, fz_r 205)] [fz_i j127, fz_i (fz_shr x 12)] H (qL_world h) := by
      intro j127 hj128
      refine fz_callS (d' := 0) (M' := mL_some) (As := [fz_i (fz_shr x 12), fz_i j127]) (st := []) kL_world rfl rfl vL_some rfl rfl (Nat.le_of_ble_eq_true rfl) (Nat.le_of_ble_eq_true rfl) (by decide) (sL_some H hI (fz_shr x 12) j127 (by omega)) (fun H130 r131 q132 o133 => ?_)
      obtain ⟨e134, y138, rfl, f135, f136, f137⟩ := q132
      subst H130
      clear o133
      exact J4 y138 (by omega) (by omega)
    refine fz_icmp_ge (tgt := 289) kL_world rfl (by decide) (fun c139 => ?_) (fun c139 => ?_)
    · refine fz_bipush ⟨by decide, by decide⟩ kL_world rfl ?_
      exact J126 13 (by omega)
    · refine fz_bipush ⟨by decide, by decide⟩ kL_world rfl ?_
      refine fz_goto (tgt := 291) kL_world rfl (by decide) ?_
      exact J126 7 (by omega)
  · refine fz_iconst ⟨by decide, by decide⟩ kL_world rfl ?_
    refine fz_goto (tgt := 294) kL_world rfl (by decide) ?_
    exact J4 0 (by omega) (by omega)

set_option maxHeartbeats 1000000 in
set_option maxRecDepth 100000 in
theorem sL_w101 (h H : fz_H) (x b0 : Int) (hI : fz_Iv H) (hf : fz_fr [(1, 7), (1, 8), (2, 99999), (3, 99999), (4, 99999), (5, 99999), (6, 99999), (7, 99999), (8, 99999), (9, 5), (10, 99999), (11, 99999), (12, 99999), (13, 99999), (14, 99999), (15, 4), (16, 99999), (17, 99999), (20, 2), (20, 3), (20, 4), (21, 4), (22, 99999), (23, 99999), (26, 99999), (27, 8), (27, 9), (28, 99999), (35, 4), (35, 5), (36, 99999), (37, 99999), (38, 99999), (39, 99999), (53, 99999)] h H) (hX : fz_Xc H) (hRE : fz_RE H) (hRV : fz_RV H) (hL1 : st_L1 H) (hp0 : 0 ≤ h 200 100000 ∧ h 200 100000 ≤ 3072) (hp1 : 0 ≤ h 205 100000 ∧ h 205 100000 ≤ 120) (hp2 : h 1 7 = 0 ∧ h 1 8 = 0 ∧ h 9 5 = 0 ∧ h 20 2 = 0 ∧ h 35 4 = 0) (hp3 : h 53 1 = 0 ∧ h 53 2 = 0) (hq0 : -2147483648 ≤ x ∧ x < 2147483648) (hq1 : 0 ≤ b0 ∧ b0 ≤ 8) (hq2 : H 53 0 = b0) (hq3 : H 53 1 = H 1 8) (hq4 : H 53 2 = H 9 5) (hq5 : H 20 2 = 0) (hq6 : H 1 7 = b0) (hq7 : H 1 8 = 0) (hq8 : H 9 5 = 0) (hq9 : H 35 4 = 0) : fz_R 47 mL_world 101 [(4, fz_i x), (0, fz_r 0), (1, fz_r 200), (2, fz_r 53), (3, fz_r 205)] [] H (qL_world h) := by
  refine fz_aload_n kL_world rfl rfl ?_
  refine fz_iconst ⟨by decide, by decide⟩ kL_world rfl ?_
  refine fz_iload kL_world rfl rfl ?_
  refine fz_bipush ⟨by decide, by decide⟩ kL_world rfl ?_
  refine fz_ishr kL_world rfl ?_
  have b1 : -2147483648 ≤ (fz_shr x 16) ∧ (fz_shr x 16) < 2147483648 := fz_b32 _
  refine fz_iconst ⟨by decide, by decide⟩ kL_world rfl ?_
  refine fz_iand kL_world rfl ?_
  have b3 : -2147483648 ≤ (fz_and (fz_shr x 16) 1) ∧ (fz_and (fz_shr x 16) 1) < 2147483648 := fz_b32 _
  have b4 : 0 ≤ (fz_and (fz_shr x 16) 1) ∧ (fz_and (fz_shr x 16) 1) ≤ 1 := fz_and_m (by omega) (by omega)
  have J5 : ∀ j6 : Int, 0 ≤ j6 ∧ j6 ≤ 60 → fz_R 47 mL_world 128 [(4, fz_i x), (0, fz_r 0), (1, fz_r 200), (2, fz_r 53), (3, fz_r 205)] [fz_i j6, fz_i 3, fz_r 53] H (qL_world h) := by
    intro j6 hj7
    refine fz_iast (n := 40) kL_world rfl rfl (by omega) (by omega) ?_
    refine fz_nmu (S := [(1, 7), (1, 8), (2, 99999), (3, 99999), (4, 99999), (5, 99999), (6, 99999), (7, 99999), (8, 99999), (9, 5), (10, 99999), (11, 99999), (12, 99999), (13, 99999), (14, 99999), (15, 4), (16, 99999), (17, 99999), (20, 2), (20, 3), (20, 4), (21, 4), (22, 99999), (23, 99999), (26, 99999), (27, 8), (27, 9), (28, 99999), (35, 4), (35, 5), (36, 99999), (37, 99999), (38, 99999), (39, 99999), (53, 99999)]) (h0 := h) (fz_Iv_up hI (by decide) (show ((-2147483648) : Int) ≤ j6 by omega) (show (j6 : Int) ≤ 2147483647 by omega)) (fz_fr_up hf rfl) (fun H9 hI10 hf11 e12 => ?_)
    have t13 : H9 20 2 = H 20 2 := by rw [e12]; exact fz_up_o (by decide)
    have t14 : H9 35 4 = H 35 4 := by rw [e12]; exact fz_up_o (by decide)
    have t15 : H9 1 7 = H 1 7 := by rw [e12]; exact fz_up_o (by decide)
    have t16 : H9 1 8 = H 1 8 := by rw [e12]; exact fz_up_o (by decide)
    have t17 : H9 9 5 = H 9 5 := by rw [e12]; exact fz_up_o (by decide)
    have hX18 : fz_Xc H9 := by rw [e12]; exact fz_Xc_up (by decide) (by decide) (by decide) hX
    have hRE19 : fz_RE H9 := fz_RE_eq (by rw [e12]; exact fz_up_ne (by decide)) (by rw [e12]; exact fz_up_ne (by decide)) (by rw [e12]; exact fz_up_o (by decide)) (by rw [e12]; exact fz_up_o (by decide)) hRE
    have hRV20 : fz_RV H9 := fz_RV_eq (by rw [e12]; exact fz_up_ne (by decide)) (by rw [e12]; exact fz_up_ne (by decide)) (by rw [e12]; exact fz_up_ne (by decide)) (by rw [e12]; exact fz_up_ne (by decide)) (by rw [e12]; exact fz_up_ne (by decide)) (by rw [e12]; exact fz_up_ne (by decide)) (by rw [e12]; exact fz_up_o (by decide)) (by rw [e12]; exact fz_up_o (by decide)) hRV
    have hL121 : st_L1 H9 := st_L1_eq (by rw [e12]; exact fz_up_ne (by decide)) (by rw [e12]; exact fz_up_o (by decide)) hL1
    have t22 : H9 53 0 = H 53 0 := by rw [e12]; exact fz_up_s (by decide)
    have t23 : H9 53 1 = H 53 1 := by rw [e12]; exact fz_up_s (by decide)
    have t24 : H9 53 2 = H 53 2 := by rw [e12]; exact fz_up_s (by decide)
    refine fz_aload_n kL_world rfl rfl ?_
    refine fz_iconst ⟨by decide, by decide⟩ kL_world rfl ?_
    refine fz_iload kL_world rfl rfl ?_
    refine fz_bipush ⟨by decide, by decide⟩ kL_world rfl ?_
    refine fz_ishr kL_world rfl ?_
    have b25 : -2147483648 ≤ (fz_shr x 22) ∧ (fz_shr x 22) < 2147483648 := fz_b32 _
    refine fz_bipush ⟨by decide, by decide⟩ kL_world rfl ?_
    refine fz_callS (d' := 0) (M' := mL_some) (As := [fz_i (fz_shr x 22), fz_i 13]) (st := [fz_i 4, fz_r 53]) kL_world rfl rfl vL_some rfl rfl (Nat.le_of_ble_eq_true rfl) (Nat.le_of_ble_eq_true rfl) (by decide) (sL_some H9 hI10 (fz_shr x 22) 13 (by omega)) (fun H27 r28 q29 o30 => ?_)
    obtain ⟨e31, y35, rfl, f32, f33, f34⟩ := q29
    subst H27
    clear o30
    refine fz_iast (n := 40) kL_world rfl rfl (by omega) (by omega) ?_
    refine fz_nmu (S := [(1, 7), (1, 8), (2, 99999), (3, 99999), (4, 99999), (5, 99999), (6, 99999), (7, 99999), (8, 99999), (9, 5), (10, 99999), (11, 99999), (12, 99999), (13, 99999), (14, 99999), (15, 4), (16, 99999), (17, 99999), (20, 2), (20, 3), (20, 4), (21, 4), (22, 99999), (23, 99999), (26, 99999), (27, 8), (27, 9), (28, 99999), (35, 4), (35, 5), (36, 99999), (37, 99999), (38, 99999), (39, 99999), (53, 99999)]) (h0 := h) (fz_Iv_up hI10 (by decide) (show ((-2147483648) : Int) ≤ y35 by omega) (show (y35 : Int) ≤ 2147483647 by omega)) (fz_fr_up hf11 rfl) (fun H36 hI37 hf38 e39 => ?_)
    have t40 : H36 20 2 = H9 20 2 := by rw [e39]; exact fz_up_o (by decide)
    have t41 : H36 35 4 = H9 35 4 := by rw [e39]; exact fz_up_o (by decide)
    have t42 : H36 1 7 = H9 1 7 := by rw [e39]; exact fz_up_o (by decide)
    have t43 : H36 1 8 = H9 1 8 := by rw [e39]; exact fz_up_o (by decide)
    have t44 : H36 9 5 = H9 9 5 := by rw [e39]; exact fz_up_o (by decide)
    have hX45 : fz_Xc H36 := by rw [e39]; exact fz_Xc_up (by decide) (by decide) (by decide) hX18
    have hRE46 : fz_RE H36 := fz_RE_eq (by rw [e39]; exact fz_up_ne (by decide)) (by rw [e39]; exact fz_up_ne (by decide)) (by rw [e39]; exact fz_up_o (by decide)) (by rw [e39]; exact fz_up_o (by decide)) hRE19
    have hRV47 : fz_RV H36 := fz_RV_eq (by rw [e39]; exact fz_up_ne (by decide)) (by rw [e39]; exact fz_up_ne (by decide)) (by rw [e39]; exact fz_up_ne (by decide)) (by rw [e39]; exact fz_up_ne (by decide)) (by rw [e39]; exact fz_up_ne (by decide)) (by rw [e39]; exact fz_up_ne (by decide)) (by rw [e39]; exact fz_up_o (by decide)) (by rw [e39]; exact fz_up_o (by decide)) hRV20
    have hL148 : st_L1 H36 := st_L1_eq (by rw [e39]; exact fz_up_ne (by decide)) (by rw [e39]; exact fz_up_o (by decide)) hL121
    have t49 : H36 53 0 = H9 53 0 := by rw [e39]; exact fz_up_s (by decide)
    have t50 : H36 53 1 = H9 53 1 := by rw [e39]; exact fz_up_s (by decide)
    have t51 : H36 53 2 = H9 53 2 := by rw [e39]; exact fz_up_s (by decide)
    refine fz_aload_n kL_world rfl rfl ?_
    refine fz_iconst ⟨by decide, by decide⟩ kL_world rfl ?_
    refine fz_bipush ⟨by decide, by decide⟩ kL_world rfl ?_
    refine fz_aload_n kL_world rfl rfl ?_
    refine fz_iconst ⟨by decide, by decide⟩ kL_world rfl ?_
    obtain ⟨v52, e53⟩ : ∃ z, H36 53 (3) = z := ⟨_, rfl⟩
    refine fz_ialdV (n := 40) (v := v52) kL_world rfl rfl (by omega) (by omega) e53 ?_
    have b54 : (-2147483648) ≤ v52 ∧ v52 ≤ 2147483647 := by rw [← e53]; exact hI37.1 53 _
    refine fz_callV (d' := 4) (M' := mX10_mend) (As := [fz_i 0, fz_i 7, fz_i v52]) (st := []) kL_world rfl rfl vX10_mend rfl rfl rfl rfl (Nat.le_of_ble_eq_true rfl) (Nat.le_of_ble_eq_true rfl) (by decide) (sX10_mend H36 hI37 0 7 v52 (hX45) hRE46 hRV47) (fun H55 r56 q57 o58 => ?_)
    obtain ⟨hI59, hf60, hX61, hRE62, hRV63, y66, rfl, f64, f65⟩ := q57
    clear o58
    have hf67 := fz_fr_tr hf38 hf60 (show fz_su [(2, 99999), (3, 99999), (4, 99999), (7, 99999), (8, 99999), (12, 99999), (13, 99999), (14, 99999), (27, 8), (27, 9), (28, 99999), (35, 4), (35, 5), (36, 99999), (37, 99999), (38, 99999), (39, 99999)] [(1, 7), (1, 8), (2, 99999), (3, 99999), (4, 99999), (5, 99999), (6, 99999), (7, 99999), (8, 99999), (9, 5), (10, 99999), (11, 99999), (12, 99999), (13, 99999), (14, 99999), (15, 4), (16, 99999), (17, 99999), (20, 2), (20, 3), (20, 4), (21, 4), (22, 99999), (23, 99999), (26, 99999), (27, 8), (27, 9), (28, 99999), (35, 4), (35, 5), (36, 99999), (37, 99999), (38, 99999), (39, 99999), (53, 99999)] = true from rfl)
    have t68 : H55 53 0 = H36 53 0 := hf60 53 0 rfl
    have t69 : H55 53 1 = H36 53 1 := hf60 53 1 rfl
    have t70 : H55 53 2 = H36 53 2 := hf60 53 2 rfl
    have t71 : H55 20 2 = H36 20 2 := hf60 20 2 rfl
    have t72 : H55 1 7 = H36 1 7 := hf60 1 7 rfl
    have t73 : H55 1 8 = H36 1 8 := hf60 1 8 rfl
    have t74 : H55 9 5 = H36 9 5 := hf60 9 5 rfl
    have k75 := st_mC_d f65 hI59
    have hL176 : st_L1 H55 := st_L1_mC f65 (by decide) (hf60 1 8 rfl) hL148
    refine fz_pop rfl kL_world rfl ?_
    refine fz_aload_n kL_world rfl rfl ?_
    refine fz_iconst ⟨by decide, by decide⟩ kL_world rfl ?_
    refine fz_bipush ⟨by decide, by decide⟩ kL_world rfl ?_
    refine fz_aload_n kL_world rfl rfl ?_
    refine fz_iconst ⟨by decide, by decide⟩ kL_world rfl ?_
    obtain ⟨v78, e79⟩ : ∃ z, H55 53 (4) = z := ⟨_, rfl⟩
    refine fz_ialdV (n := 40) (v := v78) kL_world rfl rfl (by omega) (by omega) e79 ?_
    have b80 : (-2147483648) ≤ v78 ∧ v78 ≤ 2147483647 := by rw [← e79]; exact hI59.1 53 _
    refine fz_callV (d' := 4) (M' := mX10_mend) (As := [fz_i 0, fz_i 8, fz_i v78]) (st := []) kL_world rfl rfl vX10_mend rfl rfl rfl rfl (Nat.le_of_ble_eq_true rfl) (Nat.le_of_ble_eq_true rfl) (by decide) (sX10_mend H55 hI59 0 8 v78 (hX61) hRE62 hRV63) (fun H81 r82 q83 o84 => ?_)
    obtain ⟨hI85, hf86, hX87, hRE88, hRV89, y92, rfl, f90, f91⟩ := q83
    clear o84
    have hf93 := fz_fr_tr hf67 hf86 (show fz_su [(2, 99999), (3, 99999), (4, 99999), (7, 99999), (8, 99999), (12, 99999), (13, 99999), (14, 99999), (27, 8), (27, 9), (28, 99999), (35, 4), (35, 5), (36, 99999), (37, 99999), (38, 99999), (39, 99999)] [(1, 7), (1, 8), (2, 99999), (3, 99999), (4, 99999), (5, 99999), (6, 99999), (7, 99999), (8, 99999), (9, 5), (10, 99999), (11, 99999), (12, 99999), (13, 99999), (14, 99999), (15, 4), (16, 99999), (17, 99999), (20, 2), (20, 3), (20, 4), (21, 4), (22, 99999), (23, 99999), (26, 99999), (27, 8), (27, 9), (28, 99999), (35, 4), (35, 5), (36, 99999), (37, 99999), (38, 99999), (39, 99999), (53, 99999)] = true from rfl)
    have t94 : H81 53 0 = H55 53 0 := hf86 53 0 rfl
    have t95 : H81 53 1 = H55 53 1 := hf86 53 1 rfl
    have t96 : H81 53 2 = H55 53 2 := hf86 53 2 rfl
    have t97 : H81 20 2 = H55 20 2 := hf86 20 2 rfl
    have t98 : H81 1 7 = H55 1 7 := hf86 1 7 rfl
    have t99 : H81 1 8 = H55 1 8 := hf86 1 8 rfl
    have t100 : H81 9 5 = H55 9 5 := hf86 9 5 rfl
    have k101 := st_mC_d f91 hI85
    have hL1102 : st_L1 H81 := st_L1_mC f91 (by decide) (hf86 1 8 rfl) hL176
    refine fz_pop rfl kL_world rfl ?_
    refine fz_iconst ⟨by decide, by decide⟩ kL_world rfl ?_
    refine fz_istore (ls' := [(5, fz_i 0), (4, fz_i x), (0, fz_r 0), (1, fz_r 200), (2, fz_r 53), (3, fz_r 205)]) kL_world rfl (by decide) rfl ?_
    have lp113 : ∀ (n112 : Nat) (x104 : Int) (H109 : fz_H), fz_Iv H109 → fz_fr [(1, 7), (1, 8), (2, 99999), (3, 99999), (4, 99999), (5, 99999), (6, 99999), (7, 99999), (8, 99999), (9, 5), (10, 99999), (11, 99999), (12, 99999), (13, 99999), (14, 99999), (15, 4), (16, 99999), (17, 99999), (20, 2), (20, 3), (20, 4), (21, 4), (22, 99999), (23, 99999), (26, 99999), (27, 8), (27, 9), (28, 99999), (35, 4), (35, 5), (36, 99999), (37, 99999), (38, 99999), (39, 99999), (53, 99999)] h H109 → fz_RE H109 → fz_RV H109 → fz_Xc H109 → st_L1 H109 → (0 ≤ x104 ∧ x104 ≤ 5) → (H109 53 0 = b0) → (H109 53 1 = H109 1 8) → (H109 53 2 = H109 9 5) → (H109 20 2 = 0) → (H109 1 7 = b0) → (H109 1 8 = 0) → (H109 9 5 = 0) → (0 ≤ H109 35 4 ∧ H109 35 4 ≤ 2 + x104) → (5 - x104).toNat < n112 → fz_R 47 mL_world 167 [(5, fz_i x104), (4, fz_i x), (0, fz_r 0), (1, fz_r 200), (2, fz_r 53), (3, fz_r 205)] [] H109 (qL_world h) := by
      intro n112
      induction n112 with
      | zero => intro x104 H109 hI110 hf111 hRE105 hRV106 hXq107 hL1108 hv116 hv117 hv118 hv119 hv120 hv121 hv122 hv123 hv124 hm115; exact absurd hm115 (by omega)
      | succ n112 ih114 =>
        intro x104 H109 hI110 hf111 hRE105 hRV106 hXq107 hL1108 hv116 hv117 hv118 hv119 hv120 hv121 hv122 hv123 hv124 hm115
        refine fz_iload kL_world rfl rfl ?_
        refine fz_iconst ⟨by decide, by decide⟩ kL_world rfl ?_
        refine fz_icmp_ge (tgt := 261) kL_world rfl (by decide) (fun c125 => ?_) (fun c125 => ?_)
        · refine fz_sub (fz_pk_sub (ls' := [(4, fz_i x), (0, fz_r 0), (1, fz_r 200), (2, fz_r 53), (3, fz_r 205)]) [1, 2, 3, 4, 5] rfl) ?_
          exact sL_w261 h H109 x b0 hI110 hf111 hXq107 hRE105 hRV106 hL1108 hp0 hp1 hp2 hp3 (by omega) (by omega) (by omega) (by omega) (by omega) (by omega) (by omega) (by omega) (by omega) (by omega)
        · refine fz_aload_n kL_world rfl rfl ?_
          refine fz_bipush ⟨by decide, by decide⟩ kL_world rfl ?_
          refine fz_iload kL_world rfl rfl ?_
          refine fz_iaddN kL_world rfl (by omega) ?_
          refine fz_bipush ⟨by decide, by decide⟩ kL_world rfl ?_
          refine fz_iload kL_world rfl rfl ?_
          refine fz_bipush ⟨by decide, by decide⟩ kL_world rfl ?_
          refine fz_ishr kL_world rfl ?_
          have b126 : -2147483648 ≤ (fz_shr x 26) ∧ (fz_shr x 26) < 2147483648 := fz_b32 _
          refine fz_iconst ⟨by decide, by decide⟩ kL_world rfl ?_
          refine fz_iand kL_world rfl ?_
          have b128 : -2147483648 ≤ (fz_and (fz_shr x 26) 1) ∧ (fz_and (fz_shr x 26) 1) < 2147483648 := fz_b32 _
          have b129 : 0 ≤ (fz_and (fz_shr x 26) 1) ∧ (fz_and (fz_shr x 26) 1) ≤ 1 := fz_and_m (by omega) (by omega)
          have J130 : ∀ j131 : Int, (-9) ≤ j131 ∧ j131 ≤ 9 → fz_R 47 mL_world 234 [(5, fz_i x104), (4, fz_i x), (0, fz_r 0), (1, fz_r 200), (2, fz_r 53), (3, fz_r 205)] [fz_i j131, fz_i 10, fz_i (35 + x104), fz_r 53] H109 (qL_world h) := by
            intro j131 hj132
            refine fz_iaddN kL_world rfl (by omega) ?_
            refine fz_iast (n := 40) kL_world rfl rfl (by omega) (by omega) ?_
            refine fz_nmu (S := [(1, 7), (1, 8), (2, 99999), (3, 99999), (4, 99999), (5, 99999), (6, 99999), (7, 99999), (8, 99999), (9, 5), (10, 99999), (11, 99999), (12, 99999), (13, 99999), (14, 99999), (15, 4), (16, 99999), (17, 99999), (20, 2), (20, 3), (20, 4), (21, 4), (22, 99999), (23, 99999), (26, 99999), (27, 8), (27, 9), (28, 99999), (35, 4), (35, 5), (36, 99999), (37, 99999), (38, 99999), (39, 99999), (53, 99999)]) (h0 := h) (fz_Iv_up hI110 (by decide) (show ((-2147483648) : Int) ≤ (10 + j131) by omega) (show ((10 + j131) : Int) ≤ 2147483647 by omega)) (fz_fr_up hf111 rfl) (fun H134 hI135 hf136 e137 => ?_)
            have t138 : H134 20 2 = H109 20 2 := by rw [e137]; exact fz_up_o (by decide)
            have t139 : H134 35 4 = H109 35 4 := by rw [e137]; exact fz_up_o (by decide)
            have t140 : H134 1 7 = H109 1 7 := by rw [e137]; exact fz_up_o (by decide)
            have t141 : H134 1 8 = H109 1 8 := by rw [e137]; exact fz_up_o (by decide)
            have t142 : H134 9 5 = H109 9 5 := by rw [e137]; exact fz_up_o (by decide)
            have hX143 : fz_Xc H134 := by rw [e137]; exact fz_Xc_up (by decide) (by decide) (by decide) hXq107
            have hRE144 : fz_RE H134 := fz_RE_eq (by rw [e137]; exact fz_up_ne (by decide)) (by rw [e137]; exact fz_up_ne (by decide)) (by rw [e137]; exact fz_up_o (by decide)) (by rw [e137]; exact fz_up_o (by decide)) hRE105
            have hRV145 : fz_RV H134 := fz_RV_eq (by rw [e137]; exact fz_up_ne (by decide)) (by rw [e137]; exact fz_up_ne (by decide)) (by rw [e137]; exact fz_up_ne (by decide)) (by rw [e137]; exact fz_up_ne (by decide)) (by rw [e137]; exact fz_up_ne (by decide)) (by rw [e137]; exact fz_up_ne (by decide)) (by rw [e137]; exact fz_up_o (by decide)) (by rw [e137]; exact fz_up_o (by decide)) hRV106
            have hL1146 : st_L1 H134 := st_L1_eq (by rw [e137]; exact fz_up_ne (by decide)) (by rw [e137]; exact fz_up_o (by decide)) hL1108
            have t147 : H134 53 0 = H109 53 0 := by rw [e137]; exact fz_up_s (by omega)
            have t148 : H134 53 1 = H109 53 1 := by rw [e137]; exact fz_up_s (by omega)
            have t149 : H134 53 2 = H109 53 2 := by rw [e137]; exact fz_up_s (by omega)
            refine fz_aload_n kL_world rfl rfl ?_
            refine fz_iload kL_world rfl rfl ?_
            refine fz_bipush ⟨by decide, by decide⟩ kL_world rfl ?_
            refine fz_aload_n kL_world rfl rfl ?_
            refine fz_bipush ⟨by decide, by decide⟩ kL_world rfl ?_
            refine fz_iload kL_world rfl rfl ?_
            refine fz_iaddN kL_world rfl (by omega) ?_
            obtain ⟨v150, e151⟩ : ∃ z, H134 53 ((35 + x104).toNat) = z := ⟨_, rfl⟩
            refine fz_ialdV (n := 40) (v := v150) kL_world rfl rfl (by omega) (by omega) e151 ?_
            have b152 : (-2147483648) ≤ v150 ∧ v150 ≤ 2147483647 := by rw [← e151]; exact hI135.1 53 _
            have k153 := e151.symm.trans ((congrFun (congrFun e137 53) _).trans fz_up_e)
            refine fz_bipush ⟨by decide, by decide⟩ kL_world rfl ?_
            refine fz_isub kL_world rfl ?_
            refine fz_nmw (fun z154 e155 => ?_)
            refine fz_callV (d' := 4) (M' := mX10_mend) (As := [fz_i x104, fz_i 6, fz_i z154]) (st := []) kL_world rfl rfl vX10_mend rfl rfl rfl rfl (Nat.le_of_ble_eq_true rfl) (Nat.le_of_ble_eq_true rfl) (by decide) (sX10_mend H134 hI135 x104 6 z154 (hX143) hRE144 hRV145) (fun H156 r157 q158 o159 => ?_)
            obtain ⟨hI160, hf161, hX162, hRE163, hRV164, y167, rfl, f165, f166⟩ := q158
            clear o159
            have hf168 := fz_fr_tr hf136 hf161 (show fz_su [(2, 99999), (3, 99999), (4, 99999), (7, 99999), (8, 99999), (12, 99999), (13, 99999), (14, 99999), (27, 8), (27, 9), (28, 99999), (35, 4), (35, 5), (36, 99999), (37, 99999), (38, 99999), (39, 99999)] [(1, 7), (1, 8), (2, 99999), (3, 99999), (4, 99999), (5, 99999), (6, 99999), (7, 99999), (8, 99999), (9, 5), (10, 99999), (11, 99999), (12, 99999), (13, 99999), (14, 99999), (15, 4), (16, 99999), (17, 99999), (20, 2), (20, 3), (20, 4), (21, 4), (22, 99999), (23, 99999), (26, 99999), (27, 8), (27, 9), (28, 99999), (35, 4), (35, 5), (36, 99999), (37, 99999), (38, 99999), (39, 99999), (53, 99999)] = true from rfl)
            have t169 : H156 53 0 = H134 53 0 := hf161 53 0 rfl
            have t170 : H156 53 1 = H134 53 1 := hf161 53 1 rfl
            have t171 : H156 53 2 = H134 53 2 := hf161 53 2 rfl
            have t172 : H156 20 2 = H134 20 2 := hf161 20 2 rfl
            have t173 : H156 1 7 = H134 1 7 := hf161 1 7 rfl
            have t174 : H156 1 8 = H134 1 8 := hf161 1 8 rfl
            have t175 : H156 9 5 = H134 9 5 := hf161 9 5 rfl
            have k176 := st_mC_d f166 hI160
            have hL1177 : st_L1 H156 := st_L1_mC f166 (by decide) (hf161 1 8 rfl) hL1146
            refine fz_pop rfl kL_world rfl ?_
            refine fz_iincN (ls' := [(5, fz_i (x104 + 1)), (4, fz_i x), (0, fz_r 0), (1, fz_r 200), (2, fz_r 53), (3, fz_r 205)]) kL_world rfl (by decide) rfl (by omega) rfl ?_
            refine fz_goto (tgt := 167) kL_world rfl (by decide) ?_
            exact ih114 (x104 + 1) H156 hI160 hf168 hRE163 hRV164 hX162 hL1177 (by omega) (by omega) (by omega) (by omega) (by omega) (by omega) (by omega) (by omega) (by omega) (by omega)
          refine fz_if_ne (tgt := 216) kL_world rfl (by decide) (fun c179 => ?_) (fun c179 => ?_)
          · refine fz_aload_n kL_world rfl rfl ?_
            refine fz_iconst ⟨by decide, by decide⟩ kL_world rfl ?_
            have e180 : H109 200 100000 = h 200 100000 := hf111 200 100000 rfl
            refine fz_callS (d' := 0) (M' := mL_at) (As := [fz_r 200, fz_i 1]) (st := [fz_i 10, fz_i (35 + x104), fz_r 53]) kL_world rfl rfl vL_at rfl rfl (Nat.le_of_ble_eq_true rfl) (Nat.le_of_ble_eq_true rfl) (by decide) (sL_at H109 hI110 1 (by omega) (by omega)) (fun H181 r182 q183 o184 => ?_)
            obtain ⟨e185, y187, rfl, f186⟩ := q183
            subst H181
            clear o184
            refine fz_iconst ⟨by decide, by decide⟩ kL_world rfl ?_
            refine fz_iload kL_world rfl rfl ?_
            refine fz_imulN kL_world rfl (by omega) ?_
            refine fz_ishr kL_world rfl ?_
            have b188 : -2147483648 ≤ (fz_shr y187 (5 * x104)) ∧ (fz_shr y187 (5 * x104)) < 2147483648 := fz_b32 _
            refine fz_bipush ⟨by decide, by decide⟩ kL_world rfl ?_
            refine fz_callS (d' := 0) (M' := mL_some) (As := [fz_i (fz_shr y187 (5 * x104)), fz_i 19]) (st := [fz_i 10, fz_i (35 + x104), fz_r 53]) kL_world rfl rfl vL_some rfl rfl (Nat.le_of_ble_eq_true rfl) (Nat.le_of_ble_eq_true rfl) (by decide) (sL_some H109 hI110 (fz_shr y187 (5 * x104)) 19 (by omega)) (fun H190 r191 q192 o193 => ?_)
            obtain ⟨e194, y198, rfl, f195, f196, f197⟩ := q192
            subst H190
            clear o193
            refine fz_bipush ⟨by decide, by decide⟩ kL_world rfl ?_
            refine fz_isubN kL_world rfl (by omega) ?_
            exact J130 (y198 - 9) (by omega)
          · refine fz_iload kL_world rfl rfl ?_
            refine fz_iconst ⟨by decide, by decide⟩ kL_world rfl ?_
            refine fz_icmp_ne (tgt := 202) kL_world rfl (by decide) (fun c199 => ?_) (fun c199 => ?_)
            · refine fz_iload kL_world rfl rfl ?_
              refine fz_iconst ⟨by decide, by decide⟩ kL_world rfl ?_
              refine fz_icmp_ne (tgt := 212) kL_world rfl (by decide) (fun c200 => ?_) (fun c200 => ?_)
              · refine fz_iconst ⟨by decide, by decide⟩ kL_world rfl ?_
                refine fz_goto (tgt := 234) kL_world rfl (by decide) ?_
                exact J130 1 (by omega)
              · refine fz_iconst ⟨by decide, by decide⟩ kL_world rfl ?_
                refine fz_goto (tgt := 234) kL_world rfl (by decide) ?_
                exact J130 (-1) (by omega)
            · refine fz_bipush ⟨by decide, by decide⟩ kL_world rfl ?_
              refine fz_goto (tgt := 234) kL_world rfl (by decide) ?_
              exact J130 (-2) (by omega)
    exact lp113 _ 0 H81 hI85 hf93 hRE88 hRV89 hX87 hL1102 (by omega) (by omega) (by omega) (by omega) (by omega) (by omega) (by omega) (by omega) (by omega) (Nat.lt_succ_self _)
  refine fz_if_ne (tgt := 126) kL_world rfl (by decide) (fun c201 => ?_) (fun c201 => ?_)
  · refine fz_bipush ⟨by decide, by decide⟩ kL_world rfl ?_
    exact J5 60 (by omega)
  · refine fz_iload kL_world rfl rfl ?_
    refine fz_bipush ⟨by decide, by decide⟩ kL_world rfl ?_
    refine fz_ishr kL_world rfl ?_
    have b202 : -2147483648 ≤ (fz_shr x 17) ∧ (fz_shr x 17) < 2147483648 := fz_b32 _
    refine fz_bipush ⟨by decide, by decide⟩ kL_world rfl ?_
    refine fz_callS (d' := 0) (M' := mL_some) (As := [fz_i (fz_shr x 17), fz_i 30]) (st := [fz_i 3, fz_r 53]) kL_world rfl rfl vL_some rfl rfl (Nat.le_of_ble_eq_true rfl) (Nat.le_of_ble_eq_true rfl) (by decide) (sL_some H hI (fz_shr x 17) 30 (by omega)) (fun H204 r205 q206 o207 => ?_)
    obtain ⟨e208, y212, rfl, f209, f210, f211⟩ := q206
    subst H204
    clear o207
    refine fz_goto (tgt := 128) kL_world rfl (by decide) ?_
    exact J5 y212 (by omega)

set_option maxHeartbeats 1000000 in
set_option maxRecDepth 100000 in
theorem sL_world (h : fz_H) (hI : fz_Iv h) (hX : fz_Xc h) (hRE : fz_RE h) (hRV : fz_RV h) (hp0 : 0 ≤ h 200 100000 ∧ h 200 100000 ≤ 3072) (hp1 : 0 ≤ h 205 100000 ∧ h 205 100000 ≤ 120) (hp2 : h 1 7 = 0 ∧ h 1 8 = 0 ∧ h 9 5 = 0 ∧ h 20 2 = 0 ∧ h 35 4 = 0) (hp3 : h 53 1 = 0 ∧ h 53 2 = 0) : fz_R 47 mL_world 0 [(0, fz_r 0), (1, fz_r 200), (2, fz_r 53), (3, fz_r 205)] [] h (qL_world h) := by
  have hf : fz_fr [(1, 7), (1, 8), (2, 99999), (3, 99999), (4, 99999), (5, 99999), (6, 99999), (7, 99999), (8, 99999), (9, 5), (10, 99999), (11, 99999), (12, 99999), (13, 99999), (14, 99999), (15, 4), (16, 99999), (17, 99999), (20, 2), (20, 3), (20, 4), (21, 4), (22, 99999), (23, 99999), (26, 99999), (27, 8), (27, 9), (28, 99999), (35, 4), (35, 5), (36, 99999), (37, 99999), (38, 99999), (39, 99999), (53, 99999)] h h := fz_fr_rf
  have b1 : 0 ≤ h 1 7 ∧ h 1 7 ≤ 8 := hI.1 1 _
  have b2 : 0 ≤ h 1 8 ∧ h 1 8 ≤ 12 := hI.1 1 _
  have b3 : 0 ≤ h 9 5 ∧ h 9 5 ≤ 10 := hI.1 9 _
  have b4 : 0 ≤ h 20 2 ∧ h 20 2 ≤ 120 := hI.1 20 _
  have b5 : 0 ≤ h 35 4 ∧ h 35 4 ≤ 40 := hI.1 35 _
  have b6 : (-2147483648) ≤ h 53 1 ∧ h 53 1 ≤ 2147483647 := hI.1 53 _
  have b7 : (-2147483648) ≤ h 53 2 ∧ h 53 2 ≤ 2147483647 := hI.1 53 _
  refine fz_aload_n kL_world rfl rfl ?_
  refine fz_iconst ⟨by decide, by decide⟩ kL_world rfl ?_
  refine fz_callS (d' := 0) (M' := mL_at) (As := [fz_r 200, fz_i 0]) (st := []) kL_world rfl rfl vL_at rfl rfl (Nat.le_of_ble_eq_true rfl) (Nat.le_of_ble_eq_true rfl) (by decide) (sL_at h hI 0 (by omega) (by omega)) (fun H8 r9 q10 o11 => ?_)
  obtain ⟨e12, y14, rfl, f13⟩ := q10
  subst H8
  clear o11
  refine fz_istore (ls' := [(4, fz_i y14), (0, fz_r 0), (1, fz_r 200), (2, fz_r 53), (3, fz_r 205)]) kL_world rfl (by decide) rfl ?_
  refine fz_aload_n kL_world rfl rfl ?_
  refine fz_iconst ⟨by decide, by decide⟩ kL_world rfl ?_
  refine fz_iload kL_world rfl rfl ?_
  refine fz_bipush ⟨by decide, by decide⟩ kL_world rfl ?_
  refine fz_iand kL_world rfl ?_
  have b15 : -2147483648 ≤ (fz_and y14 7) ∧ (fz_and y14 7) < 2147483648 := fz_b32 _
  have b16 : 0 ≤ (fz_and y14 7) ∧ (fz_and y14 7) ≤ 7 := fz_and_m (by omega) (by omega)
  have J17 : ∀ j18 : Int, 0 ≤ j18 ∧ j18 ≤ 8 → fz_R 47 mL_world 39 [(4, fz_i y14), (0, fz_r 0), (1, fz_r 200), (2, fz_r 53), (3, fz_r 205)] [fz_i j18, fz_i 0, fz_r 53] h (qL_world h) := by
    intro j18 hj19
    refine fz_iast (n := 40) kL_world rfl rfl (by omega) (by omega) ?_
    refine fz_nmu (S := [(1, 7), (1, 8), (2, 99999), (3, 99999), (4, 99999), (5, 99999), (6, 99999), (7, 99999), (8, 99999), (9, 5), (10, 99999), (11, 99999), (12, 99999), (13, 99999), (14, 99999), (15, 4), (16, 99999), (17, 99999), (20, 2), (20, 3), (20, 4), (21, 4), (22, 99999), (23, 99999), (26, 99999), (27, 8), (27, 9), (28, 99999), (35, 4), (35, 5), (36, 99999), (37, 99999), (38, 99999), (39, 99999), (53, 99999)]) (h0 := h) (fz_Iv_up hI (by decide) (show ((-2147483648) : Int) ≤ j18 by omega) (show (j18 : Int) ≤ 2147483647 by omega)) (fz_fr_up hf rfl) (fun H21 hI22 hf23 e24 => ?_)
    have k25 : H21 1 7 = (h 1 7) := by rw [e24]; exact (fz_up_o (by decide)).trans rfl
    have k26 : H21 1 8 = (h 1 8) := by rw [e24]; exact (fz_up_o (by decide)).trans rfl
    have k27 : H21 9 5 = (h 9 5) := by rw [e24]; exact (fz_up_o (by decide)).trans rfl
    have k28 : H21 20 2 = (h 20 2) := by rw [e24]; exact (fz_up_o (by decide)).trans rfl
    have k29 : H21 35 4 = (h 35 4) := by rw [e24]; exact (fz_up_o (by decide)).trans rfl
    have t30 : H21 20 2 = h 20 2 := by rw [e24]; exact fz_up_o (by decide)
    have t31 : H21 35 4 = h 35 4 := by rw [e24]; exact fz_up_o (by decide)
    have t32 : H21 1 7 = h 1 7 := by rw [e24]; exact fz_up_o (by decide)
    have t33 : H21 1 8 = h 1 8 := by rw [e24]; exact fz_up_o (by decide)
    have t34 : H21 9 5 = h 9 5 := by rw [e24]; exact fz_up_o (by decide)
    have hX35 : fz_Xc H21 := by rw [e24]; exact fz_Xc_up (by decide) (by decide) (by decide) hX
    have hRE36 : fz_RE H21 := fz_RE_eq (by rw [e24]; exact fz_up_ne (by decide)) (by rw [e24]; exact fz_up_ne (by decide)) (by rw [e24]; exact fz_up_o (by decide)) (by rw [e24]; exact fz_up_o (by decide)) hRE
    have hRV37 : fz_RV H21 := fz_RV_eq (by rw [e24]; exact fz_up_ne (by decide)) (by rw [e24]; exact fz_up_ne (by decide)) (by rw [e24]; exact fz_up_ne (by decide)) (by rw [e24]; exact fz_up_ne (by decide)) (by rw [e24]; exact fz_up_ne (by decide)) (by rw [e24]; exact fz_up_ne (by decide)) (by rw [e24]; exact fz_up_o (by decide)) (by rw [e24]; exact fz_up_o (by decide)) hRV
    have t38 : H21 53 0 = j18 := by rw [e24]; exact fz_up_e
    have t39 : H21 53 1 = h 53 1 := by rw [e24]; exact fz_up_s (by decide)
    have t40 : H21 53 2 = h 53 2 := by rw [e24]; exact fz_up_s (by decide)
    refine fz_iconst ⟨by decide, by decide⟩ kL_world rfl ?_
    refine fz_istore (ls' := [(5, fz_i 0), (4, fz_i y14), (0, fz_r 0), (1, fz_r 200), (2, fz_r 53), (3, fz_r 205)]) kL_world rfl (by decide) rfl ?_
    have hL141 : st_L1 H21 := fun r hr => absurd hr (by omega)
    have lp52 : ∀ (n51 : Nat) (x43 : Int) (H48 : fz_H), fz_Iv H48 → fz_fr [(1, 7), (1, 8), (2, 99999), (3, 99999), (4, 99999), (5, 99999), (6, 99999), (7, 99999), (8, 99999), (9, 5), (10, 99999), (11, 99999), (12, 99999), (13, 99999), (14, 99999), (15, 4), (16, 99999), (17, 99999), (20, 2), (20, 3), (20, 4), (21, 4), (22, 99999), (23, 99999), (26, 99999), (27, 8), (27, 9), (28, 99999), (35, 4), (35, 5), (36, 99999), (37, 99999), (38, 99999), (39, 99999), (53, 99999)] h H48 → fz_RE H48 → fz_RV H48 → fz_Xc H48 → st_L1 H48 → (0 ≤ x43 ∧ x43 ≤ 8) → (H48 53 0 = j18) → (H48 53 1 = H48 1 8) → (H48 53 2 = H48 9 5) → (H48 20 2 = 0) → (H48 1 7 = x43) → (x43 ≤ j18) → (H48 1 8 = 0) → (H48 9 5 = 0) → (H48 35 4 = 0) → (j18 - x43).toNat < n51 → fz_R 47 mL_world 43 [(5, fz_i x43), (4, fz_i y14), (0, fz_r 0), (1, fz_r 200), (2, fz_r 53), (3, fz_r 205)] [] H48 (qL_world h) := by
      intro n51
      induction n51 with
      | zero => intro x43 H48 hI49 hf50 hRE44 hRV45 hXq46 hL147 hv55 hv56 hv57 hv58 hv59 hv60 hv61 hv62 hv63 hv64 hm54; exact absurd hm54 (by omega)
      | succ n51 ih53 =>
        intro x43 H48 hI49 hf50 hRE44 hRV45 hXq46 hL147 hv55 hv56 hv57 hv58 hv59 hv60 hv61 hv62 hv63 hv64 hm54
        refine fz_iload kL_world rfl rfl ?_
        refine fz_aload_n kL_world rfl rfl ?_
        refine fz_iconst ⟨by decide, by decide⟩ kL_world rfl ?_
        obtain ⟨v65, e66⟩ : ∃ z, H48 53 (0) = z := ⟨_, rfl⟩
        refine fz_ialdV (n := 40) (v := v65) kL_world rfl rfl (by omega) (by omega) e66 ?_
        have b67 : (-2147483648) ≤ v65 ∧ v65 ≤ 2147483647 := by rw [← e66]; exact hI49.1 53 _
        refine fz_icmp_ge (tgt := 101) kL_world rfl (by decide) (fun c68 => ?_) (fun c68 => ?_)
        · refine fz_sub (fz_pk_sub (ls' := [(4, fz_i y14), (0, fz_r 0), (1, fz_r 200), (2, fz_r 53), (3, fz_r 205)]) [1, 2, 3, 4, 5] rfl) ?_
          exact sL_w101 h H48 y14 j18 hI49 hf50 hXq46 hRE44 hRV45 hL147 hp0 hp1 hp2 hp3 (by omega) (by omega) (by omega) (by omega) (by omega) (by omega) (by omega) (by omega) (by omega) (by omega)
        · refine fz_aload_n kL_world rfl rfl ?_
          refine fz_iconst ⟨by decide, by decide⟩ kL_world rfl ?_
          refine fz_iload kL_world rfl rfl ?_
          refine fz_iaddN kL_world rfl (by omega) ?_
          refine fz_iload kL_world rfl rfl ?_
          refine fz_bipush ⟨by decide, by decide⟩ kL_world rfl ?_
          refine fz_ishr kL_world rfl ?_
          have b69 : -2147483648 ≤ (fz_shr y14 6) ∧ (fz_shr y14 6) < 2147483648 := fz_b32 _
          refine fz_iconst ⟨by decide, by decide⟩ kL_world rfl ?_
          refine fz_iand kL_world rfl ?_
          have b71 : -2147483648 ≤ (fz_and (fz_shr y14 6) 1) ∧ (fz_and (fz_shr y14 6) 1) < 2147483648 := fz_b32 _
          have b72 : 0 ≤ (fz_and (fz_shr y14 6) 1) ∧ (fz_and (fz_shr y14 6) 1) ≤ 1 := fz_and_m (by omega) (by omega)
          have J73 : ∀ j74 : Int, 0 ≤ j74 ∧ j74 ≤ 9 → fz_R 47 mL_world 83 [(5, fz_i x43), (4, fz_i y14), (0, fz_r 0), (1, fz_r 200), (2, fz_r 53), (3, fz_r 205)] [fz_i j74, fz_i (5 + x43), fz_r 53] H48 (qL_world h) := by
            intro j74 hj75
            refine fz_iast (n := 40) kL_world rfl rfl (by omega) (by omega) ?_
            refine fz_nmu (S := [(1, 7), (1, 8), (2, 99999), (3, 99999), (4, 99999), (5, 99999), (6, 99999), (7, 99999), (8, 99999), (9, 5), (10, 99999), (11, 99999), (12, 99999), (13, 99999), (14, 99999), (15, 4), (16, 99999), (17, 99999), (20, 2), (20, 3), (20, 4), (21, 4), (22, 99999), (23, 99999), (26, 99999), (27, 8), (27, 9), (28, 99999), (35, 4), (35, 5), (36, 99999), (37, 99999), (38, 99999), (39, 99999), (53, 99999)]) (h0 := h) (fz_Iv_up hI49 (by decide) (show ((-2147483648) : Int) ≤ j74 by omega) (show (j74 : Int) ≤ 2147483647 by omega)) (fz_fr_up hf50 rfl) (fun H77 hI78 hf79 e80 => ?_)
            have t81 : H77 20 2 = H48 20 2 := by rw [e80]; exact fz_up_o (by decide)
            have t82 : H77 35 4 = H48 35 4 := by rw [e80]; exact fz_up_o (by decide)
            have t83 : H77 1 7 = H48 1 7 := by rw [e80]; exact fz_up_o (by decide)
            have t84 : H77 1 8 = H48 1 8 := by rw [e80]; exact fz_up_o (by decide)
            have t85 : H77 9 5 = H48 9 5 := by rw [e80]; exact fz_up_o (by decide)
            have hX86 : fz_Xc H77 := by rw [e80]; exact fz_Xc_up (by decide) (by decide) (by decide) hXq46
            have hRE87 : fz_RE H77 := fz_RE_eq (by rw [e80]; exact fz_up_ne (by decide)) (by rw [e80]; exact fz_up_ne (by decide)) (by rw [e80]; exact fz_up_o (by decide)) (by rw [e80]; exact fz_up_o (by decide)) hRE44
            have hRV88 : fz_RV H77 := fz_RV_eq (by rw [e80]; exact fz_up_ne (by decide)) (by rw [e80]; exact fz_up_ne (by decide)) (by rw [e80]; exact fz_up_ne (by decide)) (by rw [e80]; exact fz_up_ne (by decide)) (by rw [e80]; exact fz_up_ne (by decide)) (by rw [e80]; exact fz_up_ne (by decide)) (by rw [e80]; exact fz_up_o (by decide)) (by rw [e80]; exact fz_up_o (by decide)) hRV45
            have hL189 : st_L1 H77 := st_L1_eq (by rw [e80]; exact fz_up_ne (by decide)) (by rw [e80]; exact fz_up_o (by decide)) hL147
            have t90 : H77 53 0 = H48 53 0 := by rw [e80]; exact fz_up_s (by omega)
            have t91 : H77 53 1 = H48 53 1 := by rw [e80]; exact fz_up_s (by omega)
            have t92 : H77 53 2 = H48 53 2 := by rw [e80]; exact fz_up_s (by omega)
            refine fz_aload_n kL_world rfl rfl ?_
            refine fz_aload_n kL_world rfl rfl ?_
            refine fz_iconst ⟨by decide, by decide⟩ kL_world rfl ?_
            refine fz_iload kL_world rfl rfl ?_
            refine fz_iaddN kL_world rfl (by omega) ?_
            obtain ⟨v93, e94⟩ : ∃ z, H77 53 ((5 + x43).toNat) = z := ⟨_, rfl⟩
            refine fz_ialdV (n := 40) (v := v93) kL_world rfl rfl (by omega) (by omega) e94 ?_
            have b95 : (-2147483648) ≤ v93 ∧ v93 ≤ 2147483647 := by rw [← e94]; exact hI78.1 53 _
            have k96 := e94.symm.trans ((congrFun (congrFun e80 53) _).trans fz_up_e)
            have b97 : 0 ≤ H77 1 7 ∧ H77 1 7 ≤ 8 := hI78.1 1 _
            refine fz_callV (d' := 4) (M' := mX10_town) (As := [fz_i v93]) (st := []) kL_world rfl rfl vX10_town rfl rfl rfl rfl (Nat.le_of_ble_eq_true rfl) (Nat.le_of_ble_eq_true rfl) (by decide) (sX10_town H77 hI78 v93 hRE87 hRV88) (fun H98 r99 q100 o101 => ?_)
            obtain ⟨hI102, hf103, hRE104, hRV105, y109, rfl, f106, f107, f108⟩ := q100
            clear o101
            have hf110 := fz_fr_tr hf79 hf103 (show fz_su [(1, 7), (2, 99999), (7, 99999), (8, 99999)] [(1, 7), (1, 8), (2, 99999), (3, 99999), (4, 99999), (5, 99999), (6, 99999), (7, 99999), (8, 99999), (9, 5), (10, 99999), (11, 99999), (12, 99999), (13, 99999), (14, 99999), (15, 4), (16, 99999), (17, 99999), (20, 2), (20, 3), (20, 4), (21, 4), (22, 99999), (23, 99999), (26, 99999), (27, 8), (27, 9), (28, 99999), (35, 4), (35, 5), (36, 99999), (37, 99999), (38, 99999), (39, 99999), (53, 99999)] = true from rfl)
            have hL1111 : st_L1 H98 := st_L1_eq (funext fun s => hf103 3 s rfl) (hf103 1 8 rfl) hL189
            have hX112 : fz_Xc H98 := fz_Xc_fr hf103 rfl hX86
            have t113 : H98 53 0 = H77 53 0 := hf103 53 0 rfl
            have t114 : H98 53 1 = H77 53 1 := hf103 53 1 rfl
            have t115 : H98 53 2 = H77 53 2 := hf103 53 2 rfl
            have t116 : H98 20 2 = H77 20 2 := hf103 20 2 rfl
            have t117 : H98 35 4 = H77 35 4 := hf103 35 4 rfl
            have t118 : H98 1 8 = H77 1 8 := hf103 1 8 rfl
            have t119 : H98 9 5 = H77 9 5 := hf103 9 5 rfl
            refine fz_pop rfl kL_world rfl ?_
            refine fz_iincN (ls' := [(5, fz_i (x43 + 1)), (4, fz_i y14), (0, fz_r 0), (1, fz_r 200), (2, fz_r 53), (3, fz_r 205)]) kL_world rfl (by decide) rfl (by omega) rfl ?_
            refine fz_goto (tgt := 43) kL_world rfl (by decide) ?_
            exact ih53 (x43 + 1) H98 hI102 hf110 hRE104 hRV105 hX112 hL1111 (by omega) (by omega) (by omega) (by omega) (by omega) (by omega) (by omega) (by omega) (by omega) (by omega) (by omega)
          refine fz_if_ne (tgt := 70) kL_world rfl (by decide) (fun c120 => ?_) (fun c120 => ?_)
          · refine fz_iload kL_world rfl rfl ?_
            refine fz_bipush ⟨by decide, by decide⟩ kL_world rfl ?_
            refine fz_iload kL_world rfl rfl ?_
            refine fz_iaddN kL_world rfl (by omega) ?_
            refine fz_ishr kL_world rfl ?_
            have b121 : -2147483648 ≤ (fz_shr y14 (7 + x43)) ∧ (fz_shr y14 (7 + x43)) < 2147483648 := fz_b32 _
            refine fz_bipush ⟨by decide, by decide⟩ kL_world rfl ?_
            refine fz_callS (d' := 0) (M' := mL_some) (As := [fz_i (fz_shr y14 (7 + x43)), fz_i 10]) (st := [fz_i (5 + x43), fz_r 53]) kL_world rfl rfl vL_some rfl rfl (Nat.le_of_ble_eq_true rfl) (Nat.le_of_ble_eq_true rfl) (by decide) (sL_some H48 hI49 (fz_shr y14 (7 + x43)) 10 (by omega)) (fun H123 r124 q125 o126 => ?_)
            obtain ⟨e127, y131, rfl, f128, f129, f130⟩ := q125
            subst H123
            clear o126
            exact J73 y131 (by omega)
          · refine fz_iconst ⟨by decide, by decide⟩ kL_world rfl ?_
            refine fz_goto (tgt := 83) kL_world rfl (by decide) ?_
            exact J73 0 (by omega)
    exact lp52 _ 0 H21 hI22 hf23 hRE36 hRV37 hX35 hL141 (by omega) (by omega) (by omega) (by omega) (by omega) (by omega) (by omega) (by omega) (by omega) (by omega) (Nat.lt_succ_self _)
  refine fz_if_ne (tgt := 29) kL_world rfl (by decide) (fun c132 => ?_) (fun c132 => ?_)
  · refine fz_iconst ⟨by decide, by decide⟩ kL_world rfl ?_
    refine fz_iload kL_world rfl rfl ?_
    refine fz_iconst ⟨by decide, by decide⟩ kL_world rfl ?_
    refine fz_ishr kL_world rfl ?_
    have b133 : -2147483648 ≤ (fz_shr y14 3) ∧ (fz_shr y14 3) < 2147483648 := fz_b32 _
    refine fz_iconst ⟨by decide, by decide⟩ kL_world rfl ?_
    refine fz_callS (d' := 0) (M' := mL_some) (As := [fz_i (fz_shr y14 3), fz_i 5]) (st := [fz_i 2, fz_i 0, fz_r 53]) kL_world rfl rfl vL_some rfl rfl (Nat.le_of_ble_eq_true rfl) (Nat.le_of_ble_eq_true rfl) (by decide) (sL_some h hI (fz_shr y14 3) 5 (by omega)) (fun H135 r136 q137 o138 => ?_)
    obtain ⟨e139, y143, rfl, f140, f141, f142⟩ := q137
    subst H135
    clear o138
    refine fz_iaddN kL_world rfl (by omega) ?_
    exact J17 (2 + y143) (by omega)
  · refine fz_iload kL_world rfl rfl ?_
    refine fz_iconst ⟨by decide, by decide⟩ kL_world rfl ?_
    refine fz_ishr kL_world rfl ?_
    have b144 : -2147483648 ≤ (fz_shr y14 3) ∧ (fz_shr y14 3) < 2147483648 := fz_b32 _
    refine fz_bipush ⟨by decide, by decide⟩ kL_world rfl ?_
    refine fz_callS (d' := 0) (M' := mL_some) (As := [fz_i (fz_shr y14 3), fz_i 9]) (st := [fz_i 0, fz_r 53]) kL_world rfl rfl vL_some rfl rfl (Nat.le_of_ble_eq_true rfl) (Nat.le_of_ble_eq_true rfl) (by decide) (sL_some h hI (fz_shr y14 3) 9 (by omega)) (fun H146 r147 q148 o149 => ?_)
    obtain ⟨e150, y154, rfl, f151, f152, f153⟩ := q148
    subst H146
    clear o149
    refine fz_goto (tgt := 39) kL_world rfl (by decide) ?_
    exact J17 y154 (by omega)
