/-! ===== helps for the law's own methods ===== -/
theorem st_tmod {v n : Int} (hv : -2147483648 ≤ v ∧ v ≤ 2147483647) (hn : 1 ≤ n ∧ n ≤ 1000) : fz_w (Int.tmod v n) = Int.tmod v n ∧ -n < Int.tmod v n ∧ Int.tmod v n < n ∧ (0 ≤ Int.tmod v n → Int.tmod v n = v % n) ∧ (Int.tmod v n < 0 → Int.tmod v n + n = v % n) := by
  have t1 : (Int.tmod v n).natAbs < n.natAbs := by
    rw [Int.natAbs_tmod]
    exact Nat.mod_lt _ (by omega)
  have e : n * Int.tdiv v n + Int.tmod v n = v := Int.mul_tdiv_add_tmod v n
  have m : ∀ k : Int, (Int.tmod v n + k * n) % n = v % n := fun k => by
    have e2 : v = Int.tmod v n + k * n + n * (Int.tdiv v n - k) := by
      have e3 : n * (Int.tdiv v n - k) = n * Int.tdiv v n - n * k := Int.mul_sub _ _ _
      have e4 : n * k = k * n := Int.mul_comm _ _
      omega
    have e5 : (Int.tmod v n + k * n + n * (Int.tdiv v n - k)) % n = (Int.tmod v n + k * n) % n := Int.add_mul_emod_self_left _ _ _
    rw [← e2] at e5
    exact e5.symm
  refine ⟨fz_w_id (by omega) (by omega), by omega, by omega, fun h => ?_, fun h => ?_⟩
  · have := m 0
    rw [Int.zero_mul, Int.add_zero, Int.emod_eq_of_lt h (by omega)] at this
    exact this
  · have := m 1
    rw [Int.one_mul, Int.emod_eq_of_lt (by omega) (by omega)] at this
    exact this
theorem st_oth {a q n o : Int} (ha : 0 ≤ a ∧ a < n) (hq : 0 ≤ q ∧ q < n - 1) (e : o = (a + 1 + q) % n) : o ≠ a ∧ 0 ≤ o ∧ o < n := by
  by_cases c : a + 1 + q < n
  · rw [Int.emod_eq_of_lt (by omega) c] at e
    omega
  · have e2 : (a + 1 + q - n + n * 1) % n = (a + 1 + q - n) % n := Int.add_mul_emod_self_left _ _ _
    rw [show a + 1 + q - n + n * 1 = a + 1 + q by omega, Int.emod_eq_of_lt (show 0 ≤ a + 1 + q - n by omega) (by omega)] at e2
    rw [e2] at e
    omega
theorem st_lC {nu wh : Int} : (fz_lC nu wh).1 ≤ 28 := by
  unfold fz_lC
  by_cases c0 : wh = 0
  · rw [if_pos c0]; exact (by decide : 2 ≤ 28)
  rw [if_neg c0]
  by_cases c1 : wh = 1
  · rw [if_pos c1]; exact (by decide : 3 ≤ 28)
  rw [if_neg c1]
  by_cases c2 : wh = 2
  · rw [if_pos c2]; exact (by decide : 4 ≤ 28)
  rw [if_neg c2]
  by_cases c3 : wh = 3
  · rw [if_pos c3]; exact (by decide : 12 ≤ 28)
  rw [if_neg c3]
  by_cases c4 : wh = 4
  · rw [if_pos c4]; exact (by decide : 13 ≤ 28)
  rw [if_neg c4]
  by_cases c5 : wh = 5
  · rw [if_pos c5]; exact (by decide : 14 ≤ 28)
  rw [if_neg c5]
  by_cases c6 : wh = 6
  · rw [if_pos c6]; exact (by decide : 28 ≤ 28)
  rw [if_neg c6]
  by_cases c7 : wh = 7
  · rw [if_pos c7]; exact (by decide : 27 ≤ 28)
  rw [if_neg c7]
  exact (by decide : 27 ≤ 28)
theorem st_aC {h h' : fz_H} {nu wh v : Int} {c : Nat} (a : fz_aC h h' nu wh v) (hc : 29 ≤ c) : h' c = h c := by
  rw [a c (by omega) (by omega)]
  exact fz_up_ne (by have := @st_lC nu wh; omega)
/-- a change adds at most one to the tape of changes -/
theorem st_mC_d {h h' : fz_H} {nu wh v r : Int} (m : fz_mC h h' nu wh v r) (hI : fz_Iv h') : h' 35 4 ≤ h 35 4 + 1 ∧ 0 ≤ h' 35 4 := by
  have b := hI.1 35 4
  have b2 : (0 : Int) ≤ h' 35 4 := b.1
  rcases m with ⟨-, -, e⟩ | ⟨-, -, -, e⟩ | ⟨-, -, -, g, c, f, a⟩
  · rw [e] at b2 ⊢; omega
  · rw [e] at b2 ⊢; omega
  · have e : h' 35 = g 35 := st_aC a (by decide)
    rw [e] at b2 ⊢
    rcases c with ⟨-, c1, -⟩ | ⟨hd, g1, -, c1, -⟩
    · omega
    · omega
abbrev qL_at (h : fz_H) (k : Int) : fz_H → Option fz_V → Prop := fun h' r0 => h' = h ∧ ∃ r : Int, r0 = some (fz_i r) ∧ ((-2147483648) ≤ r ∧ r ≤ 2147483647)
set_option maxHeartbeats 1000000 in
set_option maxRecDepth 100000 in
theorem sL_at (h : fz_H) (hI : fz_Iv h) (k : Int) (hp0 : 0 ≤ k) (hp1 : 0 ≤ h 200 100000 ∧ h 200 100000 ≤ 3072) : fz_R 0 mL_at 0 [(0, fz_r 200), (1, fz_i k)] [] h (qL_at h k) := by
  refine fz_knowl (fun hk => ?_)
  have hr_k : -2147483648 ≤ k ∧ k < 2147483648 := hk _ (List.Mem.tail _ (List.Mem.head _))
  clear hk
  refine fz_iload_n kL_at rfl rfl ?_
  refine fz_aload_n kL_at rfl rfl ?_
  refine fz_tlen kL_at rfl ⟨by decide, by decide⟩ (by omega) ?_
  refine fz_icmp_ge (tgt := 12) kL_at rfl (by decide) (fun c1 => ?_) (fun c1 => ?_)
  · refine fz_iconst ⟨by decide, by decide⟩ kL_at rfl ?_
    exact fz_iret kL_at rfl rfl (fun _ => ⟨rfl, _, rfl, (by omega)⟩)
  · refine fz_aload_n kL_at rfl rfl ?_
    refine fz_iload_n kL_at rfl rfl ?_
    obtain ⟨a2, e3⟩ : ∃ z, h 200 (k).toNat = z := ⟨_, rfl⟩
    refine fz_taldV (v := a2) kL_at rfl ⟨by decide, by decide⟩ (by omega) (by omega) e3 ?_
    refine fz_goto (tgt := 13) kL_at rfl (by decide) ?_
    exact fz_iret kL_at rfl rfl (fun _ => ⟨rfl, _, rfl, (by omega)⟩)

abbrev qL_some (h : fz_H) (v n : Int) : fz_H → Option fz_V → Prop := fun h' r0 => h' = h ∧ ∃ r : Int, r0 = some (fz_i r) ∧ ((-2147483647) ≤ r ∧ r ≤ 2147483647) ∧ (0 ≤ r ∧ r < n) ∧ (r = v % n)
set_option maxHeartbeats 1000000 in
set_option maxRecDepth 100000 in
theorem sL_some (h : fz_H) (hI : fz_Iv h) (v n : Int) (hp0 : 1 ≤ n ∧ n ≤ 1000) : fz_R 0 mL_some 0 [(0, fz_i v), (1, fz_i n)] [] h (qL_some h v n) := by
  refine fz_knowl (fun hk => ?_)
  have hr_v : -2147483648 ≤ v ∧ v < 2147483648 := hk _ (List.Mem.head _)
  have hr_n : -2147483648 ≤ n ∧ n < 2147483648 := hk _ (List.Mem.tail _ (List.Mem.head _))
  clear hk
  refine fz_iload_n kL_some rfl rfl ?_
  refine fz_iload_n kL_some rfl rfl ?_
  refine fz_irem (by omega) kL_some rfl ?_
  have b1 := fz_w_b (Int.tmod v n)
  have k2 := st_tmod (v := v) (n := n) (by omega) (by omega)
  refine fz_istore_n (ls' := [(2, fz_i (fz_w (Int.tmod v n))), (0, fz_i v), (1, fz_i n)]) kL_some rfl (by decide) rfl ?_
  refine fz_iload_n kL_some rfl rfl ?_
  refine fz_if_ge (tgt := 14) kL_some rfl (by decide) (fun c4 => ?_) (fun c4 => ?_)
  · refine fz_iload_n kL_some rfl rfl ?_
    exact fz_iret kL_some rfl rfl (fun _ => ⟨rfl, _, rfl, (by omega), (by omega), (by omega)⟩)
  · refine fz_iload_n kL_some rfl rfl ?_
    refine fz_iload_n kL_some rfl rfl ?_
    refine fz_iaddN kL_some rfl (by omega) ?_
    refine fz_goto (tgt := 15) kL_some rfl (by decide) ?_
    exact fz_iret kL_some rfl rfl (fun _ => ⟨rfl, _, rfl, (by omega), (by omega), (by omega)⟩)

abbrev qL_world (h : fz_H) : fz_H → Option fz_V → Prop := fun h' r0 => fz_Iv h' ∧ fz_fr [(1, 7), (1, 8), (2, 99999), (3, 99999), (4, 99999), (5, 99999), (6, 99999), (7, 99999), (8, 99999), (9, 5), (10, 99999), (11, 99999), (12, 99999), (13, 99999), (14, 99999), (15, 4), (16, 99999), (17, 99999), (20, 2), (20, 3), (20, 4), (21, 4), (22, 99999), (23, 99999), (26, 99999), (27, 8), (27, 9), (28, 99999), (35, 4), (35, 5), (36, 99999), (37, 99999), (38, 99999), (39, 99999), (53, 99999)] h h' ∧ fz_Xc h' ∧ fz_RE h' ∧ fz_RV h' ∧ r0 = none ∧ h' 53 0 = h' 1 7 ∧ h' 53 1 = h' 1 8 ∧ h' 53 2 = h' 9 5 ∧ h' 9 5 ≤ 8 ∧ h' 20 2 = 0 ∧ h' 35 4 ≤ 19 ∧ fz_RP2 h'
set_option maxHeartbeats 1000000 in
set_option maxRecDepth 100000 in
theorem sL_w669 (h H : fz_H) (b0 : Int) (hI : fz_Iv H) (hf : fz_fr [(1, 7), (1, 8), (2, 99999), (3, 99999), (4, 99999), (5, 99999), (6, 99999), (7, 99999), (8, 99999), (9, 5), (10, 99999), (11, 99999), (12, 99999), (13, 99999), (14, 99999), (15, 4), (16, 99999), (17, 99999), (20, 2), (20, 3), (20, 4), (21, 4), (22, 99999), (23, 99999), (26, 99999), (27, 8), (27, 9), (28, 99999), (35, 4), (35, 5), (36, 99999), (37, 99999), (38, 99999), (39, 99999), (53, 99999)] h H) (hX : fz_Xc H) (hRE : fz_RE H) (hRV : fz_RV H) (hRP2 : fz_RP2 H) (hp0 : 0 ≤ h 200 100000 ∧ h 200 100000 ≤ 3072) (hp1 : 0 ≤ h 205 100000 ∧ h 205 100000 ≤ 120) (hp2 : h 1 7 = 0 ∧ h 1 8 = 0 ∧ h 9 5 = 0 ∧ h 20 2 = 0 ∧ h 35 4 = 0) (hp3 : h 53 1 = 0 ∧ h 53 2 = 0) (hq0 : 0 ≤ b0 ∧ b0 ≤ 8) (hq1 : H 53 0 = b0) (hq2 : H 53 1 = H 1 8) (hq3 : H 53 2 = H 9 5) (hq4 : H 20 2 = 0) (hq5 : H 1 7 = b0) (hq6 : H 9 5 ≤ 8) (hq7 : 0 ≤ H 35 4 ∧ H 35 4 ≤ 19) : fz_R 47 mL_world 669 [(0, fz_r 0), (1, fz_r 200), (2, fz_r 53), (3, fz_r 205)] [] H (qL_world h) := by
  refine fz_iconst ⟨by decide, by decide⟩ kL_world rfl ?_
  refine fz_istore (ls' := [(7, fz_i 0), (0, fz_r 0), (1, fz_r 200), (2, fz_r 53), (3, fz_r 205)]) kL_world rfl (by decide) rfl ?_
  have lp10 : ∀ (n9 : Nat) (x1 : Int) (H6 : fz_H), fz_Iv H6 → fz_fr [(1, 7), (1, 8), (2, 99999), (3, 99999), (4, 99999), (5, 99999), (6, 99999), (7, 99999), (8, 99999), (9, 5), (10, 99999), (11, 99999), (12, 99999), (13, 99999), (14, 99999), (15, 4), (16, 99999), (17, 99999), (20, 2), (20, 3), (20, 4), (21, 4), (22, 99999), (23, 99999), (26, 99999), (27, 8), (27, 9), (28, 99999), (35, 4), (35, 5), (36, 99999), (37, 99999), (38, 99999), (39, 99999), (53, 99999)] h H6 → fz_RE H6 → fz_RV H6 → fz_RP2 H6 → fz_Xc H6 → (0 ≤ x1 ∧ x1 ≤ 120) → (H6 53 0 = b0) → (H6 53 1 = H6 1 8) → (H6 53 2 = H6 9 5) → (H6 1 7 = b0) → (H6 9 5 ≤ 8) → (0 ≤ H6 35 4 ∧ H6 35 4 ≤ 19) → (x1 ≤ h 205 100000) → (1 ≤ x1 ∨ H6 20 2 = 0) → (h 205 100000 - x1).toNat < n9 → fz_R 47 mL_world 672 [(7, fz_i x1), (0, fz_r 0), (1, fz_r 200), (2, fz_r 53), (3, fz_r 205)] [] H6 (qL_world h) := by
    intro n9
    induction n9 with
    | zero => intro x1 H6 hI7 hf8 hRE2 hRV3 hRP24 hXq5 hv13 hv14 hv15 hv16 hv17 hv18 hv19 hv20 hv21 hm12; exact absurd hm12 (by omega)
    | succ n9 ih11 =>
      intro x1 H6 hI7 hf8 hRE2 hRV3 hRP24 hXq5 hv13 hv14 hv15 hv16 hv17 hv18 hv19 hv20 hv21 hm12
      refine fz_iload kL_world rfl rfl ?_
      refine fz_aload_n kL_world rfl rfl ?_
      have e22 : H6 205 100000 = h 205 100000 := hf8 205 100000 rfl
      refine fz_slen kL_world rfl rfl (by omega) (Nat.le_of_ble_eq_true rfl) (by decide) ?_
      rw [e22]
      refine fz_icmp_ge (tgt := 698) kL_world rfl (by decide) (fun c23 => ?_) (fun c23 => ?_)
      · refine fz_aload_n kL_world rfl rfl ?_
        have e24 : H6 205 100000 = h 205 100000 := hf8 205 100000 rfl
        refine fz_slen kL_world rfl rfl (by omega) (Nat.le_of_ble_eq_true rfl) (by decide) ?_
        rw [e24]
        refine fz_if_le (tgt := 710) kL_world rfl (by decide) (fun c25 => ?_) (fun c25 => ?_)
        · exact fz_vret kL_world rfl rfl ⟨hI7, hf8, hXq5, hRE2, hRV3, rfl, (by omega), (by omega), (by omega), (by omega), (by omega), (by omega), (by exact hRP24)⟩
        · refine fz_aload_n kL_world rfl rfl ?_
          refine fz_callV (d' := 46) (M' := mX10_law) (As := []) (st := []) kL_world rfl rfl vX10_law rfl rfl rfl rfl (Nat.le_of_ble_eq_true rfl) (Nat.le_of_ble_eq_true rfl) (by decide) (sX10_law H6 hI7  ) (fun H27 r28 q29 o30 => ?_)
          obtain ⟨hI31, hf32, y36, rfl, f33, f34, f35⟩ := q29
          clear o30
          have hf37 := fz_fr_tr hf8 hf32 (show fz_su [(15, 4), (16, 99999), (17, 99999), (20, 2), (20, 3), (20, 4), (21, 4), (22, 99999), (23, 99999)] [(1, 7), (1, 8), (2, 99999), (3, 99999), (4, 99999), (5, 99999), (6, 99999), (7, 99999), (8, 99999), (9, 5), (10, 99999), (11, 99999), (12, 99999), (13, 99999), (14, 99999), (15, 4), (16, 99999), (17, 99999), (20, 2), (20, 3), (20, 4), (21, 4), (22, 99999), (23, 99999), (26, 99999), (27, 8), (27, 9), (28, 99999), (35, 4), (35, 5), (36, 99999), (37, 99999), (38, 99999), (39, 99999), (53, 99999)] = true from rfl)
          have hRE38 : fz_RE H27 := fz_RE_eq (funext fun s => hf32 5 s rfl) (funext fun s => hf32 6 s rfl) (hf32 1 8 rfl) (hf32 1 7 rfl) hRE2
          have hRV39 : fz_RV H27 := fz_RV_eq (funext fun s => hf32 7 s rfl) (funext fun s => hf32 8 s rfl) (funext fun s => hf32 3 s rfl) (funext fun s => hf32 4 s rfl) (funext fun s => hf32 5 s rfl) (funext fun s => hf32 6 s rfl) (hf32 1 7 rfl) (hf32 1 8 rfl) hRV3
          have hRP240 : fz_RP2 H27 := fz_RP2_eq (funext fun s => hf32 11 s rfl) (hf32 9 5 rfl) (hf32 1 7 rfl) hRP24
          have hX41 : fz_Xc H27 := fz_Xc_fr hf32 rfl hXq5
          have t42 : H27 53 0 = H6 53 0 := hf32 53 0 rfl
          have t43 : H27 53 1 = H6 53 1 := hf32 53 1 rfl
          have t44 : H27 53 2 = H6 53 2 := hf32 53 2 rfl
          have t45 : H27 35 4 = H6 35 4 := hf32 35 4 rfl
          have t46 : H27 1 7 = H6 1 7 := hf32 1 7 rfl
          have t47 : H27 1 8 = H6 1 8 := hf32 1 8 rfl
          have t48 : H27 9 5 = H6 9 5 := hf32 9 5 rfl
          refine fz_pop rfl kL_world rfl ?_
          exact fz_vret kL_world rfl rfl ⟨hI31, hf37, hX41, hRE38, hRV39, rfl, (by omega), (by omega), (by omega), (by omega), (by omega), (by omega), (by exact hRP240)⟩
      · refine fz_aload_n kL_world rfl rfl ?_
        refine fz_aload_n kL_world rfl rfl ?_
        refine fz_iload kL_world rfl rfl ?_
        have e50 : H6 205 100000 = h 205 100000 := hf8 205 100000 rfl
        refine fz_sat (i := x1) kL_world rfl rfl (by omega) (Nat.le_of_ble_eq_true rfl) (by decide) (fun z51 e52 => ?_)
        have b53 : 0 ≤ H6 20 2 ∧ H6 20 2 ≤ 120 := hI7.1 20 _
        refine fz_callV (d' := 1) (M' := mX10_feed) (As := [fz_i z51]) (st := []) kL_world rfl rfl vX10_feed rfl rfl rfl rfl (Nat.le_of_ble_eq_true rfl) (Nat.le_of_ble_eq_true rfl) (by decide) (sX10_feed H6 hI7 z51 ) (fun H54 r55 q56 o57 => ?_)
        obtain ⟨hI58, hf59, y64, rfl, f60, f61, f62, f63⟩ := q56
        clear o57
        have hf65 := fz_fr_tr hf8 hf59 (show fz_su [(20, 2), (26, 99999)] [(1, 7), (1, 8), (2, 99999), (3, 99999), (4, 99999), (5, 99999), (6, 99999), (7, 99999), (8, 99999), (9, 5), (10, 99999), (11, 99999), (12, 99999), (13, 99999), (14, 99999), (15, 4), (16, 99999), (17, 99999), (20, 2), (20, 3), (20, 4), (21, 4), (22, 99999), (23, 99999), (26, 99999), (27, 8), (27, 9), (28, 99999), (35, 4), (35, 5), (36, 99999), (37, 99999), (38, 99999), (39, 99999), (53, 99999)] = true from rfl)
        have hRE66 : fz_RE H54 := fz_RE_eq (funext fun s => hf59 5 s rfl) (funext fun s => hf59 6 s rfl) (hf59 1 8 rfl) (hf59 1 7 rfl) hRE2
        have hRV67 : fz_RV H54 := fz_RV_eq (funext fun s => hf59 7 s rfl) (funext fun s => hf59 8 s rfl) (funext fun s => hf59 3 s rfl) (funext fun s => hf59 4 s rfl) (funext fun s => hf59 5 s rfl) (funext fun s => hf59 6 s rfl) (hf59 1 7 rfl) (hf59 1 8 rfl) hRV3
        have hRP268 : fz_RP2 H54 := fz_RP2_eq (funext fun s => hf59 11 s rfl) (hf59 9 5 rfl) (hf59 1 7 rfl) hRP24
        have hX69 : fz_Xc H54 := fz_Xc_fr hf59 rfl hXq5
        have t70 : H54 53 0 = H6 53 0 := hf59 53 0 rfl
        have t71 : H54 53 1 = H6 53 1 := hf59 53 1 rfl
        have t72 : H54 53 2 = H6 53 2 := hf59 53 2 rfl
        have t73 : H54 35 4 = H6 35 4 := hf59 35 4 rfl
        have t74 : H54 1 7 = H6 1 7 := hf59 1 7 rfl
        have t75 : H54 1 8 = H6 1 8 := hf59 1 8 rfl
        have t76 : H54 9 5 = H6 9 5 := hf59 9 5 rfl
        refine fz_pop rfl kL_world rfl ?_
        refine fz_iincN (ls' := [(7, fz_i (x1 + 1)), (0, fz_r 0), (1, fz_r 200), (2, fz_r 53), (3, fz_r 205)]) kL_world rfl (by decide) rfl (by omega) rfl ?_
        refine fz_goto (tgt := 672) kL_world rfl (by decide) ?_
        exact ih11 (x1 + 1) H54 hI58 hf65 hRE66 hRV67 hRP268 hX69 (by omega) (by omega) (by omega) (by omega) (by omega) (by omega) (by omega) (by omega) (by omega) (by omega)
  exact lp10 _ 0 H hI hf hRE hRV hRP2 hX (by omega) (by omega) (by omega) (by omega) (by omega) (by omega) (by omega) (by omega) (by omega) (Nat.lt_succ_self _)

set_option maxHeartbeats 1000000 in
set_option maxRecDepth 100000 in
theorem sL_w448 (h H : fz_H) (x b0 : Int) (hI : fz_Iv H) (hf : fz_fr [(1, 7), (1, 8), (2, 99999), (3, 99999), (4, 99999), (5, 99999), (6, 99999), (7, 99999), (8, 99999), (9, 5), (10, 99999), (11, 99999), (12, 99999), (13, 99999), (14, 99999), (15, 4), (16, 99999), (17, 99999), (20, 2), (20, 3), (20, 4), (21, 4), (22, 99999), (23, 99999), (26, 99999), (27, 8), (27, 9), (28, 99999), (35, 4), (35, 5), (36, 99999), (37, 99999), (38, 99999), (39, 99999), (53, 99999)] h H) (hX : fz_Xc H) (hRE : fz_RE H) (hRV : fz_RV H) (hp0 : 0 ≤ h 200 100000 ∧ h 200 100000 ≤ 3072) (hp1 : 0 ≤ h 205 100000 ∧ h 205 100000 ≤ 120) (hp2 : h 1 7 = 0 ∧ h 1 8 = 0 ∧ h 9 5 = 0 ∧ h 20 2 = 0 ∧ h 35 4 = 0) (hp3 : h 53 1 = 0 ∧ h 53 2 = 0) (hq0 : -2147483648 ≤ x ∧ x < 2147483648) (hq1 : 0 ≤ b0 ∧ b0 ≤ 8) (hq2 : H 53 0 = b0) (hq3 : H 53 1 = H 1 8) (hq4 : H 53 2 = H 9 5) (hq5 : H 20 2 = 0) (hq6 : H 1 7 = b0) (hq7 : H 9 5 = 0) (hq8 : 0 ≤ H 35 4 ∧ H 35 4 ≤ 19) : fz_R 47 mL_world 448 [(4, fz_i x), (0, fz_r 0), (1, fz_r 200), (2, fz_r 53), (3, fz_r 205)] [] H (qL_world h) := by
  refine fz_aload_n kL_world rfl rfl ?_
  refine fz_iconst ⟨by decide, by decide⟩ kL_world rfl ?_
  obtain ⟨v1, e2⟩ : ∃ z, H 53 (0) = z := ⟨_, rfl⟩
  refine fz_ialdV (n := 40) (v := v1) kL_world rfl rfl (by omega) (by omega) e2 ?_
  have b3 : (-2147483648) ≤ v1 ∧ v1 ≤ 2147483647 := by rw [← e2]; exact hI.1 53 _
  have J4 : ∀ j5 : Int, 0 ≤ j5 ∧ j5 ≤ 8 → (j5 = 0 ∨ 1 ≤ b0) → fz_R 47 mL_world 468 [(4, fz_i x), (0, fz_r 0), (1, fz_r 200), (2, fz_r 53), (3, fz_r 205)] [fz_i j5] H (qL_world h) := by
    intro j5 hj6 hj8
    refine fz_istore (ls' := [(6, fz_i j5), (4, fz_i x), (0, fz_r 0), (1, fz_r 200), (2, fz_r 53), (3, fz_r 205)]) kL_world rfl (by decide) rfl ?_
    refine fz_iconst ⟨by decide, by decide⟩ kL_world rfl ?_
    refine fz_istore (ls' := [(7, fz_i 0), (6, fz_i j5), (4, fz_i x), (0, fz_r 0), (1, fz_r 200), (2, fz_r 53), (3, fz_r 205)]) kL_world rfl (by decide) rfl ?_
    have hRP29 : fz_RP2 H := fun j hj => absurd hj (by omega)
    have lp20 : ∀ (n19 : Nat) (x11 : Int) (H16 : fz_H), fz_Iv H16 → fz_fr [(1, 7), (1, 8), (2, 99999), (3, 99999), (4, 99999), (5, 99999), (6, 99999), (7, 99999), (8, 99999), (9, 5), (10, 99999), (11, 99999), (12, 99999), (13, 99999), (14, 99999), (15, 4), (16, 99999), (17, 99999), (20, 2), (20, 3), (20, 4), (21, 4), (22, 99999), (23, 99999), (26, 99999), (27, 8), (27, 9), (28, 99999), (35, 4), (35, 5), (36, 99999), (37, 99999), (38, 99999), (39, 99999), (53, 99999)] h H16 → fz_RE H16 → fz_RV H16 → fz_RP2 H16 → fz_Xc H16 → (0 ≤ x11 ∧ x11 ≤ 8) → (H16 53 0 = b0) → (H16 53 1 = H16 1 8) → (H16 53 2 = H16 9 5) → (H16 20 2 = 0) → (H16 1 7 = b0) → (H16 9 5 = x11) → (x11 ≤ j5) → (0 ≤ H16 35 4 ∧ H16 35 4 ≤ 19) → (j5 - x11).toNat < n19 → fz_R 47 mL_world 473 [(7, fz_i x11), (6, fz_i j5), (4, fz_i x), (0, fz_r 0), (1, fz_r 200), (2, fz_r 53), (3, fz_r 205)] [] H16 (qL_world h) := by
      intro n19
      induction n19 with
      | zero => intro x11 H16 hI17 hf18 hRE12 hRV13 hRP214 hXq15 hv23 hv24 hv25 hv26 hv27 hv28 hv29 hv30 hv31 hm22; exact absurd hm22 (by omega)
      | succ n19 ih21 =>
        intro x11 H16 hI17 hf18 hRE12 hRV13 hRP214 hXq15 hv23 hv24 hv25 hv26 hv27 hv28 hv29 hv30 hv31 hm22
        refine fz_iload kL_world rfl rfl ?_
        refine fz_iload kL_world rfl rfl ?_
        refine fz_icmp_ge (tgt := 669) kL_world rfl (by decide) (fun c32 => ?_) (fun c32 => ?_)
        · refine fz_sub (fz_pk_sub (ls' := [(0, fz_r 0), (1, fz_r 200), (2, fz_r 53), (3, fz_r 205)]) [3, 4, 5, 6] rfl) ?_
          exact sL_w669 h H16 b0 hI17 hf18 hXq15 hRE12 hRV13 hRP214 hp0 hp1 hp2 hp3 (by omega) (by omega) (by omega) (by omega) (by omega) (by omega) (by omega) (by omega)
        · refine fz_aload_n kL_world rfl rfl ?_
          refine fz_bipush ⟨by decide, by decide⟩ kL_world rfl ?_
          refine fz_iload kL_world rfl rfl ?_
          refine fz_bipush ⟨by decide, by decide⟩ kL_world rfl ?_
          refine fz_iremN kL_world rfl (by omega) (by omega) (by omega) ?_
          refine fz_iaddN kL_world rfl (by omega) ?_
          have e33 : H16 200 100000 = h 200 100000 := hf18 200 100000 rfl
          refine fz_callS (d' := 0) (M' := mL_at) (As := [fz_r 200, fz_i (14 + (x11 % 8))]) (st := []) kL_world rfl rfl vL_at rfl rfl (Nat.le_of_ble_eq_true rfl) (Nat.le_of_ble_eq_true rfl) (by decide) (sL_at H16 hI17 (14 + (x11 % 8)) (by omega) (by omega)) (fun H34 r35 q36 o37 => ?_)
          obtain ⟨e38, y40, rfl, f39⟩ := q36
          subst H34
          clear o37
          refine fz_iload kL_world rfl rfl ?_
          refine fz_bipush ⟨by decide, by decide⟩ kL_world rfl ?_
          refine fz_idivN kL_world rfl (by omega) (by omega) (by omega) ?_
          refine fz_bipush ⟨by decide, by decide⟩ kL_world rfl ?_
          refine fz_imulN kL_world rfl (by omega) ?_
          refine fz_eqi (y := 0) (by omega) ?_
          refine fz_ixor kL_world rfl ?_
          have b41 : -2147483648 ≤ (fz_xor y40 0) ∧ (fz_xor y40 0) < 2147483648 := fz_b32 _
          refine fz_istore (ls' := [(8, fz_i (fz_xor y40 0)), (7, fz_i x11), (6, fz_i j5), (4, fz_i x), (0, fz_r 0), (1, fz_r 200), (2, fz_r 53), (3, fz_r 205)]) kL_world rfl (by decide) rfl ?_
          refine fz_iload kL_world rfl rfl ?_
          refine fz_iload kL_world rfl rfl ?_
          refine fz_bipush ⟨by decide, by decide⟩ kL_world rfl ?_
          refine fz_ishr kL_world rfl ?_
          have b43 : -2147483648 ≤ (fz_shr x 28) ∧ (fz_shr x 28) < 2147483648 := fz_b32 _
          refine fz_iconst ⟨by decide, by decide⟩ kL_world rfl ?_
          refine fz_iand kL_world rfl ?_
          have b45 : -2147483648 ≤ (fz_and (fz_shr x 28) 1) ∧ (fz_and (fz_shr x 28) 1) < 2147483648 := fz_b32 _
          have b46 : 0 ≤ (fz_and (fz_shr x 28) 1) ∧ (fz_and (fz_shr x 28) 1) ≤ 1 := fz_and_m (by omega) (by omega)
          have J47 : ∀ j48 : Int, 2 ≤ j48 ∧ j48 ≤ 4 → fz_R 47 mL_world 520 [(8, fz_i (fz_xor y40 0)), (7, fz_i x11), (6, fz_i j5), (4, fz_i x), (0, fz_r 0), (1, fz_r 200), (2, fz_r 53), (3, fz_r 205)] [fz_i j48, fz_i (fz_xor y40 0)] H16 (qL_world h) := by
            intro j48 hj49
            refine fz_callS (d' := 0) (M' := mL_some) (As := [fz_i (fz_xor y40 0), fz_i j48]) (st := []) kL_world rfl rfl vL_some rfl rfl (Nat.le_of_ble_eq_true rfl) (Nat.le_of_ble_eq_true rfl) (by decide) (sL_some H16 hI17 (fz_xor y40 0) j48 (by omega)) (fun H51 r52 q53 o54 => ?_)
            obtain ⟨e55, y59, rfl, f56, f57, f58⟩ := q53
            subst H51
            clear o54
            refine fz_istore (ls' := [(9, fz_i y59), (8, fz_i (fz_xor y40 0)), (7, fz_i x11), (6, fz_i j5), (4, fz_i x), (0, fz_r 0), (1, fz_r 200), (2, fz_r 53), (3, fz_r 205)]) kL_world rfl (by decide) rfl ?_
            refine fz_iload kL_world rfl rfl ?_
            refine fz_iconst ⟨by decide, by decide⟩ kL_world rfl ?_
            refine fz_ishr kL_world rfl ?_
            have b60 : -2147483648 ≤ (fz_shr (fz_xor y40 0) 3) ∧ (fz_shr (fz_xor y40 0) 3) < 2147483648 := fz_b32 _
            refine fz_aload_n kL_world rfl rfl ?_
            refine fz_iconst ⟨by decide, by decide⟩ kL_world rfl ?_
            obtain ⟨v62, e63⟩ : ∃ z, H16 53 (0) = z := ⟨_, rfl⟩
            refine fz_ialdV (n := 40) (v := v62) kL_world rfl rfl (by omega) (by omega) e63 ?_
            have b64 : (-2147483648) ≤ v62 ∧ v62 ≤ 2147483647 := by rw [← e63]; exact hI17.1 53 _
            have k66 : 1 ≤ v62 ∧ v62 ≤ 8 := by omega
            refine fz_callS (d' := 0) (M' := mL_some) (As := [fz_i (fz_shr (fz_xor y40 0) 3), fz_i v62]) (st := []) kL_world rfl rfl vL_some rfl rfl (Nat.le_of_ble_eq_true rfl) (Nat.le_of_ble_eq_true rfl) (by decide) (sL_some H16 hI17 (fz_shr (fz_xor y40 0) 3) v62 (by omega)) (fun H67 r68 q69 o70 => ?_)
            obtain ⟨e71, y75, rfl, f72, f73, f74⟩ := q69
            subst H67
            clear o70
            refine fz_istore (ls' := [(10, fz_i y75), (9, fz_i y59), (8, fz_i (fz_xor y40 0)), (7, fz_i x11), (6, fz_i j5), (4, fz_i x), (0, fz_r 0), (1, fz_r 200), (2, fz_r 53), (3, fz_r 205)]) kL_world rfl (by decide) rfl ?_
            refine fz_iload kL_world rfl rfl ?_
            refine fz_bipush ⟨by decide, by decide⟩ kL_world rfl ?_
            refine fz_ishr kL_world rfl ?_
            have b76 : -2147483648 ≤ (fz_shr (fz_xor y40 0) 8) ∧ (fz_shr (fz_xor y40 0) 8) < 2147483648 := fz_b32 _
            refine fz_iconst ⟨by decide, by decide⟩ kL_world rfl ?_
            refine fz_iand kL_world rfl ?_
            have b78 : -2147483648 ≤ (fz_and (fz_shr (fz_xor y40 0) 8) 1) ∧ (fz_and (fz_shr (fz_xor y40 0) 8) 1) < 2147483648 := fz_b32 _
            have b79 : 0 ≤ (fz_and (fz_shr (fz_xor y40 0) 8) 1) ∧ (fz_and (fz_shr (fz_xor y40 0) 8) 1) ≤ 1 := fz_and_m (by omega) (by omega)
            have J80 : ∀ j81 : Int, 0 ≤ j81 ∧ j81 ≤ 999 → fz_R 47 mL_world 571 [(10, fz_i y75), (9, fz_i y59), (8, fz_i (fz_xor y40 0)), (7, fz_i x11), (6, fz_i j5), (4, fz_i x), (0, fz_r 0), (1, fz_r 200), (2, fz_r 53), (3, fz_r 205)] [fz_i j81] H16 (qL_world h) := by
              intro j81 hj82
              refine fz_istore (ls' := [(11, fz_i j81), (10, fz_i y75), (9, fz_i y59), (8, fz_i (fz_xor y40 0)), (7, fz_i x11), (6, fz_i j5), (4, fz_i x), (0, fz_r 0), (1, fz_r 200), (2, fz_r 53), (3, fz_r 205)]) kL_world rfl (by decide) rfl ?_
              refine fz_iload kL_world rfl rfl ?_
              refine fz_bipush ⟨by decide, by decide⟩ kL_world rfl ?_
              refine fz_ishr kL_world rfl ?_
              have b84 : -2147483648 ≤ (fz_shr (fz_xor y40 0) 19) ∧ (fz_shr (fz_xor y40 0) 19) < 2147483648 := fz_b32 _
              refine fz_iconst ⟨by decide, by decide⟩ kL_world rfl ?_
              refine fz_callS (d' := 0) (M' := mL_some) (As := [fz_i (fz_shr (fz_xor y40 0) 19), fz_i 5]) (st := []) kL_world rfl rfl vL_some rfl rfl (Nat.le_of_ble_eq_true rfl) (Nat.le_of_ble_eq_true rfl) (by decide) (sL_some H16 hI17 (fz_shr (fz_xor y40 0) 19) 5 (by omega)) (fun H86 r87 q88 o89 => ?_)
              obtain ⟨e90, y94, rfl, f91, f92, f93⟩ := q88
              subst H86
              clear o89
              refine fz_istore (ls' := [(12, fz_i y94), (11, fz_i j81), (10, fz_i y75), (9, fz_i y59), (8, fz_i (fz_xor y40 0)), (7, fz_i x11), (6, fz_i j5), (4, fz_i x), (0, fz_r 0), (1, fz_r 200), (2, fz_r 53), (3, fz_r 205)]) kL_world rfl (by decide) rfl ?_
              refine fz_iconst ⟨by decide, by decide⟩ kL_world rfl ?_
              refine fz_iload kL_world rfl rfl ?_
              refine fz_bipush ⟨by decide, by decide⟩ kL_world rfl ?_
              refine fz_ishr kL_world rfl ?_
              have b95 : -2147483648 ≤ (fz_shr (fz_xor y40 0) 22) ∧ (fz_shr (fz_xor y40 0) 22) < 2147483648 := fz_b32 _
              refine fz_bipush ⟨by decide, by decide⟩ kL_world rfl ?_
              refine fz_callS (d' := 0) (M' := mL_some) (As := [fz_i (fz_shr (fz_xor y40 0) 22), fz_i 9]) (st := [fz_i 1]) kL_world rfl rfl vL_some rfl rfl (Nat.le_of_ble_eq_true rfl) (Nat.le_of_ble_eq_true rfl) (by decide) (sL_some H16 hI17 (fz_shr (fz_xor y40 0) 22) 9 (by omega)) (fun H97 r98 q99 o100 => ?_)
              obtain ⟨e101, y105, rfl, f102, f103, f104⟩ := q99
              subst H97
              clear o100
              refine fz_iaddN kL_world rfl (by omega) ?_
              refine fz_istore (ls' := [(13, fz_i (1 + y105)), (12, fz_i y94), (11, fz_i j81), (10, fz_i y75), (9, fz_i y59), (8, fz_i (fz_xor y40 0)), (7, fz_i x11), (6, fz_i j5), (4, fz_i x), (0, fz_r 0), (1, fz_r 200), (2, fz_r 53), (3, fz_r 205)]) kL_world rfl (by decide) rfl ?_
              refine fz_aload_n kL_world rfl rfl ?_
              refine fz_bipush ⟨by decide, by decide⟩ kL_world rfl ?_
              refine fz_iload kL_world rfl rfl ?_
              refine fz_iaddN kL_world rfl (by omega) ?_
              refine fz_iload kL_world rfl rfl ?_
              refine fz_bipush ⟨by decide, by decide⟩ kL_world rfl ?_
              refine fz_iload kL_world rfl rfl ?_
              refine fz_imulN kL_world rfl (by omega) ?_
              refine fz_iaddN kL_world rfl (by omega) ?_
              refine fz_bipush ⟨by decide, by decide⟩ kL_world rfl ?_
              refine fz_iload kL_world rfl rfl ?_
              refine fz_imulN kL_world rfl (by omega) ?_
              refine fz_iaddN kL_world rfl (by omega) ?_
              refine fz_sipush ⟨by decide, by decide⟩ kL_world rfl ?_
              refine fz_iload kL_world rfl rfl ?_
              refine fz_imulN kL_world rfl (by omega) ?_
              refine fz_iaddN kL_world rfl (by omega) ?_
              refine fz_ldc (x := 1000000) kL_world rfl rfl rfl ?_
              refine fz_iload kL_world rfl rfl ?_
              refine fz_imulN kL_world rfl (by omega) ?_
              refine fz_iaddN kL_world rfl (by omega) ?_
              refine fz_iast (n := 40) kL_world rfl rfl (by omega) (by omega) ?_
              refine fz_nmu (S := [(1, 7), (1, 8), (2, 99999), (3, 99999), (4, 99999), (5, 99999), (6, 99999), (7, 99999), (8, 99999), (9, 5), (10, 99999), (11, 99999), (12, 99999), (13, 99999), (14, 99999), (15, 4), (16, 99999), (17, 99999), (20, 2), (20, 3), (20, 4), (21, 4), (22, 99999), (23, 99999), (26, 99999), (27, 8), (27, 9), (28, 99999), (35, 4), (35, 5), (36, 99999), (37, 99999), (38, 99999), (39, 99999), (53, 99999)]) (h0 := h) (fz_Iv_up hI17 (by decide) (show ((-2147483648) : Int) ≤ (((((1 + y105) + (10 * y94)) + (100 * y75)) + (1000 * j81)) + (1000000 * y59)) by omega) (show ((((((1 + y105) + (10 * y94)) + (100 * y75)) + (1000 * j81)) + (1000000 * y59)) : Int) ≤ 2147483647 by omega)) (fz_fr_up hf18 rfl) (fun H106 hI107 hf108 e109 => ?_)
              have t110 : H106 20 2 = H16 20 2 := by rw [e109]; exact fz_up_o (by decide)
              have t111 : H106 35 4 = H16 35 4 := by rw [e109]; exact fz_up_o (by decide)
              have t112 : H106 1 7 = H16 1 7 := by rw [e109]; exact fz_up_o (by decide)
              have t113 : H106 1 8 = H16 1 8 := by rw [e109]; exact fz_up_o (by decide)
              have t114 : H106 9 5 = H16 9 5 := by rw [e109]; exact fz_up_o (by decide)
              have hX115 : fz_Xc H106 := by rw [e109]; exact fz_Xc_up (by decide) (by decide) (by decide) hXq15
              have hRE116 : fz_RE H106 := fz_RE_eq (by rw [e109]; exact fz_up_ne (by decide)) (by rw [e109]; exact fz_up_ne (by decide)) (by rw [e109]; exact fz_up_o (by decide)) (by rw [e109]; exact fz_up_o (by decide)) hRE12
              have hRV117 : fz_RV H106 := fz_RV_eq (by rw [e109]; exact fz_up_ne (by decide)) (by rw [e109]; exact fz_up_ne (by decide)) (by rw [e109]; exact fz_up_ne (by decide)) (by rw [e109]; exact fz_up_ne (by decide)) (by rw [e109]; exact fz_up_ne (by decide)) (by rw [e109]; exact fz_up_ne (by decide)) (by rw [e109]; exact fz_up_o (by decide)) (by rw [e109]; exact fz_up_o (by decide)) hRV13
              have hRP2118 : fz_RP2 H106 := fz_RP2_eq (by rw [e109]; exact fz_up_ne (by decide)) (by rw [e109]; exact fz_up_o (by decide)) (by rw [e109]; exact fz_up_o (by decide)) hRP214
              have t119 : H106 53 0 = H16 53 0 := by rw [e109]; exact fz_up_s (by omega)
              have t120 : H106 53 1 = H16 53 1 := by rw [e109]; exact fz_up_s (by omega)
              have t121 : H106 53 2 = H16 53 2 := by rw [e109]; exact fz_up_s (by omega)
              refine fz_aload_n kL_world rfl rfl ?_
              refine fz_iconst ⟨by decide, by decide⟩ kL_world rfl ?_
              refine fz_dup2 rfl rfl kL_world rfl ?_
              obtain ⟨v122, e123⟩ : ∃ z, H106 53 (2) = z := ⟨_, rfl⟩
              refine fz_ialdV (n := 40) (v := v122) kL_world rfl rfl (by omega) (by omega) e123 ?_
              have b124 : (-2147483648) ≤ v122 ∧ v122 ≤ 2147483647 := by rw [← e123]; exact hI107.1 53 _
              have k126 : 0 ≤ v122 ∧ v122 ≤ 12 := by omega
              refine fz_iconst ⟨by decide, by decide⟩ kL_world rfl ?_
              refine fz_iaddN kL_world rfl (by omega) ?_
              refine fz_iast (n := 40) kL_world rfl rfl (by omega) (by omega) ?_
              refine fz_nmu (S := [(1, 7), (1, 8), (2, 99999), (3, 99999), (4, 99999), (5, 99999), (6, 99999), (7, 99999), (8, 99999), (9, 5), (10, 99999), (11, 99999), (12, 99999), (13, 99999), (14, 99999), (15, 4), (16, 99999), (17, 99999), (20, 2), (20, 3), (20, 4), (21, 4), (22, 99999), (23, 99999), (26, 99999), (27, 8), (27, 9), (28, 99999), (35, 4), (35, 5), (36, 99999), (37, 99999), (38, 99999), (39, 99999), (53, 99999)]) (h0 := h) (fz_Iv_up hI107 (by decide) (show ((-2147483648) : Int) ≤ (v122 + 1) by omega) (show ((v122 + 1) : Int) ≤ 2147483647 by omega)) (fz_fr_up hf108 rfl) (fun H127 hI128 hf129 e130 => ?_)
              have t131 : H127 20 2 = H106 20 2 := by rw [e130]; exact fz_up_o (by decide)
              have t132 : H127 35 4 = H106 35 4 := by rw [e130]; exact fz_up_o (by decide)
              have t133 : H127 1 7 = H106 1 7 := by rw [e130]; exact fz_up_o (by decide)
              have t134 : H127 1 8 = H106 1 8 := by rw [e130]; exact fz_up_o (by decide)
              have t135 : H127 9 5 = H106 9 5 := by rw [e130]; exact fz_up_o (by decide)
              have hX136 : fz_Xc H127 := by rw [e130]; exact fz_Xc_up (by decide) (by decide) (by decide) hX115
              have hRE137 : fz_RE H127 := fz_RE_eq (by rw [e130]; exact fz_up_ne (by decide)) (by rw [e130]; exact fz_up_ne (by decide)) (by rw [e130]; exact fz_up_o (by decide)) (by rw [e130]; exact fz_up_o (by decide)) hRE116
              have hRV138 : fz_RV H127 := fz_RV_eq (by rw [e130]; exact fz_up_ne (by decide)) (by rw [e130]; exact fz_up_ne (by decide)) (by rw [e130]; exact fz_up_ne (by decide)) (by rw [e130]; exact fz_up_ne (by decide)) (by rw [e130]; exact fz_up_ne (by decide)) (by rw [e130]; exact fz_up_ne (by decide)) (by rw [e130]; exact fz_up_o (by decide)) (by rw [e130]; exact fz_up_o (by decide)) hRV117
              have hRP2139 : fz_RP2 H127 := fz_RP2_eq (by rw [e130]; exact fz_up_ne (by decide)) (by rw [e130]; exact fz_up_o (by decide)) (by rw [e130]; exact fz_up_o (by decide)) hRP2118
              have t140 : H127 53 0 = H106 53 0 := by rw [e130]; exact fz_up_s (by decide)
              have t141 : H127 53 1 = H106 53 1 := by rw [e130]; exact fz_up_s (by decide)
              have t142 : H127 53 2 = (v122 + 1) := by rw [e130]; exact fz_up_e
              refine fz_aload_n kL_world rfl rfl ?_
              refine fz_bipush ⟨by decide, by decide⟩ kL_world rfl ?_
              refine fz_iload kL_world rfl rfl ?_
              refine fz_imulN kL_world rfl (by omega) ?_
              refine fz_iload kL_world rfl rfl ?_
              refine fz_iaddN kL_world rfl (by omega) ?_
              refine fz_sipush ⟨by decide, by decide⟩ kL_world rfl ?_
              refine fz_iload kL_world rfl rfl ?_
              refine fz_imulN kL_world rfl (by omega) ?_
              refine fz_iload kL_world rfl rfl ?_
              refine fz_iaddN kL_world rfl (by omega) ?_
              refine fz_iload kL_world rfl rfl ?_
              have b143 : 0 ≤ H127 1 7 ∧ H127 1 7 ≤ 8 := hI128.1 1 _
              have b144 : 0 ≤ H127 9 5 ∧ H127 9 5 ≤ 10 := hI128.1 9 _
              refine fz_callV (d' := 2) (M' := mX10_deed) (As := [fz_i ((10 * y59) + y94), fz_i ((1000 * y75) + j81), fz_i (1 + y105)]) (st := []) kL_world rfl rfl vX10_deed rfl rfl rfl rfl (Nat.le_of_ble_eq_true rfl) (Nat.le_of_ble_eq_true rfl) (by decide) (sX10_deed H127 hI128 ((10 * y59) + y94) ((1000 * y75) + j81) (1 + y105) ) (fun H145 r146 q147 o148 => ?_)
              obtain ⟨hI149, hf150, y155, rfl, f151, f152, f153, f154⟩ := q147
              clear o148
              have hf156 := fz_fr_tr hf129 hf150 (show fz_su [(9, 5), (10, 99999), (11, 99999), (12, 99999), (13, 99999), (14, 99999)] [(1, 7), (1, 8), (2, 99999), (3, 99999), (4, 99999), (5, 99999), (6, 99999), (7, 99999), (8, 99999), (9, 5), (10, 99999), (11, 99999), (12, 99999), (13, 99999), (14, 99999), (15, 4), (16, 99999), (17, 99999), (20, 2), (20, 3), (20, 4), (21, 4), (22, 99999), (23, 99999), (26, 99999), (27, 8), (27, 9), (28, 99999), (35, 4), (35, 5), (36, 99999), (37, 99999), (38, 99999), (39, 99999), (53, 99999)] = true from rfl)
              have hRE157 : fz_RE H145 := fz_RE_eq (funext fun s => hf150 5 s rfl) (funext fun s => hf150 6 s rfl) (hf150 1 8 rfl) (hf150 1 7 rfl) hRE137
              have hRV158 : fz_RV H145 := fz_RV_eq (funext fun s => hf150 7 s rfl) (funext fun s => hf150 8 s rfl) (funext fun s => hf150 3 s rfl) (funext fun s => hf150 4 s rfl) (funext fun s => hf150 5 s rfl) (funext fun s => hf150 6 s rfl) (hf150 1 7 rfl) (hf150 1 8 rfl) hRV138
              have hX159 : fz_Xc H145 := fz_Xc_fr hf150 rfl hX136
              have t160 : H145 53 0 = H127 53 0 := hf150 53 0 rfl
              have t161 : H145 53 1 = H127 53 1 := hf150 53 1 rfl
              have t162 : H145 53 2 = H127 53 2 := hf150 53 2 rfl
              have t163 : H145 20 2 = H127 20 2 := hf150 20 2 rfl
              have t164 : H145 35 4 = H127 35 4 := hf150 35 4 rfl
              have t165 : H145 1 7 = H127 1 7 := hf150 1 7 rfl
              have t166 : H145 1 8 = H127 1 8 := hf150 1 8 rfl
              have hRP2167 : fz_RP2 H145 := fz_RP2_ap hRP2139 f153 rfl (by omega) (by omega) (by omega) (fun _ _ _ => by dsimp only; omega)
              refine fz_pop rfl kL_world rfl ?_
              refine fz_iincN (ls' := [(7, fz_i (x11 + 1)), (13, fz_i (1 + y105)), (12, fz_i y94), (11, fz_i j81), (10, fz_i y75), (9, fz_i y59), (8, fz_i (fz_xor y40 0)), (6, fz_i j5), (4, fz_i x), (0, fz_r 0), (1, fz_r 200), (2, fz_r 53), (3, fz_r 205)]) kL_world rfl (by decide) rfl (by omega) rfl ?_
              refine fz_goto (tgt := 473) kL_world rfl (by decide) ?_
              refine fz_sub (fz_pk_sub (ls' := [(7, fz_i (x11 + 1)), (6, fz_i j5), (4, fz_i x), (0, fz_r 0), (1, fz_r 200), (2, fz_r 53), (3, fz_r 205)]) [0, 7, 8, 9, 10, 11, 12] rfl) ?_
              exact ih21 (x11 + 1) H145 hI149 hf156 hRE157 hRV158 hRP2167 hX159 (by omega) (by omega) (by omega) (by omega) (by omega) (by omega) (by omega) (by omega) (by omega) (by omega)
            refine fz_if_ne (tgt := 560) kL_world rfl (by decide) (fun c169 => ?_) (fun c169 => ?_)
            · refine fz_iload kL_world rfl rfl ?_
              refine fz_bipush ⟨by decide, by decide⟩ kL_world rfl ?_
              refine fz_ishr kL_world rfl ?_
              have b170 : -2147483648 ≤ (fz_shr (fz_xor y40 0) 9) ∧ (fz_shr (fz_xor y40 0) 9) < 2147483648 := fz_b32 _
              refine fz_sipush ⟨by decide, by decide⟩ kL_world rfl ?_
              refine fz_callS (d' := 0) (M' := mL_some) (As := [fz_i (fz_shr (fz_xor y40 0) 9), fz_i 1000]) (st := []) kL_world rfl rfl vL_some rfl rfl (Nat.le_of_ble_eq_true rfl) (Nat.le_of_ble_eq_true rfl) (by decide) (sL_some H16 hI17 (fz_shr (fz_xor y40 0) 9) 1000 (by omega)) (fun H172 r173 q174 o175 => ?_)
              obtain ⟨e176, y180, rfl, f177, f178, f179⟩ := q174
              subst H172
              clear o175
              exact J80 y180 (by omega)
            · refine fz_iload kL_world rfl rfl ?_
              refine fz_bipush ⟨by decide, by decide⟩ kL_world rfl ?_
              refine fz_ishr kL_world rfl ?_
              have b181 : -2147483648 ≤ (fz_shr (fz_xor y40 0) 9) ∧ (fz_shr (fz_xor y40 0) 9) < 2147483648 := fz_b32 _
              refine fz_bipush ⟨by decide, by decide⟩ kL_world rfl ?_
              refine fz_callS (d' := 0) (M' := mL_some) (As := [fz_i (fz_shr (fz_xor y40 0) 9), fz_i 60]) (st := []) kL_world rfl rfl vL_some rfl rfl (Nat.le_of_ble_eq_true rfl) (Nat.le_of_ble_eq_true rfl) (by decide) (sL_some H16 hI17 (fz_shr (fz_xor y40 0) 9) 60 (by omega)) (fun H183 r184 q185 o186 => ?_)
              obtain ⟨e187, y191, rfl, f188, f189, f190⟩ := q185
              subst H183
              clear o186
              refine fz_goto (tgt := 571) kL_world rfl (by decide) ?_
              exact J80 y191 (by omega)
          refine fz_if_ne (tgt := 519) kL_world rfl (by decide) (fun c192 => ?_) (fun c192 => ?_)
          · refine fz_iconst ⟨by decide, by decide⟩ kL_world rfl ?_
            exact J47 4 (by omega)
          · refine fz_iconst ⟨by decide, by decide⟩ kL_world rfl ?_
            refine fz_goto (tgt := 520) kL_world rfl (by decide) ?_
            exact J47 2 (by omega)
    exact lp20 _ 0 H hI hf hRE hRV hRP29 hX (by omega) (by omega) (by omega) (by omega) (by omega) (by omega) (by omega) (by omega) (by omega) (Nat.lt_succ_self _)
  refine fz_if_ne (tgt := 458) kL_world rfl (by decide) (fun c193 => ?_) (fun c193 => ?_)
  · refine fz_iload kL_world rfl rfl ?_
    refine fz_bipush ⟨by decide, by decide⟩ kL_world rfl ?_
    refine fz_ishr kL_world rfl ?_
    have b194 : -2147483648 ≤ (fz_shr x 9) ∧ (fz_shr x 9) < 2147483648 := fz_b32 _
    refine fz_bipush ⟨by decide, by decide⟩ kL_world rfl ?_
    refine fz_callS (d' := 0) (M' := mL_some) (As := [fz_i (fz_shr x 9), fz_i 9]) (st := []) kL_world rfl rfl vL_some rfl rfl (Nat.le_of_ble_eq_true rfl) (Nat.le_of_ble_eq_true rfl) (by decide) (sL_some H hI (fz_shr x 9) 9 (by omega)) (fun H196 r197 q198 o199 => ?_)
    obtain ⟨e200, y204, rfl, f201, f202, f203⟩ := q198
    subst H196
    clear o199
    exact J4 y204 (by omega) (by omega)
  · refine fz_iconst ⟨by decide, by decide⟩ kL_world rfl ?_
    refine fz_goto (tgt := 468) kL_world rfl (by decide) ?_
    exact J4 0 (by omega) (by omega)

set_option maxHeartbeats 1000000 in
set_option maxRecDepth 100000 in
theorem sL_w382 (h H : fz_H) (x b0 on ot hr ca r n v : Int) (hI : fz_Iv H) (hf : fz_fr [(1, 7), (1, 8), (2, 99999), (3, 99999), (4, 99999), (5, 99999), (6, 99999), (7, 99999), (8, 99999), (9, 5), (10, 99999), (11, 99999), (12, 99999), (13, 99999), (14, 99999), (15, 4), (16, 99999), (17, 99999), (20, 2), (20, 3), (20, 4), (21, 4), (22, 99999), (23, 99999), (26, 99999), (27, 8), (27, 9), (28, 99999), (35, 4), (35, 5), (36, 99999), (37, 99999), (38, 99999), (39, 99999), (53, 99999)] h H) (hX : fz_Xc H) (hRE : fz_RE H) (hRV : fz_RV H) (hp0 : 0 ≤ h 200 100000 ∧ h 200 100000 ≤ 3072) (hp1 : 0 ≤ h 205 100000 ∧ h 205 100000 ≤ 120) (hp2 : h 1 7 = 0 ∧ h 1 8 = 0 ∧ h 9 5 = 0 ∧ h 20 2 = 0 ∧ h 35 4 = 0) (hp3 : h 53 1 = 0 ∧ h 53 2 = 0) (hq0 : 0 ≤ b0 ∧ b0 ≤ 8) (hq1 : 0 ≤ ca ∧ ca ≤ 1) (hq2 : 1 ≤ hr ∧ hr ≤ 24) (hq3 : 0 ≤ on ∧ on < b0) (hq4 : 0 ≤ ot ∧ ot < b0) (hq5 : ot ≠ on) (hq6 : 0 ≤ r ∧ r < n) (hq7 : n ≤ 12) (hq8 : H 53 0 = b0) (hq9 : H 53 1 = H 1 8) (hq10 : H 53 2 = H 9 5) (hq11 : H 20 2 = 0) (hq12 : H 1 7 = b0) (hq13 : H 1 8 = r) (hq14 : H 9 5 = 0) (hq15 : 0 ≤ H 35 4 ∧ H 35 4 ≤ 7 + r) (k : ∀ (G : fz_H), fz_Iv G → fz_fr [(1, 7), (1, 8), (2, 99999), (3, 99999), (4, 99999), (5, 99999), (6, 99999), (7, 99999), (8, 99999), (9, 5), (10, 99999), (11, 99999), (12, 99999), (13, 99999), (14, 99999), (15, 4), (16, 99999), (17, 99999), (20, 2), (20, 3), (20, 4), (21, 4), (22, 99999), (23, 99999), (26, 99999), (27, 8), (27, 9), (28, 99999), (35, 4), (35, 5), (36, 99999), (37, 99999), (38, 99999), (39, 99999), (53, 99999)] h G → fz_Xc G → fz_RE G → fz_RV G → (G 53 0 = b0) → (G 53 1 = G 1 8) → (G 53 2 = G 9 5) → (G 20 2 = 0) → (G 1 7 = b0) → (G 1 8 = r + 1) → (G 9 5 = 0) → (0 ≤ G 35 4 ∧ G 35 4 ≤ 8 + r) → fz_R 47 mL_world 442 [(6, fz_i r), (5, fz_i n), (4, fz_i x), (0, fz_r 0), (1, fz_r 200), (2, fz_r 53), (3, fz_r 205)] [] G (qL_world h)) : fz_R 47 mL_world 382 [(11, fz_i ca), (10, fz_i hr), (9, fz_i ot), (8, fz_i on), (7, fz_i v), (6, fz_i r), (5, fz_i n), (4, fz_i x), (0, fz_r 0), (1, fz_r 200), (2, fz_r 53), (3, fz_r 205)] [] H (qL_world h) := by
  refine fz_aload_n kL_world rfl rfl ?_
  refine fz_bipush ⟨by decide, by decide⟩ kL_world rfl ?_
  refine fz_iload kL_world rfl rfl ?_
  refine fz_iaddN kL_world rfl (by omega) ?_
  refine fz_iload kL_world rfl rfl ?_
  refine fz_bipush ⟨by decide, by decide⟩ kL_world rfl ?_
  refine fz_iload kL_world rfl rfl ?_
  refine fz_imulN kL_world rfl (by omega) ?_
  refine fz_iaddN kL_world rfl (by omega) ?_
  refine fz_bipush ⟨by decide, by decide⟩ kL_world rfl ?_
  refine fz_iload kL_world rfl rfl ?_
  refine fz_imulN kL_world rfl (by omega) ?_
  refine fz_iaddN kL_world rfl (by omega) ?_
  refine fz_sipush ⟨by decide, by decide⟩ kL_world rfl ?_
  refine fz_iload kL_world rfl rfl ?_
  refine fz_imulN kL_world rfl (by omega) ?_
  refine fz_iaddN kL_world rfl (by omega) ?_
  refine fz_iast (n := 40) kL_world rfl rfl (by omega) (by omega) ?_
  refine fz_nmu (S := [(1, 7), (1, 8), (2, 99999), (3, 99999), (4, 99999), (5, 99999), (6, 99999), (7, 99999), (8, 99999), (9, 5), (10, 99999), (11, 99999), (12, 99999), (13, 99999), (14, 99999), (15, 4), (16, 99999), (17, 99999), (20, 2), (20, 3), (20, 4), (21, 4), (22, 99999), (23, 99999), (26, 99999), (27, 8), (27, 9), (28, 99999), (35, 4), (35, 5), (36, 99999), (37, 99999), (38, 99999), (39, 99999), (53, 99999)]) (h0 := h) (fz_Iv_up hI (by decide) (show ((-2147483648) : Int) ≤ (((on + (10 * ot)) + (100 * hr)) + (10000 * ca)) by omega) (show ((((on + (10 * ot)) + (100 * hr)) + (10000 * ca)) : Int) ≤ 2147483647 by omega)) (fz_fr_up hf rfl) (fun H1 hI2 hf3 e4 => ?_)
  have t5 : H1 20 2 = H 20 2 := by rw [e4]; exact fz_up_o (by decide)
  have t6 : H1 35 4 = H 35 4 := by rw [e4]; exact fz_up_o (by decide)
  have t7 : H1 1 7 = H 1 7 := by rw [e4]; exact fz_up_o (by decide)
  have t8 : H1 1 8 = H 1 8 := by rw [e4]; exact fz_up_o (by decide)
  have t9 : H1 9 5 = H 9 5 := by rw [e4]; exact fz_up_o (by decide)
  have hX10 : fz_Xc H1 := by rw [e4]; exact fz_Xc_up (by decide) (by decide) (by decide) hX
  have hRE11 : fz_RE H1 := fz_RE_eq (by rw [e4]; exact fz_up_ne (by decide)) (by rw [e4]; exact fz_up_ne (by decide)) (by rw [e4]; exact fz_up_o (by decide)) (by rw [e4]; exact fz_up_o (by decide)) hRE
  have hRV12 : fz_RV H1 := fz_RV_eq (by rw [e4]; exact fz_up_ne (by decide)) (by rw [e4]; exact fz_up_ne (by decide)) (by rw [e4]; exact fz_up_ne (by decide)) (by rw [e4]; exact fz_up_ne (by decide)) (by rw [e4]; exact fz_up_ne (by decide)) (by rw [e4]; exact fz_up_ne (by decide)) (by rw [e4]; exact fz_up_o (by decide)) (by rw [e4]; exact fz_up_o (by decide)) hRV
  have t13 : H1 53 0 = H 53 0 := by rw [e4]; exact fz_up_s (by omega)
  have t14 : H1 53 1 = H 53 1 := by rw [e4]; exact fz_up_s (by omega)
  have t15 : H1 53 2 = H 53 2 := by rw [e4]; exact fz_up_s (by omega)
  refine fz_aload_n kL_world rfl rfl ?_
  refine fz_iconst ⟨by decide, by decide⟩ kL_world rfl ?_
  refine fz_dup2 rfl rfl kL_world rfl ?_
  obtain ⟨v16, e17⟩ : ∃ z, H1 53 (1) = z := ⟨_, rfl⟩
  refine fz_ialdV (n := 40) (v := v16) kL_world rfl rfl (by omega) (by omega) e17 ?_
  have b18 : (-2147483648) ≤ v16 ∧ v16 ≤ 2147483647 := by rw [← e17]; exact hI2.1 53 _
  have k20 : 0 ≤ v16 ∧ v16 ≤ 12 := by omega
  refine fz_iconst ⟨by decide, by decide⟩ kL_world rfl ?_
  refine fz_iaddN kL_world rfl (by omega) ?_
  refine fz_iast (n := 40) kL_world rfl rfl (by omega) (by omega) ?_
  refine fz_nmu (S := [(1, 7), (1, 8), (2, 99999), (3, 99999), (4, 99999), (5, 99999), (6, 99999), (7, 99999), (8, 99999), (9, 5), (10, 99999), (11, 99999), (12, 99999), (13, 99999), (14, 99999), (15, 4), (16, 99999), (17, 99999), (20, 2), (20, 3), (20, 4), (21, 4), (22, 99999), (23, 99999), (26, 99999), (27, 8), (27, 9), (28, 99999), (35, 4), (35, 5), (36, 99999), (37, 99999), (38, 99999), (39, 99999), (53, 99999)]) (h0 := h) (fz_Iv_up hI2 (by decide) (show ((-2147483648) : Int) ≤ (v16 + 1) by omega) (show ((v16 + 1) : Int) ≤ 2147483647 by omega)) (fz_fr_up hf3 rfl) (fun H21 hI22 hf23 e24 => ?_)
  have t25 : H21 20 2 = H1 20 2 := by rw [e24]; exact fz_up_o (by decide)
  have t26 : H21 35 4 = H1 35 4 := by rw [e24]; exact fz_up_o (by decide)
  have t27 : H21 1 7 = H1 1 7 := by rw [e24]; exact fz_up_o (by decide)
  have t28 : H21 1 8 = H1 1 8 := by rw [e24]; exact fz_up_o (by decide)
  have t29 : H21 9 5 = H1 9 5 := by rw [e24]; exact fz_up_o (by decide)
  have hX30 : fz_Xc H21 := by rw [e24]; exact fz_Xc_up (by decide) (by decide) (by decide) hX10
  have hRE31 : fz_RE H21 := fz_RE_eq (by rw [e24]; exact fz_up_ne (by decide)) (by rw [e24]; exact fz_up_ne (by decide)) (by rw [e24]; exact fz_up_o (by decide)) (by rw [e24]; exact fz_up_o (by decide)) hRE11
  have hRV32 : fz_RV H21 := fz_RV_eq (by rw [e24]; exact fz_up_ne (by decide)) (by rw [e24]; exact fz_up_ne (by decide)) (by rw [e24]; exact fz_up_ne (by decide)) (by rw [e24]; exact fz_up_ne (by decide)) (by rw [e24]; exact fz_up_ne (by decide)) (by rw [e24]; exact fz_up_ne (by decide)) (by rw [e24]; exact fz_up_o (by decide)) (by rw [e24]; exact fz_up_o (by decide)) hRV12
  have t33 : H21 53 0 = H1 53 0 := by rw [e24]; exact fz_up_s (by decide)
  have t34 : H21 53 1 = (v16 + 1) := by rw [e24]; exact fz_up_e
  have t35 : H21 53 2 = H1 53 2 := by rw [e24]; exact fz_up_s (by decide)
  refine fz_aload_n kL_world rfl rfl ?_
  refine fz_bipush ⟨by decide, by decide⟩ kL_world rfl ?_
  refine fz_iload kL_world rfl rfl ?_
  refine fz_imulN kL_world rfl (by omega) ?_
  refine fz_iload kL_world rfl rfl ?_
  refine fz_iaddN kL_world rfl (by omega) ?_
  refine fz_iload kL_world rfl rfl ?_
  have b36 : 0 ≤ H21 1 7 ∧ H21 1 7 ≤ 8 := hI22.1 1 _
  have b37 : 0 ≤ H21 1 8 ∧ H21 1 8 ≤ 12 := hI22.1 1 _
  refine fz_callV (d' := 4) (M' := mX10_road) (As := [fz_i ((10 * on) + ot), fz_i hr]) (st := []) kL_world rfl rfl vX10_road rfl rfl rfl rfl (Nat.le_of_ble_eq_true rfl) (Nat.le_of_ble_eq_true rfl) (by decide) (sX10_road H21 hI22 ((10 * on) + ot) hr hRE31 hRV32) (fun H38 r39 q40 o41 => ?_)
  obtain ⟨hI42, hf43, hRE44, hRV45, y49, rfl, f46, f47, f48⟩ := q40
  clear o41
  have hf50 := fz_fr_tr hf23 hf43 (show fz_su [(1, 8), (3, 99999), (4, 99999), (5, 99999), (6, 99999), (7, 99999), (8, 99999)] [(1, 7), (1, 8), (2, 99999), (3, 99999), (4, 99999), (5, 99999), (6, 99999), (7, 99999), (8, 99999), (9, 5), (10, 99999), (11, 99999), (12, 99999), (13, 99999), (14, 99999), (15, 4), (16, 99999), (17, 99999), (20, 2), (20, 3), (20, 4), (21, 4), (22, 99999), (23, 99999), (26, 99999), (27, 8), (27, 9), (28, 99999), (35, 4), (35, 5), (36, 99999), (37, 99999), (38, 99999), (39, 99999), (53, 99999)] = true from rfl)
  have hX51 : fz_Xc H38 := fz_Xc_fr hf43 rfl hX30
  have t52 : H38 53 0 = H21 53 0 := hf43 53 0 rfl
  have t53 : H38 53 1 = H21 53 1 := hf43 53 1 rfl
  have t54 : H38 53 2 = H21 53 2 := hf43 53 2 rfl
  have t55 : H38 20 2 = H21 20 2 := hf43 20 2 rfl
  have t56 : H38 35 4 = H21 35 4 := hf43 35 4 rfl
  have t57 : H38 1 7 = H21 1 7 := hf43 1 7 rfl
  have t58 : H38 9 5 = H21 9 5 := hf43 9 5 rfl
  refine fz_pop rfl kL_world rfl ?_
  refine fz_aload_n kL_world rfl rfl ?_
  refine fz_iload kL_world rfl rfl ?_
  refine fz_iconst ⟨by decide, by decide⟩ kL_world rfl ?_
  refine fz_iload kL_world rfl rfl ?_
  refine fz_callV (d' := 4) (M' := mX10_mend) (As := [fz_i r, fz_i 2, fz_i ca]) (st := []) kL_world rfl rfl vX10_mend rfl rfl rfl rfl (Nat.le_of_ble_eq_true rfl) (Nat.le_of_ble_eq_true rfl) (by decide) (sX10_mend H38 hI42 r 2 ca (hX51) hRE44 hRV45) (fun H59 r60 q61 o62 => ?_)
  obtain ⟨hI63, hf64, hX65, hRE66, hRV67, y70, rfl, f68, f69⟩ := q61
  clear o62
  have hf71 := fz_fr_tr hf50 hf64 (show fz_su [(2, 99999), (3, 99999), (4, 99999), (7, 99999), (8, 99999), (12, 99999), (13, 99999), (14, 99999), (27, 8), (27, 9), (28, 99999), (35, 4), (35, 5), (36, 99999), (37, 99999), (38, 99999), (39, 99999)] [(1, 7), (1, 8), (2, 99999), (3, 99999), (4, 99999), (5, 99999), (6, 99999), (7, 99999), (8, 99999), (9, 5), (10, 99999), (11, 99999), (12, 99999), (13, 99999), (14, 99999), (15, 4), (16, 99999), (17, 99999), (20, 2), (20, 3), (20, 4), (21, 4), (22, 99999), (23, 99999), (26, 99999), (27, 8), (27, 9), (28, 99999), (35, 4), (35, 5), (36, 99999), (37, 99999), (38, 99999), (39, 99999), (53, 99999)] = true from rfl)
  have t72 : H59 53 0 = H38 53 0 := hf64 53 0 rfl
  have t73 : H59 53 1 = H38 53 1 := hf64 53 1 rfl
  have t74 : H59 53 2 = H38 53 2 := hf64 53 2 rfl
  have t75 : H59 20 2 = H38 20 2 := hf64 20 2 rfl
  have t76 : H59 1 7 = H38 1 7 := hf64 1 7 rfl
  have t77 : H59 1 8 = H38 1 8 := hf64 1 8 rfl
  have t78 : H59 9 5 = H38 9 5 := hf64 9 5 rfl
  have k79 := st_mC_d f69 hI63
  refine fz_pop rfl kL_world rfl ?_
  refine fz_sub (fz_pk_sub (ls' := [(6, fz_i r), (5, fz_i n), (4, fz_i x), (0, fz_r 0), (1, fz_r 200), (2, fz_r 53), (3, fz_r 205)]) [5, 6, 7, 8, 9, 10, 11] rfl) ?_
  exact k H59 hI63 hf71 hX65 hRE66 hRV67  (by omega) (by omega) (by omega) (by omega) (by omega) (by omega) (by omega) (by omega)

set_option maxHeartbeats 1000000 in
set_option maxRecDepth 100000 in
theorem sL_w261 (h H : fz_H) (x b0 : Int) (hI : fz_Iv H) (hf : fz_fr [(1, 7), (1, 8), (2, 99999), (3, 99999), (4, 99999), (5, 99999), (6, 99999), (7, 99999), (8, 99999), (9, 5), (10, 99999), (11, 99999), (12, 99999), (13, 99999), (14, 99999), (15, 4), (16, 99999), (17, 99999), (20, 2), (20, 3), (20, 4), (21, 4), (22, 99999), (23, 99999), (26, 99999), (27, 8), (27, 9), (28, 99999), (35, 4), (35, 5), (36, 99999), (37, 99999), (38, 99999), (39, 99999), (53, 99999)] h H) (hX : fz_Xc H) (hRE : fz_RE H) (hRV : fz_RV H) (hp0 : 0 ≤ h 200 100000 ∧ h 200 100000 ≤ 3072) (hp1 : 0 ≤ h 205 100000 ∧ h 205 100000 ≤ 120) (hp2 : h 1 7 = 0 ∧ h 1 8 = 0 ∧ h 9 5 = 0 ∧ h 20 2 = 0 ∧ h 35 4 = 0) (hp3 : h 53 1 = 0 ∧ h 53 2 = 0) (hq0 : -2147483648 ≤ x ∧ x < 2147483648) (hq1 : 0 ≤ b0 ∧ b0 ≤ 8) (hq2 : H 53 0 = b0) (hq3 : H 53 1 = H 1 8) (hq4 : H 53 2 = H 9 5) (hq5 : H 20 2 = 0) (hq6 : H 1 7 = b0) (hq7 : H 1 8 = 0) (hq8 : H 9 5 = 0) (hq9 : 0 ≤ H 35 4 ∧ H 35 4 ≤ 7) : fz_R 47 mL_world 261 [(4, fz_i x), (0, fz_r 0), (1, fz_r 200), (2, fz_r 53), (3, fz_r 205)] [] H (qL_world h) := by
  refine fz_aload_n kL_world rfl rfl ?_
  refine fz_iconst ⟨by decide, by decide⟩ kL_world rfl ?_
  obtain ⟨v1, e2⟩ : ∃ z, H 53 (0) = z := ⟨_, rfl⟩
  refine fz_ialdV (n := 40) (v := v1) kL_world rfl rfl (by omega) (by omega) e2 ?_
  have b3 : (-2147483648) ≤ v1 ∧ v1 ≤ 2147483647 := by rw [← e2]; exact hI.1 53 _
  refine fz_iconst ⟨by decide, by decide⟩ kL_world rfl ?_
  have J4 : ∀ j5 : Int, 0 ≤ j5 ∧ j5 ≤ 12 → (j5 = 0 ∨ 2 ≤ b0) → fz_R 47 mL_world 294 [(4, fz_i x), (0, fz_r 0), (1, fz_r 200), (2, fz_r 53), (3, fz_r 205)] [fz_i j5] H (qL_world h) := by
    intro j5 hj6 hj8
    refine fz_istore (ls' := [(5, fz_i j5), (4, fz_i x), (0, fz_r 0), (1, fz_r 200), (2, fz_r 53), (3, fz_r 205)]) kL_world rfl (by decide) rfl ?_
    refine fz_iconst ⟨by decide, by decide⟩ kL_world rfl ?_
    refine fz_istore (ls' := [(6, fz_i 0), (5, fz_i j5), (4, fz_i x), (0, fz_r 0), (1, fz_r 200), (2, fz_r 53), (3, fz_r 205)]) kL_world rfl (by decide) rfl ?_
    have lp17 : ∀ (n16 : Nat) (x9 : Int) (H13 : fz_H), fz_Iv H13 → fz_fr [(1, 7), (1, 8), (2, 99999), (3, 99999), (4, 99999), (5, 99999), (6, 99999), (7, 99999), (8, 99999), (9, 5), (10, 99999), (11, 99999), (12, 99999), (13, 99999), (14, 99999), (15, 4), (16, 99999), (17, 99999), (20, 2), (20, 3), (20, 4), (21, 4), (22, 99999), (23, 99999), (26, 99999), (27, 8), (27, 9), (28, 99999), (35, 4), (35, 5), (36, 99999), (37, 99999), (38, 99999), (39, 99999), (53, 99999)] h H13 → fz_RE H13 → fz_RV H13 → fz_Xc H13 → (0 ≤ x9 ∧ x9 ≤ 12) → (H13 53 0 = b0) → (H13 53 1 = H13 1 8) → (H13 53 2 = H13 9 5) → (H13 20 2 = 0) → (H13 1 7 = b0) → (H13 1 8 = x9) → (x9 ≤ j5) → (H13 9 5 = 0) → (0 ≤ H13 35 4 ∧ H13 35 4 ≤ 7 + x9) → (j5 - x9).toNat < n16 → fz_R 47 mL_world 299 [(6, fz_i x9), (5, fz_i j5), (4, fz_i x), (0, fz_r 0), (1, fz_r 200), (2, fz_r 53), (3, fz_r 205)] [] H13 (qL_world h) := by
      intro n16
      induction n16 with
      | zero => intro x9 H13 hI14 hf15 hRE10 hRV11 hXq12 hv20 hv21 hv22 hv23 hv24 hv25 hv26 hv27 hv28 hv29 hm19; exact absurd hm19 (by omega)
      | succ n16 ih18 =>
        intro x9 H13 hI14 hf15 hRE10 hRV11 hXq12 hv20 hv21 hv22 hv23 hv24 hv25 hv26 hv27 hv28 hv29 hm19
        refine fz_iload kL_world rfl rfl ?_
        refine fz_iload kL_world rfl rfl ?_
        refine fz_icmp_ge (tgt := 448) kL_world rfl (by decide) (fun c30 => ?_) (fun c30 => ?_)
        · refine fz_sub (fz_pk_sub (ls' := [(4, fz_i x), (0, fz_r 0), (1, fz_r 200), (2, fz_r 53), (3, fz_r 205)]) [2, 3, 4, 5, 6] rfl) ?_
          exact sL_w448 h H13 x b0 hI14 hf15 hXq12 hRE10 hRV11 hp0 hp1 hp2 hp3 (by omega) (by omega) (by omega) (by omega) (by omega) (by omega) (by omega) (by omega) (by omega)
        · refine fz_aload_n kL_world rfl rfl ?_
          refine fz_iconst ⟨by decide, by decide⟩ kL_world rfl ?_
          refine fz_iload kL_world rfl rfl ?_
          refine fz_iaddN kL_world rfl (by omega) ?_
          have e31 : H13 200 100000 = h 200 100000 := hf15 200 100000 rfl
          refine fz_callS (d' := 0) (M' := mL_at) (As := [fz_r 200, fz_i (2 + x9)]) (st := []) kL_world rfl rfl vL_at rfl rfl (Nat.le_of_ble_eq_true rfl) (Nat.le_of_ble_eq_true rfl) (by decide) (sL_at H13 hI14 (2 + x9) (by omega) (by omega)) (fun H32 r33 q34 o35 => ?_)
          obtain ⟨e36, y38, rfl, f37⟩ := q34
          subst H32
          clear o35
          refine fz_istore (ls' := [(7, fz_i y38), (6, fz_i x9), (5, fz_i j5), (4, fz_i x), (0, fz_r 0), (1, fz_r 200), (2, fz_r 53), (3, fz_r 205)]) kL_world rfl (by decide) rfl ?_
          refine fz_iload kL_world rfl rfl ?_
          refine fz_aload_n kL_world rfl rfl ?_
          refine fz_iconst ⟨by decide, by decide⟩ kL_world rfl ?_
          obtain ⟨v39, e40⟩ : ∃ z, H13 53 (0) = z := ⟨_, rfl⟩
          refine fz_ialdV (n := 40) (v := v39) kL_world rfl rfl (by omega) (by omega) e40 ?_
          have b41 : (-2147483648) ≤ v39 ∧ v39 ≤ 2147483647 := by rw [← e40]; exact hI14.1 53 _
          have k43 : 1 ≤ v39 ∧ v39 ≤ 8 := by omega
          refine fz_callS (d' := 0) (M' := mL_some) (As := [fz_i y38, fz_i v39]) (st := []) kL_world rfl rfl vL_some rfl rfl (Nat.le_of_ble_eq_true rfl) (Nat.le_of_ble_eq_true rfl) (by decide) (sL_some H13 hI14 y38 v39 (by omega)) (fun H44 r45 q46 o47 => ?_)
          obtain ⟨e48, y52, rfl, f49, f50, f51⟩ := q46
          subst H44
          clear o47
          refine fz_istore (ls' := [(8, fz_i y52), (7, fz_i y38), (6, fz_i x9), (5, fz_i j5), (4, fz_i x), (0, fz_r 0), (1, fz_r 200), (2, fz_r 53), (3, fz_r 205)]) kL_world rfl (by decide) rfl ?_
          refine fz_iload kL_world rfl rfl ?_
          refine fz_iconst ⟨by decide, by decide⟩ kL_world rfl ?_
          refine fz_iaddN kL_world rfl (by omega) ?_
          refine fz_iload kL_world rfl rfl ?_
          refine fz_iconst ⟨by decide, by decide⟩ kL_world rfl ?_
          refine fz_ishr kL_world rfl ?_
          have b53 : -2147483648 ≤ (fz_shr y38 3) ∧ (fz_shr y38 3) < 2147483648 := fz_b32 _
          refine fz_aload_n kL_world rfl rfl ?_
          refine fz_iconst ⟨by decide, by decide⟩ kL_world rfl ?_
          obtain ⟨v55, e56⟩ : ∃ z, H13 53 (0) = z := ⟨_, rfl⟩
          refine fz_ialdV (n := 40) (v := v55) kL_world rfl rfl (by omega) (by omega) e56 ?_
          have b57 : (-2147483648) ≤ v55 ∧ v55 ≤ 2147483647 := by rw [← e56]; exact hI14.1 53 _
          have k59 : 2 ≤ v55 ∧ v55 ≤ 8 := by omega
          refine fz_iconst ⟨by decide, by decide⟩ kL_world rfl ?_
          refine fz_isubN kL_world rfl (by omega) ?_
          refine fz_callS (d' := 0) (M' := mL_some) (As := [fz_i (fz_shr y38 3), fz_i (v55 - 1)]) (st := [fz_i (y52 + 1)]) kL_world rfl rfl vL_some rfl rfl (Nat.le_of_ble_eq_true rfl) (Nat.le_of_ble_eq_true rfl) (by decide) (sL_some H13 hI14 (fz_shr y38 3) (v55 - 1) (by omega)) (fun H60 r61 q62 o63 => ?_)
          obtain ⟨e64, y68, rfl, f65, f66, f67⟩ := q62
          subst H60
          clear o63
          refine fz_iaddN kL_world rfl (by omega) ?_
          refine fz_aload_n kL_world rfl rfl ?_
          refine fz_iconst ⟨by decide, by decide⟩ kL_world rfl ?_
          obtain ⟨v69, e70⟩ : ∃ z, H13 53 (0) = z := ⟨_, rfl⟩
          refine fz_ialdV (n := 40) (v := v69) kL_world rfl rfl (by omega) (by omega) e70 ?_
          have b71 : (-2147483648) ≤ v69 ∧ v69 ≤ 2147483647 := by rw [← e70]; exact hI14.1 53 _
          have k73 : 1 ≤ v69 ∧ v69 ≤ 8 := by omega
          refine fz_callS (d' := 0) (M' := mL_some) (As := [fz_i ((y52 + 1) + y68), fz_i v69]) (st := []) kL_world rfl rfl vL_some rfl rfl (Nat.le_of_ble_eq_true rfl) (Nat.le_of_ble_eq_true rfl) (by decide) (sL_some H13 hI14 ((y52 + 1) + y68) v69 (by omega)) (fun H74 r75 q76 o77 => ?_)
          obtain ⟨e78, y82, rfl, f79, f80, f81⟩ := q76
          subst H74
          clear o77
          have k83 := st_oth (n := v69) (by omega) (by omega) f81
          refine fz_istore (ls' := [(9, fz_i y82), (8, fz_i y52), (7, fz_i y38), (6, fz_i x9), (5, fz_i j5), (4, fz_i x), (0, fz_r 0), (1, fz_r 200), (2, fz_r 53), (3, fz_r 205)]) kL_world rfl (by decide) rfl ?_
          refine fz_iconst ⟨by decide, by decide⟩ kL_world rfl ?_
          refine fz_iload kL_world rfl rfl ?_
          refine fz_bipush ⟨by decide, by decide⟩ kL_world rfl ?_
          refine fz_ishr kL_world rfl ?_
          have b84 : -2147483648 ≤ (fz_shr y38 7) ∧ (fz_shr y38 7) < 2147483648 := fz_b32 _
          refine fz_bipush ⟨by decide, by decide⟩ kL_world rfl ?_
          refine fz_callS (d' := 0) (M' := mL_some) (As := [fz_i (fz_shr y38 7), fz_i 24]) (st := [fz_i 1]) kL_world rfl rfl vL_some rfl rfl (Nat.le_of_ble_eq_true rfl) (Nat.le_of_ble_eq_true rfl) (by decide) (sL_some H13 hI14 (fz_shr y38 7) 24 (by omega)) (fun H86 r87 q88 o89 => ?_)
          obtain ⟨e90, y94, rfl, f91, f92, f93⟩ := q88
          subst H86
          clear o89
          refine fz_iaddN kL_world rfl (by omega) ?_
          refine fz_istore (ls' := [(10, fz_i (1 + y94)), (9, fz_i y82), (8, fz_i y52), (7, fz_i y38), (6, fz_i x9), (5, fz_i j5), (4, fz_i x), (0, fz_r 0), (1, fz_r 200), (2, fz_r 53), (3, fz_r 205)]) kL_world rfl (by decide) rfl ?_
          refine fz_iload kL_world rfl rfl ?_
          refine fz_bipush ⟨by decide, by decide⟩ kL_world rfl ?_
          refine fz_ishr kL_world rfl ?_
          have b95 : -2147483648 ≤ (fz_shr y38 13) ∧ (fz_shr y38 13) < 2147483648 := fz_b32 _
          refine fz_iconst ⟨by decide, by decide⟩ kL_world rfl ?_
          refine fz_iand kL_world rfl ?_
          have b97 : -2147483648 ≤ (fz_and (fz_shr y38 13) 3) ∧ (fz_and (fz_shr y38 13) 3) < 2147483648 := fz_b32 _
          have b98 : 0 ≤ (fz_and (fz_shr y38 13) 3) ∧ (fz_and (fz_shr y38 13) 3) ≤ 3 := fz_and_m (by omega) (by omega)
          have J99 : ∀ j100 : Int, 0 ≤ j100 ∧ j100 ≤ 1 → fz_R 47 mL_world 380 [(10, fz_i (1 + y94)), (9, fz_i y82), (8, fz_i y52), (7, fz_i y38), (6, fz_i x9), (5, fz_i j5), (4, fz_i x), (0, fz_r 0), (1, fz_r 200), (2, fz_r 53), (3, fz_r 205)] [fz_i j100] H13 (qL_world h) := by
            intro j100 hj101
            refine fz_istore (ls' := [(11, fz_i j100), (10, fz_i (1 + y94)), (9, fz_i y82), (8, fz_i y52), (7, fz_i y38), (6, fz_i x9), (5, fz_i j5), (4, fz_i x), (0, fz_r 0), (1, fz_r 200), (2, fz_r 53), (3, fz_r 205)]) kL_world rfl (by decide) rfl ?_
            refine sL_w382 h H13 x b0 y52 y82 (1 + y94) j100 x9 j5 y38 hI14 hf15 hXq12 hRE10 hRV11 hp0 hp1 hp2 hp3 (by omega) (by omega) (by omega) (by omega) (by omega) (by omega) (by omega) (by omega) (by omega) (by omega) (by omega) (by omega) (by omega) (by omega) (by omega) (by omega) (fun H103 hI104 hf105 hX106 hRE107 hRV108 f109 f110 f111 f112 f113 f114 f115 f116 => ?_)
            refine fz_iincN (ls' := [(6, fz_i (x9 + 1)), (5, fz_i j5), (4, fz_i x), (0, fz_r 0), (1, fz_r 200), (2, fz_r 53), (3, fz_r 205)]) kL_world rfl (by decide) rfl (by omega) rfl ?_
            refine fz_goto (tgt := 299) kL_world rfl (by decide) ?_
            exact ih18 (x9 + 1) H103 hI104 hf105 hRE107 hRV108 hX106 (by omega) (by omega) (by omega) (by omega) (by omega) (by omega) (by omega) (by omega) (by omega) (by omega) (by omega)
          refine fz_if_ne (tgt := 379) kL_world rfl (by decide) (fun c117 => ?_) (fun c117 => ?_)
          · refine fz_iconst ⟨by decide, by decide⟩ kL_world rfl ?_
            exact J99 1 (by omega)
          · refine fz_iconst ⟨by decide, by decide⟩ kL_world rfl ?_
            refine fz_goto (tgt := 380) kL_world rfl (by decide) ?_
            exact J99 0 (by omega)
    exact lp17 _ 0 H hI hf hRE hRV hX (by omega) (by omega) (by omega) (by omega) (by omega) (by omega) (by omega) (by omega) (by omega) (by omega) (Nat.lt_succ_self _)
  refine fz_icmp_ge (tgt := 272) kL_world rfl (by decide) (fun c118 => ?_) (fun c118 => ?_)
  · refine fz_iload kL_world rfl rfl ?_
    refine fz_bipush ⟨by decide, by decide⟩ kL_world rfl ?_
    refine fz_ishr kL_world rfl ?_
    have b119 : -2147483648 ≤ (fz_shr x 12) ∧ (fz_shr x 12) < 2147483648 := fz_b32 _
    refine fz_aload_n kL_world rfl rfl ?_
    refine fz_iconst ⟨by decide, by decide⟩ kL_world rfl ?_
    obtain ⟨v121, e122⟩ : ∃ z, H 53 (0) = z := ⟨_, rfl⟩
    refine fz_ialdV (n := 40) (v := v121) kL_world rfl rfl (by omega) (by omega) e122 ?_
    have b123 : (-2147483648) ≤ v121 ∧ v121 ≤ 2147483647 := by rw [← e122]; exact hI.1 53 _
    refine fz_iconst ⟨by decide, by decide⟩ kL_world rfl ?_
    have J124 : ∀ j125 : Int, 7 ≤ j125 ∧ j125 ≤ 13 → fz_R 47 mL_world 291 [(4, fz_i x), (0, fz_r 0), (1, fz_r 200), (2, fz_r 53), (3, fz_r 205)] [fz_i j125, fz_i (fz_shr x 12)] H (qL_world h) := by
      intro j125 hj126
      refine fz_callS (d' := 0) (M' := mL_some) (As := [fz_i (fz_shr x 12), fz_i j125]) (st := []) kL_world rfl rfl vL_some rfl rfl (Nat.le_of_ble_eq_true rfl) (Nat.le_of_ble_eq_true rfl) (by decide) (sL_some H hI (fz_shr x 12) j125 (by omega)) (fun H128 r129 q130 o131 => ?_)
      obtain ⟨e132, y136, rfl, f133, f134, f135⟩ := q130
      subst H128
      clear o131
      exact J4 y136 (by omega) (by omega)
    refine fz_icmp_ge (tgt := 289) kL_world rfl (by decide) (fun c137 => ?_) (fun c137 => ?_)
    · refine fz_bipush ⟨by decide, by decide⟩ kL_world rfl ?_
      exact J124 13 (by omega)
    · refine fz_bipush ⟨by decide, by decide⟩ kL_world rfl ?_
      refine fz_goto (tgt := 291) kL_world rfl (by decide) ?_
      exact J124 7 (by omega)
  · refine fz_iconst ⟨by decide, by decide⟩ kL_world rfl ?_
    refine fz_goto (tgt := 294) kL_world rfl (by decide) ?_
    exact J4 0 (by omega) (by omega)

set_option maxHeartbeats 1000000 in
set_option maxRecDepth 100000 in
theorem sL_w101 (h H : fz_H) (x b0 : Int) (hI : fz_Iv H) (hf : fz_fr [(1, 7), (1, 8), (2, 99999), (3, 99999), (4, 99999), (5, 99999), (6, 99999), (7, 99999), (8, 99999), (9, 5), (10, 99999), (11, 99999), (12, 99999), (13, 99999), (14, 99999), (15, 4), (16, 99999), (17, 99999), (20, 2), (20, 3), (20, 4), (21, 4), (22, 99999), (23, 99999), (26, 99999), (27, 8), (27, 9), (28, 99999), (35, 4), (35, 5), (36, 99999), (37, 99999), (38, 99999), (39, 99999), (53, 99999)] h H) (hX : fz_Xc H) (hRE : fz_RE H) (hRV : fz_RV H) (hp0 : 0 ≤ h 200 100000 ∧ h 200 100000 ≤ 3072) (hp1 : 0 ≤ h 205 100000 ∧ h 205 100000 ≤ 120) (hp2 : h 1 7 = 0 ∧ h 1 8 = 0 ∧ h 9 5 = 0 ∧ h 20 2 = 0 ∧ h 35 4 = 0) (hp3 : h 53 1 = 0 ∧ h 53 2 = 0) (hq0 : -2147483648 ≤ x ∧ x < 2147483648) (hq1 : 0 ≤ b0 ∧ b0 ≤ 8) (hq2 : H 53 0 = b0) (hq3 : H 53 1 = H 1 8) (hq4 : H 53 2 = H 9 5) (hq5 : H 20 2 = 0) (hq6 : H 1 7 = b0) (hq7 : H 1 8 = 0) (hq8 : H 9 5 = 0) (hq9 : H 35 4 = 0) : fz_R 47 mL_world 101 [(4, fz_i x), (0, fz_r 0), (1, fz_r 200), (2, fz_r 53), (3, fz_r 205)] [] H (qL_world h) := by
  refine fz_aload_n kL_world rfl rfl ?_
  refine fz_iconst ⟨by decide, by decide⟩ kL_world rfl ?_
  refine fz_iload kL_world rfl rfl ?_
  refine fz_bipush ⟨by decide, by decide⟩ kL_world rfl ?_
  refine fz_ishr kL_world rfl ?_
  have b1 : -2147483648 ≤ (fz_shr x 16) ∧ (fz_shr x 16) < 2147483648 := fz_b32 _
  refine fz_iconst ⟨by decide, by decide⟩ kL_world rfl ?_
  refine fz_iand kL_world rfl ?_
  have b3 : -2147483648 ≤ (fz_and (fz_shr x 16) 1) ∧ (fz_and (fz_shr x 16) 1) < 2147483648 := fz_b32 _
  have b4 : 0 ≤ (fz_and (fz_shr x 16) 1) ∧ (fz_and (fz_shr x 16) 1) ≤ 1 := fz_and_m (by omega) (by omega)
  have J5 : ∀ j6 : Int, 0 ≤ j6 ∧ j6 ≤ 60 → fz_R 47 mL_world 128 [(4, fz_i x), (0, fz_r 0), (1, fz_r 200), (2, fz_r 53), (3, fz_r 205)] [fz_i j6, fz_i 3, fz_r 53] H (qL_world h) := by
    intro j6 hj7
    refine fz_iast (n := 40) kL_world rfl rfl (by omega) (by omega) ?_
    refine fz_nmu (S := [(1, 7), (1, 8), (2, 99999), (3, 99999), (4, 99999), (5, 99999), (6, 99999), (7, 99999), (8, 99999), (9, 5), (10, 99999), (11, 99999), (12, 99999), (13, 99999), (14, 99999), (15, 4), (16, 99999), (17, 99999), (20, 2), (20, 3), (20, 4), (21, 4), (22, 99999), (23, 99999), (26, 99999), (27, 8), (27, 9), (28, 99999), (35, 4), (35, 5), (36, 99999), (37, 99999), (38, 99999), (39, 99999), (53, 99999)]) (h0 := h) (fz_Iv_up hI (by decide) (show ((-2147483648) : Int) ≤ j6 by omega) (show (j6 : Int) ≤ 2147483647 by omega)) (fz_fr_up hf rfl) (fun H9 hI10 hf11 e12 => ?_)
    have t13 : H9 20 2 = H 20 2 := by rw [e12]; exact fz_up_o (by decide)
    have t14 : H9 35 4 = H 35 4 := by rw [e12]; exact fz_up_o (by decide)
    have t15 : H9 1 7 = H 1 7 := by rw [e12]; exact fz_up_o (by decide)
    have t16 : H9 1 8 = H 1 8 := by rw [e12]; exact fz_up_o (by decide)
    have t17 : H9 9 5 = H 9 5 := by rw [e12]; exact fz_up_o (by decide)
    have hX18 : fz_Xc H9 := by rw [e12]; exact fz_Xc_up (by decide) (by decide) (by decide) hX
    have hRE19 : fz_RE H9 := fz_RE_eq (by rw [e12]; exact fz_up_ne (by decide)) (by rw [e12]; exact fz_up_ne (by decide)) (by rw [e12]; exact fz_up_o (by decide)) (by rw [e12]; exact fz_up_o (by decide)) hRE
    have hRV20 : fz_RV H9 := fz_RV_eq (by rw [e12]; exact fz_up_ne (by decide)) (by rw [e12]; exact fz_up_ne (by decide)) (by rw [e12]; exact fz_up_ne (by decide)) (by rw [e12]; exact fz_up_ne (by decide)) (by rw [e12]; exact fz_up_ne (by decide)) (by rw [e12]; exact fz_up_ne (by decide)) (by rw [e12]; exact fz_up_o (by decide)) (by rw [e12]; exact fz_up_o (by decide)) hRV
    have t21 : H9 53 0 = H 53 0 := by rw [e12]; exact fz_up_s (by decide)
    have t22 : H9 53 1 = H 53 1 := by rw [e12]; exact fz_up_s (by decide)
    have t23 : H9 53 2 = H 53 2 := by rw [e12]; exact fz_up_s (by decide)
    refine fz_aload_n kL_world rfl rfl ?_
    refine fz_iconst ⟨by decide, by decide⟩ kL_world rfl ?_
    refine fz_iload kL_world rfl rfl ?_
    refine fz_bipush ⟨by decide, by decide⟩ kL_world rfl ?_
    refine fz_ishr kL_world rfl ?_
    have b24 : -2147483648 ≤ (fz_shr x 22) ∧ (fz_shr x 22) < 2147483648 := fz_b32 _
    refine fz_bipush ⟨by decide, by decide⟩ kL_world rfl ?_
    refine fz_callS (d' := 0) (M' := mL_some) (As := [fz_i (fz_shr x 22), fz_i 13]) (st := [fz_i 4, fz_r 53]) kL_world rfl rfl vL_some rfl rfl (Nat.le_of_ble_eq_true rfl) (Nat.le_of_ble_eq_true rfl) (by decide) (sL_some H9 hI10 (fz_shr x 22) 13 (by omega)) (fun H26 r27 q28 o29 => ?_)
    obtain ⟨e30, y34, rfl, f31, f32, f33⟩ := q28
    subst H26
    clear o29
    refine fz_iast (n := 40) kL_world rfl rfl (by omega) (by omega) ?_
    refine fz_nmu (S := [(1, 7), (1, 8), (2, 99999), (3, 99999), (4, 99999), (5, 99999), (6, 99999), (7, 99999), (8, 99999), (9, 5), (10, 99999), (11, 99999), (12, 99999), (13, 99999), (14, 99999), (15, 4), (16, 99999), (17, 99999), (20, 2), (20, 3), (20, 4), (21, 4), (22, 99999), (23, 99999), (26, 99999), (27, 8), (27, 9), (28, 99999), (35, 4), (35, 5), (36, 99999), (37, 99999), (38, 99999), (39, 99999), (53, 99999)]) (h0 := h) (fz_Iv_up hI10 (by decide) (show ((-2147483648) : Int) ≤ y34 by omega) (show (y34 : Int) ≤ 2147483647 by omega)) (fz_fr_up hf11 rfl) (fun H35 hI36 hf37 e38 => ?_)
    have t39 : H35 20 2 = H9 20 2 := by rw [e38]; exact fz_up_o (by decide)
    have t40 : H35 35 4 = H9 35 4 := by rw [e38]; exact fz_up_o (by decide)
    have t41 : H35 1 7 = H9 1 7 := by rw [e38]; exact fz_up_o (by decide)
    have t42 : H35 1 8 = H9 1 8 := by rw [e38]; exact fz_up_o (by decide)
    have t43 : H35 9 5 = H9 9 5 := by rw [e38]; exact fz_up_o (by decide)
    have hX44 : fz_Xc H35 := by rw [e38]; exact fz_Xc_up (by decide) (by decide) (by decide) hX18
    have hRE45 : fz_RE H35 := fz_RE_eq (by rw [e38]; exact fz_up_ne (by decide)) (by rw [e38]; exact fz_up_ne (by decide)) (by rw [e38]; exact fz_up_o (by decide)) (by rw [e38]; exact fz_up_o (by decide)) hRE19
    have hRV46 : fz_RV H35 := fz_RV_eq (by rw [e38]; exact fz_up_ne (by decide)) (by rw [e38]; exact fz_up_ne (by decide)) (by rw [e38]; exact fz_up_ne (by decide)) (by rw [e38]; exact fz_up_ne (by decide)) (by rw [e38]; exact fz_up_ne (by decide)) (by rw [e38]; exact fz_up_ne (by decide)) (by rw [e38]; exact fz_up_o (by decide)) (by rw [e38]; exact fz_up_o (by decide)) hRV20
    have t47 : H35 53 0 = H9 53 0 := by rw [e38]; exact fz_up_s (by decide)
    have t48 : H35 53 1 = H9 53 1 := by rw [e38]; exact fz_up_s (by decide)
    have t49 : H35 53 2 = H9 53 2 := by rw [e38]; exact fz_up_s (by decide)
    refine fz_aload_n kL_world rfl rfl ?_
    refine fz_iconst ⟨by decide, by decide⟩ kL_world rfl ?_
    refine fz_bipush ⟨by decide, by decide⟩ kL_world rfl ?_
    refine fz_aload_n kL_world rfl rfl ?_
    refine fz_iconst ⟨by decide, by decide⟩ kL_world rfl ?_
    obtain ⟨v50, e51⟩ : ∃ z, H35 53 (3) = z := ⟨_, rfl⟩
    refine fz_ialdV (n := 40) (v := v50) kL_world rfl rfl (by omega) (by omega) e51 ?_
    have b52 : (-2147483648) ≤ v50 ∧ v50 ≤ 2147483647 := by rw [← e51]; exact hI36.1 53 _
    refine fz_callV (d' := 4) (M' := mX10_mend) (As := [fz_i 0, fz_i 7, fz_i v50]) (st := []) kL_world rfl rfl vX10_mend rfl rfl rfl rfl (Nat.le_of_ble_eq_true rfl) (Nat.le_of_ble_eq_true rfl) (by decide) (sX10_mend H35 hI36 0 7 v50 (hX44) hRE45 hRV46) (fun H53 r54 q55 o56 => ?_)
    obtain ⟨hI57, hf58, hX59, hRE60, hRV61, y64, rfl, f62, f63⟩ := q55
    clear o56
    have hf65 := fz_fr_tr hf37 hf58 (show fz_su [(2, 99999), (3, 99999), (4, 99999), (7, 99999), (8, 99999), (12, 99999), (13, 99999), (14, 99999), (27, 8), (27, 9), (28, 99999), (35, 4), (35, 5), (36, 99999), (37, 99999), (38, 99999), (39, 99999)] [(1, 7), (1, 8), (2, 99999), (3, 99999), (4, 99999), (5, 99999), (6, 99999), (7, 99999), (8, 99999), (9, 5), (10, 99999), (11, 99999), (12, 99999), (13, 99999), (14, 99999), (15, 4), (16, 99999), (17, 99999), (20, 2), (20, 3), (20, 4), (21, 4), (22, 99999), (23, 99999), (26, 99999), (27, 8), (27, 9), (28, 99999), (35, 4), (35, 5), (36, 99999), (37, 99999), (38, 99999), (39, 99999), (53, 99999)] = true from rfl)
    have t66 : H53 53 0 = H35 53 0 := hf58 53 0 rfl
    have t67 : H53 53 1 = H35 53 1 := hf58 53 1 rfl
    have t68 : H53 53 2 = H35 53 2 := hf58 53 2 rfl
    have t69 : H53 20 2 = H35 20 2 := hf58 20 2 rfl
    have t70 : H53 1 7 = H35 1 7 := hf58 1 7 rfl
    have t71 : H53 1 8 = H35 1 8 := hf58 1 8 rfl
    have t72 : H53 9 5 = H35 9 5 := hf58 9 5 rfl
    have k73 := st_mC_d f63 hI57
    refine fz_pop rfl kL_world rfl ?_
    refine fz_aload_n kL_world rfl rfl ?_
    refine fz_iconst ⟨by decide, by decide⟩ kL_world rfl ?_
    refine fz_bipush ⟨by decide, by decide⟩ kL_world rfl ?_
    refine fz_aload_n kL_world rfl rfl ?_
    refine fz_iconst ⟨by decide, by decide⟩ kL_world rfl ?_
    obtain ⟨v74, e75⟩ : ∃ z, H53 53 (4) = z := ⟨_, rfl⟩
    refine fz_ialdV (n := 40) (v := v74) kL_world rfl rfl (by omega) (by omega) e75 ?_
    have b76 : (-2147483648) ≤ v74 ∧ v74 ≤ 2147483647 := by rw [← e75]; exact hI57.1 53 _
    refine fz_callV (d' := 4) (M' := mX10_mend) (As := [fz_i 0, fz_i 8, fz_i v74]) (st := []) kL_world rfl rfl vX10_mend rfl rfl rfl rfl (Nat.le_of_ble_eq_true rfl) (Nat.le_of_ble_eq_true rfl) (by decide) (sX10_mend H53 hI57 0 8 v74 (hX59) hRE60 hRV61) (fun H77 r78 q79 o80 => ?_)
    obtain ⟨hI81, hf82, hX83, hRE84, hRV85, y88, rfl, f86, f87⟩ := q79
    clear o80
    have hf89 := fz_fr_tr hf65 hf82 (show fz_su [(2, 99999), (3, 99999), (4, 99999), (7, 99999), (8, 99999), (12, 99999), (13, 99999), (14, 99999), (27, 8), (27, 9), (28, 99999), (35, 4), (35, 5), (36, 99999), (37, 99999), (38, 99999), (39, 99999)] [(1, 7), (1, 8), (2, 99999), (3, 99999), (4, 99999), (5, 99999), (6, 99999), (7, 99999), (8, 99999), (9, 5), (10, 99999), (11, 99999), (12, 99999), (13, 99999), (14, 99999), (15, 4), (16, 99999), (17, 99999), (20, 2), (20, 3), (20, 4), (21, 4), (22, 99999), (23, 99999), (26, 99999), (27, 8), (27, 9), (28, 99999), (35, 4), (35, 5), (36, 99999), (37, 99999), (38, 99999), (39, 99999), (53, 99999)] = true from rfl)
    have t90 : H77 53 0 = H53 53 0 := hf82 53 0 rfl
    have t91 : H77 53 1 = H53 53 1 := hf82 53 1 rfl
    have t92 : H77 53 2 = H53 53 2 := hf82 53 2 rfl
    have t93 : H77 20 2 = H53 20 2 := hf82 20 2 rfl
    have t94 : H77 1 7 = H53 1 7 := hf82 1 7 rfl
    have t95 : H77 1 8 = H53 1 8 := hf82 1 8 rfl
    have t96 : H77 9 5 = H53 9 5 := hf82 9 5 rfl
    have k97 := st_mC_d f87 hI81
    refine fz_pop rfl kL_world rfl ?_
    refine fz_iconst ⟨by decide, by decide⟩ kL_world rfl ?_
    refine fz_istore (ls' := [(5, fz_i 0), (4, fz_i x), (0, fz_r 0), (1, fz_r 200), (2, fz_r 53), (3, fz_r 205)]) kL_world rfl (by decide) rfl ?_
    have lp106 : ∀ (n105 : Nat) (x98 : Int) (H102 : fz_H), fz_Iv H102 → fz_fr [(1, 7), (1, 8), (2, 99999), (3, 99999), (4, 99999), (5, 99999), (6, 99999), (7, 99999), (8, 99999), (9, 5), (10, 99999), (11, 99999), (12, 99999), (13, 99999), (14, 99999), (15, 4), (16, 99999), (17, 99999), (20, 2), (20, 3), (20, 4), (21, 4), (22, 99999), (23, 99999), (26, 99999), (27, 8), (27, 9), (28, 99999), (35, 4), (35, 5), (36, 99999), (37, 99999), (38, 99999), (39, 99999), (53, 99999)] h H102 → fz_RE H102 → fz_RV H102 → fz_Xc H102 → (0 ≤ x98 ∧ x98 ≤ 5) → (H102 53 0 = b0) → (H102 53 1 = H102 1 8) → (H102 53 2 = H102 9 5) → (H102 20 2 = 0) → (H102 1 7 = b0) → (H102 1 8 = 0) → (H102 9 5 = 0) → (0 ≤ H102 35 4 ∧ H102 35 4 ≤ 2 + x98) → (5 - x98).toNat < n105 → fz_R 47 mL_world 167 [(5, fz_i x98), (4, fz_i x), (0, fz_r 0), (1, fz_r 200), (2, fz_r 53), (3, fz_r 205)] [] H102 (qL_world h) := by
      intro n105
      induction n105 with
      | zero => intro x98 H102 hI103 hf104 hRE99 hRV100 hXq101 hv109 hv110 hv111 hv112 hv113 hv114 hv115 hv116 hv117 hm108; exact absurd hm108 (by omega)
      | succ n105 ih107 =>
        intro x98 H102 hI103 hf104 hRE99 hRV100 hXq101 hv109 hv110 hv111 hv112 hv113 hv114 hv115 hv116 hv117 hm108
        refine fz_iload kL_world rfl rfl ?_
        refine fz_iconst ⟨by decide, by decide⟩ kL_world rfl ?_
        refine fz_icmp_ge (tgt := 261) kL_world rfl (by decide) (fun c118 => ?_) (fun c118 => ?_)
        · refine fz_sub (fz_pk_sub (ls' := [(4, fz_i x), (0, fz_r 0), (1, fz_r 200), (2, fz_r 53), (3, fz_r 205)]) [1, 2, 3, 4, 5] rfl) ?_
          exact sL_w261 h H102 x b0 hI103 hf104 hXq101 hRE99 hRV100 hp0 hp1 hp2 hp3 (by omega) (by omega) (by omega) (by omega) (by omega) (by omega) (by omega) (by omega) (by omega) (by omega)
        · refine fz_aload_n kL_world rfl rfl ?_
          refine fz_bipush ⟨by decide, by decide⟩ kL_world rfl ?_
          refine fz_iload kL_world rfl rfl ?_
          refine fz_iaddN kL_world rfl (by omega) ?_
          refine fz_bipush ⟨by decide, by decide⟩ kL_world rfl ?_
          refine fz_iload kL_world rfl rfl ?_
          refine fz_bipush ⟨by decide, by decide⟩ kL_world rfl ?_
          refine fz_ishr kL_world rfl ?_
          have b119 : -2147483648 ≤ (fz_shr x 26) ∧ (fz_shr x 26) < 2147483648 := fz_b32 _
          refine fz_iconst ⟨by decide, by decide⟩ kL_world rfl ?_
          refine fz_iand kL_world rfl ?_
          have b121 : -2147483648 ≤ (fz_and (fz_shr x 26) 1) ∧ (fz_and (fz_shr x 26) 1) < 2147483648 := fz_b32 _
          have b122 : 0 ≤ (fz_and (fz_shr x 26) 1) ∧ (fz_and (fz_shr x 26) 1) ≤ 1 := fz_and_m (by omega) (by omega)
          have J123 : ∀ j124 : Int, (-9) ≤ j124 ∧ j124 ≤ 9 → fz_R 47 mL_world 234 [(5, fz_i x98), (4, fz_i x), (0, fz_r 0), (1, fz_r 200), (2, fz_r 53), (3, fz_r 205)] [fz_i j124, fz_i 10, fz_i (35 + x98), fz_r 53] H102 (qL_world h) := by
            intro j124 hj125
            refine fz_iaddN kL_world rfl (by omega) ?_
            refine fz_iast (n := 40) kL_world rfl rfl (by omega) (by omega) ?_
            refine fz_nmu (S := [(1, 7), (1, 8), (2, 99999), (3, 99999), (4, 99999), (5, 99999), (6, 99999), (7, 99999), (8, 99999), (9, 5), (10, 99999), (11, 99999), (12, 99999), (13, 99999), (14, 99999), (15, 4), (16, 99999), (17, 99999), (20, 2), (20, 3), (20, 4), (21, 4), (22, 99999), (23, 99999), (26, 99999), (27, 8), (27, 9), (28, 99999), (35, 4), (35, 5), (36, 99999), (37, 99999), (38, 99999), (39, 99999), (53, 99999)]) (h0 := h) (fz_Iv_up hI103 (by decide) (show ((-2147483648) : Int) ≤ (10 + j124) by omega) (show ((10 + j124) : Int) ≤ 2147483647 by omega)) (fz_fr_up hf104 rfl) (fun H127 hI128 hf129 e130 => ?_)
            have t131 : H127 20 2 = H102 20 2 := by rw [e130]; exact fz_up_o (by decide)
            have t132 : H127 35 4 = H102 35 4 := by rw [e130]; exact fz_up_o (by decide)
            have t133 : H127 1 7 = H102 1 7 := by rw [e130]; exact fz_up_o (by decide)
            have t134 : H127 1 8 = H102 1 8 := by rw [e130]; exact fz_up_o (by decide)
            have t135 : H127 9 5 = H102 9 5 := by rw [e130]; exact fz_up_o (by decide)
            have hX136 : fz_Xc H127 := by rw [e130]; exact fz_Xc_up (by decide) (by decide) (by decide) hXq101
            have hRE137 : fz_RE H127 := fz_RE_eq (by rw [e130]; exact fz_up_ne (by decide)) (by rw [e130]; exact fz_up_ne (by decide)) (by rw [e130]; exact fz_up_o (by decide)) (by rw [e130]; exact fz_up_o (by decide)) hRE99
            have hRV138 : fz_RV H127 := fz_RV_eq (by rw [e130]; exact fz_up_ne (by decide)) (by rw [e130]; exact fz_up_ne (by decide)) (by rw [e130]; exact fz_up_ne (by decide)) (by rw [e130]; exact fz_up_ne (by decide)) (by rw [e130]; exact fz_up_ne (by decide)) (by rw [e130]; exact fz_up_ne (by decide)) (by rw [e130]; exact fz_up_o (by decide)) (by rw [e130]; exact fz_up_o (by decide)) hRV100
            have t139 : H127 53 0 = H102 53 0 := by rw [e130]; exact fz_up_s (by omega)
            have t140 : H127 53 1 = H102 53 1 := by rw [e130]; exact fz_up_s (by omega)
            have t141 : H127 53 2 = H102 53 2 := by rw [e130]; exact fz_up_s (by omega)
            refine fz_aload_n kL_world rfl rfl ?_
            refine fz_iload kL_world rfl rfl ?_
            refine fz_bipush ⟨by decide, by decide⟩ kL_world rfl ?_
            refine fz_aload_n kL_world rfl rfl ?_
            refine fz_bipush ⟨by decide, by decide⟩ kL_world rfl ?_
            refine fz_iload kL_world rfl rfl ?_
            refine fz_iaddN kL_world rfl (by omega) ?_
            obtain ⟨v142, e143⟩ : ∃ z, H127 53 ((35 + x98).toNat) = z := ⟨_, rfl⟩
            refine fz_ialdV (n := 40) (v := v142) kL_world rfl rfl (by omega) (by omega) e143 ?_
            have b144 : (-2147483648) ≤ v142 ∧ v142 ≤ 2147483647 := by rw [← e143]; exact hI128.1 53 _
            have k145 := e143.symm.trans ((congrFun (congrFun e130 53) _).trans fz_up_e)
            refine fz_bipush ⟨by decide, by decide⟩ kL_world rfl ?_
            refine fz_isub kL_world rfl ?_
            refine fz_nmw (fun z146 e147 => ?_)
            refine fz_callV (d' := 4) (M' := mX10_mend) (As := [fz_i x98, fz_i 6, fz_i z146]) (st := []) kL_world rfl rfl vX10_mend rfl rfl rfl rfl (Nat.le_of_ble_eq_true rfl) (Nat.le_of_ble_eq_true rfl) (by decide) (sX10_mend H127 hI128 x98 6 z146 (hX136) hRE137 hRV138) (fun H148 r149 q150 o151 => ?_)
            obtain ⟨hI152, hf153, hX154, hRE155, hRV156, y159, rfl, f157, f158⟩ := q150
            clear o151
            have hf160 := fz_fr_tr hf129 hf153 (show fz_su [(2, 99999), (3, 99999), (4, 99999), (7, 99999), (8, 99999), (12, 99999), (13, 99999), (14, 99999), (27, 8), (27, 9), (28, 99999), (35, 4), (35, 5), (36, 99999), (37, 99999), (38, 99999), (39, 99999)] [(1, 7), (1, 8), (2, 99999), (3, 99999), (4, 99999), (5, 99999), (6, 99999), (7, 99999), (8, 99999), (9, 5), (10, 99999), (11, 99999), (12, 99999), (13, 99999), (14, 99999), (15, 4), (16, 99999), (17, 99999), (20, 2), (20, 3), (20, 4), (21, 4), (22, 99999), (23, 99999), (26, 99999), (27, 8), (27, 9), (28, 99999), (35, 4), (35, 5), (36, 99999), (37, 99999), (38, 99999), (39, 99999), (53, 99999)] = true from rfl)
            have t161 : H148 53 0 = H127 53 0 := hf153 53 0 rfl
            have t162 : H148 53 1 = H127 53 1 := hf153 53 1 rfl
            have t163 : H148 53 2 = H127 53 2 := hf153 53 2 rfl
            have t164 : H148 20 2 = H127 20 2 := hf153 20 2 rfl
            have t165 : H148 1 7 = H127 1 7 := hf153 1 7 rfl
            have t166 : H148 1 8 = H127 1 8 := hf153 1 8 rfl
            have t167 : H148 9 5 = H127 9 5 := hf153 9 5 rfl
            have k168 := st_mC_d f158 hI152
            refine fz_pop rfl kL_world rfl ?_
            refine fz_iincN (ls' := [(5, fz_i (x98 + 1)), (4, fz_i x), (0, fz_r 0), (1, fz_r 200), (2, fz_r 53), (3, fz_r 205)]) kL_world rfl (by decide) rfl (by omega) rfl ?_
            refine fz_goto (tgt := 167) kL_world rfl (by decide) ?_
            exact ih107 (x98 + 1) H148 hI152 hf160 hRE155 hRV156 hX154 (by omega) (by omega) (by omega) (by omega) (by omega) (by omega) (by omega) (by omega) (by omega) (by omega)
          refine fz_if_ne (tgt := 216) kL_world rfl (by decide) (fun c169 => ?_) (fun c169 => ?_)
          · refine fz_aload_n kL_world rfl rfl ?_
            refine fz_iconst ⟨by decide, by decide⟩ kL_world rfl ?_
            have e170 : H102 200 100000 = h 200 100000 := hf104 200 100000 rfl
            refine fz_callS (d' := 0) (M' := mL_at) (As := [fz_r 200, fz_i 1]) (st := [fz_i 10, fz_i (35 + x98), fz_r 53]) kL_world rfl rfl vL_at rfl rfl (Nat.le_of_ble_eq_true rfl) (Nat.le_of_ble_eq_true rfl) (by decide) (sL_at H102 hI103 1 (by omega) (by omega)) (fun H171 r172 q173 o174 => ?_)
            obtain ⟨e175, y177, rfl, f176⟩ := q173
            subst H171
            clear o174
            refine fz_iconst ⟨by decide, by decide⟩ kL_world rfl ?_
            refine fz_iload kL_world rfl rfl ?_
            refine fz_imulN kL_world rfl (by omega) ?_
            refine fz_ishr kL_world rfl ?_
            have b178 : -2147483648 ≤ (fz_shr y177 (5 * x98)) ∧ (fz_shr y177 (5 * x98)) < 2147483648 := fz_b32 _
            refine fz_bipush ⟨by decide, by decide⟩ kL_world rfl ?_
            refine fz_callS (d' := 0) (M' := mL_some) (As := [fz_i (fz_shr y177 (5 * x98)), fz_i 19]) (st := [fz_i 10, fz_i (35 + x98), fz_r 53]) kL_world rfl rfl vL_some rfl rfl (Nat.le_of_ble_eq_true rfl) (Nat.le_of_ble_eq_true rfl) (by decide) (sL_some H102 hI103 (fz_shr y177 (5 * x98)) 19 (by omega)) (fun H180 r181 q182 o183 => ?_)
            obtain ⟨e184, y188, rfl, f185, f186, f187⟩ := q182
            subst H180
            clear o183
            refine fz_bipush ⟨by decide, by decide⟩ kL_world rfl ?_
            refine fz_isubN kL_world rfl (by omega) ?_
            exact J123 (y188 - 9) (by omega)
          · refine fz_iload kL_world rfl rfl ?_
            refine fz_iconst ⟨by decide, by decide⟩ kL_world rfl ?_
            refine fz_icmp_ne (tgt := 202) kL_world rfl (by decide) (fun c189 => ?_) (fun c189 => ?_)
            · refine fz_iload kL_world rfl rfl ?_
              refine fz_iconst ⟨by decide, by decide⟩ kL_world rfl ?_
              refine fz_icmp_ne (tgt := 212) kL_world rfl (by decide) (fun c190 => ?_) (fun c190 => ?_)
              · refine fz_iconst ⟨by decide, by decide⟩ kL_world rfl ?_
                refine fz_goto (tgt := 234) kL_world rfl (by decide) ?_
                exact J123 1 (by omega)
              · refine fz_iconst ⟨by decide, by decide⟩ kL_world rfl ?_
                refine fz_goto (tgt := 234) kL_world rfl (by decide) ?_
                exact J123 (-1) (by omega)
            · refine fz_bipush ⟨by decide, by decide⟩ kL_world rfl ?_
              refine fz_goto (tgt := 234) kL_world rfl (by decide) ?_
              exact J123 (-2) (by omega)
    exact lp106 _ 0 H77 hI81 hf89 hRE84 hRV85 hX83 (by omega) (by omega) (by omega) (by omega) (by omega) (by omega) (by omega) (by omega) (by omega) (Nat.lt_succ_self _)
  refine fz_if_ne (tgt := 126) kL_world rfl (by decide) (fun c191 => ?_) (fun c191 => ?_)
  · refine fz_bipush ⟨by decide, by decide⟩ kL_world rfl ?_
    exact J5 60 (by omega)
  · refine fz_iload kL_world rfl rfl ?_
    refine fz_bipush ⟨by decide, by decide⟩ kL_world rfl ?_
    refine fz_ishr kL_world rfl ?_
    have b192 : -2147483648 ≤ (fz_shr x 17) ∧ (fz_shr x 17) < 2147483648 := fz_b32 _
    refine fz_bipush ⟨by decide, by decide⟩ kL_world rfl ?_
    refine fz_callS (d' := 0) (M' := mL_some) (As := [fz_i (fz_shr x 17), fz_i 30]) (st := [fz_i 3, fz_r 53]) kL_world rfl rfl vL_some rfl rfl (Nat.le_of_ble_eq_true rfl) (Nat.le_of_ble_eq_true rfl) (by decide) (sL_some H hI (fz_shr x 17) 30 (by omega)) (fun H194 r195 q196 o197 => ?_)
    obtain ⟨e198, y202, rfl, f199, f200, f201⟩ := q196
    subst H194
    clear o197
    refine fz_goto (tgt := 128) kL_world rfl (by decide) ?_
    exact J5 y202 (by omega)

set_option maxHeartbeats 1000000 in
set_option maxRecDepth 100000 in
theorem sL_world (h : fz_H) (hI : fz_Iv h) (hX : fz_Xc h) (hRE : fz_RE h) (hRV : fz_RV h) (hp0 : 0 ≤ h 200 100000 ∧ h 200 100000 ≤ 3072) (hp1 : 0 ≤ h 205 100000 ∧ h 205 100000 ≤ 120) (hp2 : h 1 7 = 0 ∧ h 1 8 = 0 ∧ h 9 5 = 0 ∧ h 20 2 = 0 ∧ h 35 4 = 0) (hp3 : h 53 1 = 0 ∧ h 53 2 = 0) : fz_R 47 mL_world 0 [(0, fz_r 0), (1, fz_r 200), (2, fz_r 53), (3, fz_r 205)] [] h (qL_world h) := by
  have hf : fz_fr [(1, 7), (1, 8), (2, 99999), (3, 99999), (4, 99999), (5, 99999), (6, 99999), (7, 99999), (8, 99999), (9, 5), (10, 99999), (11, 99999), (12, 99999), (13, 99999), (14, 99999), (15, 4), (16, 99999), (17, 99999), (20, 2), (20, 3), (20, 4), (21, 4), (22, 99999), (23, 99999), (26, 99999), (27, 8), (27, 9), (28, 99999), (35, 4), (35, 5), (36, 99999), (37, 99999), (38, 99999), (39, 99999), (53, 99999)] h h := fz_fr_rf
  have b1 : 0 ≤ h 1 7 ∧ h 1 7 ≤ 8 := hI.1 1 _
  have b2 : 0 ≤ h 1 8 ∧ h 1 8 ≤ 12 := hI.1 1 _
  have b3 : 0 ≤ h 9 5 ∧ h 9 5 ≤ 10 := hI.1 9 _
  have b4 : 0 ≤ h 20 2 ∧ h 20 2 ≤ 120 := hI.1 20 _
  have b5 : 0 ≤ h 35 4 ∧ h 35 4 ≤ 40 := hI.1 35 _
  have b6 : (-2147483648) ≤ h 53 1 ∧ h 53 1 ≤ 2147483647 := hI.1 53 _
  have b7 : (-2147483648) ≤ h 53 2 ∧ h 53 2 ≤ 2147483647 := hI.1 53 _
  refine fz_aload_n kL_world rfl rfl ?_
  refine fz_iconst ⟨by decide, by decide⟩ kL_world rfl ?_
  refine fz_callS (d' := 0) (M' := mL_at) (As := [fz_r 200, fz_i 0]) (st := []) kL_world rfl rfl vL_at rfl rfl (Nat.le_of_ble_eq_true rfl) (Nat.le_of_ble_eq_true rfl) (by decide) (sL_at h hI 0 (by omega) (by omega)) (fun H8 r9 q10 o11 => ?_)
  obtain ⟨e12, y14, rfl, f13⟩ := q10
  subst H8
  clear o11
  refine fz_istore (ls' := [(4, fz_i y14), (0, fz_r 0), (1, fz_r 200), (2, fz_r 53), (3, fz_r 205)]) kL_world rfl (by decide) rfl ?_
  refine fz_aload_n kL_world rfl rfl ?_
  refine fz_iconst ⟨by decide, by decide⟩ kL_world rfl ?_
  refine fz_iload kL_world rfl rfl ?_
  refine fz_bipush ⟨by decide, by decide⟩ kL_world rfl ?_
  refine fz_iand kL_world rfl ?_
  have b15 : -2147483648 ≤ (fz_and y14 7) ∧ (fz_and y14 7) < 2147483648 := fz_b32 _
  have b16 : 0 ≤ (fz_and y14 7) ∧ (fz_and y14 7) ≤ 7 := fz_and_m (by omega) (by omega)
  have J17 : ∀ j18 : Int, 0 ≤ j18 ∧ j18 ≤ 8 → fz_R 47 mL_world 39 [(4, fz_i y14), (0, fz_r 0), (1, fz_r 200), (2, fz_r 53), (3, fz_r 205)] [fz_i j18, fz_i 0, fz_r 53] h (qL_world h) := by
    intro j18 hj19
    refine fz_iast (n := 40) kL_world rfl rfl (by omega) (by omega) ?_
    refine fz_nmu (S := [(1, 7), (1, 8), (2, 99999), (3, 99999), (4, 99999), (5, 99999), (6, 99999), (7, 99999), (8, 99999), (9, 5), (10, 99999), (11, 99999), (12, 99999), (13, 99999), (14, 99999), (15, 4), (16, 99999), (17, 99999), (20, 2), (20, 3), (20, 4), (21, 4), (22, 99999), (23, 99999), (26, 99999), (27, 8), (27, 9), (28, 99999), (35, 4), (35, 5), (36, 99999), (37, 99999), (38, 99999), (39, 99999), (53, 99999)]) (h0 := h) (fz_Iv_up hI (by decide) (show ((-2147483648) : Int) ≤ j18 by omega) (show (j18 : Int) ≤ 2147483647 by omega)) (fz_fr_up hf rfl) (fun H21 hI22 hf23 e24 => ?_)
    have k25 : H21 1 7 = (h 1 7) := by rw [e24]; exact (fz_up_o (by decide)).trans rfl
    have k26 : H21 1 8 = (h 1 8) := by rw [e24]; exact (fz_up_o (by decide)).trans rfl
    have k27 : H21 9 5 = (h 9 5) := by rw [e24]; exact (fz_up_o (by decide)).trans rfl
    have k28 : H21 20 2 = (h 20 2) := by rw [e24]; exact (fz_up_o (by decide)).trans rfl
    have k29 : H21 35 4 = (h 35 4) := by rw [e24]; exact (fz_up_o (by decide)).trans rfl
    have t30 : H21 20 2 = h 20 2 := by rw [e24]; exact fz_up_o (by decide)
    have t31 : H21 35 4 = h 35 4 := by rw [e24]; exact fz_up_o (by decide)
    have t32 : H21 1 7 = h 1 7 := by rw [e24]; exact fz_up_o (by decide)
    have t33 : H21 1 8 = h 1 8 := by rw [e24]; exact fz_up_o (by decide)
    have t34 : H21 9 5 = h 9 5 := by rw [e24]; exact fz_up_o (by decide)
    have hX35 : fz_Xc H21 := by rw [e24]; exact fz_Xc_up (by decide) (by decide) (by decide) hX
    have hRE36 : fz_RE H21 := fz_RE_eq (by rw [e24]; exact fz_up_ne (by decide)) (by rw [e24]; exact fz_up_ne (by decide)) (by rw [e24]; exact fz_up_o (by decide)) (by rw [e24]; exact fz_up_o (by decide)) hRE
    have hRV37 : fz_RV H21 := fz_RV_eq (by rw [e24]; exact fz_up_ne (by decide)) (by rw [e24]; exact fz_up_ne (by decide)) (by rw [e24]; exact fz_up_ne (by decide)) (by rw [e24]; exact fz_up_ne (by decide)) (by rw [e24]; exact fz_up_ne (by decide)) (by rw [e24]; exact fz_up_ne (by decide)) (by rw [e24]; exact fz_up_o (by decide)) (by rw [e24]; exact fz_up_o (by decide)) hRV
    have t38 : H21 53 0 = j18 := by rw [e24]; exact fz_up_e
    have t39 : H21 53 1 = h 53 1 := by rw [e24]; exact fz_up_s (by decide)
    have t40 : H21 53 2 = h 53 2 := by rw [e24]; exact fz_up_s (by decide)
    refine fz_iconst ⟨by decide, by decide⟩ kL_world rfl ?_
    refine fz_istore (ls' := [(5, fz_i 0), (4, fz_i y14), (0, fz_r 0), (1, fz_r 200), (2, fz_r 53), (3, fz_r 205)]) kL_world rfl (by decide) rfl ?_
    have lp49 : ∀ (n48 : Nat) (x41 : Int) (H45 : fz_H), fz_Iv H45 → fz_fr [(1, 7), (1, 8), (2, 99999), (3, 99999), (4, 99999), (5, 99999), (6, 99999), (7, 99999), (8, 99999), (9, 5), (10, 99999), (11, 99999), (12, 99999), (13, 99999), (14, 99999), (15, 4), (16, 99999), (17, 99999), (20, 2), (20, 3), (20, 4), (21, 4), (22, 99999), (23, 99999), (26, 99999), (27, 8), (27, 9), (28, 99999), (35, 4), (35, 5), (36, 99999), (37, 99999), (38, 99999), (39, 99999), (53, 99999)] h H45 → fz_RE H45 → fz_RV H45 → fz_Xc H45 → (0 ≤ x41 ∧ x41 ≤ 8) → (H45 53 0 = j18) → (H45 53 1 = H45 1 8) → (H45 53 2 = H45 9 5) → (H45 20 2 = 0) → (H45 1 7 = x41) → (x41 ≤ j18) → (H45 1 8 = 0) → (H45 9 5 = 0) → (H45 35 4 = 0) → (j18 - x41).toNat < n48 → fz_R 47 mL_world 43 [(5, fz_i x41), (4, fz_i y14), (0, fz_r 0), (1, fz_r 200), (2, fz_r 53), (3, fz_r 205)] [] H45 (qL_world h) := by
      intro n48
      induction n48 with
      | zero => intro x41 H45 hI46 hf47 hRE42 hRV43 hXq44 hv52 hv53 hv54 hv55 hv56 hv57 hv58 hv59 hv60 hv61 hm51; exact absurd hm51 (by omega)
      | succ n48 ih50 =>
        intro x41 H45 hI46 hf47 hRE42 hRV43 hXq44 hv52 hv53 hv54 hv55 hv56 hv57 hv58 hv59 hv60 hv61 hm51
        refine fz_iload kL_world rfl rfl ?_
        refine fz_aload_n kL_world rfl rfl ?_
        refine fz_iconst ⟨by decide, by decide⟩ kL_world rfl ?_
        obtain ⟨v62, e63⟩ : ∃ z, H45 53 (0) = z := ⟨_, rfl⟩
        refine fz_ialdV (n := 40) (v := v62) kL_world rfl rfl (by omega) (by omega) e63 ?_
        have b64 : (-2147483648) ≤ v62 ∧ v62 ≤ 2147483647 := by rw [← e63]; exact hI46.1 53 _
        refine fz_icmp_ge (tgt := 101) kL_world rfl (by decide) (fun c65 => ?_) (fun c65 => ?_)
        · refine fz_sub (fz_pk_sub (ls' := [(4, fz_i y14), (0, fz_r 0), (1, fz_r 200), (2, fz_r 53), (3, fz_r 205)]) [1, 2, 3, 4, 5] rfl) ?_
          exact sL_w101 h H45 y14 j18 hI46 hf47 hXq44 hRE42 hRV43 hp0 hp1 hp2 hp3 (by omega) (by omega) (by omega) (by omega) (by omega) (by omega) (by omega) (by omega) (by omega) (by omega)
        · refine fz_aload_n kL_world rfl rfl ?_
          refine fz_iconst ⟨by decide, by decide⟩ kL_world rfl ?_
          refine fz_iload kL_world rfl rfl ?_
          refine fz_iaddN kL_world rfl (by omega) ?_
          refine fz_iload kL_world rfl rfl ?_
          refine fz_bipush ⟨by decide, by decide⟩ kL_world rfl ?_
          refine fz_ishr kL_world rfl ?_
          have b66 : -2147483648 ≤ (fz_shr y14 6) ∧ (fz_shr y14 6) < 2147483648 := fz_b32 _
          refine fz_iconst ⟨by decide, by decide⟩ kL_world rfl ?_
          refine fz_iand kL_world rfl ?_
          have b68 : -2147483648 ≤ (fz_and (fz_shr y14 6) 1) ∧ (fz_and (fz_shr y14 6) 1) < 2147483648 := fz_b32 _
          have b69 : 0 ≤ (fz_and (fz_shr y14 6) 1) ∧ (fz_and (fz_shr y14 6) 1) ≤ 1 := fz_and_m (by omega) (by omega)
          have J70 : ∀ j71 : Int, 0 ≤ j71 ∧ j71 ≤ 9 → fz_R 47 mL_world 83 [(5, fz_i x41), (4, fz_i y14), (0, fz_r 0), (1, fz_r 200), (2, fz_r 53), (3, fz_r 205)] [fz_i j71, fz_i (5 + x41), fz_r 53] H45 (qL_world h) := by
            intro j71 hj72
            refine fz_iast (n := 40) kL_world rfl rfl (by omega) (by omega) ?_
            refine fz_nmu (S := [(1, 7), (1, 8), (2, 99999), (3, 99999), (4, 99999), (5, 99999), (6, 99999), (7, 99999), (8, 99999), (9, 5), (10, 99999), (11, 99999), (12, 99999), (13, 99999), (14, 99999), (15, 4), (16, 99999), (17, 99999), (20, 2), (20, 3), (20, 4), (21, 4), (22, 99999), (23, 99999), (26, 99999), (27, 8), (27, 9), (28, 99999), (35, 4), (35, 5), (36, 99999), (37, 99999), (38, 99999), (39, 99999), (53, 99999)]) (h0 := h) (fz_Iv_up hI46 (by decide) (show ((-2147483648) : Int) ≤ j71 by omega) (show (j71 : Int) ≤ 2147483647 by omega)) (fz_fr_up hf47 rfl) (fun H74 hI75 hf76 e77 => ?_)
            have t78 : H74 20 2 = H45 20 2 := by rw [e77]; exact fz_up_o (by decide)
            have t79 : H74 35 4 = H45 35 4 := by rw [e77]; exact fz_up_o (by decide)
            have t80 : H74 1 7 = H45 1 7 := by rw [e77]; exact fz_up_o (by decide)
            have t81 : H74 1 8 = H45 1 8 := by rw [e77]; exact fz_up_o (by decide)
            have t82 : H74 9 5 = H45 9 5 := by rw [e77]; exact fz_up_o (by decide)
            have hX83 : fz_Xc H74 := by rw [e77]; exact fz_Xc_up (by decide) (by decide) (by decide) hXq44
            have hRE84 : fz_RE H74 := fz_RE_eq (by rw [e77]; exact fz_up_ne (by decide)) (by rw [e77]; exact fz_up_ne (by decide)) (by rw [e77]; exact fz_up_o (by decide)) (by rw [e77]; exact fz_up_o (by decide)) hRE42
            have hRV85 : fz_RV H74 := fz_RV_eq (by rw [e77]; exact fz_up_ne (by decide)) (by rw [e77]; exact fz_up_ne (by decide)) (by rw [e77]; exact fz_up_ne (by decide)) (by rw [e77]; exact fz_up_ne (by decide)) (by rw [e77]; exact fz_up_ne (by decide)) (by rw [e77]; exact fz_up_ne (by decide)) (by rw [e77]; exact fz_up_o (by decide)) (by rw [e77]; exact fz_up_o (by decide)) hRV43
            have t86 : H74 53 0 = H45 53 0 := by rw [e77]; exact fz_up_s (by omega)
            have t87 : H74 53 1 = H45 53 1 := by rw [e77]; exact fz_up_s (by omega)
            have t88 : H74 53 2 = H45 53 2 := by rw [e77]; exact fz_up_s (by omega)
            refine fz_aload_n kL_world rfl rfl ?_
            refine fz_aload_n kL_world rfl rfl ?_
            refine fz_iconst ⟨by decide, by decide⟩ kL_world rfl ?_
            refine fz_iload kL_world rfl rfl ?_
            refine fz_iaddN kL_world rfl (by omega) ?_
            obtain ⟨v89, e90⟩ : ∃ z, H74 53 ((5 + x41).toNat) = z := ⟨_, rfl⟩
            refine fz_ialdV (n := 40) (v := v89) kL_world rfl rfl (by omega) (by omega) e90 ?_
            have b91 : (-2147483648) ≤ v89 ∧ v89 ≤ 2147483647 := by rw [← e90]; exact hI75.1 53 _
            have k92 := e90.symm.trans ((congrFun (congrFun e77 53) _).trans fz_up_e)
            have b93 : 0 ≤ H74 1 7 ∧ H74 1 7 ≤ 8 := hI75.1 1 _
            refine fz_callV (d' := 4) (M' := mX10_town) (As := [fz_i v89]) (st := []) kL_world rfl rfl vX10_town rfl rfl rfl rfl (Nat.le_of_ble_eq_true rfl) (Nat.le_of_ble_eq_true rfl) (by decide) (sX10_town H74 hI75 v89 hRE84 hRV85) (fun H94 r95 q96 o97 => ?_)
            obtain ⟨hI98, hf99, hRE100, hRV101, y105, rfl, f102, f103, f104⟩ := q96
            clear o97
            have hf106 := fz_fr_tr hf76 hf99 (show fz_su [(1, 7), (2, 99999), (7, 99999), (8, 99999)] [(1, 7), (1, 8), (2, 99999), (3, 99999), (4, 99999), (5, 99999), (6, 99999), (7, 99999), (8, 99999), (9, 5), (10, 99999), (11, 99999), (12, 99999), (13, 99999), (14, 99999), (15, 4), (16, 99999), (17, 99999), (20, 2), (20, 3), (20, 4), (21, 4), (22, 99999), (23, 99999), (26, 99999), (27, 8), (27, 9), (28, 99999), (35, 4), (35, 5), (36, 99999), (37, 99999), (38, 99999), (39, 99999), (53, 99999)] = true from rfl)
            have hX107 : fz_Xc H94 := fz_Xc_fr hf99 rfl hX83
            have t108 : H94 53 0 = H74 53 0 := hf99 53 0 rfl
            have t109 : H94 53 1 = H74 53 1 := hf99 53 1 rfl
            have t110 : H94 53 2 = H74 53 2 := hf99 53 2 rfl
            have t111 : H94 20 2 = H74 20 2 := hf99 20 2 rfl
            have t112 : H94 35 4 = H74 35 4 := hf99 35 4 rfl
            have t113 : H94 1 8 = H74 1 8 := hf99 1 8 rfl
            have t114 : H94 9 5 = H74 9 5 := hf99 9 5 rfl
            refine fz_pop rfl kL_world rfl ?_
            refine fz_iincN (ls' := [(5, fz_i (x41 + 1)), (4, fz_i y14), (0, fz_r 0), (1, fz_r 200), (2, fz_r 53), (3, fz_r 205)]) kL_world rfl (by decide) rfl (by omega) rfl ?_
            refine fz_goto (tgt := 43) kL_world rfl (by decide) ?_
            exact ih50 (x41 + 1) H94 hI98 hf106 hRE100 hRV101 hX107 (by omega) (by omega) (by omega) (by omega) (by omega) (by omega) (by omega) (by omega) (by omega) (by omega) (by omega)
          refine fz_if_ne (tgt := 70) kL_world rfl (by decide) (fun c115 => ?_) (fun c115 => ?_)
          · refine fz_iload kL_world rfl rfl ?_
            refine fz_bipush ⟨by decide, by decide⟩ kL_world rfl ?_
            refine fz_iload kL_world rfl rfl ?_
            refine fz_iaddN kL_world rfl (by omega) ?_
            refine fz_ishr kL_world rfl ?_
            have b116 : -2147483648 ≤ (fz_shr y14 (7 + x41)) ∧ (fz_shr y14 (7 + x41)) < 2147483648 := fz_b32 _
            refine fz_bipush ⟨by decide, by decide⟩ kL_world rfl ?_
            refine fz_callS (d' := 0) (M' := mL_some) (As := [fz_i (fz_shr y14 (7 + x41)), fz_i 10]) (st := [fz_i (5 + x41), fz_r 53]) kL_world rfl rfl vL_some rfl rfl (Nat.le_of_ble_eq_true rfl) (Nat.le_of_ble_eq_true rfl) (by decide) (sL_some H45 hI46 (fz_shr y14 (7 + x41)) 10 (by omega)) (fun H118 r119 q120 o121 => ?_)
            obtain ⟨e122, y126, rfl, f123, f124, f125⟩ := q120
            subst H118
            clear o121
            exact J70 y126 (by omega)
          · refine fz_iconst ⟨by decide, by decide⟩ kL_world rfl ?_
            refine fz_goto (tgt := 83) kL_world rfl (by decide) ?_
            exact J70 0 (by omega)
    exact lp49 _ 0 H21 hI22 hf23 hRE36 hRV37 hX35 (by omega) (by omega) (by omega) (by omega) (by omega) (by omega) (by omega) (by omega) (by omega) (by omega) (Nat.lt_succ_self _)
  refine fz_if_ne (tgt := 29) kL_world rfl (by decide) (fun c127 => ?_) (fun c127 => ?_)
  · refine fz_iconst ⟨by decide, by decide⟩ kL_world rfl ?_
    refine fz_iload kL_world rfl rfl ?_
    refine fz_iconst ⟨by decide, by decide⟩ kL_world rfl ?_
    refine fz_ishr kL_world rfl ?_
    have b128 : -2147483648 ≤ (fz_shr y14 3) ∧ (fz_shr y14 3) < 2147483648 := fz_b32 _
    refine fz_iconst ⟨by decide, by decide⟩ kL_world rfl ?_
    refine fz_callS (d' := 0) (M' := mL_some) (As := [fz_i (fz_shr y14 3), fz_i 5]) (st := [fz_i 2, fz_i 0, fz_r 53]) kL_world rfl rfl vL_some rfl rfl (Nat.le_of_ble_eq_true rfl) (Nat.le_of_ble_eq_true rfl) (by decide) (sL_some h hI (fz_shr y14 3) 5 (by omega)) (fun H130 r131 q132 o133 => ?_)
    obtain ⟨e134, y138, rfl, f135, f136, f137⟩ := q132
    subst H130
    clear o133
    refine fz_iaddN kL_world rfl (by omega) ?_
    exact J17 (2 + y138) (by omega)
  · refine fz_iload kL_world rfl rfl ?_
    refine fz_iconst ⟨by decide, by decide⟩ kL_world rfl ?_
    refine fz_ishr kL_world rfl ?_
    have b139 : -2147483648 ≤ (fz_shr y14 3) ∧ (fz_shr y14 3) < 2147483648 := fz_b32 _
    refine fz_bipush ⟨by decide, by decide⟩ kL_world rfl ?_
    refine fz_callS (d' := 0) (M' := mL_some) (As := [fz_i (fz_shr y14 3), fz_i 9]) (st := [fz_i 0, fz_r 53]) kL_world rfl rfl vL_some rfl rfl (Nat.le_of_ble_eq_true rfl) (Nat.le_of_ble_eq_true rfl) (by decide) (sL_some h hI (fz_shr y14 3) 9 (by omega)) (fun H141 r142 q143 o144 => ?_)
    obtain ⟨e145, y149, rfl, f146, f147, f148⟩ := q143
    subst H141
    clear o144
    refine fz_goto (tgt := 39) kL_world rfl (by decide) ?_
    exact J17 y149 (by omega)
