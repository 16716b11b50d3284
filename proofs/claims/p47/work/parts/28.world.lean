/-! ===== helps for the law's own methods ===== -/
theorem st_tmod {v n : Int} (hv : -2147483648 ≤ v ∧ v ≤ 2147483647) (hn : 1 ≤ n ∧ n ≤ 1000) : fz_w (Int.tmod v n) = Int.tmod v n ∧ -n < Int.tmod v n ∧ Int.tmod v n < n ∧ (0 ≤ Int.tmod v n → Int.tmod v n = v % n) ∧ (Int.tmod v n < 0 → Int.tmod v n + n = v % n) := by
  have t1 : (Int.tmod v n).natAbs < n.natAbs := by
    rw [Int.natAbs_tmod]
    exact Nat.mod_lt _ (by omega)
  have e : n * Int.tdiv v n + Int.tmod v n = v := Int.mul_tdiv_add_tmod v n
  have m : ∀ k : Int, (Int.tmod v n + k * n) % n = v % n := fun k => by
    have e2 : v = Int.tmod v n + k * n + n * (Int.tdiv v n - k) := by
      have e3 : n * (Int.tdiv v n - k) = n * Int.tdiv v n - n * k := Int.mul_sub _ _ _
      have e4 : n * k = k * n := Int.mul_comm _ _
      omega
    have e5 : (Int.tmod v n + k * n + n * (Int.tdiv v n - k)) % n = (Int.tmod v n + k * n) % n := Int.add_mul_emod_self_left _ _ _
    rw [← e2] at e5
    exact e5.symm
  refine ⟨fz_w_id (by omega) (by omega), by omega, by omega, fun h => ?_, fun h => ?_⟩
  · have := m 0
    rw [Int.zero_mul, Int.add_zero, Int.emod_eq_of_lt h (by omega)] at this
    exact this
  · have := m 1
    rw [Int.one_mul, Int.emod_eq_of_lt (by omega) (by omega)] at this
    exact this
theorem st_oth {a q n o : Int} (ha : 0 ≤ a ∧ a < n) (hq : 0 ≤ q ∧ q < n - 1) (e : o = (a + 1 + q) % n) : o ≠ a ∧ 0 ≤ o ∧ o < n := by
  by_cases c : a + 1 + q < n
  · rw [Int.emod_eq_of_lt (by omega) c] at e
    omega
  · have e2 : (a + 1 + q - n + n * 1) % n = (a + 1 + q - n) % n := Int.add_mul_emod_self_left _ _ _
    rw [show a + 1 + q - n + n * 1 = a + 1 + q by omega, Int.emod_eq_of_lt (show 0 ≤ a + 1 + q - n by omega) (by omega)] at e2
    rw [e2] at e
    omega
theorem st_lC {nu wh : Int} : (fz_lC nu wh).1 ≤ 28 := by
  unfold fz_lC
  by_cases c0 : wh = 0
  · rw [if_pos c0]; decide
  rw [if_neg c0]
  by_cases c1 : wh = 1
  · rw [if_pos c1]; decide
  rw [if_neg c1]
  by_cases c2 : wh = 2
  · rw [if_pos c2]; decide
  rw [if_neg c2]
  by_cases c3 : wh = 3
  · rw [if_pos c3]; decide
  rw [if_neg c3]
  by_cases c4 : wh = 4
  · rw [if_pos c4]; decide
  rw [if_neg c4]
  by_cases c5 : wh = 5
  · rw [if_pos c5]; decide
  rw [if_neg c5]
  by_cases c6 : wh = 6
  · rw [if_pos c6]; decide
  rw [if_neg c6]
  by_cases c7 : wh = 7
  · rw [if_pos c7]; decide
  rw [if_neg c7]
  decide
theorem st_aC {h h' : fz_H} {nu wh v : Int} {c : Nat} (a : fz_aC h h' nu wh v) (hc : 29 ≤ c) : h' c = h c := by
  rw [a c (by omega) (by omega)]
  exact fz_up_ne (by have := @st_lC nu wh; omega)
/-- a change adds at most one to the tape of changes -/
theorem st_mC_d {h h' : fz_H} {nu wh v r : Int} (m : fz_mC h h' nu wh v r) (hI : fz_Iv h') : h' 35 4 ≤ h 35 4 + 1 ∧ 0 ≤ h' 35 4 := by
  have b := hI.1 35 4
  have b2 : (0 : Int) ≤ h' 35 4 := b.1
  rcases m with ⟨-, -, e⟩ | ⟨-, -, -, e⟩ | ⟨-, -, -, g, c, f, a⟩
  · rw [e] at b2 ⊢; omega
  · rw [e] at b2 ⊢; omega
  · have e : h' 35 = g 35 := st_aC a (by decide)
    rw [e] at b2 ⊢
    rcases c with ⟨-, c1, -⟩ | ⟨hd, g1, -, c1, -⟩
    · omega
    · omega
abbrev qL_at (h : fz_H) (k : Int) : fz_H → Option fz_V → Prop := fun h' r0 => h' = h ∧ ∃ r : Int, r0 = some (fz_i r) ∧ ((-2147483648) ≤ r ∧ r ≤ 2147483647)
set_option maxHeartbeats 1000000 in
set_option maxRecDepth 100000 in
theorem sL_at (h : fz_H) (hI : fz_Iv h) (k : Int) (hp0 : 0 ≤ k) (hp1 : 0 ≤ h 200 100000 ∧ h 200 100000 ≤ 3072) : fz_R 0 mL_at 0 [(0, fz_r 200), (1, fz_i k)] [] h (qL_at h k) := by
  refine fz_knowl (fun hk => ?_)
  have hr_k : -2147483648 ≤ k ∧ k < 2147483648 := hk _ (List.Mem.tail _ (List.Mem.head _))
  clear hk
  refine fz_iload_n kL_at rfl rfl ?_
  refine fz_aload_n kL_at rfl rfl ?_
  refine fz_tlen kL_at rfl ⟨by decide, by decide⟩ (by omega) ?_
  refine fz_icmp_ge (tgt := 12) kL_at rfl (by decide) (fun c1 => ?_) (fun c1 => ?_)
  · refine fz_iconst ⟨by decide, by decide⟩ kL_at rfl ?_
    exact fz_iret kL_at rfl rfl (fun _ => ⟨rfl, _, rfl, (by omega)⟩)
  · refine fz_aload_n kL_at rfl rfl ?_
    refine fz_iload_n kL_at rfl rfl ?_
    obtain ⟨a2, e3⟩ : ∃ z, h 200 (k).toNat = z := ⟨_, rfl⟩
    refine fz_taldV (v := a2) kL_at rfl ⟨by decide, by decide⟩ (by omega) (by omega) e3 ?_
    refine fz_goto (tgt := 13) kL_at rfl (by decide) ?_
    exact fz_iret kL_at rfl rfl (fun _ => ⟨rfl, _, rfl, (by omega)⟩)

abbrev qL_some (h : fz_H) (v n : Int) : fz_H → Option fz_V → Prop := fun h' r0 => h' = h ∧ ∃ r : Int, r0 = some (fz_i r) ∧ ((-2147483647) ≤ r ∧ r ≤ 2147483647) ∧ (0 ≤ r ∧ r < n) ∧ (r = v % n)
set_option maxHeartbeats 1000000 in
set_option maxRecDepth 100000 in
theorem sL_some (h : fz_H) (hI : fz_Iv h) (v n : Int) (hp0 : 1 ≤ n ∧ n ≤ 1000) : fz_R 0 mL_some 0 [(0, fz_i v), (1, fz_i n)] [] h (qL_some h v n) := by
  refine fz_knowl (fun hk => ?_)
  have hr_v : -2147483648 ≤ v ∧ v < 2147483648 := hk _ (List.Mem.head _)
  have hr_n : -2147483648 ≤ n ∧ n < 2147483648 := hk _ (List.Mem.tail _ (List.Mem.head _))
  clear hk
  refine fz_iload_n kL_some rfl rfl ?_
  refine fz_iload_n kL_some rfl rfl ?_
  refine fz_irem (by omega) kL_some rfl ?_
  have b1 := fz_w_b (Int.tmod v n)
  have k2 := st_tmod (v := v) (n := n) (by omega) (by omega)
  refine fz_istore_n (ls' := [(2, fz_i (fz_w (Int.tmod v n))), (0, fz_i v), (1, fz_i n)]) kL_some rfl (by decide) rfl ?_
  refine fz_iload_n kL_some rfl rfl ?_
  refine fz_if_ge (tgt := 14) kL_some rfl (by decide) (fun c4 => ?_) (fun c4 => ?_)
  · refine fz_iload_n kL_some rfl rfl ?_
    exact fz_iret kL_some rfl rfl (fun _ => ⟨rfl, _, rfl, (by omega), (by omega), (by omega)⟩)
  · refine fz_iload_n kL_some rfl rfl ?_
    refine fz_iload_n kL_some rfl rfl ?_
    refine fz_iaddN kL_some rfl (by omega) ?_
    refine fz_goto (tgt := 15) kL_some rfl (by decide) ?_
    exact fz_iret kL_some rfl rfl (fun _ => ⟨rfl, _, rfl, (by omega), (by omega), (by omega)⟩)

abbrev qL_world (h : fz_H) : fz_H → Option fz_V → Prop := fun h' r0 => fz_Iv h' ∧ fz_fr [(1, 7), (1, 8), (2, 99999), (3, 99999), (4, 99999), (5, 99999), (6, 99999), (7, 99999), (8, 99999), (9, 5), (10, 99999), (11, 99999), (12, 99999), (13, 99999), (14, 99999), (15, 4), (16, 99999), (17, 99999), (20, 2), (20, 3), (20, 4), (21, 4), (22, 99999), (23, 99999), (26, 99999), (27, 8), (27, 9), (28, 99999), (35, 4), (35, 5), (36, 99999), (37, 99999), (38, 99999), (39, 99999), (53, 99999)] h h' ∧ fz_Xc h' ∧ fz_RE h' ∧ fz_RV h' ∧ r0 = none ∧ h' 53 0 = h' 1 7 ∧ h' 53 1 = h' 1 8 ∧ h' 53 2 = h' 9 5 ∧ h' 9 5 ≤ 8 ∧ h' 20 2 = 0 ∧ h' 35 4 ≤ 19 ∧ fz_RP2 h'
set_option maxHeartbeats 1000000 in
set_option maxRecDepth 100000 in
theorem sL_world (h : fz_H) (hI : fz_Iv h) (hX : fz_Xc h) (hRE : fz_RE h) (hRV : fz_RV h) (hp0 : 0 ≤ h 200 100000 ∧ h 200 100000 ≤ 3072) (hp1 : 0 ≤ h 205 100000 ∧ h 205 100000 ≤ 120) (hp2 : h 1 7 = 0 ∧ h 1 8 = 0 ∧ h 9 5 = 0 ∧ h 20 2 = 0 ∧ h 35 4 = 0) (hp3 : h 53 1 = 0 ∧ h 53 2 = 0) : fz_R 47 mL_world 0 [(0, fz_r 0), (1, fz_r 200), (2, fz_r 53), (3, fz_r 205)] [] h (qL_world h) := by
  have hf : fz_fr [(1, 7), (1, 8), (2, 99999), (3, 99999), (4, 99999), (5, 99999), (6, 99999), (7, 99999), (8, 99999), (9, 5), (10, 99999), (11, 99999), (12, 99999), (13, 99999), (14, 99999), (15, 4), (16, 99999), (17, 99999), (20, 2), (20, 3), (20, 4), (21, 4), (22, 99999), (23, 99999), (26, 99999), (27, 8), (27, 9), (28, 99999), (35, 4), (35, 5), (36, 99999), (37, 99999), (38, 99999), (39, 99999), (53, 99999)] h h := fz_fr_rf
  have b1 : 0 ≤ h 1 7 ∧ h 1 7 ≤ 8 := hI.1 1 _
  have b2 : 0 ≤ h 1 8 ∧ h 1 8 ≤ 12 := hI.1 1 _
  have b3 : 0 ≤ h 9 5 ∧ h 9 5 ≤ 10 := hI.1 9 _
  have b4 : 0 ≤ h 20 2 ∧ h 20 2 ≤ 120 := hI.1 20 _
  have b5 : 0 ≤ h 35 4 ∧ h 35 4 ≤ 40 := hI.1 35 _
  have b6 : (-2147483648) ≤ h 53 1 ∧ h 53 1 ≤ 2147483647 := hI.1 53 _
  have b7 : (-2147483648) ≤ h 53 2 ∧ h 53 2 ≤ 2147483647 := hI.1 53 _
  refine fz_aload_n kL_world rfl rfl ?_
  refine fz_iconst ⟨by decide, by decide⟩ kL_world rfl ?_
  refine fz_callS (d' := 0) (M' := mL_at) (As := [fz_r 200, fz_i 0]) (st := []) kL_world rfl rfl vL_at rfl rfl (Nat.le_of_ble_eq_true rfl) (Nat.le_of_ble_eq_true rfl) (by decide) (sL_at h hI 0 (by omega) (by omega)) (fun H8 r9 q10 o11 => ?_)
  obtain ⟨e12, y14, rfl, f13⟩ := q10
  subst H8
  clear o11
  refine fz_istore (ls' := [(4, fz_i y14), (0, fz_r 0), (1, fz_r 200), (2, fz_r 53), (3, fz_r 205)]) kL_world rfl (by decide) rfl ?_
  refine fz_aload_n kL_world rfl rfl ?_
  refine fz_iconst ⟨by decide, by decide⟩ kL_world rfl ?_
  refine fz_iload kL_world rfl rfl ?_
  refine fz_bipush ⟨by decide, by decide⟩ kL_world rfl ?_
  refine fz_iand kL_world rfl ?_
  have b15 : -2147483648 ≤ (fz_and y14 7) ∧ (fz_and y14 7) < 2147483648 := fz_b32 _
  have b16 : 0 ≤ (fz_and y14 7) ∧ (fz_and y14 7) ≤ 7 := fz_and_m (by omega) (by omega)
  have J17 : ∀ j18 : Int, 0 ≤ j18 ∧ j18 ≤ 8 → fz_R 47 mL_world 39 [(4, fz_i y14), (0, fz_r 0), (1, fz_r 200), (2, fz_r 53), (3, fz_r 205)] [fz_i j18, fz_i 0, fz_r 53] h (qL_world h) := by
    intro j18 hj19
    refine fz_iast (n := 40) kL_world rfl rfl (by omega) (by omega) ?_
    refine fz_nmu (S := [(1, 7), (1, 8), (2, 99999), (3, 99999), (4, 99999), (5, 99999), (6, 99999), (7, 99999), (8, 99999), (9, 5), (10, 99999), (11, 99999), (12, 99999), (13, 99999), (14, 99999), (15, 4), (16, 99999), (17, 99999), (20, 2), (20, 3), (20, 4), (21, 4), (22, 99999), (23, 99999), (26, 99999), (27, 8), (27, 9), (28, 99999), (35, 4), (35, 5), (36, 99999), (37, 99999), (38, 99999), (39, 99999), (53, 99999)]) (h0 := h) (fz_Iv_up hI (by decide) (show ((-2147483648) : Int) ≤ j18 by omega) (show (j18 : Int) ≤ 2147483647 by omega)) (fz_fr_up hf rfl) (fun H21 hI22 hf23 e24 => ?_)
    have k25 : H21 1 7 = (h 1 7) := by rw [e24]; exact (fz_up_o (by decide)).trans rfl
    have k26 : H21 1 8 = (h 1 8) := by rw [e24]; exact (fz_up_o (by decide)).trans rfl
    have k27 : H21 9 5 = (h 9 5) := by rw [e24]; exact (fz_up_o (by decide)).trans rfl
    have k28 : H21 20 2 = (h 20 2) := by rw [e24]; exact (fz_up_o (by decide)).trans rfl
    have k29 : H21 35 4 = (h 35 4) := by rw [e24]; exact (fz_up_o (by decide)).trans rfl
    have t30 : H21 20 2 = h 20 2 := by rw [e24]; exact fz_up_o (by decide)
    have t31 : H21 35 4 = h 35 4 := by rw [e24]; exact fz_up_o (by decide)
    have t32 : H21 1 7 = h 1 7 := by rw [e24]; exact fz_up_o (by decide)
    have t33 : H21 1 8 = h 1 8 := by rw [e24]; exact fz_up_o (by decide)
    have t34 : H21 9 5 = h 9 5 := by rw [e24]; exact fz_up_o (by decide)
    have hX35 : fz_Xc H21 := by rw [e24]; exact fz_Xc_up (by decide) (by decide) (by decide) hX
    have hRE36 : fz_RE H21 := fz_RE_eq (by rw [e24]; exact fz_up_ne (by decide)) (by rw [e24]; exact fz_up_ne (by decide)) (by rw [e24]; exact fz_up_o (by decide)) (by rw [e24]; exact fz_up_o (by decide)) hRE
    have hRV37 : fz_RV H21 := fz_RV_eq (by rw [e24]; exact fz_up_ne (by decide)) (by rw [e24]; exact fz_up_ne (by decide)) (by rw [e24]; exact fz_up_ne (by decide)) (by rw [e24]; exact fz_up_ne (by decide)) (by rw [e24]; exact fz_up_ne (by decide)) (by rw [e24]; exact fz_up_ne (by decide)) (by rw [e24]; exact fz_up_o (by decide)) (by rw [e24]; exact fz_up_o (by decide)) hRV
    have t38 : H21 53 0 = j18 := by rw [e24]; exact fz_up_e
    have t39 : H21 53 1 = h 53 1 := by rw [e24]; exact fz_up_s (by decide)
    have t40 : H21 53 2 = h 53 2 := by rw [e24]; exact fz_up_s (by decide)
    refine fz_iconst ⟨by decide, by decide⟩ kL_world rfl ?_
    refine fz_istore (ls' := [(5, fz_i 0), (4, fz_i y14), (0, fz_r 0), (1, fz_r 200), (2, fz_r 53), (3, fz_r 205)]) kL_world rfl (by decide) rfl ?_
    have lp49 : ∀ (n48 : Nat) (x41 : Int) (H45 : fz_H), fz_Iv H45 → fz_fr [(1, 7), (1, 8), (2, 99999), (3, 99999), (4, 99999), (5, 99999), (6, 99999), (7, 99999), (8, 99999), (9, 5), (10, 99999), (11, 99999), (12, 99999), (13, 99999), (14, 99999), (15, 4), (16, 99999), (17, 99999), (20, 2), (20, 3), (20, 4), (21, 4), (22, 99999), (23, 99999), (26, 99999), (27, 8), (27, 9), (28, 99999), (35, 4), (35, 5), (36, 99999), (37, 99999), (38, 99999), (39, 99999), (53, 99999)] h H45 → fz_RE H45 → fz_RV H45 → fz_Xc H45 → (0 ≤ x41 ∧ x41 ≤ 8) → (H45 53 0 = j18) → (H45 53 1 = H45 1 8) → (H45 53 2 = H45 9 5) → (H45 20 2 = 0) → (H45 1 7 = x41) → (x41 ≤ j18) → (H45 1 8 = 0) → (H45 9 5 = 0) → (H45 35 4 = 0) → (v1048 - x41).toNat < n48 → fz_R 47 mL_world 43 [(5, fz_i x41), (4, fz_i y14), (0, fz_r 0), (1, fz_r 200), (2, fz_r 53), (3, fz_r 205)] [] H45 (qL_world h) := by
      intro n48
      induction n48 with
      | zero => intro x41 H45 hI46 hf47 hRE42 hRV43 hXq44 hv52 hv53 hv54 hv55 hv56 hv57 hv58 hv59 hv60 hv61 hm51; exact absurd hm51 (by omega)
      | succ n48 ih50 =>
        intro x41 H45 hI46 hf47 hRE42 hRV43 hXq44 hv52 hv53 hv54 hv55 hv56 hv57 hv58 hv59 hv60 hv61 hm51
        refine fz_iload kL_world rfl rfl ?_
        refine fz_aload_n kL_world rfl rfl ?_
        refine fz_iconst ⟨by decide, by decide⟩ kL_world rfl ?_
        obtain ⟨v62, e63⟩ : ∃ z, H45 53 (0) = z := ⟨_, rfl⟩
        refine fz_ialdV (n := 40) (v := v62) kL_world rfl rfl (by omega) (by omega) e63 ?_
        have b64 : (-2147483648) ≤ v62 ∧ v62 ≤ 2147483647 := by rw [← e63]; exact hI46.1 53 _
        refine fz_icmp_ge (tgt := 101) kL_world rfl (by decide) (fun c65 => ?_) (fun c65 => ?_)
        · refine fz_aload_n kL_world rfl rfl ?_
          refine fz_iconst ⟨by decide, by decide⟩ kL_world rfl ?_
          refine fz_iload kL_world rfl rfl ?_
          refine fz_bipush ⟨by decide, by decide⟩ kL_world rfl ?_
          refine fz_ishr kL_world rfl ?_
          have b66 : -2147483648 ≤ (fz_shr y14 16) ∧ (fz_shr y14 16) < 2147483648 := fz_b32 _
          refine fz_iconst ⟨by decide, by decide⟩ kL_world rfl ?_
          refine fz_iand kL_world rfl ?_
          have b68 : -2147483648 ≤ (fz_and (fz_shr y14 16) 1) ∧ (fz_and (fz_shr y14 16) 1) < 2147483648 := fz_b32 _
          have b69 : 0 ≤ (fz_and (fz_shr y14 16) 1) ∧ (fz_and (fz_shr y14 16) 1) ≤ 1 := fz_and_m (by omega) (by omega)
          have J70 : ∀ j71 : Int, 0 ≤ j71 ∧ j71 ≤ 60 → fz_R 47 mL_world 128 [(5, fz_i x41), (4, fz_i y14), (0, fz_r 0), (1, fz_r 200), (2, fz_r 53), (3, fz_r 205)] [fz_i j71, fz_i 3, fz_r 53] H45 (qL_world h) := by
            intro j71 hj72
            refine fz_iast (n := 40) kL_world rfl rfl (by omega) (by omega) ?_
            refine fz_nmu (S := [(1, 7), (1, 8), (2, 99999), (3, 99999), (4, 99999), (5, 99999), (6, 99999), (7, 99999), (8, 99999), (9, 5), (10, 99999), (11, 99999), (12, 99999), (13, 99999), (14, 99999), (15, 4), (16, 99999), (17, 99999), (20, 2), (20, 3), (20, 4), (21, 4), (22, 99999), (23, 99999), (26, 99999), (27, 8), (27, 9), (28, 99999), (35, 4), (35, 5), (36, 99999), (37, 99999), (38, 99999), (39, 99999), (53, 99999)]) (h0 := h) (fz_Iv_up hI46 (by decide) (show ((-2147483648) : Int) ≤ j71 by omega) (show (j71 : Int) ≤ 2147483647 by omega)) (fz_fr_up hf47 rfl) (fun H74 hI75 hf76 e77 => ?_)
            have t78 : H74 20 2 = H45 20 2 := by rw [e77]; exact fz_up_o (by decide)
            have t79 : H74 35 4 = H45 35 4 := by rw [e77]; exact fz_up_o (by decide)
            have t80 : H74 1 7 = H45 1 7 := by rw [e77]; exact fz_up_o (by decide)
            have t81 : H74 1 8 = H45 1 8 := by rw [e77]; exact fz_up_o (by decide)
            have t82 : H74 9 5 = H45 9 5 := by rw [e77]; exact fz_up_o (by decide)
            have hX83 : fz_Xc H74 := by rw [e77]; exact fz_Xc_up (by decide) (by decide) (by decide) hXq44
            have hRE84 : fz_RE H74 := fz_RE_eq (by rw [e77]; exact fz_up_ne (by decide)) (by rw [e77]; exact fz_up_ne (by decide)) (by rw [e77]; exact fz_up_o (by decide)) (by rw [e77]; exact fz_up_o (by decide)) hRE42
            have hRV85 : fz_RV H74 := fz_RV_eq (by rw [e77]; exact fz_up_ne (by decide)) (by rw [e77]; exact fz_up_ne (by decide)) (by rw [e77]; exact fz_up_ne (by decide)) (by rw [e77]; exact fz_up_ne (by decide)) (by rw [e77]; exact fz_up_ne (by decide)) (by rw [e77]; exact fz_up_ne (by decide)) (by rw [e77]; exact fz_up_o (by decide)) (by rw [e77]; exact fz_up_o (by decide)) hRV43
            have t86 : H74 53 0 = H45 53 0 := by rw [e77]; exact fz_up_s (by decide)
            have t87 : H74 53 1 = H45 53 1 := by rw [e77]; exact fz_up_s (by decide)
            have t88 : H74 53 2 = H45 53 2 := by rw [e77]; exact fz_up_s (by decide)
            refine fz_aload_n kL_world rfl rfl ?_
            refine fz_iconst ⟨by decide, by decide⟩ kL_world rfl ?_
            refine fz_iload kL_world rfl rfl ?_
            refine fz_bipush ⟨by decide, by decide⟩ kL_world rfl ?_
            refine fz_ishr kL_world rfl ?_
            have b89 : -2147483648 ≤ (fz_shr y14 22) ∧ (fz_shr y14 22) < 2147483648 := fz_b32 _
            refine fz_bipush ⟨by decide, by decide⟩ kL_world rfl ?_
            refine fz_callS (d' := 0) (M' := mL_some) (As := [fz_i (fz_shr y14 22), fz_i 13]) (st := [fz_i 4, fz_r 53]) kL_world rfl rfl vL_some rfl rfl (Nat.le_of_ble_eq_true rfl) (Nat.le_of_ble_eq_true rfl) (by decide) (sL_some H74 hI75 (fz_shr y14 22) 13 (by omega)) (fun H91 r92 q93 o94 => ?_)
            obtain ⟨e95, y99, rfl, f96, f97, f98⟩ := q93
            subst H91
            clear o94
            refine fz_iast (n := 40) kL_world rfl rfl (by omega) (by omega) ?_
            refine fz_nmu (S := [(1, 7), (1, 8), (2, 99999), (3, 99999), (4, 99999), (5, 99999), (6, 99999), (7, 99999), (8, 99999), (9, 5), (10, 99999), (11, 99999), (12, 99999), (13, 99999), (14, 99999), (15, 4), (16, 99999), (17, 99999), (20, 2), (20, 3), (20, 4), (21, 4), (22, 99999), (23, 99999), (26, 99999), (27, 8), (27, 9), (28, 99999), (35, 4), (35, 5), (36, 99999), (37, 99999), (38, 99999), (39, 99999), (53, 99999)]) (h0 := h) (fz_Iv_up hI75 (by decide) (show ((-2147483648) : Int) ≤ y99 by omega) (show (y99 : Int) ≤ 2147483647 by omega)) (fz_fr_up hf76 rfl) (fun H100 hI101 hf102 e103 => ?_)
            have t104 : H100 20 2 = H74 20 2 := by rw [e103]; exact fz_up_o (by decide)
            have t105 : H100 35 4 = H74 35 4 := by rw [e103]; exact fz_up_o (by decide)
            have t106 : H100 1 7 = H74 1 7 := by rw [e103]; exact fz_up_o (by decide)
            have t107 : H100 1 8 = H74 1 8 := by rw [e103]; exact fz_up_o (by decide)
            have t108 : H100 9 5 = H74 9 5 := by rw [e103]; exact fz_up_o (by decide)
            have hX109 : fz_Xc H100 := by rw [e103]; exact fz_Xc_up (by decide) (by decide) (by decide) hX83
            have hRE110 : fz_RE H100 := fz_RE_eq (by rw [e103]; exact fz_up_ne (by decide)) (by rw [e103]; exact fz_up_ne (by decide)) (by rw [e103]; exact fz_up_o (by decide)) (by rw [e103]; exact fz_up_o (by decide)) hRE84
            have hRV111 : fz_RV H100 := fz_RV_eq (by rw [e103]; exact fz_up_ne (by decide)) (by rw [e103]; exact fz_up_ne (by decide)) (by rw [e103]; exact fz_up_ne (by decide)) (by rw [e103]; exact fz_up_ne (by decide)) (by rw [e103]; exact fz_up_ne (by decide)) (by rw [e103]; exact fz_up_ne (by decide)) (by rw [e103]; exact fz_up_o (by decide)) (by rw [e103]; exact fz_up_o (by decide)) hRV85
            have t112 : H100 53 0 = H74 53 0 := by rw [e103]; exact fz_up_s (by decide)
            have t113 : H100 53 1 = H74 53 1 := by rw [e103]; exact fz_up_s (by decide)
            have t114 : H100 53 2 = H74 53 2 := by rw [e103]; exact fz_up_s (by decide)
            refine fz_aload_n kL_world rfl rfl ?_
            refine fz_iconst ⟨by decide, by decide⟩ kL_world rfl ?_
            refine fz_bipush ⟨by decide, by decide⟩ kL_world rfl ?_
            refine fz_aload_n kL_world rfl rfl ?_
            refine fz_iconst ⟨by decide, by decide⟩ kL_world rfl ?_
            obtain ⟨v115, e116⟩ : ∃ z, H100 53 (3) = z := ⟨_, rfl⟩
            refine fz_ialdV (n := 40) (v := v115) kL_world rfl rfl (by omega) (by omega) e116 ?_
            have b117 : (-2147483648) ≤ v115 ∧ v115 ≤ 2147483647 := by rw [← e116]; exact hI101.1 53 _
            refine fz_callV (d' := 4) (M' := mX10_mend) (As := [fz_i 0, fz_i 7, fz_i v115]) (st := []) kL_world rfl rfl vX10_mend rfl rfl rfl rfl (Nat.le_of_ble_eq_true rfl) (Nat.le_of_ble_eq_true rfl) (by decide) (sX10_mend H100 hI101 0 7 v115 (hX109) hRE110 hRV111) (fun H118 r119 q120 o121 => ?_)
            obtain ⟨hI122, hf123, hX124, hRE125, hRV126, y129, rfl, f127, f128⟩ := q120
            clear o121
            have hf130 := fz_fr_tr hf102 hf123 (show fz_su [(2, 99999), (3, 99999), (4, 99999), (7, 99999), (8, 99999), (12, 99999), (13, 99999), (14, 99999), (27, 8), (27, 9), (28, 99999), (35, 4), (35, 5), (36, 99999), (37, 99999), (38, 99999), (39, 99999)] [(1, 7), (1, 8), (2, 99999), (3, 99999), (4, 99999), (5, 99999), (6, 99999), (7, 99999), (8, 99999), (9, 5), (10, 99999), (11, 99999), (12, 99999), (13, 99999), (14, 99999), (15, 4), (16, 99999), (17, 99999), (20, 2), (20, 3), (20, 4), (21, 4), (22, 99999), (23, 99999), (26, 99999), (27, 8), (27, 9), (28, 99999), (35, 4), (35, 5), (36, 99999), (37, 99999), (38, 99999), (39, 99999), (53, 99999)] = true from rfl)
            have t131 : H118 53 0 = H100 53 0 := hf123 53 0 rfl
            have t132 : H118 53 1 = H100 53 1 := hf123 53 1 rfl
            have t133 : H118 53 2 = H100 53 2 := hf123 53 2 rfl
            have t134 : H118 20 2 = H100 20 2 := hf123 20 2 rfl
            have t135 : H118 1 7 = H100 1 7 := hf123 1 7 rfl
            have t136 : H118 1 8 = H100 1 8 := hf123 1 8 rfl
            have t137 : H118 9 5 = H100 9 5 := hf123 9 5 rfl
            have k138 := st_mC_d f128 hI122
            refine fz_pop rfl kL_world rfl ?_
            refine fz_aload_n kL_world rfl rfl ?_
            refine fz_iconst ⟨by decide, by decide⟩ kL_world rfl ?_
            refine fz_bipush ⟨by decide, by decide⟩ kL_world rfl ?_
            refine fz_aload_n kL_world rfl rfl ?_
            refine fz_iconst ⟨by decide, by decide⟩ kL_world rfl ?_
            obtain ⟨v139, e140⟩ : ∃ z, H118 53 (4) = z := ⟨_, rfl⟩
            refine fz_ialdV (n := 40) (v := v139) kL_world rfl rfl (by omega) (by omega) e140 ?_
            have b141 : (-2147483648) ≤ v139 ∧ v139 ≤ 2147483647 := by rw [← e140]; exact hI122.1 53 _
            refine fz_callV (d' := 4) (M' := mX10_mend) (As := [fz_i 0, fz_i 8, fz_i v139]) (st := []) kL_world rfl rfl vX10_mend rfl rfl rfl rfl (Nat.le_of_ble_eq_true rfl) (Nat.le_of_ble_eq_true rfl) (by decide) (sX10_mend H118 hI122 0 8 v139 (hX124) hRE125 hRV126) (fun H142 r143 q144 o145 => ?_)
            obtain ⟨hI146, hf147, hX148, hRE149, hRV150, y153, rfl, f151, f152⟩ := q144
            clear o145
            have hf154 := fz_fr_tr hf130 hf147 (show fz_su [(2, 99999), (3, 99999), (4, 99999), (7, 99999), (8, 99999), (12, 99999), (13, 99999), (14, 99999), (27, 8), (27, 9), (28, 99999), (35, 4), (35, 5), (36, 99999), (37, 99999), (38, 99999), (39, 99999)] [(1, 7), (1, 8), (2, 99999), (3, 99999), (4, 99999), (5, 99999), (6, 99999), (7, 99999), (8, 99999), (9, 5), (10, 99999), (11, 99999), (12, 99999), (13, 99999), (14, 99999), (15, 4), (16, 99999), (17, 99999), (20, 2), (20, 3), (20, 4), (21, 4), (22, 99999), (23, 99999), (26, 99999), (27, 8), (27, 9), (28, 99999), (35, 4), (35, 5), (36, 99999), (37, 99999), (38, 99999), (39, 99999), (53, 99999)] = true from rfl)
            have t155 : H142 53 0 = H118 53 0 := hf147 53 0 rfl
            have t156 : H142 53 1 = H118 53 1 := hf147 53 1 rfl
            have t157 : H142 53 2 = H118 53 2 := hf147 53 2 rfl
            have t158 : H142 20 2 = H118 20 2 := hf147 20 2 rfl
            have t159 : H142 1 7 = H118 1 7 := hf147 1 7 rfl
            have t160 : H142 1 8 = H118 1 8 := hf147 1 8 rfl
            have t161 : H142 9 5 = H118 9 5 := hf147 9 5 rfl
            have k162 := st_mC_d f152 hI146
            refine fz_pop rfl kL_world rfl ?_
            refine fz_iconst ⟨by decide, by decide⟩ kL_world rfl ?_
            refine fz_istore (ls' := [(5, fz_i 0), (4, fz_i y14), (0, fz_r 0), (1, fz_r 200), (2, fz_r 53), (3, fz_r 205)]) kL_world rfl (by decide) rfl ?_
            have lp171 : ∀ (n170 : Nat) (x163 : Int) (H167 : fz_H), fz_Iv H167 → fz_fr [(1, 7), (1, 8), (2, 99999), (3, 99999), (4, 99999), (5, 99999), (6, 99999), (7, 99999), (8, 99999), (9, 5), (10, 99999), (11, 99999), (12, 99999), (13, 99999), (14, 99999), (15, 4), (16, 99999), (17, 99999), (20, 2), (20, 3), (20, 4), (21, 4), (22, 99999), (23, 99999), (26, 99999), (27, 8), (27, 9), (28, 99999), (35, 4), (35, 5), (36, 99999), (37, 99999), (38, 99999), (39, 99999), (53, 99999)] h H167 → fz_RE H167 → fz_RV H167 → fz_Xc H167 → (0 ≤ x163 ∧ x163 ≤ 5) → (H167 53 0 = j18) → (H167 53 1 = H167 1 8) → (H167 53 2 = H167 9 5) → (H167 20 2 = 0) → (H167 1 7 = j18) → (H167 1 8 = 0) → (H167 9 5 = 0) → (0 ≤ H167 35 4 ∧ H167 35 4 ≤ 2 + x163) → (5 - x163).toNat < n170 → fz_R 47 mL_world 167 [(5, fz_i x163), (4, fz_i y14), (0, fz_r 0), (1, fz_r 200), (2, fz_r 53), (3, fz_r 205)] [] H167 (qL_world h) := by
              intro n170
              induction n170 with
              | zero => intro x163 H167 hI168 hf169 hRE164 hRV165 hXq166 hv174 hv175 hv176 hv177 hv178 hv179 hv180 hv181 hv182 hm173; exact absurd hm173 (by omega)
              | succ n170 ih172 =>
                intro x163 H167 hI168 hf169 hRE164 hRV165 hXq166 hv174 hv175 hv176 hv177 hv178 hv179 hv180 hv181 hv182 hm173
                refine fz_iload kL_world rfl rfl ?_
                refine fz_iconst ⟨by decide, by decide⟩ kL_world rfl ?_
                refine fz_icmp_ge (tgt := 261) kL_world rfl (by decide) (fun c183 => ?_) (fun c183 => ?_)
                · refine fz_aload_n kL_world rfl rfl ?_
                  refine fz_iconst ⟨by decide, by decide⟩ kL_world rfl ?_
                  obtain ⟨v184, e185⟩ : ∃ z, H167 53 (0) = z := ⟨_, rfl⟩
                  refine fz_ialdV (n := 40) (v := v184) kL_world rfl rfl (by omega) (by omega) e185 ?_
                  have b186 : (-2147483648) ≤ v184 ∧ v184 ≤ 2147483647 := by rw [← e185]; exact hI168.1 53 _
                  refine fz_iconst ⟨by decide, by decide⟩ kL_world rfl ?_
                  have J187 : ∀ j188 : Int, 0 ≤ j188 ∧ j188 ≤ 12 → (j188 = 0 ∨ 2 ≤ j18) → fz_R 47 mL_world 294 [(5, fz_i x163), (4, fz_i y14), (0, fz_r 0), (1, fz_r 200), (2, fz_r 53), (3, fz_r 205)] [fz_i j188] H167 (qL_world h) := by
                    intro j188 hj189 hj191
                    refine fz_istore (ls' := [(5, fz_i j188), (4, fz_i y14), (0, fz_r 0), (1, fz_r 200), (2, fz_r 53), (3, fz_r 205)]) kL_world rfl (by decide) rfl ?_
                    refine fz_iconst ⟨by decide, by decide⟩ kL_world rfl ?_
                    refine fz_istore (ls' := [(6, fz_i 0), (5, fz_i j188), (4, fz_i y14), (0, fz_r 0), (1, fz_r 200), (2, fz_r 53), (3, fz_r 205)]) kL_world rfl (by decide) rfl ?_
                    have lp200 : ∀ (n199 : Nat) (x192 : Int) (H196 : fz_H), fz_Iv H196 → fz_fr [(1, 7), (1, 8), (2, 99999), (3, 99999), (4, 99999), (5, 99999), (6, 99999), (7, 99999), (8, 99999), (9, 5), (10, 99999), (11, 99999), (12, 99999), (13, 99999), (14, 99999), (15, 4), (16, 99999), (17, 99999), (20, 2), (20, 3), (20, 4), (21, 4), (22, 99999), (23, 99999), (26, 99999), (27, 8), (27, 9), (28, 99999), (35, 4), (35, 5), (36, 99999), (37, 99999), (38, 99999), (39, 99999), (53, 99999)] h H196 → fz_RE H196 → fz_RV H196 → fz_Xc H196 → (0 ≤ x192 ∧ x192 ≤ 12) → (H196 53 0 = j18) → (H196 53 1 = H196 1 8) → (H196 53 2 = H196 9 5) → (H196 20 2 = 0) → (H196 1 7 = j18) → (H196 1 8 = x192) → (x192 ≤ j188) → (H196 9 5 = 0) → (0 ≤ H196 35 4 ∧ H196 35 4 ≤ 7 + x192) → (j188 - x192).toNat < n199 → fz_R 47 mL_world 299 [(6, fz_i x192), (5, fz_i j188), (4, fz_i y14), (0, fz_r 0), (1, fz_r 200), (2, fz_r 53), (3, fz_r 205)] [] H196 (qL_world h) := by
                      intro n199
                      induction n199 with
                      | zero => intro x192 H196 hI197 hf198 hRE193 hRV194 hXq195 hv203 hv204 hv205 hv206 hv207 hv208 hv209 hv210 hv211 hv212 hm202; exact absurd hm202 (by omega)
                      | succ n199 ih201 =>
                        intro x192 H196 hI197 hf198 hRE193 hRV194 hXq195 hv203 hv204 hv205 hv206 hv207 hv208 hv209 hv210 hv211 hv212 hm202
                        refine fz_iload kL_world rfl rfl ?_
                        refine fz_iload kL_world rfl rfl ?_
                        refine fz_icmp_ge (tgt := 448) kL_world rfl (by decide) (fun c213 => ?_) (fun c213 => ?_)
                        · refine fz_aload_n kL_world rfl rfl ?_
                          refine fz_iconst ⟨by decide, by decide⟩ kL_world rfl ?_
                          obtain ⟨v214, e215⟩ : ∃ z, H196 53 (0) = z := ⟨_, rfl⟩
                          refine fz_ialdV (n := 40) (v := v214) kL_world rfl rfl (by omega) (by omega) e215 ?_
                          have b216 : (-2147483648) ≤ v214 ∧ v214 ≤ 2147483647 := by rw [← e215]; exact hI197.1 53 _
                          have J217 : ∀ j218 : Int, 0 ≤ j218 ∧ j218 ≤ 8 → (j218 = 0 ∨ 1 ≤ j18) → fz_R 47 mL_world 468 [(6, fz_i x192), (5, fz_i j188), (4, fz_i y14), (0, fz_r 0), (1, fz_r 200), (2, fz_r 53), (3, fz_r 205)] [fz_i j218] H196 (qL_world h) := by
                            intro j218 hj219 hj221
                            refine fz_istore (ls' := [(6, fz_i j218), (5, fz_i j188), (4, fz_i y14), (0, fz_r 0), (1, fz_r 200), (2, fz_r 53), (3, fz_r 205)]) kL_world rfl (by decide) rfl ?_
                            refine fz_iconst ⟨by decide, by decide⟩ kL_world rfl ?_
                            refine fz_istore (ls' := [(7, fz_i 0), (6, fz_i j218), (5, fz_i j188), (4, fz_i y14), (0, fz_r 0), (1, fz_r 200), (2, fz_r 53), (3, fz_r 205)]) kL_world rfl (by decide) rfl ?_
                            have hRP2222 : fz_RP2 H196 := fun j hj => absurd hj (by omega)
                            have lp233 : ∀ (n232 : Nat) (x224 : Int) (H229 : fz_H), fz_Iv H229 → fz_fr [(1, 7), (1, 8), (2, 99999), (3, 99999), (4, 99999), (5, 99999), (6, 99999), (7, 99999), (8, 99999), (9, 5), (10, 99999), (11, 99999), (12, 99999), (13, 99999), (14, 99999), (15, 4), (16, 99999), (17, 99999), (20, 2), (20, 3), (20, 4), (21, 4), (22, 99999), (23, 99999), (26, 99999), (27, 8), (27, 9), (28, 99999), (35, 4), (35, 5), (36, 99999), (37, 99999), (38, 99999), (39, 99999), (53, 99999)] h H229 → fz_RE H229 → fz_RV H229 → fz_RP2 H229 → fz_Xc H229 → (0 ≤ x224 ∧ x224 ≤ 8) → (H229 53 0 = j18) → (H229 53 1 = H229 1 8) → (H229 53 2 = H229 9 5) → (H229 20 2 = 0) → (H229 1 7 = j18) → (H229 9 5 = x224) → (x224 ≤ j218) → (0 ≤ H229 35 4 ∧ H229 35 4 ≤ 19) → (j218 - x224).toNat < n232 → fz_R 47 mL_world 473 [(7, fz_i x224), (6, fz_i j218), (5, fz_i j188), (4, fz_i y14), (0, fz_r 0), (1, fz_r 200), (2, fz_r 53), (3, fz_r 205)] [] H229 (qL_world h) := by
                              intro n232
                              induction n232 with
                              | zero => intro x224 H229 hI230 hf231 hRE225 hRV226 hRP2227 hXq228 hv236 hv237 hv238 hv239 hv240 hv241 hv242 hv243 hv244 hm235; exact absurd hm235 (by omega)
                              | succ n232 ih234 =>
                                intro x224 H229 hI230 hf231 hRE225 hRV226 hRP2227 hXq228 hv236 hv237 hv238 hv239 hv240 hv241 hv242 hv243 hv244 hm235
                                refine fz_iload kL_world rfl rfl ?_
                                refine fz_iload kL_world rfl rfl ?_
                                refine fz_icmp_ge (tgt := 669) kL_world rfl (by decide) (fun c245 => ?_) (fun c245 => ?_)
                                · refine fz_iconst ⟨by decide, by decide⟩ kL_world rfl ?_
                                  refine fz_istore (ls' := [(7, fz_i 0), (6, fz_i j218), (5, fz_i j188), (4, fz_i y14), (0, fz_r 0), (1, fz_r 200), (2, fz_r 53), (3, fz_r 205)]) kL_world rfl (by decide) rfl ?_
                                  have lp255 : ∀ (n254 : Nat) (x246 : Int) (H251 : fz_H), fz_Iv H251 → fz_fr [(1, 7), (1, 8), (2, 99999), (3, 99999), (4, 99999), (5, 99999), (6, 99999), (7, 99999), (8, 99999), (9, 5), (10, 99999), (11, 99999), (12, 99999), (13, 99999), (14, 99999), (15, 4), (16, 99999), (17, 99999), (20, 2), (20, 3), (20, 4), (21, 4), (22, 99999), (23, 99999), (26, 99999), (27, 8), (27, 9), (28, 99999), (35, 4), (35, 5), (36, 99999), (37, 99999), (38, 99999), (39, 99999), (53, 99999)] h H251 → fz_RE H251 → fz_RV H251 → fz_RP2 H251 → fz_Xc H251 → (0 ≤ x246 ∧ x246 ≤ 120) → (H251 53 0 = j18) → (H251 53 1 = H251 1 8) → (H251 53 2 = H251 9 5) → (H251 1 7 = j18) → (H251 9 5 ≤ 8) → (0 ≤ H251 35 4 ∧ H251 35 4 ≤ 19) → (x246 ≤ h 205 100000) → (1 ≤ x246 ∨ H251 20 2 = 0) → ((h 205 100000) - x246).toNat < n254 → fz_R 47 mL_world 672 [(7, fz_i x246), (6, fz_i j218), (5, fz_i j188), (4, fz_i y14), (0, fz_r 0), (1, fz_r 200), (2, fz_r 53), (3, fz_r 205)] [] H251 (qL_world h) := by
                                    intro n254
                                    induction n254 with
                                    | zero => intro x246 H251 hI252 hf253 hRE247 hRV248 hRP2249 hXq250 hv258 hv259 hv260 hv261 hv262 hv263 hv264 hv265 hv266 hm257; exact absurd hm257 (by omega)
                                    | succ n254 ih256 =>
                                      intro x246 H251 hI252 hf253 hRE247 hRV248 hRP2249 hXq250 hv258 hv259 hv260 hv261 hv262 hv263 hv264 hv265 hv266 hm257
                                      refine fz_iload kL_world rfl rfl ?_
                                      refine fz_aload_n kL_world rfl rfl ?_
                                      have e267 : H251 205 100000 = h 205 100000 := hf253 205 100000 rfl
                                      refine fz_slen kL_world rfl rfl (by omega) (by decide) (by decide) ?_
                                      rw [e267]
                                      refine fz_icmp_ge (tgt := 698) kL_world rfl (by decide) (fun c268 => ?_) (fun c268 => ?_)
                                      · refine fz_aload_n kL_world rfl rfl ?_
                                        have e269 : H251 205 100000 = h 205 100000 := hf253 205 100000 rfl
                                        refine fz_slen kL_world rfl rfl (by omega) (by decide) (by decide) ?_
                                        rw [e269]
                                        refine fz_if_le (tgt := 710) kL_world rfl (by decide) (fun c270 => ?_) (fun c270 => ?_)
                                        · exact fz_vret kL_world rfl rfl ⟨hI252, hf253, hXq250, hRE247, hRV248, rfl, (by omega), (by omega), (by omega), (by omega), (by omega), (by omega), (by exact hRP2249)⟩
                                        · refine fz_aload_n kL_world rfl rfl ?_
                                          refine fz_callV (d' := 46) (M' := mX10_law) (As := []) (st := []) kL_world rfl rfl vX10_law rfl rfl rfl rfl (Nat.le_of_ble_eq_true rfl) (Nat.le_of_ble_eq_true rfl) (by decide) (sX10_law H251 hI252  ) (fun H272 r273 q274 o275 => ?_)
                                          obtain ⟨hI276, hf277, y281, rfl, f278, f279, f280⟩ := q274
                                          clear o275
                                          have hf282 := fz_fr_tr hf253 hf277 (show fz_su [(15, 4), (16, 99999), (17, 99999), (20, 2), (20, 3), (20, 4), (21, 4), (22, 99999), (23, 99999)] [(1, 7), (1, 8), (2, 99999), (3, 99999), (4, 99999), (5, 99999), (6, 99999), (7, 99999), (8, 99999), (9, 5), (10, 99999), (11, 99999), (12, 99999), (13, 99999), (14, 99999), (15, 4), (16, 99999), (17, 99999), (20, 2), (20, 3), (20, 4), (21, 4), (22, 99999), (23, 99999), (26, 99999), (27, 8), (27, 9), (28, 99999), (35, 4), (35, 5), (36, 99999), (37, 99999), (38, 99999), (39, 99999), (53, 99999)] = true from rfl)
                                          have hRE283 : fz_RE H272 := fz_RE_eq (funext fun s => hf277 5 s rfl) (funext fun s => hf277 6 s rfl) (hf277 1 8 rfl) (hf277 1 7 rfl) hRE247
                                          have hRV284 : fz_RV H272 := fz_RV_eq (funext fun s => hf277 7 s rfl) (funext fun s => hf277 8 s rfl) (funext fun s => hf277 3 s rfl) (funext fun s => hf277 4 s rfl) (funext fun s => hf277 5 s rfl) (funext fun s => hf277 6 s rfl) (hf277 1 7 rfl) (hf277 1 8 rfl) hRV248
                                          have hRP2285 : fz_RP2 H272 := fz_RP2_eq (funext fun s => hf277 11 s rfl) (hf277 9 5 rfl) (hf277 1 7 rfl) hRP2249
                                          have hX286 : fz_Xc H272 := fz_Xc_fr hf277 rfl hXq250
                                          have t287 : H272 53 0 = H251 53 0 := hf277 53 0 rfl
                                          have t288 : H272 53 1 = H251 53 1 := hf277 53 1 rfl
                                          have t289 : H272 53 2 = H251 53 2 := hf277 53 2 rfl
                                          have t290 : H272 35 4 = H251 35 4 := hf277 35 4 rfl
                                          have t291 : H272 1 7 = H251 1 7 := hf277 1 7 rfl
                                          have t292 : H272 1 8 = H251 1 8 := hf277 1 8 rfl
                                          have t293 : H272 9 5 = H251 9 5 := hf277 9 5 rfl
                                          refine fz_pop rfl kL_world rfl ?_
                                          exact fz_vret kL_world rfl rfl ⟨hI276, hf282, hX286, hRE283, hRV284, rfl, (by omega), (by omega), (by omega), (by omega), (by omega), (by omega), (by exact hRP2285)⟩
                                      · refine fz_aload_n kL_world rfl rfl ?_
                                        refine fz_aload_n kL_world rfl rfl ?_
                                        refine fz_iload kL_world rfl rfl ?_
                                        have e295 : H251 205 100000 = h 205 100000 := hf253 205 100000 rfl
                                        refine fz_sat (i := x246) kL_world rfl rfl (by omega) (by decide) (by decide) (fun z296 e297 => ?_)
                                        have b298 : 0 ≤ H251 20 2 ∧ H251 20 2 ≤ 120 := hI252.1 20 _
                                        refine fz_callV (d' := 1) (M' := mX10_feed) (As := [fz_i z296]) (st := []) kL_world rfl rfl vX10_feed rfl rfl rfl rfl (Nat.le_of_ble_eq_true rfl) (Nat.le_of_ble_eq_true rfl) (by decide) (sX10_feed H251 hI252 z296 ) (fun H299 r300 q301 o302 => ?_)
                                        obtain ⟨hI303, hf304, y308, rfl, f305, f306, f307⟩ := q301
                                        clear o302
                                        have hf309 := fz_fr_tr hf253 hf304 (show fz_su [(20, 2), (26, 99999)] [(1, 7), (1, 8), (2, 99999), (3, 99999), (4, 99999), (5, 99999), (6, 99999), (7, 99999), (8, 99999), (9, 5), (10, 99999), (11, 99999), (12, 99999), (13, 99999), (14, 99999), (15, 4), (16, 99999), (17, 99999), (20, 2), (20, 3), (20, 4), (21, 4), (22, 99999), (23, 99999), (26, 99999), (27, 8), (27, 9), (28, 99999), (35, 4), (35, 5), (36, 99999), (37, 99999), (38, 99999), (39, 99999), (53, 99999)] = true from rfl)
                                        have hRE310 : fz_RE H299 := fz_RE_eq (funext fun s => hf304 5 s rfl) (funext fun s => hf304 6 s rfl) (hf304 1 8 rfl) (hf304 1 7 rfl) hRE247
                                        have hRV311 : fz_RV H299 := fz_RV_eq (funext fun s => hf304 7 s rfl) (funext fun s => hf304 8 s rfl) (funext fun s => hf304 3 s rfl) (funext fun s => hf304 4 s rfl) (funext fun s => hf304 5 s rfl) (funext fun s => hf304 6 s rfl) (hf304 1 7 rfl) (hf304 1 8 rfl) hRV248
                                        have hRP2312 : fz_RP2 H299 := fz_RP2_eq (funext fun s => hf304 11 s rfl) (hf304 9 5 rfl) (hf304 1 7 rfl) hRP2249
                                        have hX313 : fz_Xc H299 := fz_Xc_fr hf304 rfl hXq250
                                        have t314 : H299 53 0 = H251 53 0 := hf304 53 0 rfl
                                        have t315 : H299 53 1 = H251 53 1 := hf304 53 1 rfl
                                        have t316 : H299 53 2 = H251 53 2 := hf304 53 2 rfl
                                        have t317 : H299 35 4 = H251 35 4 := hf304 35 4 rfl
                                        have t318 : H299 1 7 = H251 1 7 := hf304 1 7 rfl
                                        have t319 : H299 1 8 = H251 1 8 := hf304 1 8 rfl
                                        have t320 : H299 9 5 = H251 9 5 := hf304 9 5 rfl
                                        refine fz_pop rfl kL_world rfl ?_
                                        refine fz_iincN (ls' := [(7, fz_i (x246 + 1)), (6, fz_i j218), (5, fz_i j188), (4, fz_i y14), (0, fz_r 0), (1, fz_r 200), (2, fz_r 53), (3, fz_r 205)]) kL_world rfl (by decide) rfl (by omega) rfl ?_
                                        refine fz_goto (tgt := 672) kL_world rfl (by decide) ?_
                                        exact ih256 (x246 + 1) H299 hI303 hf309 hRE310 hRV311 hRP2312 hX313 (by omega) (by omega) (by omega) (by omega) (by omega) (by omega) (by omega) (by omega) (by omega) (by omega)
                                  exact lp255 _ 0 H229 hI230 hf231 hRE225 hRV226 hRP2227 hXq228 (by omega) (by omega) (by omega) (by omega) (by omega) (by omega) (by omega) (by omega) (by omega) (Nat.lt_succ_self _)
                                · refine fz_aload_n kL_world rfl rfl ?_
                                  refine fz_bipush ⟨by decide, by decide⟩ kL_world rfl ?_
                                  refine fz_iload kL_world rfl rfl ?_
                                  refine fz_bipush ⟨by decide, by decide⟩ kL_world rfl ?_
                                  refine fz_iremN kL_world rfl (by omega) (by omega) (by omega) ?_
                                  refine fz_iaddN kL_world rfl (by omega) ?_
                                  have e321 : H229 200 100000 = h 200 100000 := hf231 200 100000 rfl
                                  refine fz_callS (d' := 0) (M' := mL_at) (As := [fz_r 200, fz_i (14 + (x224 % 8))]) (st := []) kL_world rfl rfl vL_at rfl rfl (Nat.le_of_ble_eq_true rfl) (Nat.le_of_ble_eq_true rfl) (by decide) (sL_at H229 hI230 (14 + (x224 % 8)) (by omega) (by omega)) (fun H322 r323 q324 o325 => ?_)
                                  obtain ⟨e326, y328, rfl, f327⟩ := q324
                                  subst H322
                                  clear o325
                                  refine fz_iload kL_world rfl rfl ?_
                                  refine fz_bipush ⟨by decide, by decide⟩ kL_world rfl ?_
                                  refine fz_idivN kL_world rfl (by omega) (by omega) (by omega) ?_
                                  refine fz_bipush ⟨by decide, by decide⟩ kL_world rfl ?_
                                  refine fz_imulN kL_world rfl (by omega) ?_
                                  refine fz_eqi (y := 0) (by omega) ?_
                                  refine fz_ixor kL_world rfl ?_
                                  have b329 : -2147483648 ≤ (fz_xor y328 0) ∧ (fz_xor y328 0) < 2147483648 := fz_b32 _
                                  refine fz_istore (ls' := [(8, fz_i (fz_xor y328 0)), (7, fz_i x224), (6, fz_i j218), (5, fz_i j188), (4, fz_i y14), (0, fz_r 0), (1, fz_r 200), (2, fz_r 53), (3, fz_r 205)]) kL_world rfl (by decide) rfl ?_
                                  refine fz_iload kL_world rfl rfl ?_
                                  refine fz_iload kL_world rfl rfl ?_
                                  refine fz_bipush ⟨by decide, by decide⟩ kL_world rfl ?_
                                  refine fz_ishr kL_world rfl ?_
                                  have b331 : -2147483648 ≤ (fz_shr y14 28) ∧ (fz_shr y14 28) < 2147483648 := fz_b32 _
                                  refine fz_iconst ⟨by decide, by decide⟩ kL_world rfl ?_
                                  refine fz_iand kL_world rfl ?_
                                  have b333 : -2147483648 ≤ (fz_and (fz_shr y14 28) 1) ∧ (fz_and (fz_shr y14 28) 1) < 2147483648 := fz_b32 _
                                  have b334 : 0 ≤ (fz_and (fz_shr y14 28) 1) ∧ (fz_and (fz_shr y14 28) 1) ≤ 1 := fz_and_m (by omega) (by omega)
                                  have J335 : ∀ j336 : Int, 2 ≤ j336 ∧ j336 ≤ 4 → fz_R 47 mL_world 520 [(8, fz_i (fz_xor y328 0)), (7, fz_i x224), (6, fz_i j218), (5, fz_i j188), (4, fz_i y14), (0, fz_r 0), (1, fz_r 200), (2, fz_r 53), (3, fz_r 205)] [fz_i j336, fz_i (fz_xor y328 0)] H229 (qL_world h) := by
                                    intro j336 hj337
                                    refine fz_callS (d' := 0) (M' := mL_some) (As := [fz_i (fz_xor y328 0), fz_i j336]) (st := []) kL_world rfl rfl vL_some rfl rfl (Nat.le_of_ble_eq_true rfl) (Nat.le_of_ble_eq_true rfl) (by decide) (sL_some H229 hI230 (fz_xor y328 0) j336 (by omega)) (fun H339 r340 q341 o342 => ?_)
                                    obtain ⟨e343, y347, rfl, f344, f345, f346⟩ := q341
                                    subst H339
                                    clear o342
                                    refine fz_istore (ls' := [(9, fz_i y347), (8, fz_i (fz_xor y328 0)), (7, fz_i x224), (6, fz_i j218), (5, fz_i j188), (4, fz_i y14), (0, fz_r 0), (1, fz_r 200), (2, fz_r 53), (3, fz_r 205)]) kL_world rfl (by decide) rfl ?_
                                    refine fz_iload kL_world rfl rfl ?_
                                    refine fz_iconst ⟨by decide, by decide⟩ kL_world rfl ?_
                                    refine fz_ishr kL_world rfl ?_
                                    have b348 : -2147483648 ≤ (fz_shr (fz_xor y328 0) 3) ∧ (fz_shr (fz_xor y328 0) 3) < 2147483648 := fz_b32 _
                                    refine fz_aload_n kL_world rfl rfl ?_
                                    refine fz_iconst ⟨by decide, by decide⟩ kL_world rfl ?_
                                    obtain ⟨v350, e351⟩ : ∃ z, H229 53 (0) = z := ⟨_, rfl⟩
                                    refine fz_ialdV (n := 40) (v := v350) kL_world rfl rfl (by omega) (by omega) e351 ?_
                                    have b352 : (-2147483648) ≤ v350 ∧ v350 ≤ 2147483647 := by rw [← e351]; exact hI230.1 53 _
                                    have k354 : 1 ≤ v350 ∧ v350 ≤ 8 := by omega
                                    refine fz_callS (d' := 0) (M' := mL_some) (As := [fz_i (fz_shr (fz_xor y328 0) 3), fz_i v350]) (st := []) kL_world rfl rfl vL_some rfl rfl (Nat.le_of_ble_eq_true rfl) (Nat.le_of_ble_eq_true rfl) (by decide) (sL_some H229 hI230 (fz_shr (fz_xor y328 0) 3) v350 (by omega)) (fun H355 r356 q357 o358 => ?_)
                                    obtain ⟨e359, y363, rfl, f360, f361, f362⟩ := q357
                                    subst H355
                                    clear o358
                                    refine fz_istore (ls' := [(10, fz_i y363), (9, fz_i y347), (8, fz_i (fz_xor y328 0)), (7, fz_i x224), (6, fz_i j218), (5, fz_i j188), (4, fz_i y14), (0, fz_r 0), (1, fz_r 200), (2, fz_r 53), (3, fz_r 205)]) kL_world rfl (by decide) rfl ?_
                                    refine fz_iload kL_world rfl rfl ?_
                                    refine fz_bipush ⟨by decide, by decide⟩ kL_world rfl ?_
                                    refine fz_ishr kL_world rfl ?_
                                    have b364 : -2147483648 ≤ (fz_shr (fz_xor y328 0) 8) ∧ (fz_shr (fz_xor y328 0) 8) < 2147483648 := fz_b32 _
                                    refine fz_iconst ⟨by decide, by decide⟩ kL_world rfl ?_
                                    refine fz_iand kL_world rfl ?_
                                    have b366 : -2147483648 ≤ (fz_and (fz_shr (fz_xor y328 0) 8) 1) ∧ (fz_and (fz_shr (fz_xor y328 0) 8) 1) < 2147483648 := fz_b32 _
                                    have b367 : 0 ≤ (fz_and (fz_shr (fz_xor y328 0) 8) 1) ∧ (fz_and (fz_shr (fz_xor y328 0) 8) 1) ≤ 1 := fz_and_m (by omega) (by omega)
                                    have J368 : ∀ j369 : Int, 0 ≤ j369 ∧ j369 ≤ 999 → fz_R 47 mL_world 571 [(10, fz_i y363), (9, fz_i y347), (8, fz_i (fz_xor y328 0)), (7, fz_i x224), (6, fz_i j218), (5, fz_i j188), (4, fz_i y14), (0, fz_r 0), (1, fz_r 200), (2, fz_r 53), (3, fz_r 205)] [fz_i j369] H229 (qL_world h) := by
                                      intro j369 hj370
                                      refine fz_istore (ls' := [(11, fz_i j369), (10, fz_i y363), (9, fz_i y347), (8, fz_i (fz_xor y328 0)), (7, fz_i x224), (6, fz_i j218), (5, fz_i j188), (4, fz_i y14), (0, fz_r 0), (1, fz_r 200), (2, fz_r 53), (3, fz_r 205)]) kL_world rfl (by decide) rfl ?_
                                      refine fz_iload kL_world rfl rfl ?_
                                      refine fz_bipush ⟨by decide, by decide⟩ kL_world rfl ?_
                                      refine fz_ishr kL_world rfl ?_
                                      have b372 : -2147483648 ≤ (fz_shr (fz_xor y328 0) 19) ∧ (fz_shr (fz_xor y328 0) 19) < 2147483648 := fz_b32 _
                                      refine fz_iconst ⟨by decide, by decide⟩ kL_world rfl ?_
                                      refine fz_callS (d' := 0) (M' := mL_some) (As := [fz_i (fz_shr (fz_xor y328 0) 19), fz_i 5]) (st := []) kL_world rfl rfl vL_some rfl rfl (Nat.le_of_ble_eq_true rfl) (Nat.le_of_ble_eq_true rfl) (by decide) (sL_some H229 hI230 (fz_shr (fz_xor y328 0) 19) 5 (by omega)) (fun H374 r375 q376 o377 => ?_)
                                      obtain ⟨e378, y382, rfl, f379, f380, f381⟩ := q376
                                      subst H374
                                      clear o377
                                      refine fz_istore (ls' := [(12, fz_i y382), (11, fz_i j369), (10, fz_i y363), (9, fz_i y347), (8, fz_i (fz_xor y328 0)), (7, fz_i x224), (6, fz_i j218), (5, fz_i j188), (4, fz_i y14), (0, fz_r 0), (1, fz_r 200), (2, fz_r 53), (3, fz_r 205)]) kL_world rfl (by decide) rfl ?_
                                      refine fz_iconst ⟨by decide, by decide⟩ kL_world rfl ?_
                                      refine fz_iload kL_world rfl rfl ?_
                                      refine fz_bipush ⟨by decide, by decide⟩ kL_world rfl ?_
                                      refine fz_ishr kL_world rfl ?_
                                      have b383 : -2147483648 ≤ (fz_shr (fz_xor y328 0) 22) ∧ (fz_shr (fz_xor y328 0) 22) < 2147483648 := fz_b32 _
                                      refine fz_bipush ⟨by decide, by decide⟩ kL_world rfl ?_
                                      refine fz_callS (d' := 0) (M' := mL_some) (As := [fz_i (fz_shr (fz_xor y328 0) 22), fz_i 9]) (st := [fz_i 1]) kL_world rfl rfl vL_some rfl rfl (Nat.le_of_ble_eq_true rfl) (Nat.le_of_ble_eq_true rfl) (by decide) (sL_some H229 hI230 (fz_shr (fz_xor y328 0) 22) 9 (by omega)) (fun H385 r386 q387 o388 => ?_)
                                      obtain ⟨e389, y393, rfl, f390, f391, f392⟩ := q387
                                      subst H385
                                      clear o388
                                      refine fz_iaddN kL_world rfl (by omega) ?_
                                      refine fz_istore (ls' := [(13, fz_i (1 + y393)), (12, fz_i y382), (11, fz_i j369), (10, fz_i y363), (9, fz_i y347), (8, fz_i (fz_xor y328 0)), (7, fz_i x224), (6, fz_i j218), (5, fz_i j188), (4, fz_i y14), (0, fz_r 0), (1, fz_r 200), (2, fz_r 53), (3, fz_r 205)]) kL_world rfl (by decide) rfl ?_
                                      refine fz_aload_n kL_world rfl rfl ?_
                                      refine fz_bipush ⟨by decide, by decide⟩ kL_world rfl ?_
                                      refine fz_iload kL_world rfl rfl ?_
                                      refine fz_iaddN kL_world rfl (by omega) ?_
                                      refine fz_iload kL_world rfl rfl ?_
                                      refine fz_bipush ⟨by decide, by decide⟩ kL_world rfl ?_
                                      refine fz_iload kL_world rfl rfl ?_
                                      refine fz_imulN kL_world rfl (by omega) ?_
                                      refine fz_iaddN kL_world rfl (by omega) ?_
                                      refine fz_bipush ⟨by decide, by decide⟩ kL_world rfl ?_
                                      refine fz_iload kL_world rfl rfl ?_
                                      refine fz_imulN kL_world rfl (by omega) ?_
                                      refine fz_iaddN kL_world rfl (by omega) ?_
                                      refine fz_sipush ⟨by decide, by decide⟩ kL_world rfl ?_
                                      refine fz_iload kL_world rfl rfl ?_
                                      refine fz_imulN kL_world rfl (by omega) ?_
                                      refine fz_iaddN kL_world rfl (by omega) ?_
                                      refine fz_ldc (x := 1000000) kL_world rfl rfl rfl ?_
                                      refine fz_iload kL_world rfl rfl ?_
                                      refine fz_imulN kL_world rfl (by omega) ?_
                                      refine fz_iaddN kL_world rfl (by omega) ?_
                                      refine fz_iast (n := 40) kL_world rfl rfl (by omega) (by omega) ?_
                                      refine fz_nmu (S := [(1, 7), (1, 8), (2, 99999), (3, 99999), (4, 99999), (5, 99999), (6, 99999), (7, 99999), (8, 99999), (9, 5), (10, 99999), (11, 99999), (12, 99999), (13, 99999), (14, 99999), (15, 4), (16, 99999), (17, 99999), (20, 2), (20, 3), (20, 4), (21, 4), (22, 99999), (23, 99999), (26, 99999), (27, 8), (27, 9), (28, 99999), (35, 4), (35, 5), (36, 99999), (37, 99999), (38, 99999), (39, 99999), (53, 99999)]) (h0 := h) (fz_Iv_up hI230 (by decide) (show ((-2147483648) : Int) ≤ (((((1 + y393) + (10 * y382)) + (100 * y363)) + (1000 * j369)) + (1000000 * y347)) by omega) (show ((((((1 + y393) + (10 * y382)) + (100 * y363)) + (1000 * j369)) + (1000000 * y347)) : Int) ≤ 2147483647 by omega)) (fz_fr_up hf231 rfl) (fun H394 hI395 hf396 e397 => ?_)
                                      have t398 : H394 20 2 = H229 20 2 := by rw [e397]; exact fz_up_o (by decide)
                                      have t399 : H394 35 4 = H229 35 4 := by rw [e397]; exact fz_up_o (by decide)
                                      have t400 : H394 1 7 = H229 1 7 := by rw [e397]; exact fz_up_o (by decide)
                                      have t401 : H394 1 8 = H229 1 8 := by rw [e397]; exact fz_up_o (by decide)
                                      have t402 : H394 9 5 = H229 9 5 := by rw [e397]; exact fz_up_o (by decide)
                                      have hX403 : fz_Xc H394 := by rw [e397]; exact fz_Xc_up (by decide) (by decide) (by decide) hXq228
                                      have hRE404 : fz_RE H394 := fz_RE_eq (by rw [e397]; exact fz_up_ne (by decide)) (by rw [e397]; exact fz_up_ne (by decide)) (by rw [e397]; exact fz_up_o (by decide)) (by rw [e397]; exact fz_up_o (by decide)) hRE225
                                      have hRV405 : fz_RV H394 := fz_RV_eq (by rw [e397]; exact fz_up_ne (by decide)) (by rw [e397]; exact fz_up_ne (by decide)) (by rw [e397]; exact fz_up_ne (by decide)) (by rw [e397]; exact fz_up_ne (by decide)) (by rw [e397]; exact fz_up_ne (by decide)) (by rw [e397]; exact fz_up_ne (by decide)) (by rw [e397]; exact fz_up_o (by decide)) (by rw [e397]; exact fz_up_o (by decide)) hRV226
                                      have hRP2406 : fz_RP2 H394 := fz_RP2_eq (by rw [e397]; exact fz_up_ne (by decide)) (by rw [e397]; exact fz_up_o (by decide)) (by rw [e397]; exact fz_up_o (by decide)) hRP2227
                                      have t407 : H394 53 0 = H229 53 0 := by rw [e397]; exact fz_up_s (by omega)
                                      have t408 : H394 53 1 = H229 53 1 := by rw [e397]; exact fz_up_s (by omega)
                                      have t409 : H394 53 2 = H229 53 2 := by rw [e397]; exact fz_up_s (by omega)
                                      refine fz_aload_n kL_world rfl rfl ?_
                                      refine fz_iconst ⟨by decide, by decide⟩ kL_world rfl ?_
                                      refine fz_dup2 rfl rfl kL_world rfl ?_
                                      obtain ⟨v410, e411⟩ : ∃ z, H394 53 (2) = z := ⟨_, rfl⟩
                                      refine fz_ialdV (n := 40) (v := v410) kL_world rfl rfl (by omega) (by omega) e411 ?_
                                      have b412 : (-2147483648) ≤ v410 ∧ v410 ≤ 2147483647 := by rw [← e411]; exact hI395.1 53 _
                                      have k414 : 0 ≤ v410 ∧ v410 ≤ 12 := by omega
                                      refine fz_iconst ⟨by decide, by decide⟩ kL_world rfl ?_
                                      refine fz_iaddN kL_world rfl (by omega) ?_
                                      refine fz_iast (n := 40) kL_world rfl rfl (by omega) (by omega) ?_
                                      refine fz_nmu (S := [(1, 7), (1, 8), (2, 99999), (3, 99999), (4, 99999), (5, 99999), (6, 99999), (7, 99999), (8, 99999), (9, 5), (10, 99999), (11, 99999), (12, 99999), (13, 99999), (14, 99999), (15, 4), (16, 99999), (17, 99999), (20, 2), (20, 3), (20, 4), (21, 4), (22, 99999), (23, 99999), (26, 99999), (27, 8), (27, 9), (28, 99999), (35, 4), (35, 5), (36, 99999), (37, 99999), (38, 99999), (39, 99999), (53, 99999)]) (h0 := h) (fz_Iv_up hI395 (by decide) (show ((-2147483648) : Int) ≤ (v410 + 1) by omega) (show ((v410 + 1) : Int) ≤ 2147483647 by omega)) (fz_fr_up hf396 rfl) (fun H415 hI416 hf417 e418 => ?_)
                                      have t419 : H415 20 2 = H394 20 2 := by rw [e418]; exact fz_up_o (by decide)
                                      have t420 : H415 35 4 = H394 35 4 := by rw [e418]; exact fz_up_o (by decide)
                                      have t421 : H415 1 7 = H394 1 7 := by rw [e418]; exact fz_up_o (by decide)
                                      have t422 : H415 1 8 = H394 1 8 := by rw [e418]; exact fz_up_o (by decide)
                                      have t423 : H415 9 5 = H394 9 5 := by rw [e418]; exact fz_up_o (by decide)
                                      have hX424 : fz_Xc H415 := by rw [e418]; exact fz_Xc_up (by decide) (by decide) (by decide) hX403
                                      have hRE425 : fz_RE H415 := fz_RE_eq (by rw [e418]; exact fz_up_ne (by decide)) (by rw [e418]; exact fz_up_ne (by decide)) (by rw [e418]; exact fz_up_o (by decide)) (by rw [e418]; exact fz_up_o (by decide)) hRE404
                                      have hRV426 : fz_RV H415 := fz_RV_eq (by rw [e418]; exact fz_up_ne (by decide)) (by rw [e418]; exact fz_up_ne (by decide)) (by rw [e418]; exact fz_up_ne (by decide)) (by rw [e418]; exact fz_up_ne (by decide)) (by rw [e418]; exact fz_up_ne (by decide)) (by rw [e418]; exact fz_up_ne (by decide)) (by rw [e418]; exact fz_up_o (by decide)) (by rw [e418]; exact fz_up_o (by decide)) hRV405
                                      have hRP2427 : fz_RP2 H415 := fz_RP2_eq (by rw [e418]; exact fz_up_ne (by decide)) (by rw [e418]; exact fz_up_o (by decide)) (by rw [e418]; exact fz_up_o (by decide)) hRP2406
                                      have t428 : H415 53 0 = H394 53 0 := by rw [e418]; exact fz_up_s (by decide)
                                      have t429 : H415 53 1 = H394 53 1 := by rw [e418]; exact fz_up_s (by decide)
                                      have t430 : H415 53 2 = (v410 + 1) := by rw [e418]; exact fz_up_e
                                      refine fz_aload_n kL_world rfl rfl ?_
                                      refine fz_bipush ⟨by decide, by decide⟩ kL_world rfl ?_
                                      refine fz_iload kL_world rfl rfl ?_
                                      refine fz_imulN kL_world rfl (by omega) ?_
                                      refine fz_iload kL_world rfl rfl ?_
                                      refine fz_iaddN kL_world rfl (by omega) ?_
                                      refine fz_sipush ⟨by decide, by decide⟩ kL_world rfl ?_
                                      refine fz_iload kL_world rfl rfl ?_
                                      refine fz_imulN kL_world rfl (by omega) ?_
                                      refine fz_iload kL_world rfl rfl ?_
                                      refine fz_iaddN kL_world rfl (by omega) ?_
                                      refine fz_iload kL_world rfl rfl ?_
                                      have b431 : 0 ≤ H415 1 7 ∧ H415 1 7 ≤ 8 := hI416.1 1 _
                                      have b432 : 0 ≤ H415 9 5 ∧ H415 9 5 ≤ 10 := hI416.1 9 _
                                      refine fz_callV (d' := 2) (M' := mX10_deed) (As := [fz_i ((10 * y347) + y382), fz_i ((1000 * y363) + j369), fz_i (1 + y393)]) (st := []) kL_world rfl rfl vX10_deed rfl rfl rfl rfl (Nat.le_of_ble_eq_true rfl) (Nat.le_of_ble_eq_true rfl) (by decide) (sX10_deed H415 hI416 ((10 * y347) + y382) ((1000 * y363) + j369) (1 + y393) ) (fun H433 r434 q435 o436 => ?_)
                                      obtain ⟨hI437, hf438, y442, rfl, f439, f440, f441⟩ := q435
                                      clear o436
                                      have hf443 := fz_fr_tr hf417 hf438 (show fz_su [(9, 5), (10, 99999), (11, 99999), (12, 99999), (13, 99999), (14, 99999)] [(1, 7), (1, 8), (2, 99999), (3, 99999), (4, 99999), (5, 99999), (6, 99999), (7, 99999), (8, 99999), (9, 5), (10, 99999), (11, 99999), (12, 99999), (13, 99999), (14, 99999), (15, 4), (16, 99999), (17, 99999), (20, 2), (20, 3), (20, 4), (21, 4), (22, 99999), (23, 99999), (26, 99999), (27, 8), (27, 9), (28, 99999), (35, 4), (35, 5), (36, 99999), (37, 99999), (38, 99999), (39, 99999), (53, 99999)] = true from rfl)
                                      have hRE444 : fz_RE H433 := fz_RE_eq (funext fun s => hf438 5 s rfl) (funext fun s => hf438 6 s rfl) (hf438 1 8 rfl) (hf438 1 7 rfl) hRE425
                                      have hRV445 : fz_RV H433 := fz_RV_eq (funext fun s => hf438 7 s rfl) (funext fun s => hf438 8 s rfl) (funext fun s => hf438 3 s rfl) (funext fun s => hf438 4 s rfl) (funext fun s => hf438 5 s rfl) (funext fun s => hf438 6 s rfl) (hf438 1 7 rfl) (hf438 1 8 rfl) hRV426
                                      have hX446 : fz_Xc H433 := fz_Xc_fr hf438 rfl hX424
                                      have t447 : H433 53 0 = H415 53 0 := hf438 53 0 rfl
                                      have t448 : H433 53 1 = H415 53 1 := hf438 53 1 rfl
                                      have t449 : H433 53 2 = H415 53 2 := hf438 53 2 rfl
                                      have t450 : H433 20 2 = H415 20 2 := hf438 20 2 rfl
                                      have t451 : H433 35 4 = H415 35 4 := hf438 35 4 rfl
                                      have t452 : H433 1 7 = H415 1 7 := hf438 1 7 rfl
                                      have t453 : H433 1 8 = H415 1 8 := hf438 1 8 rfl
                                      have hRP2454 : fz_RP2 H433 := fz_RP2_ap hRP2427 f441 rfl (by omega) (by omega) (by omega) (fun _ _ _ => by dsimp only; omega)
                                      refine fz_pop rfl kL_world rfl ?_
                                      refine fz_iincN (ls' := [(7, fz_i (x224 + 1)), (13, fz_i (1 + y393)), (12, fz_i y382), (11, fz_i j369), (10, fz_i y363), (9, fz_i y347), (8, fz_i (fz_xor y328 0)), (6, fz_i j218), (5, fz_i j188), (4, fz_i y14), (0, fz_r 0), (1, fz_r 200), (2, fz_r 53), (3, fz_r 205)]) kL_world rfl (by decide) rfl (by omega) rfl ?_
                                      refine fz_goto (tgt := 473) kL_world rfl (by decide) ?_
                                      refine fz_sub (fz_pk_sub (ls' := [(7, fz_i (x224 + 1)), (6, fz_i j218), (5, fz_i j188), (4, fz_i y14), (0, fz_r 0), (1, fz_r 200), (2, fz_r 53), (3, fz_r 205)]) [0, 7, 8, 9, 10, 11, 12, 13] rfl) ?_
                                      exact ih234 (x224 + 1) H433 hI437 hf443 hRE444 hRV445 hRP2454 hX446 (by omega) (by omega) (by omega) (by omega) (by omega) (by omega) (by omega) (by omega) (by omega) (by omega)
                                    refine fz_if_ne (tgt := 560) kL_world rfl (by decide) (fun c456 => ?_) (fun c456 => ?_)
                                    · refine fz_iload kL_world rfl rfl ?_
                                      refine fz_bipush ⟨by decide, by decide⟩ kL_world rfl ?_
                                      refine fz_ishr kL_world rfl ?_
                                      have b457 : -2147483648 ≤ (fz_shr (fz_xor y328 0) 9) ∧ (fz_shr (fz_xor y328 0) 9) < 2147483648 := fz_b32 _
                                      refine fz_sipush ⟨by decide, by decide⟩ kL_world rfl ?_
                                      refine fz_callS (d' := 0) (M' := mL_some) (As := [fz_i (fz_shr (fz_xor y328 0) 9), fz_i 1000]) (st := []) kL_world rfl rfl vL_some rfl rfl (Nat.le_of_ble_eq_true rfl) (Nat.le_of_ble_eq_true rfl) (by decide) (sL_some H229 hI230 (fz_shr (fz_xor y328 0) 9) 1000 (by omega)) (fun H459 r460 q461 o462 => ?_)
                                      obtain ⟨e463, y467, rfl, f464, f465, f466⟩ := q461
                                      subst H459
                                      clear o462
                                      exact J368 y467 (by omega)
                                    · refine fz_iload kL_world rfl rfl ?_
                                      refine fz_bipush ⟨by decide, by decide⟩ kL_world rfl ?_
                                      refine fz_ishr kL_world rfl ?_
                                      have b468 : -2147483648 ≤ (fz_shr (fz_xor y328 0) 9) ∧ (fz_shr (fz_xor y328 0) 9) < 2147483648 := fz_b32 _
                                      refine fz_bipush ⟨by decide, by decide⟩ kL_world rfl ?_
                                      refine fz_callS (d' := 0) (M' := mL_some) (As := [fz_i (fz_shr (fz_xor y328 0) 9), fz_i 60]) (st := []) kL_world rfl rfl vL_some rfl rfl (Nat.le_of_ble_eq_true rfl) (Nat.le_of_ble_eq_true rfl) (by decide) (sL_some H229 hI230 (fz_shr (fz_xor y328 0) 9) 60 (by omega)) (fun H470 r471 q472 o473 => ?_)
                                      obtain ⟨e474, y478, rfl, f475, f476, f477⟩ := q472
                                      subst H470
                                      clear o473
                                      refine fz_goto (tgt := 571) kL_world rfl (by decide) ?_
                                      exact J368 y478 (by omega)
                                  refine fz_if_ne (tgt := 519) kL_world rfl (by decide) (fun c479 => ?_) (fun c479 => ?_)
                                  · refine fz_iconst ⟨by decide, by decide⟩ kL_world rfl ?_
                                    exact J335 4 (by omega)
                                  · refine fz_iconst ⟨by decide, by decide⟩ kL_world rfl ?_
                                    refine fz_goto (tgt := 520) kL_world rfl (by decide) ?_
                                    exact J335 2 (by omega)
                            exact lp233 _ 0 H196 hI197 hf198 hRE193 hRV194 hRP2222 hXq195 (by omega) (by omega) (by omega) (by omega) (by omega) (by omega) (by omega) (by omega) (by omega) (Nat.lt_succ_self _)
                          refine fz_if_ne (tgt := 458) kL_world rfl (by decide) (fun c480 => ?_) (fun c480 => ?_)
                          · refine fz_iload kL_world rfl rfl ?_
                            refine fz_bipush ⟨by decide, by decide⟩ kL_world rfl ?_
                            refine fz_ishr kL_world rfl ?_
                            have b481 : -2147483648 ≤ (fz_shr y14 9) ∧ (fz_shr y14 9) < 2147483648 := fz_b32 _
                            refine fz_bipush ⟨by decide, by decide⟩ kL_world rfl ?_
                            refine fz_callS (d' := 0) (M' := mL_some) (As := [fz_i (fz_shr y14 9), fz_i 9]) (st := []) kL_world rfl rfl vL_some rfl rfl (Nat.le_of_ble_eq_true rfl) (Nat.le_of_ble_eq_true rfl) (by decide) (sL_some H196 hI197 (fz_shr y14 9) 9 (by omega)) (fun H483 r484 q485 o486 => ?_)
                            obtain ⟨e487, y491, rfl, f488, f489, f490⟩ := q485
                            subst H483
                            clear o486
                            exact J217 y491 (by omega) (by omega)
                          · refine fz_iconst ⟨by decide, by decide⟩ kL_world rfl ?_
                            refine fz_goto (tgt := 468) kL_world rfl (by decide) ?_
                            exact J217 0 (by omega) (by omega)
                        · refine fz_aload_n kL_world rfl rfl ?_
                          refine fz_iconst ⟨by decide, by decide⟩ kL_world rfl ?_
                          refine fz_iload kL_world rfl rfl ?_
                          refine fz_iaddN kL_world rfl (by omega) ?_
                          have e492 : H196 200 100000 = h 200 100000 := hf198 200 100000 rfl
                          refine fz_callS (d' := 0) (M' := mL_at) (As := [fz_r 200, fz_i (2 + x192)]) (st := []) kL_world rfl rfl vL_at rfl rfl (Nat.le_of_ble_eq_true rfl) (Nat.le_of_ble_eq_true rfl) (by decide) (sL_at H196 hI197 (2 + x192) (by omega) (by omega)) (fun H493 r494 q495 o496 => ?_)
                          obtain ⟨e497, y499, rfl, f498⟩ := q495
                          subst H493
                          clear o496
                          refine fz_istore (ls' := [(7, fz_i y499), (6, fz_i x192), (5, fz_i j188), (4, fz_i y14), (0, fz_r 0), (1, fz_r 200), (2, fz_r 53), (3, fz_r 205)]) kL_world rfl (by decide) rfl ?_
                          refine fz_iload kL_world rfl rfl ?_
                          refine fz_aload_n kL_world rfl rfl ?_
                          refine fz_iconst ⟨by decide, by decide⟩ kL_world rfl ?_
                          obtain ⟨v500, e501⟩ : ∃ z, H196 53 (0) = z := ⟨_, rfl⟩
                          refine fz_ialdV (n := 40) (v := v500) kL_world rfl rfl (by omega) (by omega) e501 ?_
                          have b502 : (-2147483648) ≤ v500 ∧ v500 ≤ 2147483647 := by rw [← e501]; exact hI197.1 53 _
                          have k504 : 1 ≤ v500 ∧ v500 ≤ 8 := by omega
                          refine fz_callS (d' := 0) (M' := mL_some) (As := [fz_i y499, fz_i v500]) (st := []) kL_world rfl rfl vL_some rfl rfl (Nat.le_of_ble_eq_true rfl) (Nat.le_of_ble_eq_true rfl) (by decide) (sL_some H196 hI197 y499 v500 (by omega)) (fun H505 r506 q507 o508 => ?_)
                          obtain ⟨e509, y513, rfl, f510, f511, f512⟩ := q507
                          subst H505
                          clear o508
                          refine fz_istore (ls' := [(8, fz_i y513), (7, fz_i y499), (6, fz_i x192), (5, fz_i j188), (4, fz_i y14), (0, fz_r 0), (1, fz_r 200), (2, fz_r 53), (3, fz_r 205)]) kL_world rfl (by decide) rfl ?_
                          refine fz_iload kL_world rfl rfl ?_
                          refine fz_iconst ⟨by decide, by decide⟩ kL_world rfl ?_
                          refine fz_iaddN kL_world rfl (by omega) ?_
                          refine fz_iload kL_world rfl rfl ?_
                          refine fz_iconst ⟨by decide, by decide⟩ kL_world rfl ?_
                          refine fz_ishr kL_world rfl ?_
                          have b514 : -2147483648 ≤ (fz_shr y499 3) ∧ (fz_shr y499 3) < 2147483648 := fz_b32 _
                          refine fz_aload_n kL_world rfl rfl ?_
                          refine fz_iconst ⟨by decide, by decide⟩ kL_world rfl ?_
                          obtain ⟨v516, e517⟩ : ∃ z, H196 53 (0) = z := ⟨_, rfl⟩
                          refine fz_ialdV (n := 40) (v := v516) kL_world rfl rfl (by omega) (by omega) e517 ?_
                          have b518 : (-2147483648) ≤ v516 ∧ v516 ≤ 2147483647 := by rw [← e517]; exact hI197.1 53 _
                          have k520 : 2 ≤ v516 ∧ v516 ≤ 8 := by omega
                          refine fz_iconst ⟨by decide, by decide⟩ kL_world rfl ?_
                          refine fz_isubN kL_world rfl (by omega) ?_
                          refine fz_callS (d' := 0) (M' := mL_some) (As := [fz_i (fz_shr y499 3), fz_i (v516 - 1)]) (st := [fz_i (y513 + 1)]) kL_world rfl rfl vL_some rfl rfl (Nat.le_of_ble_eq_true rfl) (Nat.le_of_ble_eq_true rfl) (by decide) (sL_some H196 hI197 (fz_shr y499 3) (v516 - 1) (by omega)) (fun H521 r522 q523 o524 => ?_)
                          obtain ⟨e525, y529, rfl, f526, f527, f528⟩ := q523
                          subst H521
                          clear o524
                          refine fz_iaddN kL_world rfl (by omega) ?_
                          refine fz_aload_n kL_world rfl rfl ?_
                          refine fz_iconst ⟨by decide, by decide⟩ kL_world rfl ?_
                          obtain ⟨v530, e531⟩ : ∃ z, H196 53 (0) = z := ⟨_, rfl⟩
                          refine fz_ialdV (n := 40) (v := v530) kL_world rfl rfl (by omega) (by omega) e531 ?_
                          have b532 : (-2147483648) ≤ v530 ∧ v530 ≤ 2147483647 := by rw [← e531]; exact hI197.1 53 _
                          have k534 : 1 ≤ v530 ∧ v530 ≤ 8 := by omega
                          refine fz_callS (d' := 0) (M' := mL_some) (As := [fz_i ((y513 + 1) + y529), fz_i v530]) (st := []) kL_world rfl rfl vL_some rfl rfl (Nat.le_of_ble_eq_true rfl) (Nat.le_of_ble_eq_true rfl) (by decide) (sL_some H196 hI197 ((y513 + 1) + y529) v530 (by omega)) (fun H535 r536 q537 o538 => ?_)
                          obtain ⟨e539, y543, rfl, f540, f541, f542⟩ := q537
                          subst H535
                          clear o538
                          have k544 := st_oth (n := v530) (by omega) (by omega) f542
                          refine fz_istore (ls' := [(9, fz_i y543), (8, fz_i y513), (7, fz_i y499), (6, fz_i x192), (5, fz_i j188), (4, fz_i y14), (0, fz_r 0), (1, fz_r 200), (2, fz_r 53), (3, fz_r 205)]) kL_world rfl (by decide) rfl ?_
                          refine fz_iconst ⟨by decide, by decide⟩ kL_world rfl ?_
                          refine fz_iload kL_world rfl rfl ?_
                          refine fz_bipush ⟨by decide, by decide⟩ kL_world rfl ?_
                          refine fz_ishr kL_world rfl ?_
                          have b545 : -2147483648 ≤ (fz_shr y499 7) ∧ (fz_shr y499 7) < 2147483648 := fz_b32 _
                          refine fz_bipush ⟨by decide, by decide⟩ kL_world rfl ?_
                          refine fz_callS (d' := 0) (M' := mL_some) (As := [fz_i (fz_shr y499 7), fz_i 24]) (st := [fz_i 1]) kL_world rfl rfl vL_some rfl rfl (Nat.le_of_ble_eq_true rfl) (Nat.le_of_ble_eq_true rfl) (by decide) (sL_some H196 hI197 (fz_shr y499 7) 24 (by omega)) (fun H547 r548 q549 o550 => ?_)
                          obtain ⟨e551, y555, rfl, f552, f553, f554⟩ := q549
                          subst H547
                          clear o550
                          refine fz_iaddN kL_world rfl (by omega) ?_
                          refine fz_istore (ls' := [(10, fz_i (1 + y555)), (9, fz_i y543), (8, fz_i y513), (7, fz_i y499), (6, fz_i x192), (5, fz_i j188), (4, fz_i y14), (0, fz_r 0), (1, fz_r 200), (2, fz_r 53), (3, fz_r 205)]) kL_world rfl (by decide) rfl ?_
                          refine fz_iload kL_world rfl rfl ?_
                          refine fz_bipush ⟨by decide, by decide⟩ kL_world rfl ?_
                          refine fz_ishr kL_world rfl ?_
                          have b556 : -2147483648 ≤ (fz_shr y499 13) ∧ (fz_shr y499 13) < 2147483648 := fz_b32 _
                          refine fz_iconst ⟨by decide, by decide⟩ kL_world rfl ?_
                          refine fz_iand kL_world rfl ?_
                          have b558 : -2147483648 ≤ (fz_and (fz_shr y499 13) 3) ∧ (fz_and (fz_shr y499 13) 3) < 2147483648 := fz_b32 _
                          have b559 : 0 ≤ (fz_and (fz_shr y499 13) 3) ∧ (fz_and (fz_shr y499 13) 3) ≤ 3 := fz_and_m (by omega) (by omega)
                          have J560 : ∀ j561 : Int, 0 ≤ j561 ∧ j561 ≤ 1 → fz_R 47 mL_world 380 [(10, fz_i (1 + y555)), (9, fz_i y543), (8, fz_i y513), (7, fz_i y499), (6, fz_i x192), (5, fz_i j188), (4, fz_i y14), (0, fz_r 0), (1, fz_r 200), (2, fz_r 53), (3, fz_r 205)] [fz_i j561] H196 (qL_world h) := by
                            intro j561 hj562
                            refine fz_istore (ls' := [(11, fz_i j561), (10, fz_i (1 + y555)), (9, fz_i y543), (8, fz_i y513), (7, fz_i y499), (6, fz_i x192), (5, fz_i j188), (4, fz_i y14), (0, fz_r 0), (1, fz_r 200), (2, fz_r 53), (3, fz_r 205)]) kL_world rfl (by decide) rfl ?_
                            refine fz_aload_n kL_world rfl rfl ?_
                            refine fz_bipush ⟨by decide, by decide⟩ kL_world rfl ?_
                            refine fz_iload kL_world rfl rfl ?_
                            refine fz_iaddN kL_world rfl (by omega) ?_
                            refine fz_iload kL_world rfl rfl ?_
                            refine fz_bipush ⟨by decide, by decide⟩ kL_world rfl ?_
                            refine fz_iload kL_world rfl rfl ?_
                            refine fz_imulN kL_world rfl (by omega) ?_
                            refine fz_iaddN kL_world rfl (by omega) ?_
                            refine fz_bipush ⟨by decide, by decide⟩ kL_world rfl ?_
                            refine fz_iload kL_world rfl rfl ?_
                            refine fz_imulN kL_world rfl (by omega) ?_
                            refine fz_iaddN kL_world rfl (by omega) ?_
                            refine fz_sipush ⟨by decide, by decide⟩ kL_world rfl ?_
                            refine fz_iload kL_world rfl rfl ?_
                            refine fz_imulN kL_world rfl (by omega) ?_
                            refine fz_iaddN kL_world rfl (by omega) ?_
                            refine fz_iast (n := 40) kL_world rfl rfl (by omega) (by omega) ?_
                            refine fz_nmu (S := [(1, 7), (1, 8), (2, 99999), (3, 99999), (4, 99999), (5, 99999), (6, 99999), (7, 99999), (8, 99999), (9, 5), (10, 99999), (11, 99999), (12, 99999), (13, 99999), (14, 99999), (15, 4), (16, 99999), (17, 99999), (20, 2), (20, 3), (20, 4), (21, 4), (22, 99999), (23, 99999), (26, 99999), (27, 8), (27, 9), (28, 99999), (35, 4), (35, 5), (36, 99999), (37, 99999), (38, 99999), (39, 99999), (53, 99999)]) (h0 := h) (fz_Iv_up hI197 (by decide) (show ((-2147483648) : Int) ≤ (((y513 + (10 * y543)) + (100 * (1 + y555))) + (10000 * j561)) by omega) (show ((((y513 + (10 * y543)) + (100 * (1 + y555))) + (10000 * j561)) : Int) ≤ 2147483647 by omega)) (fz_fr_up hf198 rfl) (fun H564 hI565 hf566 e567 => ?_)
                            have t568 : H564 20 2 = H196 20 2 := by rw [e567]; exact fz_up_o (by decide)
                            have t569 : H564 35 4 = H196 35 4 := by rw [e567]; exact fz_up_o (by decide)
                            have t570 : H564 1 7 = H196 1 7 := by rw [e567]; exact fz_up_o (by decide)
                            have t571 : H564 1 8 = H196 1 8 := by rw [e567]; exact fz_up_o (by decide)
                            have t572 : H564 9 5 = H196 9 5 := by rw [e567]; exact fz_up_o (by decide)
                            have hX573 : fz_Xc H564 := by rw [e567]; exact fz_Xc_up (by decide) (by decide) (by decide) hXq195
                            have hRE574 : fz_RE H564 := fz_RE_eq (by rw [e567]; exact fz_up_ne (by decide)) (by rw [e567]; exact fz_up_ne (by decide)) (by rw [e567]; exact fz_up_o (by decide)) (by rw [e567]; exact fz_up_o (by decide)) hRE193
                            have hRV575 : fz_RV H564 := fz_RV_eq (by rw [e567]; exact fz_up_ne (by decide)) (by rw [e567]; exact fz_up_ne (by decide)) (by rw [e567]; exact fz_up_ne (by decide)) (by rw [e567]; exact fz_up_ne (by decide)) (by rw [e567]; exact fz_up_ne (by decide)) (by rw [e567]; exact fz_up_ne (by decide)) (by rw [e567]; exact fz_up_o (by decide)) (by rw [e567]; exact fz_up_o (by decide)) hRV194
                            have t576 : H564 53 0 = H196 53 0 := by rw [e567]; exact fz_up_s (by omega)
                            have t577 : H564 53 1 = H196 53 1 := by rw [e567]; exact fz_up_s (by omega)
                            have t578 : H564 53 2 = H196 53 2 := by rw [e567]; exact fz_up_s (by omega)
                            refine fz_aload_n kL_world rfl rfl ?_
                            refine fz_iconst ⟨by decide, by decide⟩ kL_world rfl ?_
                            refine fz_dup2 rfl rfl kL_world rfl ?_
                            obtain ⟨v579, e580⟩ : ∃ z, H564 53 (1) = z := ⟨_, rfl⟩
                            refine fz_ialdV (n := 40) (v := v579) kL_world rfl rfl (by omega) (by omega) e580 ?_
                            have b581 : (-2147483648) ≤ v579 ∧ v579 ≤ 2147483647 := by rw [← e580]; exact hI565.1 53 _
                            have k583 : 0 ≤ v579 ∧ v579 ≤ 12 := by omega
                            refine fz_iconst ⟨by decide, by decide⟩ kL_world rfl ?_
                            refine fz_iaddN kL_world rfl (by omega) ?_
                            refine fz_iast (n := 40) kL_world rfl rfl (by omega) (by omega) ?_
                            refine fz_nmu (S := [(1, 7), (1, 8), (2, 99999), (3, 99999), (4, 99999), (5, 99999), (6, 99999), (7, 99999), (8, 99999), (9, 5), (10, 99999), (11, 99999), (12, 99999), (13, 99999), (14, 99999), (15, 4), (16, 99999), (17, 99999), (20, 2), (20, 3), (20, 4), (21, 4), (22, 99999), (23, 99999), (26, 99999), (27, 8), (27, 9), (28, 99999), (35, 4), (35, 5), (36, 99999), (37, 99999), (38, 99999), (39, 99999), (53, 99999)]) (h0 := h) (fz_Iv_up hI565 (by decide) (show ((-2147483648) : Int) ≤ (v579 + 1) by omega) (show ((v579 + 1) : Int) ≤ 2147483647 by omega)) (fz_fr_up hf566 rfl) (fun H584 hI585 hf586 e587 => ?_)
                            have t588 : H584 20 2 = H564 20 2 := by rw [e587]; exact fz_up_o (by decide)
                            have t589 : H584 35 4 = H564 35 4 := by rw [e587]; exact fz_up_o (by decide)
                            have t590 : H584 1 7 = H564 1 7 := by rw [e587]; exact fz_up_o (by decide)
                            have t591 : H584 1 8 = H564 1 8 := by rw [e587]; exact fz_up_o (by decide)
                            have t592 : H584 9 5 = H564 9 5 := by rw [e587]; exact fz_up_o (by decide)
                            have hX593 : fz_Xc H584 := by rw [e587]; exact fz_Xc_up (by decide) (by decide) (by decide) hX573
                            have hRE594 : fz_RE H584 := fz_RE_eq (by rw [e587]; exact fz_up_ne (by decide)) (by rw [e587]; exact fz_up_ne (by decide)) (by rw [e587]; exact fz_up_o (by decide)) (by rw [e587]; exact fz_up_o (by decide)) hRE574
                            have hRV595 : fz_RV H584 := fz_RV_eq (by rw [e587]; exact fz_up_ne (by decide)) (by rw [e587]; exact fz_up_ne (by decide)) (by rw [e587]; exact fz_up_ne (by decide)) (by rw [e587]; exact fz_up_ne (by decide)) (by rw [e587]; exact fz_up_ne (by decide)) (by rw [e587]; exact fz_up_ne (by decide)) (by rw [e587]; exact fz_up_o (by decide)) (by rw [e587]; exact fz_up_o (by decide)) hRV575
                            have t596 : H584 53 0 = H564 53 0 := by rw [e587]; exact fz_up_s (by decide)
                            have t597 : H584 53 1 = (v579 + 1) := by rw [e587]; exact fz_up_e
                            have t598 : H584 53 2 = H564 53 2 := by rw [e587]; exact fz_up_s (by decide)
                            refine fz_aload_n kL_world rfl rfl ?_
                            refine fz_bipush ⟨by decide, by decide⟩ kL_world rfl ?_
                            refine fz_iload kL_world rfl rfl ?_
                            refine fz_imulN kL_world rfl (by omega) ?_
                            refine fz_iload kL_world rfl rfl ?_
                            refine fz_iaddN kL_world rfl (by omega) ?_
                            refine fz_iload kL_world rfl rfl ?_
                            have b599 : 0 ≤ H584 1 7 ∧ H584 1 7 ≤ 8 := hI585.1 1 _
                            have b600 : 0 ≤ H584 1 8 ∧ H584 1 8 ≤ 12 := hI585.1 1 _
                            refine fz_callV (d' := 4) (M' := mX10_road) (As := [fz_i ((10 * y513) + y543), fz_i (1 + y555)]) (st := []) kL_world rfl rfl vX10_road rfl rfl rfl rfl (Nat.le_of_ble_eq_true rfl) (Nat.le_of_ble_eq_true rfl) (by decide) (sX10_road H584 hI585 ((10 * y513) + y543) (1 + y555) hRE594 hRV595) (fun H601 r602 q603 o604 => ?_)
                            obtain ⟨hI605, hf606, hRE607, hRV608, y612, rfl, f609, f610, f611⟩ := q603
                            clear o604
                            have hf613 := fz_fr_tr hf586 hf606 (show fz_su [(1, 8), (3, 99999), (4, 99999), (5, 99999), (6, 99999), (7, 99999), (8, 99999)] [(1, 7), (1, 8), (2, 99999), (3, 99999), (4, 99999), (5, 99999), (6, 99999), (7, 99999), (8, 99999), (9, 5), (10, 99999), (11, 99999), (12, 99999), (13, 99999), (14, 99999), (15, 4), (16, 99999), (17, 99999), (20, 2), (20, 3), (20, 4), (21, 4), (22, 99999), (23, 99999), (26, 99999), (27, 8), (27, 9), (28, 99999), (35, 4), (35, 5), (36, 99999), (37, 99999), (38, 99999), (39, 99999), (53, 99999)] = true from rfl)
                            have hX614 : fz_Xc H601 := fz_Xc_fr hf606 rfl hX593
                            have t615 : H601 53 0 = H584 53 0 := hf606 53 0 rfl
                            have t616 : H601 53 1 = H584 53 1 := hf606 53 1 rfl
                            have t617 : H601 53 2 = H584 53 2 := hf606 53 2 rfl
                            have t618 : H601 20 2 = H584 20 2 := hf606 20 2 rfl
                            have t619 : H601 35 4 = H584 35 4 := hf606 35 4 rfl
                            have t620 : H601 1 7 = H584 1 7 := hf606 1 7 rfl
                            have t621 : H601 9 5 = H584 9 5 := hf606 9 5 rfl
                            refine fz_pop rfl kL_world rfl ?_
                            refine fz_aload_n kL_world rfl rfl ?_
                            refine fz_iload kL_world rfl rfl ?_
                            refine fz_iconst ⟨by decide, by decide⟩ kL_world rfl ?_
                            refine fz_iload kL_world rfl rfl ?_
                            refine fz_callV (d' := 4) (M' := mX10_mend) (As := [fz_i x192, fz_i 2, fz_i j561]) (st := []) kL_world rfl rfl vX10_mend rfl rfl rfl rfl (Nat.le_of_ble_eq_true rfl) (Nat.le_of_ble_eq_true rfl) (by decide) (sX10_mend H601 hI605 x192 2 j561 (hX614) hRE607 hRV608) (fun H622 r623 q624 o625 => ?_)
                            obtain ⟨hI626, hf627, hX628, hRE629, hRV630, y633, rfl, f631, f632⟩ := q624
                            clear o625
                            have hf634 := fz_fr_tr hf613 hf627 (show fz_su [(2, 99999), (3, 99999), (4, 99999), (7, 99999), (8, 99999), (12, 99999), (13, 99999), (14, 99999), (27, 8), (27, 9), (28, 99999), (35, 4), (35, 5), (36, 99999), (37, 99999), (38, 99999), (39, 99999)] [(1, 7), (1, 8), (2, 99999), (3, 99999), (4, 99999), (5, 99999), (6, 99999), (7, 99999), (8, 99999), (9, 5), (10, 99999), (11, 99999), (12, 99999), (13, 99999), (14, 99999), (15, 4), (16, 99999), (17, 99999), (20, 2), (20, 3), (20, 4), (21, 4), (22, 99999), (23, 99999), (26, 99999), (27, 8), (27, 9), (28, 99999), (35, 4), (35, 5), (36, 99999), (37, 99999), (38, 99999), (39, 99999), (53, 99999)] = true from rfl)
                            have t635 : H622 53 0 = H601 53 0 := hf627 53 0 rfl
                            have t636 : H622 53 1 = H601 53 1 := hf627 53 1 rfl
                            have t637 : H622 53 2 = H601 53 2 := hf627 53 2 rfl
                            have t638 : H622 20 2 = H601 20 2 := hf627 20 2 rfl
                            have t639 : H622 1 7 = H601 1 7 := hf627 1 7 rfl
                            have t640 : H622 1 8 = H601 1 8 := hf627 1 8 rfl
                            have t641 : H622 9 5 = H601 9 5 := hf627 9 5 rfl
                            have k642 := st_mC_d f632 hI626
                            refine fz_pop rfl kL_world rfl ?_
                            refine fz_iincN (ls' := [(6, fz_i (x192 + 1)), (11, fz_i j561), (10, fz_i (1 + y555)), (9, fz_i y543), (8, fz_i y513), (7, fz_i y499), (5, fz_i j188), (4, fz_i y14), (0, fz_r 0), (1, fz_r 200), (2, fz_r 53), (3, fz_r 205)]) kL_world rfl (by decide) rfl (by omega) rfl ?_
                            refine fz_goto (tgt := 299) kL_world rfl (by decide) ?_
                            refine fz_sub (fz_pk_sub (ls' := [(6, fz_i (x192 + 1)), (5, fz_i j188), (4, fz_i y14), (0, fz_r 0), (1, fz_r 200), (2, fz_r 53), (3, fz_r 205)]) [0, 6, 7, 8, 9, 10, 11] rfl) ?_
                            exact ih201 (x192 + 1) H622 hI626 hf634 hRE629 hRV630 hX628 (by omega) (by omega) (by omega) (by omega) (by omega) (by omega) (by omega) (by omega) (by omega) (by omega) (by omega)
                          refine fz_if_ne (tgt := 379) kL_world rfl (by decide) (fun c643 => ?_) (fun c643 => ?_)
                          · refine fz_iconst ⟨by decide, by decide⟩ kL_world rfl ?_
                            exact J560 1 (by omega)
                          · refine fz_iconst ⟨by decide, by decide⟩ kL_world rfl ?_
                            refine fz_goto (tgt := 380) kL_world rfl (by decide) ?_
                            exact J560 0 (by omega)
                    exact lp200 _ 0 H167 hI168 hf169 hRE164 hRV165 hXq166 (by omega) (by omega) (by omega) (by omega) (by omega) (by omega) (by omega) (by omega) (by omega) (by omega) (Nat.lt_succ_self _)
                  refine fz_icmp_ge (tgt := 272) kL_world rfl (by decide) (fun c644 => ?_) (fun c644 => ?_)
                  · refine fz_iload kL_world rfl rfl ?_
                    refine fz_bipush ⟨by decide, by decide⟩ kL_world rfl ?_
                    refine fz_ishr kL_world rfl ?_
                    have b645 : -2147483648 ≤ (fz_shr y14 12) ∧ (fz_shr y14 12) < 2147483648 := fz_b32 _
                    refine fz_aload_n kL_world rfl rfl ?_
                    refine fz_iconst ⟨by decide, by decide⟩ kL_world rfl ?_
                    obtain ⟨v647, e648⟩ : ∃ z, H167 53 (0) = z := ⟨_, rfl⟩
                    refine fz_ialdV (n := 40) (v := v647) kL_world rfl rfl (by omega) (by omega) e648 ?_
                    have b649 : (-2147483648) ≤ v647 ∧ v647 ≤ 2147483647 := by rw [← e648]; exact hI168.1 53 _
                    refine fz_iconst ⟨by decide, by decide⟩ kL_world rfl ?_
                    have J650 : ∀ j651 : Int, 7 ≤ j651 ∧ j651 ≤ 13 → fz_R 47 mL_world 291 [(5, fz_i x163), (4, fz_i y14), (0, fz_r 0), (1, fz_r 200), (2, fz_r 53), (3, fz_r 205)] [fz_i j651, fz_i (fz_shr y14 12)] H167 (qL_world h) := by
                      intro j651 hj652
                      refine fz_callS (d' := 0) (M' := mL_some) (As := [fz_i (fz_shr y14 12), fz_i j651]) (st := []) kL_world rfl rfl vL_some rfl rfl (Nat.le_of_ble_eq_true rfl) (Nat.le_of_ble_eq_true rfl) (by decide) (sL_some H167 hI168 (fz_shr y14 12) j651 (by omega)) (fun H654 r655 q656 o657 => ?_)
                      obtain ⟨e658, y662, rfl, f659, f660, f661⟩ := q656
                      subst H654
                      clear o657
                      exact J187 y662 (by omega) (by omega)
                    refine fz_icmp_ge (tgt := 289) kL_world rfl (by decide) (fun c663 => ?_) (fun c663 => ?_)
                    · refine fz_bipush ⟨by decide, by decide⟩ kL_world rfl ?_
                      exact J650 13 (by omega)
                    · refine fz_bipush ⟨by decide, by decide⟩ kL_world rfl ?_
                      refine fz_goto (tgt := 291) kL_world rfl (by decide) ?_
                      exact J650 7 (by omega)
                  · refine fz_iconst ⟨by decide, by decide⟩ kL_world rfl ?_
                    refine fz_goto (tgt := 294) kL_world rfl (by decide) ?_
                    exact J187 0 (by omega) (by omega)
                · refine fz_aload_n kL_world rfl rfl ?_
                  refine fz_bipush ⟨by decide, by decide⟩ kL_world rfl ?_
                  refine fz_iload kL_world rfl rfl ?_
                  refine fz_iaddN kL_world rfl (by omega) ?_
                  refine fz_bipush ⟨by decide, by decide⟩ kL_world rfl ?_
                  refine fz_iload kL_world rfl rfl ?_
                  refine fz_bipush ⟨by decide, by decide⟩ kL_world rfl ?_
                  refine fz_ishr kL_world rfl ?_
                  have b664 : -2147483648 ≤ (fz_shr y14 26) ∧ (fz_shr y14 26) < 2147483648 := fz_b32 _
                  refine fz_iconst ⟨by decide, by decide⟩ kL_world rfl ?_
                  refine fz_iand kL_world rfl ?_
                  have b666 : -2147483648 ≤ (fz_and (fz_shr y14 26) 1) ∧ (fz_and (fz_shr y14 26) 1) < 2147483648 := fz_b32 _
                  have b667 : 0 ≤ (fz_and (fz_shr y14 26) 1) ∧ (fz_and (fz_shr y14 26) 1) ≤ 1 := fz_and_m (by omega) (by omega)
                  have J668 : ∀ j669 : Int, (-9) ≤ j669 ∧ j669 ≤ 9 → fz_R 47 mL_world 234 [(5, fz_i x163), (4, fz_i y14), (0, fz_r 0), (1, fz_r 200), (2, fz_r 53), (3, fz_r 205)] [fz_i j669, fz_i 10, fz_i (35 + x163), fz_r 53] H167 (qL_world h) := by
                    intro j669 hj670
                    refine fz_iaddN kL_world rfl (by omega) ?_
                    refine fz_iast (n := 40) kL_world rfl rfl (by omega) (by omega) ?_
                    refine fz_nmu (S := [(1, 7), (1, 8), (2, 99999), (3, 99999), (4, 99999), (5, 99999), (6, 99999), (7, 99999), (8, 99999), (9, 5), (10, 99999), (11, 99999), (12, 99999), (13, 99999), (14, 99999), (15, 4), (16, 99999), (17, 99999), (20, 2), (20, 3), (20, 4), (21, 4), (22, 99999), (23, 99999), (26, 99999), (27, 8), (27, 9), (28, 99999), (35, 4), (35, 5), (36, 99999), (37, 99999), (38, 99999), (39, 99999), (53, 99999)]) (h0 := h) (fz_Iv_up hI168 (by decide) (show ((-2147483648) : Int) ≤ (10 + j669) by omega) (show ((10 + j669) : Int) ≤ 2147483647 by omega)) (fz_fr_up hf169 rfl) (fun H672 hI673 hf674 e675 => ?_)
                    have t676 : H672 20 2 = H167 20 2 := by rw [e675]; exact fz_up_o (by decide)
                    have t677 : H672 35 4 = H167 35 4 := by rw [e675]; exact fz_up_o (by decide)
                    have t678 : H672 1 7 = H167 1 7 := by rw [e675]; exact fz_up_o (by decide)
                    have t679 : H672 1 8 = H167 1 8 := by rw [e675]; exact fz_up_o (by decide)
                    have t680 : H672 9 5 = H167 9 5 := by rw [e675]; exact fz_up_o (by decide)
                    have hX681 : fz_Xc H672 := by rw [e675]; exact fz_Xc_up (by decide) (by decide) (by decide) hXq166
                    have hRE682 : fz_RE H672 := fz_RE_eq (by rw [e675]; exact fz_up_ne (by decide)) (by rw [e675]; exact fz_up_ne (by decide)) (by rw [e675]; exact fz_up_o (by decide)) (by rw [e675]; exact fz_up_o (by decide)) hRE164
                    have hRV683 : fz_RV H672 := fz_RV_eq (by rw [e675]; exact fz_up_ne (by decide)) (by rw [e675]; exact fz_up_ne (by decide)) (by rw [e675]; exact fz_up_ne (by decide)) (by rw [e675]; exact fz_up_ne (by decide)) (by rw [e675]; exact fz_up_ne (by decide)) (by rw [e675]; exact fz_up_ne (by decide)) (by rw [e675]; exact fz_up_o (by decide)) (by rw [e675]; exact fz_up_o (by decide)) hRV165
                    have t684 : H672 53 0 = H167 53 0 := by rw [e675]; exact fz_up_s (by omega)
                    have t685 : H672 53 1 = H167 53 1 := by rw [e675]; exact fz_up_s (by omega)
                    have t686 : H672 53 2 = H167 53 2 := by rw [e675]; exact fz_up_s (by omega)
                    refine fz_aload_n kL_world rfl rfl ?_
                    refine fz_iload kL_world rfl rfl ?_
                    refine fz_bipush ⟨by decide, by decide⟩ kL_world rfl ?_
                    refine fz_aload_n kL_world rfl rfl ?_
                    refine fz_bipush ⟨by decide, by decide⟩ kL_world rfl ?_
                    refine fz_iload kL_world rfl rfl ?_
                    refine fz_iaddN kL_world rfl (by omega) ?_
                    obtain ⟨v687, e688⟩ : ∃ z, H672 53 ((35 + x163).toNat) = z := ⟨_, rfl⟩
                    refine fz_ialdV (n := 40) (v := v687) kL_world rfl rfl (by omega) (by omega) e688 ?_
                    have b689 : (-2147483648) ≤ v687 ∧ v687 ≤ 2147483647 := by rw [← e688]; exact hI673.1 53 _
                    have k690 := e688.symm.trans ((congrFun (congrFun e675 53) _).trans fz_up_e)
                    refine fz_bipush ⟨by decide, by decide⟩ kL_world rfl ?_
                    refine fz_isub kL_world rfl ?_
                    refine fz_nmw (fun z691 e692 => ?_)
                    refine fz_callV (d' := 4) (M' := mX10_mend) (As := [fz_i x163, fz_i 6, fz_i z691]) (st := []) kL_world rfl rfl vX10_mend rfl rfl rfl rfl (Nat.le_of_ble_eq_true rfl) (Nat.le_of_ble_eq_true rfl) (by decide) (sX10_mend H672 hI673 x163 6 z691 (hX681) hRE682 hRV683) (fun H693 r694 q695 o696 => ?_)
                    obtain ⟨hI697, hf698, hX699, hRE700, hRV701, y704, rfl, f702, f703⟩ := q695
                    clear o696
                    have hf705 := fz_fr_tr hf674 hf698 (show fz_su [(2, 99999), (3, 99999), (4, 99999), (7, 99999), (8, 99999), (12, 99999), (13, 99999), (14, 99999), (27, 8), (27, 9), (28, 99999), (35, 4), (35, 5), (36, 99999), (37, 99999), (38, 99999), (39, 99999)] [(1, 7), (1, 8), (2, 99999), (3, 99999), (4, 99999), (5, 99999), (6, 99999), (7, 99999), (8, 99999), (9, 5), (10, 99999), (11, 99999), (12, 99999), (13, 99999), (14, 99999), (15, 4), (16, 99999), (17, 99999), (20, 2), (20, 3), (20, 4), (21, 4), (22, 99999), (23, 99999), (26, 99999), (27, 8), (27, 9), (28, 99999), (35, 4), (35, 5), (36, 99999), (37, 99999), (38, 99999), (39, 99999), (53, 99999)] = true from rfl)
                    have t706 : H693 53 0 = H672 53 0 := hf698 53 0 rfl
                    have t707 : H693 53 1 = H672 53 1 := hf698 53 1 rfl
                    have t708 : H693 53 2 = H672 53 2 := hf698 53 2 rfl
                    have t709 : H693 20 2 = H672 20 2 := hf698 20 2 rfl
                    have t710 : H693 1 7 = H672 1 7 := hf698 1 7 rfl
                    have t711 : H693 1 8 = H672 1 8 := hf698 1 8 rfl
                    have t712 : H693 9 5 = H672 9 5 := hf698 9 5 rfl
                    have k713 := st_mC_d f703 hI697
                    refine fz_pop rfl kL_world rfl ?_
                    refine fz_iincN (ls' := [(5, fz_i (x163 + 1)), (4, fz_i y14), (0, fz_r 0), (1, fz_r 200), (2, fz_r 53), (3, fz_r 205)]) kL_world rfl (by decide) rfl (by omega) rfl ?_
                    refine fz_goto (tgt := 167) kL_world rfl (by decide) ?_
                    exact ih172 (x163 + 1) H693 hI697 hf705 hRE700 hRV701 hX699 (by omega) (by omega) (by omega) (by omega) (by omega) (by omega) (by omega) (by omega) (by omega) (by omega)
                  refine fz_if_ne (tgt := 216) kL_world rfl (by decide) (fun c714 => ?_) (fun c714 => ?_)
                  · refine fz_aload_n kL_world rfl rfl ?_
                    refine fz_iconst ⟨by decide, by decide⟩ kL_world rfl ?_
                    have e715 : H167 200 100000 = h 200 100000 := hf169 200 100000 rfl
                    refine fz_callS (d' := 0) (M' := mL_at) (As := [fz_r 200, fz_i 1]) (st := [fz_i 10, fz_i (35 + x163), fz_r 53]) kL_world rfl rfl vL_at rfl rfl (Nat.le_of_ble_eq_true rfl) (Nat.le_of_ble_eq_true rfl) (by decide) (sL_at H167 hI168 1 (by omega) (by omega)) (fun H716 r717 q718 o719 => ?_)
                    obtain ⟨e720, y722, rfl, f721⟩ := q718
                    subst H716
                    clear o719
                    refine fz_iconst ⟨by decide, by decide⟩ kL_world rfl ?_
                    refine fz_iload kL_world rfl rfl ?_
                    refine fz_imulN kL_world rfl (by omega) ?_
                    refine fz_ishr kL_world rfl ?_
                    have b723 : -2147483648 ≤ (fz_shr y722 (5 * x163)) ∧ (fz_shr y722 (5 * x163)) < 2147483648 := fz_b32 _
                    refine fz_bipush ⟨by decide, by decide⟩ kL_world rfl ?_
                    refine fz_callS (d' := 0) (M' := mL_some) (As := [fz_i (fz_shr y722 (5 * x163)), fz_i 19]) (st := [fz_i 10, fz_i (35 + x163), fz_r 53]) kL_world rfl rfl vL_some rfl rfl (Nat.le_of_ble_eq_true rfl) (Nat.le_of_ble_eq_true rfl) (by decide) (sL_some H167 hI168 (fz_shr y722 (5 * x163)) 19 (by omega)) (fun H725 r726 q727 o728 => ?_)
                    obtain ⟨e729, y733, rfl, f730, f731, f732⟩ := q727
                    subst H725
                    clear o728
                    refine fz_bipush ⟨by decide, by decide⟩ kL_world rfl ?_
                    refine fz_isubN kL_world rfl (by omega) ?_
                    exact J668 (y733 - 9) (by omega)
                  · refine fz_iload kL_world rfl rfl ?_
                    refine fz_iconst ⟨by decide, by decide⟩ kL_world rfl ?_
                    refine fz_icmp_ne (tgt := 202) kL_world rfl (by decide) (fun c734 => ?_) (fun c734 => ?_)
                    · refine fz_iload kL_world rfl rfl ?_
                      refine fz_iconst ⟨by decide, by decide⟩ kL_world rfl ?_
                      refine fz_icmp_ne (tgt := 212) kL_world rfl (by decide) (fun c735 => ?_) (fun c735 => ?_)
                      · refine fz_iconst ⟨by decide, by decide⟩ kL_world rfl ?_
                        refine fz_goto (tgt := 234) kL_world rfl (by decide) ?_
                        exact J668 1 (by omega)
                      · refine fz_iconst ⟨by decide, by decide⟩ kL_world rfl ?_
                        refine fz_goto (tgt := 234) kL_world rfl (by decide) ?_
                        exact J668 (-1) (by omega)
                    · refine fz_bipush ⟨by decide, by decide⟩ kL_world rfl ?_
                      refine fz_goto (tgt := 234) kL_world rfl (by decide) ?_
                      exact J668 (-2) (by omega)
            exact lp171 _ 0 H142 hI146 hf154 hRE149 hRV150 hX148 (by omega) (by omega) (by omega) (by omega) (by omega) (by omega) (by omega) (by omega) (by omega) (Nat.lt_succ_self _)
          refine fz_if_ne (tgt := 126) kL_world rfl (by decide) (fun c736 => ?_) (fun c736 => ?_)
          · refine fz_bipush ⟨by decide, by decide⟩ kL_world rfl ?_
            exact J70 60 (by omega)
          · refine fz_iload kL_world rfl rfl ?_
            refine fz_bipush ⟨by decide, by decide⟩ kL_world rfl ?_
            refine fz_ishr kL_world rfl ?_
            have b737 : -2147483648 ≤ (fz_shr y14 17) ∧ (fz_shr y14 17) < 2147483648 := fz_b32 _
            refine fz_bipush ⟨by decide, by decide⟩ kL_world rfl ?_
            refine fz_callS (d' := 0) (M' := mL_some) (As := [fz_i (fz_shr y14 17), fz_i 30]) (st := [fz_i 3, fz_r 53]) kL_world rfl rfl vL_some rfl rfl (Nat.le_of_ble_eq_true rfl) (Nat.le_of_ble_eq_true rfl) (by decide) (sL_some H45 hI46 (fz_shr y14 17) 30 (by omega)) (fun H739 r740 q741 o742 => ?_)
            obtain ⟨e743, y747, rfl, f744, f745, f746⟩ := q741
            subst H739
            clear o742
            refine fz_goto (tgt := 128) kL_world rfl (by decide) ?_
            exact J70 y747 (by omega)
        · refine fz_aload_n kL_world rfl rfl ?_
          refine fz_iconst ⟨by decide, by decide⟩ kL_world rfl ?_
          refine fz_iload kL_world rfl rfl ?_
          refine fz_iaddN kL_world rfl (by omega) ?_
          refine fz_iload kL_world rfl rfl ?_
          refine fz_bipush ⟨by decide, by decide⟩ kL_world rfl ?_
          refine fz_ishr kL_world rfl ?_
          have b748 : -2147483648 ≤ (fz_shr y14 6) ∧ (fz_shr y14 6) < 2147483648 := fz_b32 _
          refine fz_iconst ⟨by decide, by decide⟩ kL_world rfl ?_
          refine fz_iand kL_world rfl ?_
          have b750 : -2147483648 ≤ (fz_and (fz_shr y14 6) 1) ∧ (fz_and (fz_shr y14 6) 1) < 2147483648 := fz_b32 _
          have b751 : 0 ≤ (fz_and (fz_shr y14 6) 1) ∧ (fz_and (fz_shr y14 6) 1) ≤ 1 := fz_and_m (by omega) (by omega)
          have J752 : ∀ j753 : Int, 0 ≤ j753 ∧ j753 ≤ 9 → fz_R 47 mL_world 83 [(5, fz_i x41), (4, fz_i y14), (0, fz_r 0), (1, fz_r 200), (2, fz_r 53), (3, fz_r 205)] [fz_i j753, fz_i (5 + x41), fz_r 53] H45 (qL_world h) := by
            intro j753 hj754
            refine fz_iast (n := 40) kL_world rfl rfl (by omega) (by omega) ?_
            refine fz_nmu (S := [(1, 7), (1, 8), (2, 99999), (3, 99999), (4, 99999), (5, 99999), (6, 99999), (7, 99999), (8, 99999), (9, 5), (10, 99999), (11, 99999), (12, 99999), (13, 99999), (14, 99999), (15, 4), (16, 99999), (17, 99999), (20, 2), (20, 3), (20, 4), (21, 4), (22, 99999), (23, 99999), (26, 99999), (27, 8), (27, 9), (28, 99999), (35, 4), (35, 5), (36, 99999), (37, 99999), (38, 99999), (39, 99999), (53, 99999)]) (h0 := h) (fz_Iv_up hI46 (by decide) (show ((-2147483648) : Int) ≤ j753 by omega) (show (j753 : Int) ≤ 2147483647 by omega)) (fz_fr_up hf47 rfl) (fun H756 hI757 hf758 e759 => ?_)
            have t760 : H756 20 2 = H45 20 2 := by rw [e759]; exact fz_up_o (by decide)
            have t761 : H756 35 4 = H45 35 4 := by rw [e759]; exact fz_up_o (by decide)
            have t762 : H756 1 7 = H45 1 7 := by rw [e759]; exact fz_up_o (by decide)
            have t763 : H756 1 8 = H45 1 8 := by rw [e759]; exact fz_up_o (by decide)
            have t764 : H756 9 5 = H45 9 5 := by rw [e759]; exact fz_up_o (by decide)
            have hX765 : fz_Xc H756 := by rw [e759]; exact fz_Xc_up (by decide) (by decide) (by decide) hXq44
            have hRE766 : fz_RE H756 := fz_RE_eq (by rw [e759]; exact fz_up_ne (by decide)) (by rw [e759]; exact fz_up_ne (by decide)) (by rw [e759]; exact fz_up_o (by decide)) (by rw [e759]; exact fz_up_o (by decide)) hRE42
            have hRV767 : fz_RV H756 := fz_RV_eq (by rw [e759]; exact fz_up_ne (by decide)) (by rw [e759]; exact fz_up_ne (by decide)) (by rw [e759]; exact fz_up_ne (by decide)) (by rw [e759]; exact fz_up_ne (by decide)) (by rw [e759]; exact fz_up_ne (by decide)) (by rw [e759]; exact fz_up_ne (by decide)) (by rw [e759]; exact fz_up_o (by decide)) (by rw [e759]; exact fz_up_o (by decide)) hRV43
            have t768 : H756 53 0 = H45 53 0 := by rw [e759]; exact fz_up_s (by omega)
            have t769 : H756 53 1 = H45 53 1 := by rw [e759]; exact fz_up_s (by omega)
            have t770 : H756 53 2 = H45 53 2 := by rw [e759]; exact fz_up_s (by omega)
            refine fz_aload_n kL_world rfl rfl ?_
            refine fz_aload_n kL_world rfl rfl ?_
            refine fz_iconst ⟨by decide, by decide⟩ kL_world rfl ?_
            refine fz_iload kL_world rfl rfl ?_
            refine fz_iaddN kL_world rfl (by omega) ?_
            obtain ⟨v771, e772⟩ : ∃ z, H756 53 ((5 + x41).toNat) = z := ⟨_, rfl⟩
            refine fz_ialdV (n := 40) (v := v771) kL_world rfl rfl (by omega) (by omega) e772 ?_
            have b773 : (-2147483648) ≤ v771 ∧ v771 ≤ 2147483647 := by rw [← e772]; exact hI757.1 53 _
            have k774 := e772.symm.trans ((congrFun (congrFun e759 53) _).trans fz_up_e)
            have b775 : 0 ≤ H756 1 7 ∧ H756 1 7 ≤ 8 := hI757.1 1 _
            refine fz_callV (d' := 4) (M' := mX10_town) (As := [fz_i v771]) (st := []) kL_world rfl rfl vX10_town rfl rfl rfl rfl (Nat.le_of_ble_eq_true rfl) (Nat.le_of_ble_eq_true rfl) (by decide) (sX10_town H756 hI757 v771 hRE766 hRV767) (fun H776 r777 q778 o779 => ?_)
            obtain ⟨hI780, hf781, hRE782, hRV783, y787, rfl, f784, f785, f786⟩ := q778
            clear o779
            have hf788 := fz_fr_tr hf758 hf781 (show fz_su [(1, 7), (2, 99999), (7, 99999), (8, 99999)] [(1, 7), (1, 8), (2, 99999), (3, 99999), (4, 99999), (5, 99999), (6, 99999), (7, 99999), (8, 99999), (9, 5), (10, 99999), (11, 99999), (12, 99999), (13, 99999), (14, 99999), (15, 4), (16, 99999), (17, 99999), (20, 2), (20, 3), (20, 4), (21, 4), (22, 99999), (23, 99999), (26, 99999), (27, 8), (27, 9), (28, 99999), (35, 4), (35, 5), (36, 99999), (37, 99999), (38, 99999), (39, 99999), (53, 99999)] = true from rfl)
            have hX789 : fz_Xc H776 := fz_Xc_fr hf781 rfl hX765
            have t790 : H776 53 0 = H756 53 0 := hf781 53 0 rfl
            have t791 : H776 53 1 = H756 53 1 := hf781 53 1 rfl
            have t792 : H776 53 2 = H756 53 2 := hf781 53 2 rfl
            have t793 : H776 20 2 = H756 20 2 := hf781 20 2 rfl
            have t794 : H776 35 4 = H756 35 4 := hf781 35 4 rfl
            have t795 : H776 1 8 = H756 1 8 := hf781 1 8 rfl
            have t796 : H776 9 5 = H756 9 5 := hf781 9 5 rfl
            refine fz_pop rfl kL_world rfl ?_
            refine fz_iincN (ls' := [(5, fz_i (x41 + 1)), (4, fz_i y14), (0, fz_r 0), (1, fz_r 200), (2, fz_r 53), (3, fz_r 205)]) kL_world rfl (by decide) rfl (by omega) rfl ?_
            refine fz_goto (tgt := 43) kL_world rfl (by decide) ?_
            exact ih50 (x41 + 1) H776 hI780 hf788 hRE782 hRV783 hX789 (by omega) (by omega) (by omega) (by omega) (by omega) (by omega) (by omega) (by omega) (by omega) (by omega) (by omega)
          refine fz_if_ne (tgt := 70) kL_world rfl (by decide) (fun c797 => ?_) (fun c797 => ?_)
          · refine fz_iload kL_world rfl rfl ?_
            refine fz_bipush ⟨by decide, by decide⟩ kL_world rfl ?_
            refine fz_iload kL_world rfl rfl ?_
            refine fz_iaddN kL_world rfl (by omega) ?_
            refine fz_ishr kL_world rfl ?_
            have b798 : -2147483648 ≤ (fz_shr y14 (7 + x41)) ∧ (fz_shr y14 (7 + x41)) < 2147483648 := fz_b32 _
            refine fz_bipush ⟨by decide, by decide⟩ kL_world rfl ?_
            refine fz_callS (d' := 0) (M' := mL_some) (As := [fz_i (fz_shr y14 (7 + x41)), fz_i 10]) (st := [fz_i (5 + x41), fz_r 53]) kL_world rfl rfl vL_some rfl rfl (Nat.le_of_ble_eq_true rfl) (Nat.le_of_ble_eq_true rfl) (by decide) (sL_some H45 hI46 (fz_shr y14 (7 + x41)) 10 (by omega)) (fun H800 r801 q802 o803 => ?_)
            obtain ⟨e804, y808, rfl, f805, f806, f807⟩ := q802
            subst H800
            clear o803
            exact J752 y808 (by omega)
          · refine fz_iconst ⟨by decide, by decide⟩ kL_world rfl ?_
            refine fz_goto (tgt := 83) kL_world rfl (by decide) ?_
            exact J752 0 (by omega)
    exact lp49 _ 0 H21 hI22 hf23 hRE36 hRV37 hX35 (by omega) (by omega) (by omega) (by omega) (by omega) (by omega) (by omega) (by omega) (by omega) (by omega) (Nat.lt_succ_self _)
  refine fz_if_ne (tgt := 29) kL_world rfl (by decide) (fun c809 => ?_) (fun c809 => ?_)
  · refine fz_iconst ⟨by decide, by decide⟩ kL_world rfl ?_
    refine fz_iload kL_world rfl rfl ?_
    refine fz_iconst ⟨by decide, by decide⟩ kL_world rfl ?_
    refine fz_ishr kL_world rfl ?_
    have b810 : -2147483648 ≤ (fz_shr y14 3) ∧ (fz_shr y14 3) < 2147483648 := fz_b32 _
    refine fz_iconst ⟨by decide, by decide⟩ kL_world rfl ?_
    refine fz_callS (d' := 0) (M' := mL_some) (As := [fz_i (fz_shr y14 3), fz_i 5]) (st := [fz_i 2, fz_i 0, fz_r 53]) kL_world rfl rfl vL_some rfl rfl (Nat.le_of_ble_eq_true rfl) (Nat.le_of_ble_eq_true rfl) (by decide) (sL_some h hI (fz_shr y14 3) 5 (by omega)) (fun H812 r813 q814 o815 => ?_)
    obtain ⟨e816, y820, rfl, f817, f818, f819⟩ := q814
    subst H812
    clear o815
    refine fz_iaddN kL_world rfl (by omega) ?_
    exact J17 (2 + y820) (by omega)
  · refine fz_iload kL_world rfl rfl ?_
    refine fz_iconst ⟨by decide, by decide⟩ kL_world rfl ?_
    refine fz_ishr kL_world rfl ?_
    have b821 : -2147483648 ≤ (fz_shr y14 3) ∧ (fz_shr y14 3) < 2147483648 := fz_b32 _
    refine fz_bipush ⟨by decide, by decide⟩ kL_world rfl ?_
    refine fz_callS (d' := 0) (M' := mL_some) (As := [fz_i (fz_shr y14 3), fz_i 9]) (st := [fz_i 0, fz_r 53]) kL_world rfl rfl vL_some rfl rfl (Nat.le_of_ble_eq_true rfl) (Nat.le_of_ble_eq_true rfl) (by decide) (sL_some h hI (fz_shr y14 3) 9 (by omega)) (fun H823 r824 q825 o826 => ?_)
    obtain ⟨e827, y831, rfl, f828, f829, f830⟩ := q825
    subst H823
    clear o826
    refine fz_goto (tgt := 39) kL_world rfl (by decide) ?_
    exact J17 y831 (by omega)
