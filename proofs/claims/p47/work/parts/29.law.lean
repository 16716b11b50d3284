/-! ===== the journey, and back ===== -/
def st_wl (B C : fz_H) : Prop := fz_fr [(18, 99999), (19, 99999), (29, 99999), (40, 1), (40, 2), (40, 3), (40, 4), (41, 99999)] B C ∧ ∀ s : Nat, 4 ≤ s → C 41 s = B 41 s
theorem st_wl_0 {B : fz_H} : st_wl B B := ⟨fz_fr_rf, fun _ _ => rfl⟩
theorem st_wl_s {B C E : fz_H} {on rd r : Int} (w : st_wl B C) (f : fz_fr [(18, 99999), (19, 99999), (29, 99999), (40, 1), (40, 2), (40, 3), (40, 4), (41, 99999)] C E) (k : fz_wkC C E on rd r) : st_wl B E := by
  refine ⟨fz_fr_tr w.1 f rfl, fun s hs => ?_⟩
  rw [← w.2 s hs]
  rcases k with ⟨-, -, -, e⟩ | ⟨-, -, -, -, e⟩ | ⟨-, -, -, -, -, e⟩ | ⟨o, -, -, -, -, e⟩
  · rw [e]
  · rw [e]
  · rw [e]
  · rw [e]
    unfold fz_wkO at o
    exact fz_up_s (by omega)
theorem st_wl5 {B C : fz_H} (w : st_wl B C) (z : st_Z B) : C 40 5 = 0 := (w.1 40 5 rfl).trans z.1.2.2.2.2
theorem st_RT1 {h : fz_H} (R : fz_RT h) (p : 0 < h 1 7) : h 41 (12 / 10 : Int).toNat < h 1 7 := by
  have := (R 1 (by decide)).1
  rw [show (12 / 10 : Int).toNat = 1 from rfl]
  omega
theorem st_le0 {h : fz_H} {r : Int} (c : fl_leC h 0 r) : r = h 40 2 := by
  unfold fl_leC at c
  omega
theorem st_le3 {h : fz_H} {r : Int} (c : fl_leC h 3 r) : r = h 40 5 := by
  unfold fl_leC at c
  omega
theorem st_le4 {h : fz_H} {r : Int} (c : fl_leC h 4 r) : r = h 40 1 := by
  unfold fl_leC at c
  omega
theorem st_d3 {h h' : fz_H} {pm wt o l dn : Int} (a : fz_apC h h' (h' 9 5 - h 9 5) (fun _ => (pm / 10, h 41 (pm / 10).toNat, h 40 1, pm % 10, wt))) (f : h' 40 1 = h 40 1) (o3 : o = h' 12 dn.toNat) (le : fl_leC h' 4 l) (ed : dn = h 9 5) (n : h' 9 5 = h 9 5 + 1) : o = l := by
  have q := (a.2 0 (by decide) (by omega)).2.2.1
  rw [Int.add_zero, ← ed] at q
  have e := st_le4 le
  rw [o3, q, e, f]
theorem st_d10 {h h' : fz_H} {wt o l dn : Int} (a : fz_apC h h' (h' 9 5 - h 9 5) (fun _ => (12 / 10, h 41 (12 / 10 : Int).toNat, h 40 1, 12 % 10, wt))) (f : h' 41 = h 41) (o10 : o = h' 11 dn.toNat) (o11 : l = h' 41 (1 : Int).toNat) (ed : dn = h 9 5) (n : h' 9 5 = h 9 5 + 1) : o = l := by
  have q := (a.2 0 (by decide) (by omega)).2.1
  rw [Int.add_zero, ← ed] at q
  rw [o10, q, o11, f]
  rfl
theorem st_d5 {h h' : fz_H} {r l : Int} (d : fl_dd (h 40 5) (h' 40 5) r) (z : h 40 5 = 0) (le : fl_leC h' 3 l) (hr : 0 ≤ r) : l = 1 := by
  have e := st_le3 le
  rcases d with ⟨-, d⟩ | ⟨d, -⟩
  · rw [e, d, z]
    rfl
  · omega
theorem st_bk {h h' : fz_H} {r : Int} (m : st_Im h) (a : fz_bkC h h' r) (b : fl_bdC h h' r) : r = 0 ∧ h' 40 1 = 0 ∧ h' 40 2 = 0 ∧ h' 40 3 = 0 ∧ h' 40 4 = 0 ∧ h' 40 5 = 0 := by
  obtain ⟨m1, ⟨n0, n1, n2, n3, n4⟩, m3⟩ := m
  rcases a with ⟨a, -⟩ | ⟨-, a1, a2, a3, -⟩
  · omega
  · rcases b with ⟨b, -⟩ | ⟨-, b1, b2, b3, b4⟩
    · omega
    · exact ⟨by omega, by omega, by omega, by omega, by omega, by omega⟩
theorem st_bk41 {h h' : fz_H} {r : Int} (m : st_Im h) (a : fz_bkC h h' r) (s : Nat) (hs : s < 4) : h' 41 s = 0 := by
  obtain ⟨m1, -, m3⟩ := m
  rcases a with ⟨a, -⟩ | ⟨-, a1, a2, -⟩
  · omega
  · rw [a2, st_mx (by omega)]
    exact m3 s hs
/-- all is as it was before the first step -/
theorem st_nm_end {B C E : fz_H} {r : Int} (w : st_wl B C) (z : st_Z B) (m : st_Im C) (a : fz_bkC C E r) (b : fl_bdC C E r) (f : fz_fr [(40, 1), (40, 2), (40, 3), (40, 4), (40, 5), (41, 99999)] C E) : fz_nm E = fz_nm B := by
  have k := st_bk m a b
  obtain ⟨⟨z1, z2, z3, z4, z5⟩, z6⟩ := z
  have e41 : ∀ s, E 41 s = B 41 s := fun s => by
    by_cases c : s < 4
    · rw [st_bk41 m a s c, z6 s c]
    · rw [← w.2 s (by omega)]
      rcases a with ⟨a, -⟩ | ⟨-, -, a2, -⟩
      · have := m.1
        omega
      · rw [a2, st_mx2 (by omega)]
  have e40 : ∀ s, s ≠ 6 → E 40 s = B 40 s := fun s hs => by
    by_cases c1 : s = 1
    · subst c1; omega
    by_cases c2 : s = 2
    · subst c2; omega
    by_cases c3 : s = 3
    · subst c3; omega
    by_cases c4 : s = 4
    · subst c4; omega
    by_cases c5 : s = 5
    · subst c5; omega
    have q : ∀ x, x ≠ s → Nat.beq x s = false := fun x hx => by
      cases hb : Nat.beq x s with
      | false => rfl
      | true => exact absurd (Nat.eq_of_beq_eq_true hb) hx
    have g1 : fz_me [(40, 1), (40, 2), (40, 3), (40, 4), (40, 5), (41, 99999)] 40 s = false := by
      unfold fz_me
      simp [q 1 (Ne.symm c1), q 2 (Ne.symm c2), q 3 (Ne.symm c3), q 4 (Ne.symm c4), q 5 (Ne.symm c5)]
    have g2 : fz_me [(18, 99999), (19, 99999), (29, 99999), (40, 1), (40, 2), (40, 3), (40, 4), (41, 99999)] 40 s = false := by
      unfold fz_me
      simp [q 1 (Ne.symm c1), q 2 (Ne.symm c2), q 3 (Ne.symm c3), q 4 (Ne.symm c4)]
    exact (f 40 s g1).trans (w.1 40 s g2)
  funext c i
  show (bif fz_core c i then E c i else 0) = (bif fz_core c i then B c i else 0)
  cases hc : fz_core c i with
  | false => rfl
  | true =>
    show E c i = B c i
    by_cases c41 : c = 41
    · subst c41; exact e41 i
    by_cases c40 : c = 40
    · subst c40
      refine e40 i (fun z => ?_)
      subst z
      cases hc
    have hC := fz_core_C hc
    have q : ∀ x, fz_coreC x = false → Nat.beq x c = false := fun x hx => by
      cases hb : Nat.beq x c with
      | false => rfl
      | true =>
        have := Nat.eq_of_beq_eq_true hb
        subst this
        rw [hx] at hC
        cases hC
    have q2 : ∀ x, x ≠ c → Nat.beq x c = false := fun x hx => by
      cases hb : Nat.beq x c with
      | false => rfl
      | true => exact absurd (Nat.eq_of_beq_eq_true hb) hx
    have g1 : fz_me [(40, 1), (40, 2), (40, 3), (40, 4), (40, 5), (41, 99999)] c i = false := by
      unfold fz_me
      simp [q2 40 (Ne.symm c40), q2 41 (Ne.symm c41)]
    have g2 : fz_me [(18, 99999), (19, 99999), (29, 99999), (40, 1), (40, 2), (40, 3), (40, 4), (41, 99999)] c i = false := by
      unfold fz_me
      simp [q2 40 (Ne.symm c40), q2 41 (Ne.symm c41), q 18 rfl, q 19 rfl, q 29 rfl]
    exact (f c i g1).trans (w.1 c i g2)
set_option maxHeartbeats 1000000 in
set_option maxRecDepth 100000 in
theorem sL_l1567 (h H : fz_H) (hI : fz_Iv H) (hf : fz_fr [(1, 7), (1, 8), (2, 99999), (3, 99999), (4, 99999), (5, 99999), (6, 99999), (7, 99999), (8, 99999), (9, 5), (10, 99999), (11, 99999), (12, 99999), (13, 99999), (14, 99999), (15, 4), (16, 99999), (17, 99999), (18, 99999), (19, 99999), (20, 2), (20, 3), (20, 4), (21, 4), (22, 99999), (23, 99999), (26, 99999), (27, 8), (27, 9), (28, 99999), (29, 99999), (30, 99999), (31, 99999), (32, 99999), (33, 3), (33, 4), (33, 5), (33, 6), (33, 7), (34, 99999), (35, 4), (35, 5), (36, 99999), (37, 99999), (38, 99999), (39, 99999), (40, 1), (40, 2), (40, 3), (40, 4), (40, 5), (40, 6), (41, 99999), (42, 99999), (43, 99999), (44, 2), (45, 99999), (48, 99999), (50, 99999), (51, 99999), (52, 99999), (53, 99999)] h H) (hX : fz_Xc H) (hRE : fz_RE H) (hRV : fz_RV H) (hRP2 : fz_RP2 H) (hN : st_N tw H) (hS : st_S sm H) (hL1 : st_L1 H) (hZ : st_Z H) (hIm : st_Im H) (tw sm dd : Int) (hp0 : 0 ≤ h 200 100000 ∧ h 200 100000 ≤ 3072) (hq0 : 0 ≤ tw ∧ tw ≤ 8) (hq1 : dd = H 9 5) : fz_R 48 mL_law 1567 [(0, fz_r 200), (1, fz_r 0), (2, fz_r 53), (3, fz_i tw), (4, fz_l sm), (6, fz_i dd)] [] H (qL_law h) := by
  refine fz_iconst ⟨by decide, by decide⟩ kL_law rfl ?_
  refine fz_istore (ls' := [(7, fz_i 0), (0, fz_r 200), (1, fz_r 0), (2, fz_r 53), (3, fz_i tw), (4, fz_l sm), (6, fz_i dd)]) kL_law rfl (by decide) rfl ?_
  have hRT1 : fz_RT H := st_Z_RT hZ hIm.2.2
  have k3 := st_N_e hI hN
  have lp18 : ∀ (n17 : Nat) (x5 : Int) (H14 : fz_H), fz_Iv H14 → fz_fr [(1, 7), (1, 8), (2, 99999), (3, 99999), (4, 99999), (5, 99999), (6, 99999), (7, 99999), (8, 99999), (9, 5), (10, 99999), (11, 99999), (12, 99999), (13, 99999), (14, 99999), (15, 4), (16, 99999), (17, 99999), (18, 99999), (19, 99999), (20, 2), (20, 3), (20, 4), (21, 4), (22, 99999), (23, 99999), (26, 99999), (27, 8), (27, 9), (28, 99999), (29, 99999), (30, 99999), (31, 99999), (32, 99999), (33, 3), (33, 4), (33, 5), (33, 6), (33, 7), (34, 99999), (35, 4), (35, 5), (36, 99999), (37, 99999), (38, 99999), (39, 99999), (40, 1), (40, 2), (40, 3), (40, 4), (40, 5), (40, 6), (41, 99999), (42, 99999), (43, 99999), (44, 2), (45, 99999), (48, 99999), (50, 99999), (51, 99999), (52, 99999), (53, 99999)] h H14 → fz_RE H14 → fz_RV H14 → fz_RP2 H14 → fz_Xc H14 → st_N tw H14 → st_L1 H14 → st_Im H14 → fz_RT H14 → (0 ≤ x5 ∧ x5 ≤ 8) → (H14 9 5 = dd) → (st_wl H H14) → (8 - x5).toNat < n17 → fz_R 48 mL_law 1570 [(7, fz_i x5), (0, fz_r 200), (1, fz_r 0), (2, fz_r 53), (3, fz_i tw), (4, fz_l sm), (6, fz_i dd)] [] H14 (qL_law h) := by
    intro n17
    induction n17 with
    | zero => intro x5 H14 hI15 hf16 hRE6 hRV7 hRP28 hXq9 hN10 hL111 hIm12 hRT13 hv21 hv22 hv23 hm20; exact absurd hm20 (by omega)
    | succ n17 ih19 =>
      intro x5 H14 hI15 hf16 hRE6 hRV7 hRP28 hXq9 hN10 hL111 hIm12 hRT13 hv21 hv22 hv23 hm20
      refine fz_iload kL_law rfl rfl ?_
      refine fz_bipush ⟨by decide, by decide⟩ kL_law rfl ?_
      refine fz_icmp_ge (tgt := 1622) kL_law rfl (by decide) (fun c24 => ?_) (fun c24 => ?_)
      · have k25 := st_N_e hI15 hN10
        refine fz_iload_n kL_law rfl rfl ?_
        refine fz_if_le (tgt := 1643) kL_law rfl (by decide) (fun c27 => ?_) (fun c27 => ?_)
        · refine fz_iconst ⟨by decide, by decide⟩ kL_law rfl ?_
          refine fz_istore (ls' := [(7, fz_i (-1)), (0, fz_r 200), (1, fz_r 0), (2, fz_r 53), (3, fz_i tw), (4, fz_l sm), (6, fz_i dd)]) kL_law rfl (by decide) rfl ?_
          refine fz_iload kL_law rfl rfl ?_
          refine fz_if_lt (tgt := 1702) kL_law rfl (by decide) (fun c28 => ?_) (fun c28 => ?_)
          · refine fz_aload_n kL_law rfl rfl ?_
            refine fz_callV (d' := 2) (M' := mX10_back) (As := []) (st := []) kL_law rfl rfl vX10_back rfl rfl rfl rfl (Nat.le_of_ble_eq_true rfl) (Nat.le_of_ble_eq_true rfl) (by decide) (sX10_back H14 hI15  hRT13) (fun H29 r30 q31 o32 => ?_)
            obtain ⟨hI33, hf34, hRT35, y39, rfl, f36, f37, f38⟩ := q31
            clear o32
            have hf40 := fz_fr_tr hf16 hf34 (show fz_su [(40, 1), (40, 2), (40, 3), (40, 4), (40, 5), (41, 99999)] [(1, 7), (1, 8), (2, 99999), (3, 99999), (4, 99999), (5, 99999), (6, 99999), (7, 99999), (8, 99999), (9, 5), (10, 99999), (11, 99999), (12, 99999), (13, 99999), (14, 99999), (15, 4), (16, 99999), (17, 99999), (18, 99999), (19, 99999), (20, 2), (20, 3), (20, 4), (21, 4), (22, 99999), (23, 99999), (26, 99999), (27, 8), (27, 9), (28, 99999), (29, 99999), (30, 99999), (31, 99999), (32, 99999), (33, 3), (33, 4), (33, 5), (33, 6), (33, 7), (34, 99999), (35, 4), (35, 5), (36, 99999), (37, 99999), (38, 99999), (39, 99999), (40, 1), (40, 2), (40, 3), (40, 4), (40, 5), (40, 6), (41, 99999), (42, 99999), (43, 99999), (44, 2), (45, 99999), (48, 99999), (50, 99999), (51, 99999), (52, 99999), (53, 99999)] = true from rfl)
            have hRE41 : fz_RE H29 := fz_RE_eq (funext fun s => hf34 5 s rfl) (funext fun s => hf34 6 s rfl) (hf34 1 8 rfl) (hf34 1 7 rfl) hRE6
            have hRV42 : fz_RV H29 := fz_RV_eq (funext fun s => hf34 7 s rfl) (funext fun s => hf34 8 s rfl) (funext fun s => hf34 3 s rfl) (funext fun s => hf34 4 s rfl) (funext fun s => hf34 5 s rfl) (funext fun s => hf34 6 s rfl) (hf34 1 7 rfl) (hf34 1 8 rfl) hRV7
            have hRP243 : fz_RP2 H29 := fz_RP2_eq (funext fun s => hf34 11 s rfl) (hf34 9 5 rfl) (hf34 1 7 rfl) hRP28
            have hN44 : st_N tw H29 := st_N_eq (hf34 53 0 rfl) (hf34 53 1 rfl) (hf34 53 2 rfl) (hf34 1 7 rfl) (hf34 1 8 rfl) (hf34 9 5 rfl) (hf34 35 4 rfl) (hf34 20 2 rfl) hN10
            have hL145 : st_L1 H29 := st_L1_eq (funext fun s => hf34 3 s rfl) (hf34 1 8 rfl) hL111
            have hIm46 : st_Im H29 := st_Im_eq (hf34 40 6 rfl) (funext fun s => hf34 43 s rfl) (funext fun s => hf34 42 s rfl) hIm12
            have hX47 : fz_Xc H29 := fz_Xc_fr hf34 rfl hXq9
            have t48 : H29 9 5 = H14 9 5 := hf34 9 5 rfl
            have t49 : H29 1 7 = H14 1 7 := hf34 1 7 rfl
            have t50 : H29 1 8 = H14 1 8 := hf34 1 8 rfl
            have k51 := st_bk hIm12 f37 f38
            refine fz_if_ne (tgt := 1752) kL_law rfl (by decide) (fun c53 => ?_) (fun c53 => ?_)
            · exfalso; omega
            · refine fz_aload_n kL_law rfl rfl ?_
              refine fz_iconst ⟨by decide, by decide⟩ kL_law rfl ?_
              refine fz_callV (d' := 0) (M' := mX10_led) (As := [fz_i 0]) (st := []) kL_law rfl rfl vX10_led rfl rfl rfl rfl (Nat.le_of_ble_eq_true rfl) (Nat.le_of_ble_eq_true rfl) (by decide) (sX10_led H29 hI33 0 ) (fun H54 r55 q56 o57 => ?_)
              obtain ⟨e58, y61, rfl, f59, f60⟩ := q56
              subst H54
              clear o57
              have k62 := st_le0 f60
              refine fz_if_ne (tgt := 1752) kL_law rfl (by decide) (fun c63 => ?_) (fun c63 => ?_)
              · exfalso; omega
              · refine fz_aload_n kL_law rfl rfl ?_
                refine fz_iconst ⟨by decide, by decide⟩ kL_law rfl ?_
                refine fz_callV (d' := 0) (M' := mX10_led) (As := [fz_i 3]) (st := []) kL_law rfl rfl vX10_led rfl rfl rfl rfl (Nat.le_of_ble_eq_true rfl) (Nat.le_of_ble_eq_true rfl) (by decide) (sX10_led H29 hI33 3 ) (fun H64 r65 q66 o67 => ?_)
                obtain ⟨e68, y71, rfl, f69, f70⟩ := q66
                subst H64
                clear o67
                have k72 := st_le3 f70
                refine fz_if_ne (tgt := 1752) kL_law rfl (by decide) (fun c73 => ?_) (fun c73 => ?_)
                · exfalso; omega
                · refine fz_aload_n kL_law rfl rfl ?_
                  refine fz_iconst ⟨by decide, by decide⟩ kL_law rfl ?_
                  refine fz_bipush ⟨by decide, by decide⟩ kL_law rfl ?_
                  refine fz_callV (d' := 3) (M' := mX10_of) (As := [fz_i 0, fz_i 12]) (st := []) kL_law rfl rfl vX10_of rfl rfl rfl rfl (Nat.le_of_ble_eq_true rfl) (Nat.le_of_ble_eq_true rfl) (by decide) (sX10_of H29 hI33 0 12 ) (fun H74 r75 q76 o77 => ?_)
                  obtain ⟨e78, y81, rfl, f79, f80⟩ := q76
                  subst H74
                  clear o77
                  have k82 := of_12 f80
                  refine fz_if_ne (tgt := 1752) kL_law rfl (by decide) (fun c83 => ?_) (fun c83 => ?_)
                  · exfalso; omega
                  · refine fz_iload kL_law rfl rfl ?_
                    refine fz_if_lt (tgt := 1754) kL_law rfl (by decide) (fun c84 => ?_) (fun c84 => ?_)
                    · refine fz_iconst ⟨by decide, by decide⟩ kL_law rfl ?_
                      refine fz_istore (ls' := [(8, fz_i 0), (7, fz_i (-1)), (0, fz_r 200), (1, fz_r 0), (2, fz_r 53), (3, fz_i tw), (4, fz_l sm), (6, fz_i dd)]) kL_law rfl (by decide) rfl ?_
                      have lp87 : ∀ (n86 : Nat) (x85 : Int), (0 ≤ x85 ∧ x85 ≤ 4) → (4 - x85).toNat < n86 → fz_R 48 mL_law 1757 [(8, fz_i x85), (7, fz_i (-1)), (0, fz_r 200), (1, fz_r 0), (2, fz_r 53), (3, fz_i tw), (4, fz_l sm), (6, fz_i dd)] [] H29 (qL_law h) := by
                        intro n86
                        induction n86 with
                        | zero => intro x85 hv90 hm89; exact absurd hm89 (by omega)
                        | succ n86 ih88 =>
                          intro x85 hv90 hm89
                          refine fz_iload kL_law rfl rfl ?_
                          refine fz_iconst ⟨by decide, by decide⟩ kL_law rfl ?_
                          refine fz_icmp_ge (tgt := 1782) kL_law rfl (by decide) (fun c91 => ?_) (fun c91 => ?_)
                          · refine fz_iload kL_law rfl rfl ?_
                            refine fz_if_ge (tgt := 1797) kL_law rfl (by decide) (fun c92 => ?_) (fun c92 => ?_)
                            · exfalso; omega
                            · refine fz_aload_n kL_law rfl rfl ?_
                              refine fz_callS (d' := 11) (M' := mL_told) (As := [fz_r 0]) (st := []) kL_law rfl rfl vL_told rfl rfl (Nat.le_of_ble_eq_true rfl) (Nat.le_of_ble_eq_true rfl) (by decide) (sL_told H29 hI33  ) (fun H93 r94 q95 o96 => ?_)
                              obtain ⟨hI97, hf98, y101, rfl, f99, f100⟩ := q95
                              clear o96
                              have hf102 := fz_fr_tr hf40 hf98 (show fz_su [(18, 99999), (19, 99999), (29, 99999), (30, 99999), (32, 99999)] [(1, 7), (1, 8), (2, 99999), (3, 99999), (4, 99999), (5, 99999), (6, 99999), (7, 99999), (8, 99999), (9, 5), (10, 99999), (11, 99999), (12, 99999), (13, 99999), (14, 99999), (15, 4), (16, 99999), (17, 99999), (18, 99999), (19, 99999), (20, 2), (20, 3), (20, 4), (21, 4), (22, 99999), (23, 99999), (26, 99999), (27, 8), (27, 9), (28, 99999), (29, 99999), (30, 99999), (31, 99999), (32, 99999), (33, 3), (33, 4), (33, 5), (33, 6), (33, 7), (34, 99999), (35, 4), (35, 5), (36, 99999), (37, 99999), (38, 99999), (39, 99999), (40, 1), (40, 2), (40, 3), (40, 4), (40, 5), (40, 6), (41, 99999), (42, 99999), (43, 99999), (44, 2), (45, 99999), (48, 99999), (50, 99999), (51, 99999), (52, 99999), (53, 99999)] = true from rfl)
                              have hRE103 : fz_RE H93 := fz_RE_eq (funext fun s => hf98 5 s rfl) (funext fun s => hf98 6 s rfl) (hf98 1 8 rfl) (hf98 1 7 rfl) hRE41
                              have hRV104 : fz_RV H93 := fz_RV_eq (funext fun s => hf98 7 s rfl) (funext fun s => hf98 8 s rfl) (funext fun s => hf98 3 s rfl) (funext fun s => hf98 4 s rfl) (funext fun s => hf98 5 s rfl) (funext fun s => hf98 6 s rfl) (hf98 1 7 rfl) (hf98 1 8 rfl) hRV42
                              have hRP2105 : fz_RP2 H93 := fz_RP2_eq (funext fun s => hf98 11 s rfl) (hf98 9 5 rfl) (hf98 1 7 rfl) hRP243
                              have hN106 : st_N tw H93 := st_N_eq (hf98 53 0 rfl) (hf98 53 1 rfl) (hf98 53 2 rfl) (hf98 1 7 rfl) (hf98 1 8 rfl) (hf98 9 5 rfl) (hf98 35 4 rfl) (hf98 20 2 rfl) hN44
                              have hL1107 : st_L1 H93 := st_L1_eq (funext fun s => hf98 3 s rfl) (hf98 1 8 rfl) hL145
                              have hIm108 : st_Im H93 := st_Im_eq (hf98 40 6 rfl) (funext fun s => hf98 43 s rfl) (funext fun s => hf98 42 s rfl) hIm46
                              have hRT109 : fz_RT H93 := fz_RT_eq (funext fun s => hf98 41 s rfl) (funext fun s => hf98 42 s rfl) (hf98 1 7 rfl) hRT35
                              have hX110 : fz_Xc H93 := fz_Xc_fr hf98 rfl hX47
                              have t111 : H93 9 5 = H29 9 5 := hf98 9 5 rfl
                              have t112 : H93 1 7 = H29 1 7 := hf98 1 7 rfl
                              have t113 : H93 1 8 = H29 1 8 := hf98 1 8 rfl
                              refine fz_lload kL_law rfl rfl ?_
                              have k114 : y101 = sm := f100.trans ((congrArg st_td (st_nm_end hv23 hZ hIm12 f37 f38 hf34)).trans hS.symm)
                              refine fz_lcmp kL_law rfl ?_
                              have b115 := fz_cmp_c y101 sm
                              refine fz_if_ne (tgt := 1801) kL_law rfl (by decide) (fun c116 => ?_) (fun c116 => ?_)
                              · exfalso; omega
                              · refine fz_iconst ⟨by decide, by decide⟩ kL_law rfl ?_
                                refine fz_goto (tgt := 1802) kL_law rfl (by decide) ?_
                                exact fz_zret kL_law rfl rfl (by omega) ⟨hI97, hf102, hX110, hRE103, hRV104, _, rfl, (by omega)⟩
                          · refine fz_aload_n kL_law rfl rfl ?_
                            refine fz_iload kL_law rfl rfl ?_
                            refine fz_bipush ⟨by decide, by decide⟩ kL_law rfl ?_
                            refine fz_callV (d' := 3) (M' := mX10_of) (As := [fz_i x85, fz_i 11]) (st := []) kL_law rfl rfl vX10_of rfl rfl rfl rfl (Nat.le_of_ble_eq_true rfl) (Nat.le_of_ble_eq_true rfl) (by decide) (sX10_of H29 hI33 x85 11 ) (fun H117 r118 q119 o120 => ?_)
                            obtain ⟨e121, y124, rfl, f122, f123⟩ := q119
                            subst H117
                            clear o120
                            have k125 := of_11 f123 (by omega)
                            have k126 := st_bk41 hIm12 f37 (x85).toNat (by omega)
                            refine fz_if_eq (tgt := 1776) kL_law rfl (by decide) (fun c127 => ?_) (fun c127 => ?_)
                            · refine fz_iincN (ls' := [(8, fz_i (x85 + 1)), (7, fz_i (-1)), (0, fz_r 200), (1, fz_r 0), (2, fz_r 53), (3, fz_i tw), (4, fz_l sm), (6, fz_i dd)]) kL_law rfl (by decide) rfl (by omega) rfl ?_
                              refine fz_goto (tgt := 1757) kL_law rfl (by decide) ?_
                              exact ih88 (x85 + 1) (by omega) (by omega)
                            · exfalso; omega
                      exact lp87 _ 0 (by omega) (Nat.lt_succ_self _)
                    · exfalso; omega
          · exfalso; omega
        · refine fz_iload kL_law rfl rfl ?_
          refine fz_bipush ⟨by decide, by decide⟩ kL_law rfl ?_
          refine fz_icmp_ge (tgt := 1643) kL_law rfl (by decide) (fun c128 => ?_) (fun c128 => ?_)
          · exfalso; omega
          · refine fz_aload_n kL_law rfl rfl ?_
            refine fz_bipush ⟨by decide, by decide⟩ kL_law rfl ?_
            refine fz_iconst ⟨by decide, by decide⟩ kL_law rfl ?_
            have k129 := st_RT1 hRT13 (by omega)
            have b131 : 0 ≤ H14 1 7 ∧ H14 1 7 ≤ 8 := hI15.1 1 _
            have b132 : 0 ≤ H14 9 5 ∧ H14 9 5 ≤ 10 := hI15.1 9 _
            have b133 : 0 ≤ H14 40 1 ∧ H14 40 1 ≤ 999 := hI15.1 40 _
            have b134 : (-2147483648) ≤ H14 40 5 ∧ H14 40 5 ≤ 2147483647 := hI15.1 40 _
            refine fz_callV (d' := 2) (M' := mX10_does) (As := [fz_i 12, fz_i 5]) (st := []) kL_law rfl rfl vX10_does rfl rfl rfl rfl (Nat.le_of_ble_eq_true rfl) (Nat.le_of_ble_eq_true rfl) (by decide) (sX10_does H14 hI15 12 5 ) (fun H135 r136 q137 o138 => ?_)
            obtain ⟨hI139, hf140, y146, rfl, f141, f142, f143, f144, f145⟩ := q137
            clear o138
            have hf147 := fz_fr_tr hf16 hf140 (show fz_su [(9, 5), (10, 99999), (11, 99999), (12, 99999), (13, 99999), (14, 99999), (40, 5)] [(1, 7), (1, 8), (2, 99999), (3, 99999), (4, 99999), (5, 99999), (6, 99999), (7, 99999), (8, 99999), (9, 5), (10, 99999), (11, 99999), (12, 99999), (13, 99999), (14, 99999), (15, 4), (16, 99999), (17, 99999), (18, 99999), (19, 99999), (20, 2), (20, 3), (20, 4), (21, 4), (22, 99999), (23, 99999), (26, 99999), (27, 8), (27, 9), (28, 99999), (29, 99999), (30, 99999), (31, 99999), (32, 99999), (33, 3), (33, 4), (33, 5), (33, 6), (33, 7), (34, 99999), (35, 4), (35, 5), (36, 99999), (37, 99999), (38, 99999), (39, 99999), (40, 1), (40, 2), (40, 3), (40, 4), (40, 5), (40, 6), (41, 99999), (42, 99999), (43, 99999), (44, 2), (45, 99999), (48, 99999), (50, 99999), (51, 99999), (52, 99999), (53, 99999)] = true from rfl)
            have hRE148 : fz_RE H135 := fz_RE_eq (funext fun s => hf140 5 s rfl) (funext fun s => hf140 6 s rfl) (hf140 1 8 rfl) (hf140 1 7 rfl) hRE6
            have hRV149 : fz_RV H135 := fz_RV_eq (funext fun s => hf140 7 s rfl) (funext fun s => hf140 8 s rfl) (funext fun s => hf140 3 s rfl) (funext fun s => hf140 4 s rfl) (funext fun s => hf140 5 s rfl) (funext fun s => hf140 6 s rfl) (hf140 1 7 rfl) (hf140 1 8 rfl) hRV7
            have hL1150 : st_L1 H135 := st_L1_eq (funext fun s => hf140 3 s rfl) (hf140 1 8 rfl) hL111
            have hIm151 : st_Im H135 := st_Im_eq (hf140 40 6 rfl) (funext fun s => hf140 43 s rfl) (funext fun s => hf140 42 s rfl) hIm12
            have hRT152 : fz_RT H135 := fz_RT_eq (funext fun s => hf140 41 s rfl) (funext fun s => hf140 42 s rfl) (hf140 1 7 rfl) hRT13
            have hX153 : fz_Xc H135 := fz_Xc_fr hf140 rfl hXq9
            have t154 : H135 1 7 = H14 1 7 := hf140 1 7 rfl
            have t155 : H135 1 8 = H14 1 8 := hf140 1 8 rfl
            have k157 : 0 ≤ y146 ∧ y146 ≤ 8 := by omega
            refine fz_goto (tgt := 1644) kL_law rfl (by decide) ?_
            refine fz_istore (ls' := [(7, fz_i y146), (0, fz_r 200), (1, fz_r 0), (2, fz_r 53), (3, fz_i tw), (4, fz_l sm), (6, fz_i dd)]) kL_law rfl (by decide) rfl ?_
            refine fz_iload kL_law rfl rfl ?_
            refine fz_if_lt (tgt := 1702) kL_law rfl (by decide) (fun c158 => ?_) (fun c158 => ?_)
            · exfalso; omega
            · refine fz_iload kL_law rfl rfl ?_
              refine fz_iload kL_law rfl rfl ?_
              refine fz_icmp_ne (tgt := 1700) kL_law rfl (by decide) (fun c159 => ?_) (fun c159 => ?_)
              · exfalso; omega
              · refine fz_aload_n kL_law rfl rfl ?_
                refine fz_iload kL_law rfl rfl ?_
                refine fz_iconst ⟨by decide, by decide⟩ kL_law rfl ?_
                refine fz_callV (d' := 3) (M' := mX10_of) (As := [fz_i y146, fz_i 3]) (st := []) kL_law rfl rfl vX10_of rfl rfl rfl rfl (Nat.le_of_ble_eq_true rfl) (Nat.le_of_ble_eq_true rfl) (by decide) (sX10_of H135 hI139 y146 3 ) (fun H160 r161 q162 o163 => ?_)
                obtain ⟨e164, y167, rfl, f165, f166⟩ := q162
                subst H160
                clear o163
                have k168 := of_3 f166 (by omega)
                refine fz_aload_n kL_law rfl rfl ?_
                refine fz_iconst ⟨by decide, by decide⟩ kL_law rfl ?_
                refine fz_callV (d' := 0) (M' := mX10_led) (As := [fz_i 4]) (st := [fz_i y167]) kL_law rfl rfl vX10_led rfl rfl rfl rfl (Nat.le_of_ble_eq_true rfl) (Nat.le_of_ble_eq_true rfl) (by decide) (sX10_led H135 hI139 4 ) (fun H170 r171 q172 o173 => ?_)
                obtain ⟨e174, y177, rfl, f175, f176⟩ := q172
                subst H170
                clear o173
                have k178 : y167 = y177 := st_d3 f143 (hf140 40 1 rfl) k168 f176 (by omega) (by omega)
                refine fz_icmp_ne (tgt := 1700) kL_law rfl (by decide) (fun c179 => ?_) (fun c179 => ?_)
                · exfalso; omega
                · refine fz_aload_n kL_law rfl rfl ?_
                  refine fz_iload kL_law rfl rfl ?_
                  refine fz_bipush ⟨by decide, by decide⟩ kL_law rfl ?_
                  refine fz_callV (d' := 3) (M' := mX10_of) (As := [fz_i y146, fz_i 10]) (st := []) kL_law rfl rfl vX10_of rfl rfl rfl rfl (Nat.le_of_ble_eq_true rfl) (Nat.le_of_ble_eq_true rfl) (by decide) (sX10_of H135 hI139 y146 10 ) (fun H180 r181 q182 o183 => ?_)
                  obtain ⟨e184, y187, rfl, f185, f186⟩ := q182
                  subst H180
                  clear o183
                  have k188 := of_10 f186 (by omega)
                  refine fz_aload_n kL_law rfl rfl ?_
                  refine fz_iconst ⟨by decide, by decide⟩ kL_law rfl ?_
                  refine fz_bipush ⟨by decide, by decide⟩ kL_law rfl ?_
                  refine fz_callV (d' := 3) (M' := mX10_of) (As := [fz_i 1, fz_i 11]) (st := [fz_i y187]) kL_law rfl rfl vX10_of rfl rfl rfl rfl (Nat.le_of_ble_eq_true rfl) (Nat.le_of_ble_eq_true rfl) (by decide) (sX10_of H135 hI139 1 11 ) (fun H190 r191 q192 o193 => ?_)
                  obtain ⟨e194, y197, rfl, f195, f196⟩ := q192
                  subst H190
                  clear o193
                  have k198 := of_11 f196 (by omega)
                  have k200 : y187 = y197 := st_d10 f143 (funext fun s => hf140 41 s rfl) k188 k198 (by omega) (by omega)
                  refine fz_icmp_ne (tgt := 1700) kL_law rfl (by decide) (fun c201 => ?_) (fun c201 => ?_)
                  · exfalso; omega
                  · refine fz_aload_n kL_law rfl rfl ?_
                    refine fz_iconst ⟨by decide, by decide⟩ kL_law rfl ?_
                    refine fz_callV (d' := 0) (M' := mX10_led) (As := [fz_i 3]) (st := []) kL_law rfl rfl vX10_led rfl rfl rfl rfl (Nat.le_of_ble_eq_true rfl) (Nat.le_of_ble_eq_true rfl) (by decide) (sX10_led H135 hI139 3 ) (fun H202 r203 q204 o205 => ?_)
                    obtain ⟨e206, y209, rfl, f207, f208⟩ := q204
                    subst H202
                    clear o205
                    have k210 := st_d5 f144 (st_wl5 hv23 hZ) f208 (by omega)
                    refine fz_iconst ⟨by decide, by decide⟩ kL_law rfl ?_
                    refine fz_icmp_eq (tgt := 1702) kL_law rfl (by decide) (fun c211 => ?_) (fun c211 => ?_)
                    · refine fz_aload_n kL_law rfl rfl ?_
                      refine fz_callV (d' := 2) (M' := mX10_back) (As := []) (st := []) kL_law rfl rfl vX10_back rfl rfl rfl rfl (Nat.le_of_ble_eq_true rfl) (Nat.le_of_ble_eq_true rfl) (by decide) (sX10_back H135 hI139  hRT152) (fun H212 r213 q214 o215 => ?_)
                      obtain ⟨hI216, hf217, hRT218, y222, rfl, f219, f220, f221⟩ := q214
                      clear o215
                      have hf223 := fz_fr_tr hf147 hf217 (show fz_su [(40, 1), (40, 2), (40, 3), (40, 4), (40, 5), (41, 99999)] [(1, 7), (1, 8), (2, 99999), (3, 99999), (4, 99999), (5, 99999), (6, 99999), (7, 99999), (8, 99999), (9, 5), (10, 99999), (11, 99999), (12, 99999), (13, 99999), (14, 99999), (15, 4), (16, 99999), (17, 99999), (18, 99999), (19, 99999), (20, 2), (20, 3), (20, 4), (21, 4), (22, 99999), (23, 99999), (26, 99999), (27, 8), (27, 9), (28, 99999), (29, 99999), (30, 99999), (31, 99999), (32, 99999), (33, 3), (33, 4), (33, 5), (33, 6), (33, 7), (34, 99999), (35, 4), (35, 5), (36, 99999), (37, 99999), (38, 99999), (39, 99999), (40, 1), (40, 2), (40, 3), (40, 4), (40, 5), (40, 6), (41, 99999), (42, 99999), (43, 99999), (44, 2), (45, 99999), (48, 99999), (50, 99999), (51, 99999), (52, 99999), (53, 99999)] = true from rfl)
                      have hRE224 : fz_RE H212 := fz_RE_eq (funext fun s => hf217 5 s rfl) (funext fun s => hf217 6 s rfl) (hf217 1 8 rfl) (hf217 1 7 rfl) hRE148
                      have hRV225 : fz_RV H212 := fz_RV_eq (funext fun s => hf217 7 s rfl) (funext fun s => hf217 8 s rfl) (funext fun s => hf217 3 s rfl) (funext fun s => hf217 4 s rfl) (funext fun s => hf217 5 s rfl) (funext fun s => hf217 6 s rfl) (hf217 1 7 rfl) (hf217 1 8 rfl) hRV149
                      have hL1226 : st_L1 H212 := st_L1_eq (funext fun s => hf217 3 s rfl) (hf217 1 8 rfl) hL1150
                      have hIm227 : st_Im H212 := st_Im_eq (hf217 40 6 rfl) (funext fun s => hf217 43 s rfl) (funext fun s => hf217 42 s rfl) hIm151
                      have hX228 : fz_Xc H212 := fz_Xc_fr hf217 rfl hX153
                      have t229 : H212 9 5 = H135 9 5 := hf217 9 5 rfl
                      have t230 : H212 1 7 = H135 1 7 := hf217 1 7 rfl
                      have t231 : H212 1 8 = H135 1 8 := hf217 1 8 rfl
                      have k232 := st_bk hIm151 f220 f221
                      refine fz_if_ne (tgt := 1752) kL_law rfl (by decide) (fun c234 => ?_) (fun c234 => ?_)
                      · exfalso; omega
                      · refine fz_aload_n kL_law rfl rfl ?_
                        refine fz_iconst ⟨by decide, by decide⟩ kL_law rfl ?_
                        refine fz_callV (d' := 0) (M' := mX10_led) (As := [fz_i 0]) (st := []) kL_law rfl rfl vX10_led rfl rfl rfl rfl (Nat.le_of_ble_eq_true rfl) (Nat.le_of_ble_eq_true rfl) (by decide) (sX10_led H212 hI216 0 ) (fun H235 r236 q237 o238 => ?_)
                        obtain ⟨e239, y242, rfl, f240, f241⟩ := q237
                        subst H235
                        clear o238
                        have k243 := st_le0 f241
                        refine fz_if_ne (tgt := 1752) kL_law rfl (by decide) (fun c244 => ?_) (fun c244 => ?_)
                        · exfalso; omega
                        · refine fz_aload_n kL_law rfl rfl ?_
                          refine fz_iconst ⟨by decide, by decide⟩ kL_law rfl ?_
                          refine fz_callV (d' := 0) (M' := mX10_led) (As := [fz_i 3]) (st := []) kL_law rfl rfl vX10_led rfl rfl rfl rfl (Nat.le_of_ble_eq_true rfl) (Nat.le_of_ble_eq_true rfl) (by decide) (sX10_led H212 hI216 3 ) (fun H245 r246 q247 o248 => ?_)
                          obtain ⟨e249, y252, rfl, f250, f251⟩ := q247
                          subst H245
                          clear o248
                          have k253 := st_le3 f251
                          refine fz_if_ne (tgt := 1752) kL_law rfl (by decide) (fun c254 => ?_) (fun c254 => ?_)
                          · exfalso; omega
                          · refine fz_aload_n kL_law rfl rfl ?_
                            refine fz_iconst ⟨by decide, by decide⟩ kL_law rfl ?_
                            refine fz_bipush ⟨by decide, by decide⟩ kL_law rfl ?_
                            refine fz_callV (d' := 3) (M' := mX10_of) (As := [fz_i 0, fz_i 12]) (st := []) kL_law rfl rfl vX10_of rfl rfl rfl rfl (Nat.le_of_ble_eq_true rfl) (Nat.le_of_ble_eq_true rfl) (by decide) (sX10_of H212 hI216 0 12 ) (fun H255 r256 q257 o258 => ?_)
                            obtain ⟨e259, y262, rfl, f260, f261⟩ := q257
                            subst H255
                            clear o258
                            have k263 := of_12 f261
                            refine fz_if_ne (tgt := 1752) kL_law rfl (by decide) (fun c264 => ?_) (fun c264 => ?_)
                            · exfalso; omega
                            · refine fz_iload kL_law rfl rfl ?_
                              refine fz_if_lt (tgt := 1754) kL_law rfl (by decide) (fun c265 => ?_) (fun c265 => ?_)
                              · exfalso; omega
                              · refine fz_aload_n kL_law rfl rfl ?_
                                refine fz_iconst ⟨by decide, by decide⟩ kL_law rfl ?_
                                have b266 : 0 ≤ H212 1 7 ∧ H212 1 7 ≤ 8 := hI216.1 1 _
                                have b267 : 0 ≤ H212 1 8 ∧ H212 1 8 ≤ 12 := hI216.1 1 _
                                have b268 : 0 ≤ H212 9 5 ∧ H212 9 5 ≤ 10 := hI216.1 9 _
                                have b269 : 0 ≤ H212 20 2 ∧ H212 20 2 ≤ 120 := hI216.1 20 _
                                have b270 : 0 ≤ H212 35 4 ∧ H212 35 4 ≤ 40 := hI216.1 35 _
                                have b271 : 0 ≤ H212 44 2 ∧ H212 44 2 ≤ 50 := hI216.1 44 _
                                have b272 : (-2147483648) ≤ h 44 3 ∧ h 44 3 ≤ 2147483647 := hI.1 44 _
                                have e273 : H212 44 3 = h 44 3 := hf223 44 3 rfl
                                refine fz_callV (d' := 0) (M' := mX10_count) (As := [fz_i 2]) (st := []) kL_law rfl rfl vX10_count rfl rfl rfl rfl (Nat.le_of_ble_eq_true rfl) (Nat.le_of_ble_eq_true rfl) (by decide) (sX10_count H212 hI216 2 ) (fun H274 r275 q276 o277 => ?_)
                                obtain ⟨e278, y281, rfl, f279, f280⟩ := q276
                                subst H274
                                clear o277
                                refine fz_iload kL_law rfl rfl ?_
                                refine fz_iconst ⟨by decide, by decide⟩ kL_law rfl ?_
                                refine fz_iaddN kL_law rfl (by omega) ?_
                                refine fz_icmp_eq (tgt := 1754) kL_law rfl (by decide) (fun c282 => ?_) (fun c282 => ?_)
                                · refine fz_iconst ⟨by decide, by decide⟩ kL_law rfl ?_
                                  refine fz_istore (ls' := [(8, fz_i 0), (7, fz_i y146), (0, fz_r 200), (1, fz_r 0), (2, fz_r 53), (3, fz_i tw), (4, fz_l sm), (6, fz_i dd)]) kL_law rfl (by decide) rfl ?_
                                  have lp285 : ∀ (n284 : Nat) (x283 : Int), (0 ≤ x283 ∧ x283 ≤ 4) → (4 - x283).toNat < n284 → fz_R 48 mL_law 1757 [(8, fz_i x283), (7, fz_i y146), (0, fz_r 200), (1, fz_r 0), (2, fz_r 53), (3, fz_i tw), (4, fz_l sm), (6, fz_i dd)] [] H212 (qL_law h) := by
                                    intro n284
                                    induction n284 with
                                    | zero => intro x283 hv288 hm287; exact absurd hm287 (by omega)
                                    | succ n284 ih286 =>
                                      intro x283 hv288 hm287
                                      refine fz_iload kL_law rfl rfl ?_
                                      refine fz_iconst ⟨by decide, by decide⟩ kL_law rfl ?_
                                      refine fz_icmp_ge (tgt := 1782) kL_law rfl (by decide) (fun c289 => ?_) (fun c289 => ?_)
                                      · refine fz_iload kL_law rfl rfl ?_
                                        refine fz_if_ge (tgt := 1797) kL_law rfl (by decide) (fun c290 => ?_) (fun c290 => ?_)
                                        · refine fz_iconst ⟨by decide, by decide⟩ kL_law rfl ?_
                                          refine fz_goto (tgt := 1802) kL_law rfl (by decide) ?_
                                          exact fz_zret kL_law rfl rfl (by omega) ⟨hI216, hf223, hX228, hRE224, hRV225, _, rfl, (by omega)⟩
                                        · exfalso; omega
                                      · refine fz_aload_n kL_law rfl rfl ?_
                                        refine fz_iload kL_law rfl rfl ?_
                                        refine fz_bipush ⟨by decide, by decide⟩ kL_law rfl ?_
                                        refine fz_callV (d' := 3) (M' := mX10_of) (As := [fz_i x283, fz_i 11]) (st := []) kL_law rfl rfl vX10_of rfl rfl rfl rfl (Nat.le_of_ble_eq_true rfl) (Nat.le_of_ble_eq_true rfl) (by decide) (sX10_of H212 hI216 x283 11 ) (fun H291 r292 q293 o294 => ?_)
                                        obtain ⟨e295, y298, rfl, f296, f297⟩ := q293
                                        subst H291
                                        clear o294
                                        have k299 := of_11 f297 (by omega)
                                        have k300 := st_bk41 hIm151 f220 (x283).toNat (by omega)
                                        refine fz_if_eq (tgt := 1776) kL_law rfl (by decide) (fun c301 => ?_) (fun c301 => ?_)
                                        · refine fz_iincN (ls' := [(8, fz_i (x283 + 1)), (7, fz_i y146), (0, fz_r 200), (1, fz_r 0), (2, fz_r 53), (3, fz_i tw), (4, fz_l sm), (6, fz_i dd)]) kL_law rfl (by decide) rfl (by omega) rfl ?_
                                          refine fz_goto (tgt := 1757) kL_law rfl (by decide) ?_
                                          exact ih286 (x283 + 1) (by omega) (by omega)
                                        · exfalso; omega
                                  exact lp285 _ 0 (by omega) (Nat.lt_succ_self _)
                                · exfalso; omega
                    · exfalso; omega
      · refine fz_aload_n kL_law rfl rfl ?_
        refine fz_iconst ⟨by decide, by decide⟩ kL_law rfl ?_
        obtain ⟨v302, e303⟩ : ∃ z, H14 53 (1) = z := ⟨_, rfl⟩
        refine fz_ialdV (n := 40) (v := v302) kL_law rfl rfl (by omega) (by omega) e303 ?_
        have b304 : (-2147483648) ≤ v302 ∧ v302 ≤ 2147483647 := by rw [← e303]; exact hI15.1 53 _
        have k306 : 0 ≤ v302 ∧ v302 ≤ 12 := by omega
        refine fz_if_le (tgt := 1622) kL_law rfl (by decide) (fun c307 => ?_) (fun c307 => ?_)
        · have k308 := st_N_e hI15 hN10
          refine fz_iload_n kL_law rfl rfl ?_
          refine fz_if_le (tgt := 1643) kL_law rfl (by decide) (fun c310 => ?_) (fun c310 => ?_)
          · refine fz_iconst ⟨by decide, by decide⟩ kL_law rfl ?_
            refine fz_istore (ls' := [(7, fz_i (-1)), (0, fz_r 200), (1, fz_r 0), (2, fz_r 53), (3, fz_i tw), (4, fz_l sm), (6, fz_i dd)]) kL_law rfl (by decide) rfl ?_
            refine fz_iload kL_law rfl rfl ?_
            refine fz_if_lt (tgt := 1702) kL_law rfl (by decide) (fun c311 => ?_) (fun c311 => ?_)
            · refine fz_aload_n kL_law rfl rfl ?_
              refine fz_callV (d' := 2) (M' := mX10_back) (As := []) (st := []) kL_law rfl rfl vX10_back rfl rfl rfl rfl (Nat.le_of_ble_eq_true rfl) (Nat.le_of_ble_eq_true rfl) (by decide) (sX10_back H14 hI15  hRT13) (fun H312 r313 q314 o315 => ?_)
              obtain ⟨hI316, hf317, hRT318, y322, rfl, f319, f320, f321⟩ := q314
              clear o315
              have hf323 := fz_fr_tr hf16 hf317 (show fz_su [(40, 1), (40, 2), (40, 3), (40, 4), (40, 5), (41, 99999)] [(1, 7), (1, 8), (2, 99999), (3, 99999), (4, 99999), (5, 99999), (6, 99999), (7, 99999), (8, 99999), (9, 5), (10, 99999), (11, 99999), (12, 99999), (13, 99999), (14, 99999), (15, 4), (16, 99999), (17, 99999), (18, 99999), (19, 99999), (20, 2), (20, 3), (20, 4), (21, 4), (22, 99999), (23, 99999), (26, 99999), (27, 8), (27, 9), (28, 99999), (29, 99999), (30, 99999), (31, 99999), (32, 99999), (33, 3), (33, 4), (33, 5), (33, 6), (33, 7), (34, 99999), (35, 4), (35, 5), (36, 99999), (37, 99999), (38, 99999), (39, 99999), (40, 1), (40, 2), (40, 3), (40, 4), (40, 5), (40, 6), (41, 99999), (42, 99999), (43, 99999), (44, 2), (45, 99999), (48, 99999), (50, 99999), (51, 99999), (52, 99999), (53, 99999)] = true from rfl)
              have hRE324 : fz_RE H312 := fz_RE_eq (funext fun s => hf317 5 s rfl) (funext fun s => hf317 6 s rfl) (hf317 1 8 rfl) (hf317 1 7 rfl) hRE6
              have hRV325 : fz_RV H312 := fz_RV_eq (funext fun s => hf317 7 s rfl) (funext fun s => hf317 8 s rfl) (funext fun s => hf317 3 s rfl) (funext fun s => hf317 4 s rfl) (funext fun s => hf317 5 s rfl) (funext fun s => hf317 6 s rfl) (hf317 1 7 rfl) (hf317 1 8 rfl) hRV7
              have hRP2326 : fz_RP2 H312 := fz_RP2_eq (funext fun s => hf317 11 s rfl) (hf317 9 5 rfl) (hf317 1 7 rfl) hRP28
              have hN327 : st_N tw H312 := st_N_eq (hf317 53 0 rfl) (hf317 53 1 rfl) (hf317 53 2 rfl) (hf317 1 7 rfl) (hf317 1 8 rfl) (hf317 9 5 rfl) (hf317 35 4 rfl) (hf317 20 2 rfl) hN10
              have hL1328 : st_L1 H312 := st_L1_eq (funext fun s => hf317 3 s rfl) (hf317 1 8 rfl) hL111
              have hIm329 : st_Im H312 := st_Im_eq (hf317 40 6 rfl) (funext fun s => hf317 43 s rfl) (funext fun s => hf317 42 s rfl) hIm12
              have hX330 : fz_Xc H312 := fz_Xc_fr hf317 rfl hXq9
              have t331 : H312 9 5 = H14 9 5 := hf317 9 5 rfl
              have t332 : H312 1 7 = H14 1 7 := hf317 1 7 rfl
              have t333 : H312 1 8 = H14 1 8 := hf317 1 8 rfl
              have k334 := st_bk hIm12 f320 f321
              refine fz_if_ne (tgt := 1752) kL_law rfl (by decide) (fun c336 => ?_) (fun c336 => ?_)
              · exfalso; omega
              · refine fz_aload_n kL_law rfl rfl ?_
                refine fz_iconst ⟨by decide, by decide⟩ kL_law rfl ?_
                refine fz_callV (d' := 0) (M' := mX10_led) (As := [fz_i 0]) (st := []) kL_law rfl rfl vX10_led rfl rfl rfl rfl (Nat.le_of_ble_eq_true rfl) (Nat.le_of_ble_eq_true rfl) (by decide) (sX10_led H312 hI316 0 ) (fun H337 r338 q339 o340 => ?_)
                obtain ⟨e341, y344, rfl, f342, f343⟩ := q339
                subst H337
                clear o340
                have k345 := st_le0 f343
                refine fz_if_ne (tgt := 1752) kL_law rfl (by decide) (fun c346 => ?_) (fun c346 => ?_)
                · exfalso; omega
                · refine fz_aload_n kL_law rfl rfl ?_
                  refine fz_iconst ⟨by decide, by decide⟩ kL_law rfl ?_
                  refine fz_callV (d' := 0) (M' := mX10_led) (As := [fz_i 3]) (st := []) kL_law rfl rfl vX10_led rfl rfl rfl rfl (Nat.le_of_ble_eq_true rfl) (Nat.le_of_ble_eq_true rfl) (by decide) (sX10_led H312 hI316 3 ) (fun H347 r348 q349 o350 => ?_)
                  obtain ⟨e351, y354, rfl, f352, f353⟩ := q349
                  subst H347
                  clear o350
                  have k355 := st_le3 f353
                  refine fz_if_ne (tgt := 1752) kL_law rfl (by decide) (fun c356 => ?_) (fun c356 => ?_)
                  · exfalso; omega
                  · refine fz_aload_n kL_law rfl rfl ?_
                    refine fz_iconst ⟨by decide, by decide⟩ kL_law rfl ?_
                    refine fz_bipush ⟨by decide, by decide⟩ kL_law rfl ?_
                    refine fz_callV (d' := 3) (M' := mX10_of) (As := [fz_i 0, fz_i 12]) (st := []) kL_law rfl rfl vX10_of rfl rfl rfl rfl (Nat.le_of_ble_eq_true rfl) (Nat.le_of_ble_eq_true rfl) (by decide) (sX10_of H312 hI316 0 12 ) (fun H357 r358 q359 o360 => ?_)
                    obtain ⟨e361, y364, rfl, f362, f363⟩ := q359
                    subst H357
                    clear o360
                    have k365 := of_12 f363
                    refine fz_if_ne (tgt := 1752) kL_law rfl (by decide) (fun c366 => ?_) (fun c366 => ?_)
                    · exfalso; omega
                    · refine fz_iload kL_law rfl rfl ?_
                      refine fz_if_lt (tgt := 1754) kL_law rfl (by decide) (fun c367 => ?_) (fun c367 => ?_)
                      · refine fz_iconst ⟨by decide, by decide⟩ kL_law rfl ?_
                        refine fz_istore (ls' := [(8, fz_i 0), (7, fz_i (-1)), (0, fz_r 200), (1, fz_r 0), (2, fz_r 53), (3, fz_i tw), (4, fz_l sm), (6, fz_i dd)]) kL_law rfl (by decide) rfl ?_
                        have lp370 : ∀ (n369 : Nat) (x368 : Int), (0 ≤ x368 ∧ x368 ≤ 4) → (4 - x368).toNat < n369 → fz_R 48 mL_law 1757 [(8, fz_i x368), (7, fz_i (-1)), (0, fz_r 200), (1, fz_r 0), (2, fz_r 53), (3, fz_i tw), (4, fz_l sm), (6, fz_i dd)] [] H312 (qL_law h) := by
                          intro n369
                          induction n369 with
                          | zero => intro x368 hv373 hm372; exact absurd hm372 (by omega)
                          | succ n369 ih371 =>
                            intro x368 hv373 hm372
                            refine fz_iload kL_law rfl rfl ?_
                            refine fz_iconst ⟨by decide, by decide⟩ kL_law rfl ?_
                            refine fz_icmp_ge (tgt := 1782) kL_law rfl (by decide) (fun c374 => ?_) (fun c374 => ?_)
                            · refine fz_iload kL_law rfl rfl ?_
                              refine fz_if_ge (tgt := 1797) kL_law rfl (by decide) (fun c375 => ?_) (fun c375 => ?_)
                              · exfalso; omega
                              · refine fz_aload_n kL_law rfl rfl ?_
                                refine fz_callS (d' := 11) (M' := mL_told) (As := [fz_r 0]) (st := []) kL_law rfl rfl vL_told rfl rfl (Nat.le_of_ble_eq_true rfl) (Nat.le_of_ble_eq_true rfl) (by decide) (sL_told H312 hI316  ) (fun H376 r377 q378 o379 => ?_)
                                obtain ⟨hI380, hf381, y384, rfl, f382, f383⟩ := q378
                                clear o379
                                have hf385 := fz_fr_tr hf323 hf381 (show fz_su [(18, 99999), (19, 99999), (29, 99999), (30, 99999), (32, 99999)] [(1, 7), (1, 8), (2, 99999), (3, 99999), (4, 99999), (5, 99999), (6, 99999), (7, 99999), (8, 99999), (9, 5), (10, 99999), (11, 99999), (12, 99999), (13, 99999), (14, 99999), (15, 4), (16, 99999), (17, 99999), (18, 99999), (19, 99999), (20, 2), (20, 3), (20, 4), (21, 4), (22, 99999), (23, 99999), (26, 99999), (27, 8), (27, 9), (28, 99999), (29, 99999), (30, 99999), (31, 99999), (32, 99999), (33, 3), (33, 4), (33, 5), (33, 6), (33, 7), (34, 99999), (35, 4), (35, 5), (36, 99999), (37, 99999), (38, 99999), (39, 99999), (40, 1), (40, 2), (40, 3), (40, 4), (40, 5), (40, 6), (41, 99999), (42, 99999), (43, 99999), (44, 2), (45, 99999), (48, 99999), (50, 99999), (51, 99999), (52, 99999), (53, 99999)] = true from rfl)
                                have hRE386 : fz_RE H376 := fz_RE_eq (funext fun s => hf381 5 s rfl) (funext fun s => hf381 6 s rfl) (hf381 1 8 rfl) (hf381 1 7 rfl) hRE324
                                have hRV387 : fz_RV H376 := fz_RV_eq (funext fun s => hf381 7 s rfl) (funext fun s => hf381 8 s rfl) (funext fun s => hf381 3 s rfl) (funext fun s => hf381 4 s rfl) (funext fun s => hf381 5 s rfl) (funext fun s => hf381 6 s rfl) (hf381 1 7 rfl) (hf381 1 8 rfl) hRV325
                                have hRP2388 : fz_RP2 H376 := fz_RP2_eq (funext fun s => hf381 11 s rfl) (hf381 9 5 rfl) (hf381 1 7 rfl) hRP2326
                                have hN389 : st_N tw H376 := st_N_eq (hf381 53 0 rfl) (hf381 53 1 rfl) (hf381 53 2 rfl) (hf381 1 7 rfl) (hf381 1 8 rfl) (hf381 9 5 rfl) (hf381 35 4 rfl) (hf381 20 2 rfl) hN327
                                have hL1390 : st_L1 H376 := st_L1_eq (funext fun s => hf381 3 s rfl) (hf381 1 8 rfl) hL1328
                                have hIm391 : st_Im H376 := st_Im_eq (hf381 40 6 rfl) (funext fun s => hf381 43 s rfl) (funext fun s => hf381 42 s rfl) hIm329
                                have hRT392 : fz_RT H376 := fz_RT_eq (funext fun s => hf381 41 s rfl) (funext fun s => hf381 42 s rfl) (hf381 1 7 rfl) hRT318
                                have hX393 : fz_Xc H376 := fz_Xc_fr hf381 rfl hX330
                                have t394 : H376 9 5 = H312 9 5 := hf381 9 5 rfl
                                have t395 : H376 1 7 = H312 1 7 := hf381 1 7 rfl
                                have t396 : H376 1 8 = H312 1 8 := hf381 1 8 rfl
                                refine fz_lload kL_law rfl rfl ?_
                                have k397 : y384 = sm := f383.trans ((congrArg st_td (st_nm_end hv23 hZ hIm12 f320 f321 hf317)).trans hS.symm)
                                refine fz_lcmp kL_law rfl ?_
                                have b398 := fz_cmp_c y384 sm
                                refine fz_if_ne (tgt := 1801) kL_law rfl (by decide) (fun c399 => ?_) (fun c399 => ?_)
                                · exfalso; omega
                                · refine fz_iconst ⟨by decide, by decide⟩ kL_law rfl ?_
                                  refine fz_goto (tgt := 1802) kL_law rfl (by decide) ?_
                                  exact fz_zret kL_law rfl rfl (by omega) ⟨hI380, hf385, hX393, hRE386, hRV387, _, rfl, (by omega)⟩
                            · refine fz_aload_n kL_law rfl rfl ?_
                              refine fz_iload kL_law rfl rfl ?_
                              refine fz_bipush ⟨by decide, by decide⟩ kL_law rfl ?_
                              refine fz_callV (d' := 3) (M' := mX10_of) (As := [fz_i x368, fz_i 11]) (st := []) kL_law rfl rfl vX10_of rfl rfl rfl rfl (Nat.le_of_ble_eq_true rfl) (Nat.le_of_ble_eq_true rfl) (by decide) (sX10_of H312 hI316 x368 11 ) (fun H400 r401 q402 o403 => ?_)
                              obtain ⟨e404, y407, rfl, f405, f406⟩ := q402
                              subst H400
                              clear o403
                              have k408 := of_11 f406 (by omega)
                              have k409 := st_bk41 hIm12 f320 (x368).toNat (by omega)
                              refine fz_if_eq (tgt := 1776) kL_law rfl (by decide) (fun c410 => ?_) (fun c410 => ?_)
                              · refine fz_iincN (ls' := [(8, fz_i (x368 + 1)), (7, fz_i (-1)), (0, fz_r 200), (1, fz_r 0), (2, fz_r 53), (3, fz_i tw), (4, fz_l sm), (6, fz_i dd)]) kL_law rfl (by decide) rfl (by omega) rfl ?_
                                refine fz_goto (tgt := 1757) kL_law rfl (by decide) ?_
                                exact ih371 (x368 + 1) (by omega) (by omega)
                              · exfalso; omega
                        exact lp370 _ 0 (by omega) (Nat.lt_succ_self _)
                      · exfalso; omega
            · exfalso; omega
          · refine fz_iload kL_law rfl rfl ?_
            refine fz_bipush ⟨by decide, by decide⟩ kL_law rfl ?_
            refine fz_icmp_ge (tgt := 1643) kL_law rfl (by decide) (fun c411 => ?_) (fun c411 => ?_)
            · exfalso; omega
            · refine fz_aload_n kL_law rfl rfl ?_
              refine fz_bipush ⟨by decide, by decide⟩ kL_law rfl ?_
              refine fz_iconst ⟨by decide, by decide⟩ kL_law rfl ?_
              have k412 := st_RT1 hRT13 (by omega)
              have b414 : 0 ≤ H14 1 7 ∧ H14 1 7 ≤ 8 := hI15.1 1 _
              have b415 : 0 ≤ H14 9 5 ∧ H14 9 5 ≤ 10 := hI15.1 9 _
              have b416 : 0 ≤ H14 40 1 ∧ H14 40 1 ≤ 999 := hI15.1 40 _
              have b417 : (-2147483648) ≤ H14 40 5 ∧ H14 40 5 ≤ 2147483647 := hI15.1 40 _
              refine fz_callV (d' := 2) (M' := mX10_does) (As := [fz_i 12, fz_i 5]) (st := []) kL_law rfl rfl vX10_does rfl rfl rfl rfl (Nat.le_of_ble_eq_true rfl) (Nat.le_of_ble_eq_true rfl) (by decide) (sX10_does H14 hI15 12 5 ) (fun H418 r419 q420 o421 => ?_)
              obtain ⟨hI422, hf423, y429, rfl, f424, f425, f426, f427, f428⟩ := q420
              clear o421
              have hf430 := fz_fr_tr hf16 hf423 (show fz_su [(9, 5), (10, 99999), (11, 99999), (12, 99999), (13, 99999), (14, 99999), (40, 5)] [(1, 7), (1, 8), (2, 99999), (3, 99999), (4, 99999), (5, 99999), (6, 99999), (7, 99999), (8, 99999), (9, 5), (10, 99999), (11, 99999), (12, 99999), (13, 99999), (14, 99999), (15, 4), (16, 99999), (17, 99999), (18, 99999), (19, 99999), (20, 2), (20, 3), (20, 4), (21, 4), (22, 99999), (23, 99999), (26, 99999), (27, 8), (27, 9), (28, 99999), (29, 99999), (30, 99999), (31, 99999), (32, 99999), (33, 3), (33, 4), (33, 5), (33, 6), (33, 7), (34, 99999), (35, 4), (35, 5), (36, 99999), (37, 99999), (38, 99999), (39, 99999), (40, 1), (40, 2), (40, 3), (40, 4), (40, 5), (40, 6), (41, 99999), (42, 99999), (43, 99999), (44, 2), (45, 99999), (48, 99999), (50, 99999), (51, 99999), (52, 99999), (53, 99999)] = true from rfl)
              have hRE431 : fz_RE H418 := fz_RE_eq (funext fun s => hf423 5 s rfl) (funext fun s => hf423 6 s rfl) (hf423 1 8 rfl) (hf423 1 7 rfl) hRE6
              have hRV432 : fz_RV H418 := fz_RV_eq (funext fun s => hf423 7 s rfl) (funext fun s => hf423 8 s rfl) (funext fun s => hf423 3 s rfl) (funext fun s => hf423 4 s rfl) (funext fun s => hf423 5 s rfl) (funext fun s => hf423 6 s rfl) (hf423 1 7 rfl) (hf423 1 8 rfl) hRV7
              have hL1433 : st_L1 H418 := st_L1_eq (funext fun s => hf423 3 s rfl) (hf423 1 8 rfl) hL111
              have hIm434 : st_Im H418 := st_Im_eq (hf423 40 6 rfl) (funext fun s => hf423 43 s rfl) (funext fun s => hf423 42 s rfl) hIm12
              have hRT435 : fz_RT H418 := fz_RT_eq (funext fun s => hf423 41 s rfl) (funext fun s => hf423 42 s rfl) (hf423 1 7 rfl) hRT13
              have hX436 : fz_Xc H418 := fz_Xc_fr hf423 rfl hXq9
              have t437 : H418 1 7 = H14 1 7 := hf423 1 7 rfl
              have t438 : H418 1 8 = H14 1 8 := hf423 1 8 rfl
              have k440 : 0 ≤ y429 ∧ y429 ≤ 8 := by omega
              refine fz_goto (tgt := 1644) kL_law rfl (by decide) ?_
              refine fz_istore (ls' := [(7, fz_i y429), (0, fz_r 200), (1, fz_r 0), (2, fz_r 53), (3, fz_i tw), (4, fz_l sm), (6, fz_i dd)]) kL_law rfl (by decide) rfl ?_
              refine fz_iload kL_law rfl rfl ?_
              refine fz_if_lt (tgt := 1702) kL_law rfl (by decide) (fun c441 => ?_) (fun c441 => ?_)
              · exfalso; omega
              · refine fz_iload kL_law rfl rfl ?_
                refine fz_iload kL_law rfl rfl ?_
                refine fz_icmp_ne (tgt := 1700) kL_law rfl (by decide) (fun c442 => ?_) (fun c442 => ?_)
                · exfalso; omega
                · refine fz_aload_n kL_law rfl rfl ?_
                  refine fz_iload kL_law rfl rfl ?_
                  refine fz_iconst ⟨by decide, by decide⟩ kL_law rfl ?_
                  refine fz_callV (d' := 3) (M' := mX10_of) (As := [fz_i y429, fz_i 3]) (st := []) kL_law rfl rfl vX10_of rfl rfl rfl rfl (Nat.le_of_ble_eq_true rfl) (Nat.le_of_ble_eq_true rfl) (by decide) (sX10_of H418 hI422 y429 3 ) (fun H443 r444 q445 o446 => ?_)
                  obtain ⟨e447, y450, rfl, f448, f449⟩ := q445
                  subst H443
                  clear o446
                  have k451 := of_3 f449 (by omega)
                  refine fz_aload_n kL_law rfl rfl ?_
                  refine fz_iconst ⟨by decide, by decide⟩ kL_law rfl ?_
                  refine fz_callV (d' := 0) (M' := mX10_led) (As := [fz_i 4]) (st := [fz_i y450]) kL_law rfl rfl vX10_led rfl rfl rfl rfl (Nat.le_of_ble_eq_true rfl) (Nat.le_of_ble_eq_true rfl) (by decide) (sX10_led H418 hI422 4 ) (fun H453 r454 q455 o456 => ?_)
                  obtain ⟨e457, y460, rfl, f458, f459⟩ := q455
                  subst H453
                  clear o456
                  have k461 : y450 = y460 := st_d3 f426 (hf423 40 1 rfl) k451 f459 (by omega) (by omega)
                  refine fz_icmp_ne (tgt := 1700) kL_law rfl (by decide) (fun c462 => ?_) (fun c462 => ?_)
                  · exfalso; omega
                  · refine fz_aload_n kL_law rfl rfl ?_
                    refine fz_iload kL_law rfl rfl ?_
                    refine fz_bipush ⟨by decide, by decide⟩ kL_law rfl ?_
                    refine fz_callV (d' := 3) (M' := mX10_of) (As := [fz_i y429, fz_i 10]) (st := []) kL_law rfl rfl vX10_of rfl rfl rfl rfl (Nat.le_of_ble_eq_true rfl) (Nat.le_of_ble_eq_true rfl) (by decide) (sX10_of H418 hI422 y429 10 ) (fun H463 r464 q465 o466 => ?_)
                    obtain ⟨e467, y470, rfl, f468, f469⟩ := q465
                    subst H463
                    clear o466
                    have k471 := of_10 f469 (by omega)
                    refine fz_aload_n kL_law rfl rfl ?_
                    refine fz_iconst ⟨by decide, by decide⟩ kL_law rfl ?_
                    refine fz_bipush ⟨by decide, by decide⟩ kL_law rfl ?_
                    refine fz_callV (d' := 3) (M' := mX10_of) (As := [fz_i 1, fz_i 11]) (st := [fz_i y470]) kL_law rfl rfl vX10_of rfl rfl rfl rfl (Nat.le_of_ble_eq_true rfl) (Nat.le_of_ble_eq_true rfl) (by decide) (sX10_of H418 hI422 1 11 ) (fun H473 r474 q475 o476 => ?_)
                    obtain ⟨e477, y480, rfl, f478, f479⟩ := q475
                    subst H473
                    clear o476
                    have k481 := of_11 f479 (by omega)
                    have k483 : y470 = y480 := st_d10 f426 (funext fun s => hf423 41 s rfl) k471 k481 (by omega) (by omega)
                    refine fz_icmp_ne (tgt := 1700) kL_law rfl (by decide) (fun c484 => ?_) (fun c484 => ?_)
                    · exfalso; omega
                    · refine fz_aload_n kL_law rfl rfl ?_
                      refine fz_iconst ⟨by decide, by decide⟩ kL_law rfl ?_
                      refine fz_callV (d' := 0) (M' := mX10_led) (As := [fz_i 3]) (st := []) kL_law rfl rfl vX10_led rfl rfl rfl rfl (Nat.le_of_ble_eq_true rfl) (Nat.le_of_ble_eq_true rfl) (by decide) (sX10_led H418 hI422 3 ) (fun H485 r486 q487 o488 => ?_)
                      obtain ⟨e489, y492, rfl, f490, f491⟩ := q487
                      subst H485
                      clear o488
                      have k493 := st_d5 f427 (st_wl5 hv23 hZ) f491 (by omega)
                      refine fz_iconst ⟨by decide, by decide⟩ kL_law rfl ?_
                      refine fz_icmp_eq (tgt := 1702) kL_law rfl (by decide) (fun c494 => ?_) (fun c494 => ?_)
                      · refine fz_aload_n kL_law rfl rfl ?_
                        refine fz_callV (d' := 2) (M' := mX10_back) (As := []) (st := []) kL_law rfl rfl vX10_back rfl rfl rfl rfl (Nat.le_of_ble_eq_true rfl) (Nat.le_of_ble_eq_true rfl) (by decide) (sX10_back H418 hI422  hRT435) (fun H495 r496 q497 o498 => ?_)
                        obtain ⟨hI499, hf500, hRT501, y505, rfl, f502, f503, f504⟩ := q497
                        clear o498
                        have hf506 := fz_fr_tr hf430 hf500 (show fz_su [(40, 1), (40, 2), (40, 3), (40, 4), (40, 5), (41, 99999)] [(1, 7), (1, 8), (2, 99999), (3, 99999), (4, 99999), (5, 99999), (6, 99999), (7, 99999), (8, 99999), (9, 5), (10, 99999), (11, 99999), (12, 99999), (13, 99999), (14, 99999), (15, 4), (16, 99999), (17, 99999), (18, 99999), (19, 99999), (20, 2), (20, 3), (20, 4), (21, 4), (22, 99999), (23, 99999), (26, 99999), (27, 8), (27, 9), (28, 99999), (29, 99999), (30, 99999), (31, 99999), (32, 99999), (33, 3), (33, 4), (33, 5), (33, 6), (33, 7), (34, 99999), (35, 4), (35, 5), (36, 99999), (37, 99999), (38, 99999), (39, 99999), (40, 1), (40, 2), (40, 3), (40, 4), (40, 5), (40, 6), (41, 99999), (42, 99999), (43, 99999), (44, 2), (45, 99999), (48, 99999), (50, 99999), (51, 99999), (52, 99999), (53, 99999)] = true from rfl)
                        have hRE507 : fz_RE H495 := fz_RE_eq (funext fun s => hf500 5 s rfl) (funext fun s => hf500 6 s rfl) (hf500 1 8 rfl) (hf500 1 7 rfl) hRE431
                        have hRV508 : fz_RV H495 := fz_RV_eq (funext fun s => hf500 7 s rfl) (funext fun s => hf500 8 s rfl) (funext fun s => hf500 3 s rfl) (funext fun s => hf500 4 s rfl) (funext fun s => hf500 5 s rfl) (funext fun s => hf500 6 s rfl) (hf500 1 7 rfl) (hf500 1 8 rfl) hRV432
                        have hL1509 : st_L1 H495 := st_L1_eq (funext fun s => hf500 3 s rfl) (hf500 1 8 rfl) hL1433
                        have hIm510 : st_Im H495 := st_Im_eq (hf500 40 6 rfl) (funext fun s => hf500 43 s rfl) (funext fun s => hf500 42 s rfl) hIm434
                        have hX511 : fz_Xc H495 := fz_Xc_fr hf500 rfl hX436
                        have t512 : H495 9 5 = H418 9 5 := hf500 9 5 rfl
                        have t513 : H495 1 7 = H418 1 7 := hf500 1 7 rfl
                        have t514 : H495 1 8 = H418 1 8 := hf500 1 8 rfl
                        have k515 := st_bk hIm434 f503 f504
                        refine fz_if_ne (tgt := 1752) kL_law rfl (by decide) (fun c517 => ?_) (fun c517 => ?_)
                        · exfalso; omega
                        · refine fz_aload_n kL_law rfl rfl ?_
                          refine fz_iconst ⟨by decide, by decide⟩ kL_law rfl ?_
                          refine fz_callV (d' := 0) (M' := mX10_led) (As := [fz_i 0]) (st := []) kL_law rfl rfl vX10_led rfl rfl rfl rfl (Nat.le_of_ble_eq_true rfl) (Nat.le_of_ble_eq_true rfl) (by decide) (sX10_led H495 hI499 0 ) (fun H518 r519 q520 o521 => ?_)
                          obtain ⟨e522, y525, rfl, f523, f524⟩ := q520
                          subst H518
                          clear o521
                          have k526 := st_le0 f524
                          refine fz_if_ne (tgt := 1752) kL_law rfl (by decide) (fun c527 => ?_) (fun c527 => ?_)
                          · exfalso; omega
                          · refine fz_aload_n kL_law rfl rfl ?_
                            refine fz_iconst ⟨by decide, by decide⟩ kL_law rfl ?_
                            refine fz_callV (d' := 0) (M' := mX10_led) (As := [fz_i 3]) (st := []) kL_law rfl rfl vX10_led rfl rfl rfl rfl (Nat.le_of_ble_eq_true rfl) (Nat.le_of_ble_eq_true rfl) (by decide) (sX10_led H495 hI499 3 ) (fun H528 r529 q530 o531 => ?_)
                            obtain ⟨e532, y535, rfl, f533, f534⟩ := q530
                            subst H528
                            clear o531
                            have k536 := st_le3 f534
                            refine fz_if_ne (tgt := 1752) kL_law rfl (by decide) (fun c537 => ?_) (fun c537 => ?_)
                            · exfalso; omega
                            · refine fz_aload_n kL_law rfl rfl ?_
                              refine fz_iconst ⟨by decide, by decide⟩ kL_law rfl ?_
                              refine fz_bipush ⟨by decide, by decide⟩ kL_law rfl ?_
                              refine fz_callV (d' := 3) (M' := mX10_of) (As := [fz_i 0, fz_i 12]) (st := []) kL_law rfl rfl vX10_of rfl rfl rfl rfl (Nat.le_of_ble_eq_true rfl) (Nat.le_of_ble_eq_true rfl) (by decide) (sX10_of H495 hI499 0 12 ) (fun H538 r539 q540 o541 => ?_)
                              obtain ⟨e542, y545, rfl, f543, f544⟩ := q540
                              subst H538
                              clear o541
                              have k546 := of_12 f544
                              refine fz_if_ne (tgt := 1752) kL_law rfl (by decide) (fun c547 => ?_) (fun c547 => ?_)
                              · exfalso; omega
                              · refine fz_iload kL_law rfl rfl ?_
                                refine fz_if_lt (tgt := 1754) kL_law rfl (by decide) (fun c548 => ?_) (fun c548 => ?_)
                                · exfalso; omega
                                · refine fz_aload_n kL_law rfl rfl ?_
                                  refine fz_iconst ⟨by decide, by decide⟩ kL_law rfl ?_
                                  have b549 : 0 ≤ H495 1 7 ∧ H495 1 7 ≤ 8 := hI499.1 1 _
                                  have b550 : 0 ≤ H495 1 8 ∧ H495 1 8 ≤ 12 := hI499.1 1 _
                                  have b551 : 0 ≤ H495 9 5 ∧ H495 9 5 ≤ 10 := hI499.1 9 _
                                  have b552 : 0 ≤ H495 20 2 ∧ H495 20 2 ≤ 120 := hI499.1 20 _
                                  have b553 : 0 ≤ H495 35 4 ∧ H495 35 4 ≤ 40 := hI499.1 35 _
                                  have b554 : 0 ≤ H495 44 2 ∧ H495 44 2 ≤ 50 := hI499.1 44 _
                                  have b555 : (-2147483648) ≤ h 44 3 ∧ h 44 3 ≤ 2147483647 := hI.1 44 _
                                  have e556 : H495 44 3 = h 44 3 := hf506 44 3 rfl
                                  refine fz_callV (d' := 0) (M' := mX10_count) (As := [fz_i 2]) (st := []) kL_law rfl rfl vX10_count rfl rfl rfl rfl (Nat.le_of_ble_eq_true rfl) (Nat.le_of_ble_eq_true rfl) (by decide) (sX10_count H495 hI499 2 ) (fun H557 r558 q559 o560 => ?_)
                                  obtain ⟨e561, y564, rfl, f562, f563⟩ := q559
                                  subst H557
                                  clear o560
                                  refine fz_iload kL_law rfl rfl ?_
                                  refine fz_iconst ⟨by decide, by decide⟩ kL_law rfl ?_
                                  refine fz_iaddN kL_law rfl (by omega) ?_
                                  refine fz_icmp_eq (tgt := 1754) kL_law rfl (by decide) (fun c565 => ?_) (fun c565 => ?_)
                                  · refine fz_iconst ⟨by decide, by decide⟩ kL_law rfl ?_
                                    refine fz_istore (ls' := [(8, fz_i 0), (7, fz_i y429), (0, fz_r 200), (1, fz_r 0), (2, fz_r 53), (3, fz_i tw), (4, fz_l sm), (6, fz_i dd)]) kL_law rfl (by decide) rfl ?_
                                    have lp568 : ∀ (n567 : Nat) (x566 : Int), (0 ≤ x566 ∧ x566 ≤ 4) → (4 - x566).toNat < n567 → fz_R 48 mL_law 1757 [(8, fz_i x566), (7, fz_i y429), (0, fz_r 200), (1, fz_r 0), (2, fz_r 53), (3, fz_i tw), (4, fz_l sm), (6, fz_i dd)] [] H495 (qL_law h) := by
                                      intro n567
                                      induction n567 with
                                      | zero => intro x566 hv571 hm570; exact absurd hm570 (by omega)
                                      | succ n567 ih569 =>
                                        intro x566 hv571 hm570
                                        refine fz_iload kL_law rfl rfl ?_
                                        refine fz_iconst ⟨by decide, by decide⟩ kL_law rfl ?_
                                        refine fz_icmp_ge (tgt := 1782) kL_law rfl (by decide) (fun c572 => ?_) (fun c572 => ?_)
                                        · refine fz_iload kL_law rfl rfl ?_
                                          refine fz_if_ge (tgt := 1797) kL_law rfl (by decide) (fun c573 => ?_) (fun c573 => ?_)
                                          · refine fz_iconst ⟨by decide, by decide⟩ kL_law rfl ?_
                                            refine fz_goto (tgt := 1802) kL_law rfl (by decide) ?_
                                            exact fz_zret kL_law rfl rfl (by omega) ⟨hI499, hf506, hX511, hRE507, hRV508, _, rfl, (by omega)⟩
                                          · exfalso; omega
                                        · refine fz_aload_n kL_law rfl rfl ?_
                                          refine fz_iload kL_law rfl rfl ?_
                                          refine fz_bipush ⟨by decide, by decide⟩ kL_law rfl ?_
                                          refine fz_callV (d' := 3) (M' := mX10_of) (As := [fz_i x566, fz_i 11]) (st := []) kL_law rfl rfl vX10_of rfl rfl rfl rfl (Nat.le_of_ble_eq_true rfl) (Nat.le_of_ble_eq_true rfl) (by decide) (sX10_of H495 hI499 x566 11 ) (fun H574 r575 q576 o577 => ?_)
                                          obtain ⟨e578, y581, rfl, f579, f580⟩ := q576
                                          subst H574
                                          clear o577
                                          have k582 := of_11 f580 (by omega)
                                          have k583 := st_bk41 hIm434 f503 (x566).toNat (by omega)
                                          refine fz_if_eq (tgt := 1776) kL_law rfl (by decide) (fun c584 => ?_) (fun c584 => ?_)
                                          · refine fz_iincN (ls' := [(8, fz_i (x566 + 1)), (7, fz_i y429), (0, fz_r 200), (1, fz_r 0), (2, fz_r 53), (3, fz_i tw), (4, fz_l sm), (6, fz_i dd)]) kL_law rfl (by decide) rfl (by omega) rfl ?_
                                            refine fz_goto (tgt := 1757) kL_law rfl (by decide) ?_
                                            exact ih569 (x566 + 1) (by omega) (by omega)
                                          · exfalso; omega
                                    exact lp568 _ 0 (by omega) (Nat.lt_succ_self _)
                                  · exfalso; omega
                      · exfalso; omega
        · refine fz_aload_n kL_law rfl rfl ?_
          refine fz_aload_n kL_law rfl rfl ?_
          refine fz_bipush ⟨by decide, by decide⟩ kL_law rfl ?_
          have e585 : H14 200 100000 = h 200 100000 := hf16 200 100000 rfl
          refine fz_callS (d' := 0) (M' := mL_at) (As := [fz_r 200, fz_i 26]) (st := [fz_r 0]) kL_law rfl rfl vL_at rfl rfl (Nat.le_of_ble_eq_true rfl) (Nat.le_of_ble_eq_true rfl) (by decide) (sL_at H14 hI15 26 (by omega) (by omega)) (fun H586 r587 q588 o589 => ?_)
          obtain ⟨e590, y592, rfl, f591⟩ := q588
          subst H586
          clear o589
          refine fz_iload kL_law rfl rfl ?_
          refine fz_ishr kL_law rfl ?_
          have b593 : -2147483648 ≤ (fz_shr y592 x5) ∧ (fz_shr y592 x5) < 2147483648 := fz_b32 _
          refine fz_iconst ⟨by decide, by decide⟩ kL_law rfl ?_
          refine fz_callS (d' := 0) (M' := mL_some) (As := [fz_i (fz_shr y592 x5), fz_i 4]) (st := [fz_r 0]) kL_law rfl rfl vL_some rfl rfl (Nat.le_of_ble_eq_true rfl) (Nat.le_of_ble_eq_true rfl) (by decide) (sL_some H14 hI15 (fz_shr y592 x5) 4 (by omega)) (fun H595 r596 q597 o598 => ?_)
          obtain ⟨e599, y603, rfl, f600, f601, f602⟩ := q597
          subst H595
          clear o598
          refine fz_aload_n kL_law rfl rfl ?_
          refine fz_bipush ⟨by decide, by decide⟩ kL_law rfl ?_
          refine fz_callS (d' := 0) (M' := mL_at) (As := [fz_r 200, fz_i 27]) (st := [fz_i y603, fz_r 0]) kL_law rfl rfl vL_at rfl rfl (Nat.le_of_ble_eq_true rfl) (Nat.le_of_ble_eq_true rfl) (by decide) (sL_at H14 hI15 27 (by omega) (by omega)) (fun H604 r605 q606 o607 => ?_)
          obtain ⟨e608, y610, rfl, f609⟩ := q606
          subst H604
          clear o607
          refine fz_iload kL_law rfl rfl ?_
          refine fz_ishr kL_law rfl ?_
          have b611 : -2147483648 ≤ (fz_shr y610 x5) ∧ (fz_shr y610 x5) < 2147483648 := fz_b32 _
          refine fz_aload_n kL_law rfl rfl ?_
          refine fz_iconst ⟨by decide, by decide⟩ kL_law rfl ?_
          obtain ⟨v613, e614⟩ : ∃ z, H14 53 (1) = z := ⟨_, rfl⟩
          refine fz_ialdV (n := 40) (v := v613) kL_law rfl rfl (by omega) (by omega) e614 ?_
          have b615 : (-2147483648) ≤ v613 ∧ v613 ≤ 2147483647 := by rw [← e614]; exact hI15.1 53 _
          have k617 : 1 ≤ v613 ∧ v613 ≤ 12 := by omega
          refine fz_callS (d' := 0) (M' := mL_some) (As := [fz_i (fz_shr y610 x5), fz_i v613]) (st := [fz_i y603, fz_r 0]) kL_law rfl rfl vL_some rfl rfl (Nat.le_of_ble_eq_true rfl) (Nat.le_of_ble_eq_true rfl) (by decide) (sL_some H14 hI15 (fz_shr y610 x5) v613 (by omega)) (fun H618 r619 q620 o621 => ?_)
          obtain ⟨e622, y626, rfl, f623, f624, f625⟩ := q620
          subst H618
          clear o621
          have b627 : 0 ≤ H14 1 7 ∧ H14 1 7 ≤ 8 := hI15.1 1 _
          refine fz_callV (d' := 5) (M' := mX10_walk) (As := [fz_i y603, fz_i y626]) (st := []) kL_law rfl rfl vX10_walk rfl rfl rfl rfl (Nat.le_of_ble_eq_true rfl) (Nat.le_of_ble_eq_true rfl) (by decide) (sX10_walk H14 hI15 y603 y626 hRT13 hRE6) (fun H628 r629 q630 o631 => ?_)
          obtain ⟨hI632, hf633, hRT634, hRE635, y641, rfl, f636, f637, f638, f639, f640⟩ := q630
          clear o631
          have hf642 := fz_fr_tr hf16 hf633 (show fz_su [(18, 99999), (19, 99999), (29, 99999), (40, 1), (40, 2), (40, 3), (40, 4), (41, 99999)] [(1, 7), (1, 8), (2, 99999), (3, 99999), (4, 99999), (5, 99999), (6, 99999), (7, 99999), (8, 99999), (9, 5), (10, 99999), (11, 99999), (12, 99999), (13, 99999), (14, 99999), (15, 4), (16, 99999), (17, 99999), (18, 99999), (19, 99999), (20, 2), (20, 3), (20, 4), (21, 4), (22, 99999), (23, 99999), (26, 99999), (27, 8), (27, 9), (28, 99999), (29, 99999), (30, 99999), (31, 99999), (32, 99999), (33, 3), (33, 4), (33, 5), (33, 6), (33, 7), (34, 99999), (35, 4), (35, 5), (36, 99999), (37, 99999), (38, 99999), (39, 99999), (40, 1), (40, 2), (40, 3), (40, 4), (40, 5), (40, 6), (41, 99999), (42, 99999), (43, 99999), (44, 2), (45, 99999), (48, 99999), (50, 99999), (51, 99999), (52, 99999), (53, 99999)] = true from rfl)
          have hRV643 : fz_RV H628 := fz_RV_eq (funext fun s => hf633 7 s rfl) (funext fun s => hf633 8 s rfl) (funext fun s => hf633 3 s rfl) (funext fun s => hf633 4 s rfl) (funext fun s => hf633 5 s rfl) (funext fun s => hf633 6 s rfl) (hf633 1 7 rfl) (hf633 1 8 rfl) hRV7
          have hRP2644 : fz_RP2 H628 := fz_RP2_eq (funext fun s => hf633 11 s rfl) (hf633 9 5 rfl) (hf633 1 7 rfl) hRP28
          have hN645 : st_N tw H628 := st_N_eq (hf633 53 0 rfl) (hf633 53 1 rfl) (hf633 53 2 rfl) (hf633 1 7 rfl) (hf633 1 8 rfl) (hf633 9 5 rfl) (hf633 35 4 rfl) (hf633 20 2 rfl) hN10
          have hL1646 : st_L1 H628 := st_L1_eq (funext fun s => hf633 3 s rfl) (hf633 1 8 rfl) hL111
          have hIm647 : st_Im H628 := st_Im_eq (hf633 40 6 rfl) (funext fun s => hf633 43 s rfl) (funext fun s => hf633 42 s rfl) hIm12
          have hX648 : fz_Xc H628 := fz_Xc_fr hf633 rfl hXq9
          have t649 : H628 9 5 = H14 9 5 := hf633 9 5 rfl
          have t650 : H628 1 7 = H14 1 7 := hf633 1 7 rfl
          have t651 : H628 1 8 = H14 1 8 := hf633 1 8 rfl
          refine fz_pop rfl kL_law rfl ?_
          refine fz_iincN (ls' := [(7, fz_i (x5 + 1)), (0, fz_r 200), (1, fz_r 0), (2, fz_r 53), (3, fz_i tw), (4, fz_l sm), (6, fz_i dd)]) kL_law rfl (by decide) rfl (by omega) rfl ?_
          refine fz_goto (tgt := 1570) kL_law rfl (by decide) ?_
          exact ih19 (x5 + 1) H628 hI632 hf642 hRE635 hRV643 hRP2644 hX648 hN645 hL1646 hIm647 hRT634 (by omega) (by omega) (st_wl_s hv23 hf633 f637) (by omega)
  exact lp18 _ 0 H hI hf hRE hRV hRP2 hX hN hL1 hIm hRT1 (by omega) (by omega) (st_wl_0) (Nat.lt_succ_self _)

set_option maxHeartbeats 1000000 in
set_option maxRecDepth 100000 in
theorem sL_l1548 (h H : fz_H) (hI : fz_Iv H) (hf : fz_fr [(1, 7), (1, 8), (2, 99999), (3, 99999), (4, 99999), (5, 99999), (6, 99999), (7, 99999), (8, 99999), (9, 5), (10, 99999), (11, 99999), (12, 99999), (13, 99999), (14, 99999), (15, 4), (16, 99999), (17, 99999), (18, 99999), (19, 99999), (20, 2), (20, 3), (20, 4), (21, 4), (22, 99999), (23, 99999), (26, 99999), (27, 8), (27, 9), (28, 99999), (29, 99999), (30, 99999), (31, 99999), (32, 99999), (33, 3), (33, 4), (33, 5), (33, 6), (33, 7), (34, 99999), (35, 4), (35, 5), (36, 99999), (37, 99999), (38, 99999), (39, 99999), (40, 1), (40, 2), (40, 3), (40, 4), (40, 5), (40, 6), (41, 99999), (42, 99999), (43, 99999), (44, 2), (45, 99999), (48, 99999), (50, 99999), (51, 99999), (52, 99999), (53, 99999)] h H) (hX : fz_Xc H) (hRE : fz_RE H) (hRV : fz_RV H) (hRP2 : fz_RP2 H) (hN : st_N tw H) (hS : st_S sm H) (hL1 : st_L1 H) (hZ : st_Z H) (hIm : st_Im H) (tw sm : Int) (hp0 : 0 ≤ h 200 100000 ∧ h 200 100000 ≤ 3072) (hq0 : 0 ≤ tw ∧ tw ≤ 8) : fz_R 48 mL_law 1548 [(0, fz_r 200), (1, fz_r 0), (2, fz_r 53), (3, fz_i tw), (4, fz_l sm)] [] H (qL_law h) := by
  refine fz_aload_n kL_law rfl rfl ?_
  refine fz_callS (d' := 11) (M' := mL_told) (As := [fz_r 0]) (st := []) kL_law rfl rfl vL_told rfl rfl (Nat.le_of_ble_eq_true rfl) (Nat.le_of_ble_eq_true rfl) (by decide) (sL_told H hI  ) (fun H1 r2 q3 o4 => ?_)
  obtain ⟨hI5, hf6, y9, rfl, f7, f8⟩ := q3
  clear o4
  have hf10 := fz_fr_tr hf hf6 (show fz_su [(18, 99999), (19, 99999), (29, 99999), (30, 99999), (32, 99999)] [(1, 7), (1, 8), (2, 99999), (3, 99999), (4, 99999), (5, 99999), (6, 99999), (7, 99999), (8, 99999), (9, 5), (10, 99999), (11, 99999), (12, 99999), (13, 99999), (14, 99999), (15, 4), (16, 99999), (17, 99999), (18, 99999), (19, 99999), (20, 2), (20, 3), (20, 4), (21, 4), (22, 99999), (23, 99999), (26, 99999), (27, 8), (27, 9), (28, 99999), (29, 99999), (30, 99999), (31, 99999), (32, 99999), (33, 3), (33, 4), (33, 5), (33, 6), (33, 7), (34, 99999), (35, 4), (35, 5), (36, 99999), (37, 99999), (38, 99999), (39, 99999), (40, 1), (40, 2), (40, 3), (40, 4), (40, 5), (40, 6), (41, 99999), (42, 99999), (43, 99999), (44, 2), (45, 99999), (48, 99999), (50, 99999), (51, 99999), (52, 99999), (53, 99999)] = true from rfl)
  have hRE11 : fz_RE H1 := fz_RE_eq (funext fun s => hf6 5 s rfl) (funext fun s => hf6 6 s rfl) (hf6 1 8 rfl) (hf6 1 7 rfl) hRE
  have hRV12 : fz_RV H1 := fz_RV_eq (funext fun s => hf6 7 s rfl) (funext fun s => hf6 8 s rfl) (funext fun s => hf6 3 s rfl) (funext fun s => hf6 4 s rfl) (funext fun s => hf6 5 s rfl) (funext fun s => hf6 6 s rfl) (hf6 1 7 rfl) (hf6 1 8 rfl) hRV
  have hRP213 : fz_RP2 H1 := fz_RP2_eq (funext fun s => hf6 11 s rfl) (hf6 9 5 rfl) (hf6 1 7 rfl) hRP2
  have hN14 : st_N tw H1 := st_N_eq (hf6 53 0 rfl) (hf6 53 1 rfl) (hf6 53 2 rfl) (hf6 1 7 rfl) (hf6 1 8 rfl) (hf6 9 5 rfl) (hf6 35 4 rfl) (hf6 20 2 rfl) hN
  have hL115 : st_L1 H1 := st_L1_eq (funext fun s => hf6 3 s rfl) (hf6 1 8 rfl) hL1
  have hZ16 : st_Z H1 := st_Z_eq (hf6 40 1 rfl) (hf6 40 2 rfl) (hf6 40 3 rfl) (hf6 40 4 rfl) (hf6 40 5 rfl) (funext fun s => hf6 41 s rfl) hZ
  have hIm17 : st_Im H1 := st_Im_eq (hf6 40 6 rfl) (funext fun s => hf6 43 s rfl) (funext fun s => hf6 42 s rfl) hIm
  have hX18 : fz_Xc H1 := fz_Xc_fr hf6 rfl hX
  have t19 : H1 9 5 = H 9 5 := hf6 9 5 rfl
  have t20 : H1 1 7 = H 1 7 := hf6 1 7 rfl
  have t21 : H1 1 8 = H 1 8 := hf6 1 8 rfl
  have hS22 : st_S sm H1 := st_S_fr rfl hf6 hS
  refine fz_lload kL_law rfl rfl ?_
  have k23 := st_S_t hS f8
  refine fz_lcmp kL_law rfl ?_
  have b24 := fz_cmp_c y9 sm
  refine fz_if_eq (tgt := 1560) kL_law rfl (by decide) (fun c25 => ?_) (fun c25 => ?_)
  · refine fz_aload_n kL_law rfl rfl ?_
    refine fz_iconst ⟨by decide, by decide⟩ kL_law rfl ?_
    have k26 := st_N_e hI5 hN14
    have b27 : 0 ≤ H1 1 7 ∧ H1 1 7 ≤ 8 := hI5.1 1 _
    have b28 : 0 ≤ H1 1 8 ∧ H1 1 8 ≤ 12 := hI5.1 1 _
    have b29 : 0 ≤ H1 9 5 ∧ H1 9 5 ≤ 10 := hI5.1 9 _
    have b30 : 0 ≤ H1 20 2 ∧ H1 20 2 ≤ 120 := hI5.1 20 _
    have b31 : 0 ≤ H1 35 4 ∧ H1 35 4 ≤ 40 := hI5.1 35 _
    have b32 : 0 ≤ H1 44 2 ∧ H1 44 2 ≤ 50 := hI5.1 44 _
    have b33 : (-2147483648) ≤ h 44 3 ∧ h 44 3 ≤ 2147483647 := hI.1 44 _
    have e34 : H1 44 3 = h 44 3 := hf10 44 3 rfl
    refine fz_callV (d' := 0) (M' := mX10_count) (As := [fz_i 2]) (st := []) kL_law rfl rfl vX10_count rfl rfl rfl rfl (Nat.le_of_ble_eq_true rfl) (Nat.le_of_ble_eq_true rfl) (by decide) (sX10_count H1 hI5 2 ) (fun H35 r36 q37 o38 => ?_)
    obtain ⟨e39, y42, rfl, f40, f41⟩ := q37
    subst H35
    clear o38
    have k44 : 0 ≤ y42 ∧ y42 ≤ 8 := by omega
    refine fz_istore (ls' := [(6, fz_i y42), (0, fz_r 200), (1, fz_r 0), (2, fz_r 53), (3, fz_i tw), (4, fz_l sm)]) kL_law rfl (by decide) rfl ?_
    refine fz_sub (fz_pk_sub (ls' := [(0, fz_r 200), (1, fz_r 0), (2, fz_r 53), (3, fz_i tw), (4, fz_l sm), (6, fz_i y42)]) [1, 2, 3, 4, 5, 0] rfl) ?_
    exact sL_l1567 h H1 hI5 hf10 hX18 hRE11 hRV12 hRP213 hN14 hS22 hL115 hZ16 hIm17 tw sm y42 hp0 (by omega) (by omega)
  · exfalso; omega

theorem sL_l532 (h H : fz_H) (hI : fz_Iv H) (hf : fz_fr [(1, 7), (1, 8), (2, 99999), (3, 99999), (4, 99999), (5, 99999), (6, 99999), (7, 99999), (8, 99999), (9, 5), (10, 99999), (11, 99999), (12, 99999), (13, 99999), (14, 99999), (15, 4), (16, 99999), (17, 99999), (18, 99999), (19, 99999), (20, 2), (20, 3), (20, 4), (21, 4), (22, 99999), (23, 99999), (26, 99999), (27, 8), (27, 9), (28, 99999), (29, 99999), (30, 99999), (31, 99999), (32, 99999), (33, 3), (33, 4), (33, 5), (33, 6), (33, 7), (34, 99999), (35, 4), (35, 5), (36, 99999), (37, 99999), (38, 99999), (39, 99999), (40, 1), (40, 2), (40, 3), (40, 4), (40, 5), (40, 6), (41, 99999), (42, 99999), (43, 99999), (44, 2), (45, 99999), (48, 99999), (50, 99999), (51, 99999), (52, 99999), (53, 99999)] h H) (hX : fz_Xc H) (hRE : fz_RE H) (hRV : fz_RV H) (hRP2 : fz_RP2 H) (hN : st_N tw H) (hS : st_S sm H) (hL1 : st_L1 H) (hZ : st_Z H) (hIm : st_Im H) (tw sm : Int) (hp0 : 0 ≤ h 200 100000 ∧ h 200 100000 ≤ 3072) (hq0 : 0 ≤ tw ∧ tw ≤ 8) : fz_R 48 mL_law 532 [(0, fz_r 200), (1, fz_r 0), (2, fz_r 53), (3, fz_i tw), (4, fz_l sm)] [] H (qL_law h) := by sorry

set_option maxHeartbeats 1000000 in
set_option maxRecDepth 100000 in
theorem sL_l450 (h H : fz_H) (hI : fz_Iv H) (hf : fz_fr [(1, 7), (1, 8), (2, 99999), (3, 99999), (4, 99999), (5, 99999), (6, 99999), (7, 99999), (8, 99999), (9, 5), (10, 99999), (11, 99999), (12, 99999), (13, 99999), (14, 99999), (15, 4), (16, 99999), (17, 99999), (18, 99999), (19, 99999), (20, 2), (20, 3), (20, 4), (21, 4), (22, 99999), (23, 99999), (26, 99999), (27, 8), (27, 9), (28, 99999), (29, 99999), (30, 99999), (31, 99999), (32, 99999), (33, 3), (33, 4), (33, 5), (33, 6), (33, 7), (34, 99999), (35, 4), (35, 5), (36, 99999), (37, 99999), (38, 99999), (39, 99999), (40, 1), (40, 2), (40, 3), (40, 4), (40, 5), (40, 6), (41, 99999), (42, 99999), (43, 99999), (44, 2), (45, 99999), (48, 99999), (50, 99999), (51, 99999), (52, 99999), (53, 99999)] h H) (hX : fz_Xc H) (hRE : fz_RE H) (hRV : fz_RV H) (tw sm x y f c : Int) (hp0 : 0 ≤ h 200 100000 ∧ h 200 100000 ≤ 3072) (hq0 : 0 ≤ tw ∧ tw ≤ 8) (hq1 : H 1 7 = tw) (hq2 : 0 ≤ x ∧ x < tw) (hq3 : 0 ≤ y ∧ y < tw) (hq4 : -2 ≤ f ∧ f ≤ 10000) (hq5 : f = fz_hr (H 7 (8 * x + y).toNat)) (k : fz_R 48 mL_law 520 [(0, fz_r 200), (1, fz_r 0), (2, fz_r 53), (3, fz_i tw), (4, fz_l sm), (6, fz_i x), (7, fz_i y), (8, fz_i f), (9, fz_i c)] [] H (qL_law h)) : fz_R 48 mL_law 450 [(0, fz_r 200), (1, fz_r 0), (2, fz_r 53), (3, fz_i tw), (4, fz_l sm), (6, fz_i x), (7, fz_i y), (8, fz_i f), (9, fz_i c)] [] H (qL_law h) := by
  refine fz_iconst ⟨by decide, by decide⟩ kL_law rfl ?_
  refine fz_istore (ls' := [(10, fz_i 0), (0, fz_r 200), (1, fz_r 0), (2, fz_r 53), (3, fz_i tw), (4, fz_l sm), (6, fz_i x), (7, fz_i y), (8, fz_i f), (9, fz_i c)]) kL_law rfl (by decide) rfl ?_
  have lp3 : ∀ (n2 : Nat) (x1 : Int), (0 ≤ x1 ∧ x1 ≤ 8) → (tw - x1).toNat < n2 → fz_R 48 mL_law 453 [(10, fz_i x1), (0, fz_r 200), (1, fz_r 0), (2, fz_r 53), (3, fz_i tw), (4, fz_l sm), (6, fz_i x), (7, fz_i y), (8, fz_i f), (9, fz_i c)] [] H (qL_law h) := by
    intro n2
    induction n2 with
    | zero => intro x1 hv6 hm5; exact absurd hm5 (by omega)
    | succ n2 ih4 =>
      intro x1 hv6 hm5
      refine fz_iload kL_law rfl rfl ?_
      refine fz_iload_n kL_law rfl rfl ?_
      refine fz_icmp_ge (tgt := 520) kL_law rfl (by decide) (fun c7 => ?_) (fun c7 => ?_)
      · refine fz_sub (fz_pk_sub (ls' := [(0, fz_r 200), (1, fz_r 0), (2, fz_r 53), (3, fz_i tw), (4, fz_l sm), (6, fz_i x), (7, fz_i y), (8, fz_i f), (9, fz_i c)]) [1, 2, 3, 4, 5, 6, 7, 8, 9] rfl) ?_
        exact k  
      · refine fz_iload kL_law rfl rfl ?_
        refine fz_if_lt (tgt := 514) kL_law rfl (by decide) (fun c8 => ?_) (fun c8 => ?_)
        · refine fz_iincN (ls' := [(10, fz_i (x1 + 1)), (0, fz_r 200), (1, fz_r 0), (2, fz_r 53), (3, fz_i tw), (4, fz_l sm), (6, fz_i x), (7, fz_i y), (8, fz_i f), (9, fz_i c)]) kL_law rfl (by decide) rfl (by omega) rfl ?_
          refine fz_goto (tgt := 453) kL_law rfl (by decide) ?_
          exact ih4 (x1 + 1) (by omega) (by omega)
        · refine fz_aload_n kL_law rfl rfl ?_
          refine fz_bipush ⟨by decide, by decide⟩ kL_law rfl ?_
          refine fz_iload kL_law rfl rfl ?_
          refine fz_imulN kL_law rfl (by omega) ?_
          refine fz_iload kL_law rfl rfl ?_
          refine fz_iaddN kL_law rfl (by omega) ?_
          refine fz_iconst ⟨by decide, by decide⟩ kL_law rfl ?_
          refine fz_callV (d' := 2) (M' := mX10_way) (As := [fz_i ((10 * y) + x1), fz_i 0]) (st := []) kL_law rfl rfl vX10_way rfl rfl rfl rfl (Nat.le_of_ble_eq_true rfl) (Nat.le_of_ble_eq_true rfl) (by decide) (sX10_way H hI ((10 * y) + x1) 0 ) (fun H9 r10 q11 o12 => ?_)
          obtain ⟨e13, y16, rfl, f14, f15⟩ := q11
          subst H9
          clear o12
          have k17 := wf_wy0 (x := y) (y := x1) (by omega) (by omega) (by omega) f15
          refine fz_if_lt (tgt := 514) kL_law rfl (by decide) (fun c19 => ?_) (fun c19 => ?_)
          · refine fz_iincN (ls' := [(10, fz_i (x1 + 1)), (0, fz_r 200), (1, fz_r 0), (2, fz_r 53), (3, fz_i tw), (4, fz_l sm), (6, fz_i x), (7, fz_i y), (8, fz_i f), (9, fz_i c)]) kL_law rfl (by decide) rfl (by omega) rfl ?_
            refine fz_goto (tgt := 453) kL_law rfl (by decide) ?_
            exact ih4 (x1 + 1) (by omega) (by omega)
          · refine fz_aload_n kL_law rfl rfl ?_
            refine fz_bipush ⟨by decide, by decide⟩ kL_law rfl ?_
            refine fz_iload kL_law rfl rfl ?_
            refine fz_imulN kL_law rfl (by omega) ?_
            refine fz_iload kL_law rfl rfl ?_
            refine fz_iaddN kL_law rfl (by omega) ?_
            refine fz_iconst ⟨by decide, by decide⟩ kL_law rfl ?_
            refine fz_callV (d' := 2) (M' := mX10_way) (As := [fz_i ((10 * x) + x1), fz_i 0]) (st := []) kL_law rfl rfl vX10_way rfl rfl rfl rfl (Nat.le_of_ble_eq_true rfl) (Nat.le_of_ble_eq_true rfl) (by decide) (sX10_way H hI ((10 * x) + x1) 0 ) (fun H20 r21 q22 o23 => ?_)
            obtain ⟨e24, y27, rfl, f25, f26⟩ := q22
            subst H20
            clear o23
            have k28 := wf_wy0 (x := x) (y := x1) (by omega) (by omega) (by omega) f26
            refine fz_iload kL_law rfl rfl ?_
            refine fz_aload_n kL_law rfl rfl ?_
            refine fz_bipush ⟨by decide, by decide⟩ kL_law rfl ?_
            refine fz_iload kL_law rfl rfl ?_
            refine fz_imulN kL_law rfl (by omega) ?_
            refine fz_iload kL_law rfl rfl ?_
            refine fz_iaddN kL_law rfl (by omega) ?_
            refine fz_iconst ⟨by decide, by decide⟩ kL_law rfl ?_
            refine fz_callV (d' := 2) (M' := mX10_way) (As := [fz_i ((10 * y) + x1), fz_i 0]) (st := [fz_i f, fz_i y27]) kL_law rfl rfl vX10_way rfl rfl rfl rfl (Nat.le_of_ble_eq_true rfl) (Nat.le_of_ble_eq_true rfl) (by decide) (sX10_way H hI ((10 * y) + x1) 0 ) (fun H30 r31 q32 o33 => ?_)
            obtain ⟨e34, y37, rfl, f35, f36⟩ := q32
            subst H30
            clear o33
            have k38 := wf_wy0 (x := y) (y := x1) (by omega) (by omega) (by omega) f36
            refine fz_iaddN kL_law rfl (by omega) ?_
            have k40 := wf_t0 hI hRV (x := x) (y := y) (z := x1) (by omega) (by omega) (by omega) (by omega) (by omega)
            refine fz_icmp_le (tgt := 514) kL_law rfl (by decide) (fun c41 => ?_) (fun c41 => ?_)
            · refine fz_iincN (ls' := [(10, fz_i (x1 + 1)), (0, fz_r 200), (1, fz_r 0), (2, fz_r 53), (3, fz_i tw), (4, fz_l sm), (6, fz_i x), (7, fz_i y), (8, fz_i f), (9, fz_i c)]) kL_law rfl (by decide) rfl (by omega) rfl ?_
              refine fz_goto (tgt := 453) kL_law rfl (by decide) ?_
              exact ih4 (x1 + 1) (by omega) (by omega)
            · exfalso; omega
  exact lp3 _ 0 (by omega) (Nat.lt_succ_self _)

set_option maxHeartbeats 1000000 in
set_option maxRecDepth 100000 in
theorem sL_l337 (h H : fz_H) (hI : fz_Iv H) (hf : fz_fr [(1, 7), (1, 8), (2, 99999), (3, 99999), (4, 99999), (5, 99999), (6, 99999), (7, 99999), (8, 99999), (9, 5), (10, 99999), (11, 99999), (12, 99999), (13, 99999), (14, 99999), (15, 4), (16, 99999), (17, 99999), (18, 99999), (19, 99999), (20, 2), (20, 3), (20, 4), (21, 4), (22, 99999), (23, 99999), (26, 99999), (27, 8), (27, 9), (28, 99999), (29, 99999), (30, 99999), (31, 99999), (32, 99999), (33, 3), (33, 4), (33, 5), (33, 6), (33, 7), (34, 99999), (35, 4), (35, 5), (36, 99999), (37, 99999), (38, 99999), (39, 99999), (40, 1), (40, 2), (40, 3), (40, 4), (40, 5), (40, 6), (41, 99999), (42, 99999), (43, 99999), (44, 2), (45, 99999), (48, 99999), (50, 99999), (51, 99999), (52, 99999), (53, 99999)] h H) (hX : fz_Xc H) (hRE : fz_RE H) (hRV : fz_RV H) (hRP2 : fz_RP2 H) (hN : st_N tw H) (hS : st_S sm H) (hL1 : st_L1 H) (hZ : st_Z H) (hIm : st_Im H) (tw sm : Int) (hp0 : 0 ≤ h 200 100000 ∧ h 200 100000 ≤ 3072) (hq0 : 0 ≤ tw ∧ tw ≤ 8) : fz_R 48 mL_law 337 [(0, fz_r 200), (1, fz_r 0), (2, fz_r 53), (3, fz_i tw), (4, fz_l sm)] [] H (qL_law h) := by
  have k1 := st_N_e hI hN
  refine fz_iconst ⟨by decide, by decide⟩ kL_law rfl ?_
  refine fz_istore (ls' := [(6, fz_i 0), (0, fz_r 200), (1, fz_r 0), (2, fz_r 53), (3, fz_i tw), (4, fz_l sm)]) kL_law rfl (by decide) rfl ?_
  have lp4 : ∀ (n3 : Nat) (x2 : Int), (0 ≤ x2 ∧ x2 ≤ 8) → (tw - x2).toNat < n3 → fz_R 48 mL_law 340 [(6, fz_i x2), (0, fz_r 200), (1, fz_r 0), (2, fz_r 53), (3, fz_i tw), (4, fz_l sm)] [] H (qL_law h) := by
    intro n3
    induction n3 with
    | zero => intro x2 hv7 hm6; exact absurd hm6 (by omega)
    | succ n3 ih5 =>
      intro x2 hv7 hm6
      refine fz_iload kL_law rfl rfl ?_
      refine fz_iload_n kL_law rfl rfl ?_
      refine fz_icmp_ge (tgt := 532) kL_law rfl (by decide) (fun c8 => ?_) (fun c8 => ?_)
      · refine fz_sub (fz_pk_sub (ls' := [(0, fz_r 200), (1, fz_r 0), (2, fz_r 53), (3, fz_i tw), (4, fz_l sm)]) [1, 2, 3, 4, 5] rfl) ?_
        exact sL_l532 h H hI hf hX hRE hRV hRP2 hN hS hL1 hZ hIm tw sm hp0 (by omega)
      · refine fz_iconst ⟨by decide, by decide⟩ kL_law rfl ?_
        refine fz_istore (ls' := [(7, fz_i 0), (6, fz_i x2), (0, fz_r 200), (1, fz_r 0), (2, fz_r 53), (3, fz_i tw), (4, fz_l sm)]) kL_law rfl (by decide) rfl ?_
        have lp11 : ∀ (n10 : Nat) (x9 : Int), (0 ≤ x9 ∧ x9 ≤ 8) → (tw - x9).toNat < n10 → fz_R 48 mL_law 349 [(7, fz_i x9), (6, fz_i x2), (0, fz_r 200), (1, fz_r 0), (2, fz_r 53), (3, fz_i tw), (4, fz_l sm)] [] H (qL_law h) := by
          intro n10
          induction n10 with
          | zero => intro x9 hv14 hm13; exact absurd hm13 (by omega)
          | succ n10 ih12 =>
            intro x9 hv14 hm13
            refine fz_iload kL_law rfl rfl ?_
            refine fz_iload_n kL_law rfl rfl ?_
            refine fz_icmp_ge (tgt := 526) kL_law rfl (by decide) (fun c15 => ?_) (fun c15 => ?_)
            · refine fz_iincN (ls' := [(6, fz_i (x2 + 1)), (7, fz_i x9), (0, fz_r 200), (1, fz_r 0), (2, fz_r 53), (3, fz_i tw), (4, fz_l sm)]) kL_law rfl (by decide) rfl (by omega) rfl ?_
              refine fz_goto (tgt := 340) kL_law rfl (by decide) ?_
              refine fz_sub (fz_pk_sub (ls' := [(6, fz_i (x2 + 1)), (0, fz_r 200), (1, fz_r 0), (2, fz_r 53), (3, fz_i tw), (4, fz_l sm)]) [0, 2, 3, 4, 5, 6] rfl) ?_
              exact ih5 (x2 + 1) (by omega) (by omega)
            · refine fz_aload_n kL_law rfl rfl ?_
              refine fz_bipush ⟨by decide, by decide⟩ kL_law rfl ?_
              refine fz_iload kL_law rfl rfl ?_
              refine fz_imulN kL_law rfl (by omega) ?_
              refine fz_iload kL_law rfl rfl ?_
              refine fz_iaddN kL_law rfl (by omega) ?_
              refine fz_iconst ⟨by decide, by decide⟩ kL_law rfl ?_
              refine fz_callV (d' := 2) (M' := mX10_way) (As := [fz_i ((10 * x2) + x9), fz_i 0]) (st := []) kL_law rfl rfl vX10_way rfl rfl rfl rfl (Nat.le_of_ble_eq_true rfl) (Nat.le_of_ble_eq_true rfl) (by decide) (sX10_way H hI ((10 * x2) + x9) 0 ) (fun H16 r17 q18 o19 => ?_)
              obtain ⟨e20, y23, rfl, f21, f22⟩ := q18
              subst H16
              clear o19
              have k24 := wf_wy0 (x := x2) (y := x9) (by omega) (by omega) (by omega) f22
              refine fz_istore (ls' := [(8, fz_i y23), (7, fz_i x9), (6, fz_i x2), (0, fz_r 200), (1, fz_r 0), (2, fz_r 53), (3, fz_i tw), (4, fz_l sm)]) kL_law rfl (by decide) rfl ?_
              refine fz_aload_n kL_law rfl rfl ?_
              refine fz_bipush ⟨by decide, by decide⟩ kL_law rfl ?_
              refine fz_iload kL_law rfl rfl ?_
              refine fz_imulN kL_law rfl (by omega) ?_
              refine fz_iload kL_law rfl rfl ?_
              refine fz_iaddN kL_law rfl (by omega) ?_
              refine fz_iconst ⟨by decide, by decide⟩ kL_law rfl ?_
              refine fz_callV (d' := 2) (M' := mX10_way) (As := [fz_i ((10 * x2) + x9), fz_i 1]) (st := []) kL_law rfl rfl vX10_way rfl rfl rfl rfl (Nat.le_of_ble_eq_true rfl) (Nat.le_of_ble_eq_true rfl) (by decide) (sX10_way H hI ((10 * x2) + x9) 1 ) (fun H26 r27 q28 o29 => ?_)
              obtain ⟨e30, y33, rfl, f31, f32⟩ := q28
              subst H26
              clear o29
              have k34 := wf_wy1 (x := x2) (y := x9) (by omega) (by omega) (by omega) f32
              refine fz_istore (ls' := [(9, fz_i y33), (8, fz_i y23), (7, fz_i x9), (6, fz_i x2), (0, fz_r 200), (1, fz_r 0), (2, fz_r 53), (3, fz_i tw), (4, fz_l sm)]) kL_law rfl (by decide) rfl ?_
              refine fz_iload kL_law rfl rfl ?_
              refine fz_aload_n kL_law rfl rfl ?_
              refine fz_bipush ⟨by decide, by decide⟩ kL_law rfl ?_
              refine fz_iload kL_law rfl rfl ?_
              refine fz_imulN kL_law rfl (by omega) ?_
              refine fz_iload kL_law rfl rfl ?_
              refine fz_iaddN kL_law rfl (by omega) ?_
              refine fz_iconst ⟨by decide, by decide⟩ kL_law rfl ?_
              refine fz_callV (d' := 2) (M' := mX10_way) (As := [fz_i ((10 * x9) + x2), fz_i 0]) (st := [fz_i y23]) kL_law rfl rfl vX10_way rfl rfl rfl rfl (Nat.le_of_ble_eq_true rfl) (Nat.le_of_ble_eq_true rfl) (by decide) (sX10_way H hI ((10 * x9) + x2) 0 ) (fun H36 r37 q38 o39 => ?_)
              obtain ⟨e40, y43, rfl, f41, f42⟩ := q38
              subst H36
              clear o39
              have k44 := wf_wy0 (x := x9) (y := x2) (by omega) (by omega) (by omega) f42
              have k46 : y23 = y43 := k24.trans ((congrArg fz_hr (wf_sy0 hRV (x := x2) (y := x9) (by omega) (by omega))).trans k44.symm)
              refine fz_icmp_ne (tgt := 448) kL_law rfl (by decide) (fun c47 => ?_) (fun c47 => ?_)
              · exfalso; omega
              · refine fz_iload kL_law rfl rfl ?_
                refine fz_aload_n kL_law rfl rfl ?_
                refine fz_bipush ⟨by decide, by decide⟩ kL_law rfl ?_
                refine fz_iload kL_law rfl rfl ?_
                refine fz_imulN kL_law rfl (by omega) ?_
                refine fz_iload kL_law rfl rfl ?_
                refine fz_iaddN kL_law rfl (by omega) ?_
                refine fz_iconst ⟨by decide, by decide⟩ kL_law rfl ?_
                refine fz_callV (d' := 2) (M' := mX10_way) (As := [fz_i ((10 * x9) + x2), fz_i 1]) (st := [fz_i y33]) kL_law rfl rfl vX10_way rfl rfl rfl rfl (Nat.le_of_ble_eq_true rfl) (Nat.le_of_ble_eq_true rfl) (by decide) (sX10_way H hI ((10 * x9) + x2) 1 ) (fun H48 r49 q50 o51 => ?_)
                obtain ⟨e52, y55, rfl, f53, f54⟩ := q50
                subst H48
                clear o51
                have k56 := wf_wy1 (x := x9) (y := x2) (by omega) (by omega) (by omega) f54
                have k58 : y33 = y55 := k34.trans ((congrArg fz_hr (wf_sy1 hRV (x := x2) (y := x9) (by omega) (by omega))).trans k56.symm)
                refine fz_icmp_ne (tgt := 448) kL_law rfl (by decide) (fun c59 => ?_) (fun c59 => ?_)
                · exfalso; omega
                · refine fz_iload kL_law rfl rfl ?_
                  refine fz_iload kL_law rfl rfl ?_
                  refine fz_icmp_ne (tgt := 438) kL_law rfl (by decide) (fun c60 => ?_) (fun c60 => ?_)
                  · refine fz_iload kL_law rfl rfl ?_
                    refine fz_if_lt (tgt := 450) kL_law rfl (by decide) (fun c61 => ?_) (fun c61 => ?_)
                    · refine fz_sub (fz_pk_sub (ls' := [(0, fz_r 200), (1, fz_r 0), (2, fz_r 53), (3, fz_i tw), (4, fz_l sm), (6, fz_i x2), (7, fz_i x9), (8, fz_i y23), (9, fz_i y33)]) [4, 5, 6, 7, 8, 3, 2, 1, 0] rfl) ?_
                      refine sL_l450 h H hI hf hX hRE hRV tw sm x2 x9 y23 y33 hp0 (by omega) (by omega) (by omega) (by omega) (by omega) (k24) ?_
                      refine fz_iincN (ls' := [(7, fz_i (x9 + 1)), (0, fz_r 200), (1, fz_r 0), (2, fz_r 53), (3, fz_i tw), (4, fz_l sm), (6, fz_i x2), (8, fz_i y23), (9, fz_i y33)]) kL_law rfl (by decide) rfl (by omega) rfl ?_
                      refine fz_goto (tgt := 349) kL_law rfl (by decide) ?_
                      refine fz_sub (fz_pk_sub (ls' := [(7, fz_i (x9 + 1)), (6, fz_i x2), (0, fz_r 200), (1, fz_r 0), (2, fz_r 53), (3, fz_i tw), (4, fz_l sm)]) [0, 6, 1, 2, 3, 4, 5] rfl) ?_
                      exact ih12 (x9 + 1) (by omega) (by omega)
                    · have k69 := wf_feet hI hRV (a := x2) (b := x9) (by omega) (by omega) (by omega)
                      refine fz_iload kL_law rfl rfl ?_
                      refine fz_if_ge (tgt := 450) kL_law rfl (by decide) (fun c70 => ?_) (fun c70 => ?_)
                      · refine fz_sub (fz_pk_sub (ls' := [(0, fz_r 200), (1, fz_r 0), (2, fz_r 53), (3, fz_i tw), (4, fz_l sm), (6, fz_i x2), (7, fz_i x9), (8, fz_i y23), (9, fz_i y33)]) [4, 5, 6, 7, 8, 3, 2, 1, 0] rfl) ?_
                        refine sL_l450 h H hI hf hX hRE hRV tw sm x2 x9 y23 y33 hp0 (by omega) (by omega) (by omega) (by omega) (by omega) (k24) ?_
                        refine fz_iincN (ls' := [(7, fz_i (x9 + 1)), (0, fz_r 200), (1, fz_r 0), (2, fz_r 53), (3, fz_i tw), (4, fz_l sm), (6, fz_i x2), (8, fz_i y23), (9, fz_i y33)]) kL_law rfl (by decide) rfl (by omega) rfl ?_
                        refine fz_goto (tgt := 349) kL_law rfl (by decide) ?_
                        refine fz_sub (fz_pk_sub (ls' := [(7, fz_i (x9 + 1)), (6, fz_i x2), (0, fz_r 200), (1, fz_r 0), (2, fz_r 53), (3, fz_i tw), (4, fz_l sm)]) [0, 6, 1, 2, 3, 4, 5] rfl) ?_
                        exact ih12 (x9 + 1) (by omega) (by omega)
                      · exfalso; omega
                  · have k78 := wf_di0 hRV (x := x2) (y := x9) (by omega) (by omega)
                    have k79 := wf_di1 hRV (x := x2) (y := x9) (by omega) (by omega)
                    refine fz_iload kL_law rfl rfl ?_
                    refine fz_if_ne (tgt := 448) kL_law rfl (by decide) (fun c80 => ?_) (fun c80 => ?_)
                    · exfalso; omega
                    · refine fz_iload kL_law rfl rfl ?_
                      refine fz_if_ne (tgt := 448) kL_law rfl (by decide) (fun c81 => ?_) (fun c81 => ?_)
                      · exfalso; omega
                      · refine fz_iload kL_law rfl rfl ?_
                        refine fz_if_lt (tgt := 450) kL_law rfl (by decide) (fun c82 => ?_) (fun c82 => ?_)
                        · exfalso; omega
                        · have k83 := wf_feet hI hRV (a := x2) (b := x9) (by omega) (by omega) (by omega)
                          refine fz_iload kL_law rfl rfl ?_
                          refine fz_if_ge (tgt := 450) kL_law rfl (by decide) (fun c84 => ?_) (fun c84 => ?_)
                          · refine fz_sub (fz_pk_sub (ls' := [(0, fz_r 200), (1, fz_r 0), (2, fz_r 53), (3, fz_i tw), (4, fz_l sm), (6, fz_i x2), (7, fz_i x9), (8, fz_i y23), (9, fz_i y33)]) [4, 5, 6, 7, 8, 3, 2, 1, 0] rfl) ?_
                            refine sL_l450 h H hI hf hX hRE hRV tw sm x2 x9 y23 y33 hp0 (by omega) (by omega) (by omega) (by omega) (by omega) (k24) ?_
                            refine fz_iincN (ls' := [(7, fz_i (x9 + 1)), (0, fz_r 200), (1, fz_r 0), (2, fz_r 53), (3, fz_i tw), (4, fz_l sm), (6, fz_i x2), (8, fz_i y23), (9, fz_i y33)]) kL_law rfl (by decide) rfl (by omega) rfl ?_
                            refine fz_goto (tgt := 349) kL_law rfl (by decide) ?_
                            refine fz_sub (fz_pk_sub (ls' := [(7, fz_i (x9 + 1)), (6, fz_i x2), (0, fz_r 200), (1, fz_r 0), (2, fz_r 53), (3, fz_i tw), (4, fz_l sm)]) [0, 6, 1, 2, 3, 4, 5] rfl) ?_
                            exact ih12 (x9 + 1) (by omega) (by omega)
                          · exfalso; omega
        exact lp11 _ 0 (by omega) (Nat.lt_succ_self _)
  exact lp4 _ 0 (by omega) (Nat.lt_succ_self _)
