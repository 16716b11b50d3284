/-! ===== the journey, and back ===== -/
def st_wl (B C : fz_H) : Prop := fz_fr [(18, 99999), (19, 99999), (29, 99999), (40, 1), (40, 2), (40, 3), (40, 4), (41, 99999)] B C ∧ ∀ s : Nat, 4 ≤ s → C 41 s = B 41 s
theorem st_wl_0 {B : fz_H} : st_wl B B := ⟨fz_fr_rf, fun _ _ => rfl⟩
theorem st_wl_s {B C E : fz_H} {on rd r : Int} (w : st_wl B C) (f : fz_fr [(18, 99999), (19, 99999), (29, 99999), (40, 1), (40, 2), (40, 3), (40, 4), (41, 99999)] C E) (k : fz_wkC C E on rd r) : st_wl B E := by
  refine ⟨fz_fr_tr w.1 f rfl, fun s hs => ?_⟩
  rw [← w.2 s hs]
  rcases k with ⟨-, -, -, e⟩ | ⟨-, -, -, -, e⟩ | ⟨-, -, -, -, -, e⟩ | ⟨o, -, -, -, -, e⟩
  · rw [e]
  · rw [e]
  · rw [e]
  · rw [e]
    unfold fz_wkO at o
    exact fz_up_s (by omega)
theorem st_wl5 {B C : fz_H} (w : st_wl B C) (z : st_Z B) : C 40 5 = 0 := (w.1 40 5 rfl).trans z.1.2.2.2.2
theorem st_RT1 {h : fz_H} (R : fz_RT h) (p : 0 < h 1 7) : h 41 (12 / 10 : Int).toNat < h 1 7 := by
  have := (R 1 (by decide)).1
  rw [show (12 / 10 : Int).toNat = 1 from rfl]
  omega
theorem st_le0 {h : fz_H} {r : Int} (c : fl_leC h 0 r) : r = h 40 2 := by
  unfold fl_leC at c
  omega
theorem st_le3 {h : fz_H} {r : Int} (c : fl_leC h 3 r) : r = h 40 5 := by
  unfold fl_leC at c
  omega
theorem st_le4 {h : fz_H} {r : Int} (c : fl_leC h 4 r) : r = h 40 1 := by
  unfold fl_leC at c
  omega
theorem st_d3 {h h' : fz_H} {pm wt o l dn : Int} (a : fz_apC h h' (h' 9 5 - h 9 5) (fun _ => (pm / 10, h 41 (pm / 10).toNat, h 40 1, pm % 10, wt))) (f : h' 40 1 = h 40 1) (o3 : o = h' 12 dn.toNat) (le : fl_leC h' 4 l) (ed : dn = h 9 5) (n : h' 9 5 = h 9 5 + 1) : o = l := by
  have q := (a.2 0 (by decide) (by omega)).2.2.1
  rw [Int.add_zero, ← ed] at q
  have e := st_le4 le
  rw [o3, q, e, f]
theorem st_d10 {h h' : fz_H} {wt o l dn : Int} (a : fz_apC h h' (h' 9 5 - h 9 5) (fun _ => (12 / 10, h 41 (12 / 10 : Int).toNat, h 40 1, 12 % 10, wt))) (f : h' 41 = h 41) (o10 : o = h' 11 dn.toNat) (o11 : l = h' 41 (1 : Int).toNat) (ed : dn = h 9 5) (n : h' 9 5 = h 9 5 + 1) : o = l := by
  have q := (a.2 0 (by decide) (by omega)).2.1
  rw [Int.add_zero, ← ed] at q
  rw [o10, q, o11, f]
  rfl
theorem st_d5 {h h' : fz_H} {r l : Int} (d : fl_dd (h 40 5) (h' 40 5) r) (z : h 40 5 = 0) (le : fl_leC h' 3 l) (hr : 0 ≤ r) : l = 1 := by
  have e := st_le3 le
  rcases d with ⟨-, d⟩ | ⟨d, -⟩
  · rw [e, d, z]
    rfl
  · omega
theorem st_bk {h h' : fz_H} {r : Int} (m : st_Im h) (a : fz_bkC h h' r) (b : fl_bdC h h' r) : r = 0 ∧ h' 40 1 = 0 ∧ h' 40 2 = 0 ∧ h' 40 3 = 0 ∧ h' 40 4 = 0 ∧ h' 40 5 = 0 := by
  obtain ⟨m1, ⟨n0, n1, n2, n3, n4⟩, m3⟩ := m
  rcases a with ⟨a, -⟩ | ⟨-, a1, a2, a3, -⟩
  · omega
  · rcases b with ⟨b, -⟩ | ⟨-, b1, b2, b3, b4⟩
    · omega
    · exact ⟨by omega, by omega, by omega, by omega, by omega, by omega⟩
theorem st_bk41 {h h' : fz_H} {r : Int} (m : st_Im h) (a : fz_bkC h h' r) (s : Nat) (hs : s < 4) : h' 41 s = 0 := by
  obtain ⟨m1, -, m3⟩ := m
  rcases a with ⟨a, -⟩ | ⟨-, a1, a2, -⟩
  · omega
  · rw [a2, st_mx (by omega)]
    exact m3 s hs
/-- all is as it was before the first step -/
theorem st_nm_end {B C E : fz_H} {r : Int} (w : st_wl B C) (z : st_Z B) (m : st_Im C) (a : fz_bkC C E r) (b : fl_bdC C E r) (f : fz_fr [(40, 1), (40, 2), (40, 3), (40, 4), (40, 5), (41, 99999)] C E) : fz_nm E = fz_nm B := by
  have k := st_bk m a b
  obtain ⟨⟨z1, z2, z3, z4, z5⟩, z6⟩ := z
  have e41 : ∀ s, E 41 s = B 41 s := fun s => by
    by_cases c : s < 4
    · rw [st_bk41 m a s c, z6 s c]
    · rw [← w.2 s (by omega)]
      rcases a with ⟨a, -⟩ | ⟨-, -, a2, -⟩
      · have := m.1
        omega
      · rw [a2, st_mx2 (by omega)]
  have e40 : ∀ s, s ≠ 6 → E 40 s = B 40 s := fun s hs => by
    by_cases c1 : s = 1
    · subst c1; omega
    by_cases c2 : s = 2
    · subst c2; omega
    by_cases c3 : s = 3
    · subst c3; omega
    by_cases c4 : s = 4
    · subst c4; omega
    by_cases c5 : s = 5
    · subst c5; omega
    have q : ∀ x, x ≠ s → Nat.beq x s = false := fun x hx => by
      cases hb : Nat.beq x s with
      | false => rfl
      | true => exact absurd (Nat.eq_of_beq_eq_true hb) hx
    have g1 : fz_me [(40, 1), (40, 2), (40, 3), (40, 4), (40, 5), (41, 99999)] 40 s = false := by
      unfold fz_me
      simp [q 1 (Ne.symm c1), q 2 (Ne.symm c2), q 3 (Ne.symm c3), q 4 (Ne.symm c4), q 5 (Ne.symm c5)]
      decide
    have g2 : fz_me [(18, 99999), (19, 99999), (29, 99999), (40, 1), (40, 2), (40, 3), (40, 4), (41, 99999)] 40 s = false := by
      unfold fz_me
      simp [q 1 (Ne.symm c1), q 2 (Ne.symm c2), q 3 (Ne.symm c3), q 4 (Ne.symm c4)]
      decide
    exact (f 40 s g1).trans (w.1 40 s g2)
  funext c i
  show (bif fz_core c i then E c i else 0) = (bif fz_core c i then B c i else 0)
  cases hc : fz_core c i with
  | false => rfl
  | true =>
    show E c i = B c i
    by_cases c41 : c = 41
    · subst c41; exact e41 i
    by_cases c40 : c = 40
    · subst c40
      refine e40 i (fun z => ?_)
      subst z
      cases hc
    have hC := fz_core_C hc
    have q : ∀ x, fz_coreC x = false → Nat.beq x c = false := fun x hx => by
      cases hb : Nat.beq x c with
      | false => rfl
      | true =>
        have := Nat.eq_of_beq_eq_true hb
        subst this
        rw [hx] at hC
        cases hC
    have q2 : ∀ x, x ≠ c → Nat.beq x c = false := fun x hx => by
      cases hb : Nat.beq x c with
      | false => rfl
      | true => exact absurd (Nat.eq_of_beq_eq_true hb) hx
    have g1 : fz_me [(40, 1), (40, 2), (40, 3), (40, 4), (40, 5), (41, 99999)] c i = false := by
      unfold fz_me
      simp [q2 40 (Ne.symm c40), q2 41 (Ne.symm c41)]
    have g2 : fz_me [(18, 99999), (19, 99999), (29, 99999), (40, 1), (40, 2), (40, 3), (40, 4), (41, 99999)] c i = false := by
      unfold fz_me
      simp [q2 40 (Ne.symm c40), q2 41 (Ne.symm c41), q 18 rfl, q 19 rfl, q 29 rfl]
    exact (f c i g1).trans (w.1 c i g2)
abbrev qL_law (h : fz_H) : fz_H → Option fz_V → Prop := fun h' r0 => fz_Iv h' ∧ fz_fr [(1, 7), (1, 8), (2, 99999), (3, 99999), (4, 99999), (5, 99999), (6, 99999), (7, 99999), (8, 99999), (9, 5), (10, 99999), (11, 99999), (12, 99999), (13, 99999), (14, 99999), (15, 4), (16, 99999), (17, 99999), (18, 99999), (19, 99999), (20, 2), (20, 3), (20, 4), (21, 4), (22, 99999), (23, 99999), (26, 99999), (27, 8), (27, 9), (28, 99999), (29, 99999), (30, 99999), (31, 99999), (32, 99999), (33, 3), (33, 4), (33, 5), (33, 6), (33, 7), (34, 99999), (35, 4), (35, 5), (36, 99999), (37, 99999), (38, 99999), (39, 99999), (40, 1), (40, 2), (40, 3), (40, 4), (40, 5), (40, 6), (41, 99999), (42, 99999), (43, 99999), (44, 2), (45, 99999), (48, 99999), (50, 99999), (51, 99999), (52, 99999), (53, 99999)] h h' ∧ fz_Xc h' ∧ fz_RE h' ∧ fz_RV h' ∧ ∃ r : Int, r0 = some (fz_i r) ∧ r = 1
set_option maxHeartbeats 1000000 in
set_option maxRecDepth 100000 in
theorem sL_l1567 (h H : fz_H) (tw sm dd : Int) (hI : fz_Iv H) (hf : fz_fr [(1, 7), (1, 8), (2, 99999), (3, 99999), (4, 99999), (5, 99999), (6, 99999), (7, 99999), (8, 99999), (9, 5), (10, 99999), (11, 99999), (12, 99999), (13, 99999), (14, 99999), (15, 4), (16, 99999), (17, 99999), (18, 99999), (19, 99999), (20, 2), (20, 3), (20, 4), (21, 4), (22, 99999), (23, 99999), (26, 99999), (27, 8), (27, 9), (28, 99999), (29, 99999), (30, 99999), (31, 99999), (32, 99999), (33, 3), (33, 4), (33, 5), (33, 6), (33, 7), (34, 99999), (35, 4), (35, 5), (36, 99999), (37, 99999), (38, 99999), (39, 99999), (40, 1), (40, 2), (40, 3), (40, 4), (40, 5), (40, 6), (41, 99999), (42, 99999), (43, 99999), (44, 2), (45, 99999), (48, 99999), (50, 99999), (51, 99999), (52, 99999), (53, 99999)] h H) (hX : fz_Xc H) (hRE : fz_RE H) (hRV : fz_RV H) (hRP2 : fz_RP2 H) (hN : st_N tw H) (hS : st_S sm H) (hL1 : st_L1 H) (hZ : st_Z H) (hIm : st_Im H) (hp0 : 0 ≤ h 200 100000 ∧ h 200 100000 ≤ 3072) (hq0 : 0 ≤ tw ∧ tw ≤ 8) (hq1 : dd = H 9 5) : fz_R 48 mL_law 1567 [(0, fz_r 200), (1, fz_r 0), (2, fz_r 53), (3, fz_i tw), (4, fz_l sm), (6, fz_i dd)] [] H (qL_law h) := by
  refine fz_iconst ⟨by decide, by decide⟩ kL_law rfl ?_
  refine fz_istore (ls' := [(7, fz_i 0), (0, fz_r 200), (1, fz_r 0), (2, fz_r 53), (3, fz_i tw), (4, fz_l sm), (6, fz_i dd)]) kL_law rfl (by decide) rfl ?_
  have hRT1 : fz_RT H := st_Z_RT hZ hIm.2.2
  have k3 := st_N_e hI hN
  have lp18 : ∀ (n17 : Nat) (x5 : Int) (H14 : fz_H), fz_Iv H14 → fz_fr [(1, 7), (1, 8), (2, 99999), (3, 99999), (4, 99999), (5, 99999), (6, 99999), (7, 99999), (8, 99999), (9, 5), (10, 99999), (11, 99999), (12, 99999), (13, 99999), (14, 99999), (15, 4), (16, 99999), (17, 99999), (18, 99999), (19, 99999), (20, 2), (20, 3), (20, 4), (21, 4), (22, 99999), (23, 99999), (26, 99999), (27, 8), (27, 9), (28, 99999), (29, 99999), (30, 99999), (31, 99999), (32, 99999), (33, 3), (33, 4), (33, 5), (33, 6), (33, 7), (34, 99999), (35, 4), (35, 5), (36, 99999), (37, 99999), (38, 99999), (39, 99999), (40, 1), (40, 2), (40, 3), (40, 4), (40, 5), (40, 6), (41, 99999), (42, 99999), (43, 99999), (44, 2), (45, 99999), (48, 99999), (50, 99999), (51, 99999), (52, 99999), (53, 99999)] h H14 → fz_RE H14 → fz_RV H14 → fz_RP2 H14 → fz_Xc H14 → st_N tw H14 → st_L1 H14 → st_Im H14 → fz_RT H14 → (0 ≤ x5 ∧ x5 ≤ 8) → (H14 9 5 = dd) → (st_wl H H14) → (8 - x5).toNat < n17 → fz_R 48 mL_law 1570 [(7, fz_i x5), (0, fz_r 200), (1, fz_r 0), (2, fz_r 53), (3, fz_i tw), (4, fz_l sm), (6, fz_i dd)] [] H14 (qL_law h) := by
    intro n17
    induction n17 with
    | zero => intro x5 H14 hI15 hf16 hRE6 hRV7 hRP28 hXq9 hN10 hL111 hIm12 hRT13 hv21 hv22 hv23 hm20; exact absurd hm20 (by omega)
    | succ n17 ih19 =>
      intro x5 H14 hI15 hf16 hRE6 hRV7 hRP28 hXq9 hN10 hL111 hIm12 hRT13 hv21 hv22 hv23 hm20
      refine fz_iload kL_law rfl rfl ?_
      refine fz_bipush ⟨by decide, by decide⟩ kL_law rfl ?_
      have k24 := st_N_e hI15 hN10
      refine fz_icmp_ge (tgt := 1622) kL_law rfl (by decide) (fun c26 => ?_) (fun c26 => ?_)
      · have k27 := st_N_e hI15 hN10
        refine fz_iload_n kL_law rfl rfl ?_
        refine fz_if_le (tgt := 1643) kL_law rfl (by decide) (fun c29 => ?_) (fun c29 => ?_)
        · refine fz_iconst ⟨by decide, by decide⟩ kL_law rfl ?_
          refine fz_istore (ls' := [(7, fz_i (-1)), (0, fz_r 200), (1, fz_r 0), (2, fz_r 53), (3, fz_i tw), (4, fz_l sm), (6, fz_i dd)]) kL_law rfl (by decide) rfl ?_
          refine fz_iload kL_law rfl rfl ?_
          refine fz_if_lt (tgt := 1702) kL_law rfl (by decide) (fun c30 => ?_) (fun c30 => ?_)
          · refine fz_aload_n kL_law rfl rfl ?_
            refine fz_callV (d' := 2) (M' := mX10_back) (As := []) (st := []) kL_law rfl rfl vX10_back rfl rfl rfl rfl (Nat.le_of_ble_eq_true rfl) (Nat.le_of_ble_eq_true rfl) (by decide) (sX10_back H14 hI15  hRT13) (fun H31 r32 q33 o34 => ?_)
            obtain ⟨hI35, hf36, hRT37, y41, rfl, f38, f39, f40⟩ := q33
            clear o34
            have hf42 := fz_fr_tr hf16 hf36 (show fz_su [(40, 1), (40, 2), (40, 3), (40, 4), (40, 5), (41, 99999)] [(1, 7), (1, 8), (2, 99999), (3, 99999), (4, 99999), (5, 99999), (6, 99999), (7, 99999), (8, 99999), (9, 5), (10, 99999), (11, 99999), (12, 99999), (13, 99999), (14, 99999), (15, 4), (16, 99999), (17, 99999), (18, 99999), (19, 99999), (20, 2), (20, 3), (20, 4), (21, 4), (22, 99999), (23, 99999), (26, 99999), (27, 8), (27, 9), (28, 99999), (29, 99999), (30, 99999), (31, 99999), (32, 99999), (33, 3), (33, 4), (33, 5), (33, 6), (33, 7), (34, 99999), (35, 4), (35, 5), (36, 99999), (37, 99999), (38, 99999), (39, 99999), (40, 1), (40, 2), (40, 3), (40, 4), (40, 5), (40, 6), (41, 99999), (42, 99999), (43, 99999), (44, 2), (45, 99999), (48, 99999), (50, 99999), (51, 99999), (52, 99999), (53, 99999)] = true from rfl)
            have hRE43 : fz_RE H31 := fz_RE_eq (funext fun s => hf36 5 s rfl) (funext fun s => hf36 6 s rfl) (hf36 1 8 rfl) (hf36 1 7 rfl) hRE6
            have hRV44 : fz_RV H31 := fz_RV_eq (funext fun s => hf36 7 s rfl) (funext fun s => hf36 8 s rfl) (funext fun s => hf36 3 s rfl) (funext fun s => hf36 4 s rfl) (funext fun s => hf36 5 s rfl) (funext fun s => hf36 6 s rfl) (hf36 1 7 rfl) (hf36 1 8 rfl) hRV7
            have hRP245 : fz_RP2 H31 := fz_RP2_eq (funext fun s => hf36 11 s rfl) (hf36 9 5 rfl) (hf36 1 7 rfl) hRP28
            have hN46 : st_N tw H31 := st_N_eq (hf36 53 0 rfl) (hf36 53 1 rfl) (hf36 53 2 rfl) (hf36 1 7 rfl) (hf36 1 8 rfl) (hf36 9 5 rfl) (hf36 35 4 rfl) (hf36 20 2 rfl) hN10
            have hL147 : st_L1 H31 := st_L1_eq (funext fun s => hf36 3 s rfl) (hf36 1 8 rfl) hL111
            have hIm48 : st_Im H31 := st_Im_eq (hf36 40 6 rfl) (funext fun s => hf36 43 s rfl) (funext fun s => hf36 42 s rfl) hIm12
            have hX49 : fz_Xc H31 := fz_Xc_fr hf36 rfl hXq9
            have t50 : H31 9 5 = H14 9 5 := hf36 9 5 rfl
            have t51 : H31 1 7 = H14 1 7 := hf36 1 7 rfl
            have t52 : H31 1 8 = H14 1 8 := hf36 1 8 rfl
            have k53 := st_bk hIm12 f39 f40
            refine fz_if_ne (tgt := 1752) kL_law rfl (by decide) (fun c55 => ?_) (fun c55 => ?_)
            · exfalso; omega
            · refine fz_aload_n kL_law rfl rfl ?_
              refine fz_iconst ⟨by decide, by decide⟩ kL_law rfl ?_
              refine fz_callV (d' := 0) (M' := mX10_led) (As := [fz_i 0]) (st := []) kL_law rfl rfl vX10_led rfl rfl rfl rfl (Nat.le_of_ble_eq_true rfl) (Nat.le_of_ble_eq_true rfl) (by decide) (sX10_led H31 hI35 0 ) (fun H56 r57 q58 o59 => ?_)
              obtain ⟨e60, y63, rfl, f61, f62⟩ := q58
              subst H56
              clear o59
              have k64 := st_le0 f62
              refine fz_if_ne (tgt := 1752) kL_law rfl (by decide) (fun c65 => ?_) (fun c65 => ?_)
              · exfalso; omega
              · refine fz_aload_n kL_law rfl rfl ?_
                refine fz_iconst ⟨by decide, by decide⟩ kL_law rfl ?_
                refine fz_callV (d' := 0) (M' := mX10_led) (As := [fz_i 3]) (st := []) kL_law rfl rfl vX10_led rfl rfl rfl rfl (Nat.le_of_ble_eq_true rfl) (Nat.le_of_ble_eq_true rfl) (by decide) (sX10_led H31 hI35 3 ) (fun H66 r67 q68 o69 => ?_)
                obtain ⟨e70, y73, rfl, f71, f72⟩ := q68
                subst H66
                clear o69
                have k74 := st_le3 f72
                refine fz_if_ne (tgt := 1752) kL_law rfl (by decide) (fun c75 => ?_) (fun c75 => ?_)
                · exfalso; omega
                · refine fz_aload_n kL_law rfl rfl ?_
                  refine fz_iconst ⟨by decide, by decide⟩ kL_law rfl ?_
                  refine fz_bipush ⟨by decide, by decide⟩ kL_law rfl ?_
                  refine fz_callV (d' := 3) (M' := mX10_of) (As := [fz_i 0, fz_i 12]) (st := []) kL_law rfl rfl vX10_of rfl rfl rfl rfl (Nat.le_of_ble_eq_true rfl) (Nat.le_of_ble_eq_true rfl) (by decide) (sX10_of H31 hI35 0 12 ) (fun H76 r77 q78 o79 => ?_)
                  obtain ⟨e80, y83, rfl, f81, f82⟩ := q78
                  subst H76
                  clear o79
                  have k84 := of_12 f82
                  refine fz_if_ne (tgt := 1752) kL_law rfl (by decide) (fun c85 => ?_) (fun c85 => ?_)
                  · exfalso; omega
                  · refine fz_iload kL_law rfl rfl ?_
                    refine fz_if_lt (tgt := 1754) kL_law rfl (by decide) (fun c86 => ?_) (fun c86 => ?_)
                    · refine fz_iconst ⟨by decide, by decide⟩ kL_law rfl ?_
                      refine fz_istore (ls' := [(8, fz_i 0), (7, fz_i (-1)), (0, fz_r 200), (1, fz_r 0), (2, fz_r 53), (3, fz_i tw), (4, fz_l sm), (6, fz_i dd)]) kL_law rfl (by decide) rfl ?_
                      have lp89 : ∀ (n88 : Nat) (x87 : Int), (0 ≤ x87 ∧ x87 ≤ 4) → (4 - x87).toNat < n88 → fz_R 48 mL_law 1757 [(8, fz_i x87), (7, fz_i (-1)), (0, fz_r 200), (1, fz_r 0), (2, fz_r 53), (3, fz_i tw), (4, fz_l sm), (6, fz_i dd)] [] H31 (qL_law h) := by
                        intro n88
                        induction n88 with
                        | zero => intro x87 hv92 hm91; exact absurd hm91 (by omega)
                        | succ n88 ih90 =>
                          intro x87 hv92 hm91
                          refine fz_iload kL_law rfl rfl ?_
                          refine fz_iconst ⟨by decide, by decide⟩ kL_law rfl ?_
                          refine fz_icmp_ge (tgt := 1782) kL_law rfl (by decide) (fun c93 => ?_) (fun c93 => ?_)
                          · refine fz_iload kL_law rfl rfl ?_
                            refine fz_if_ge (tgt := 1797) kL_law rfl (by decide) (fun c94 => ?_) (fun c94 => ?_)
                            · exfalso; omega
                            · refine fz_aload_n kL_law rfl rfl ?_
                              refine fz_callS (d' := 7) (M' := mL_told) (As := [fz_r 0]) (st := []) kL_law rfl rfl vL_told rfl rfl (Nat.le_of_ble_eq_true rfl) (Nat.le_of_ble_eq_true rfl) (by decide) (sL_told H31 hI35  ) (fun H95 r96 q97 o98 => ?_)
                              obtain ⟨hI99, hf100, y103, rfl, f101, f102⟩ := q97
                              clear o98
                              have hf104 := fz_fr_tr hf42 hf100 (show fz_su [(18, 99999), (19, 99999), (29, 99999), (30, 99999), (32, 99999)] [(1, 7), (1, 8), (2, 99999), (3, 99999), (4, 99999), (5, 99999), (6, 99999), (7, 99999), (8, 99999), (9, 5), (10, 99999), (11, 99999), (12, 99999), (13, 99999), (14, 99999), (15, 4), (16, 99999), (17, 99999), (18, 99999), (19, 99999), (20, 2), (20, 3), (20, 4), (21, 4), (22, 99999), (23, 99999), (26, 99999), (27, 8), (27, 9), (28, 99999), (29, 99999), (30, 99999), (31, 99999), (32, 99999), (33, 3), (33, 4), (33, 5), (33, 6), (33, 7), (34, 99999), (35, 4), (35, 5), (36, 99999), (37, 99999), (38, 99999), (39, 99999), (40, 1), (40, 2), (40, 3), (40, 4), (40, 5), (40, 6), (41, 99999), (42, 99999), (43, 99999), (44, 2), (45, 99999), (48, 99999), (50, 99999), (51, 99999), (52, 99999), (53, 99999)] = true from rfl)
                              have hRE105 : fz_RE H95 := fz_RE_eq (funext fun s => hf100 5 s rfl) (funext fun s => hf100 6 s rfl) (hf100 1 8 rfl) (hf100 1 7 rfl) hRE43
                              have hRV106 : fz_RV H95 := fz_RV_eq (funext fun s => hf100 7 s rfl) (funext fun s => hf100 8 s rfl) (funext fun s => hf100 3 s rfl) (funext fun s => hf100 4 s rfl) (funext fun s => hf100 5 s rfl) (funext fun s => hf100 6 s rfl) (hf100 1 7 rfl) (hf100 1 8 rfl) hRV44
                              have hRP2107 : fz_RP2 H95 := fz_RP2_eq (funext fun s => hf100 11 s rfl) (hf100 9 5 rfl) (hf100 1 7 rfl) hRP245
                              have hN108 : st_N tw H95 := st_N_eq (hf100 53 0 rfl) (hf100 53 1 rfl) (hf100 53 2 rfl) (hf100 1 7 rfl) (hf100 1 8 rfl) (hf100 9 5 rfl) (hf100 35 4 rfl) (hf100 20 2 rfl) hN46
                              have hL1109 : st_L1 H95 := st_L1_eq (funext fun s => hf100 3 s rfl) (hf100 1 8 rfl) hL147
                              have hIm110 : st_Im H95 := st_Im_eq (hf100 40 6 rfl) (funext fun s => hf100 43 s rfl) (funext fun s => hf100 42 s rfl) hIm48
                              have hRT111 : fz_RT H95 := fz_RT_eq (funext fun s => hf100 41 s rfl) (funext fun s => hf100 42 s rfl) (hf100 1 7 rfl) hRT37
                              have hX112 : fz_Xc H95 := fz_Xc_fr hf100 rfl hX49
                              have t113 : H95 9 5 = H31 9 5 := hf100 9 5 rfl
                              have t114 : H95 1 7 = H31 1 7 := hf100 1 7 rfl
                              have t115 : H95 1 8 = H31 1 8 := hf100 1 8 rfl
                              refine fz_lload kL_law rfl rfl ?_
                              have k116 : y103 = sm := f102.trans ((congrArg st_td (st_nm_end hv23 hZ hIm12 f39 f40 hf36)).trans hS.symm)
                              refine fz_lcmp kL_law rfl ?_
                              have b117 := fz_cmp_c y103 sm
                              refine fz_if_ne (tgt := 1801) kL_law rfl (by decide) (fun c118 => ?_) (fun c118 => ?_)
                              · exfalso; omega
                              · refine fz_iconst ⟨by decide, by decide⟩ kL_law rfl ?_
                                refine fz_goto (tgt := 1802) kL_law rfl (by decide) ?_
                                exact fz_zret kL_law rfl rfl (by omega) ⟨hI99, hf104, hX112, hRE105, hRV106, _, rfl, (by omega)⟩
                          · refine fz_aload_n kL_law rfl rfl ?_
                            refine fz_iload kL_law rfl rfl ?_
                            refine fz_bipush ⟨by decide, by decide⟩ kL_law rfl ?_
                            refine fz_callV (d' := 3) (M' := mX10_of) (As := [fz_i x87, fz_i 11]) (st := []) kL_law rfl rfl vX10_of rfl rfl rfl rfl (Nat.le_of_ble_eq_true rfl) (Nat.le_of_ble_eq_true rfl) (by decide) (sX10_of H31 hI35 x87 11 ) (fun H119 r120 q121 o122 => ?_)
                            obtain ⟨e123, y126, rfl, f124, f125⟩ := q121
                            subst H119
                            clear o122
                            have k127 := of_11 f125 (by omega)
                            have k128 := st_bk41 hIm12 f39 (x87).toNat (by omega)
                            refine fz_if_eq (tgt := 1776) kL_law rfl (by decide) (fun c129 => ?_) (fun c129 => ?_)
                            · refine fz_iincN (ls' := [(8, fz_i (x87 + 1)), (7, fz_i (-1)), (0, fz_r 200), (1, fz_r 0), (2, fz_r 53), (3, fz_i tw), (4, fz_l sm), (6, fz_i dd)]) kL_law rfl (by decide) rfl (by omega) rfl ?_
                              refine fz_goto (tgt := 1757) kL_law rfl (by decide) ?_
                              exact ih90 (x87 + 1) (by omega) (by omega)
                            · exfalso; omega
                      exact lp89 _ 0 (by omega) (Nat.lt_succ_self _)
                    · exfalso; omega
          · exfalso; omega
        · refine fz_iload kL_law rfl rfl ?_
          refine fz_bipush ⟨by decide, by decide⟩ kL_law rfl ?_
          refine fz_icmp_ge (tgt := 1643) kL_law rfl (by decide) (fun c130 => ?_) (fun c130 => ?_)
          · exfalso; omega
          · refine fz_aload_n kL_law rfl rfl ?_
            refine fz_bipush ⟨by decide, by decide⟩ kL_law rfl ?_
            refine fz_iconst ⟨by decide, by decide⟩ kL_law rfl ?_
            have k131 := st_RT1 hRT13 (by omega)
            have b133 : 0 ≤ H14 1 7 ∧ H14 1 7 ≤ 8 := hI15.1 1 _
            have b134 : 0 ≤ H14 9 5 ∧ H14 9 5 ≤ 10 := hI15.1 9 _
            have b135 : 0 ≤ H14 40 1 ∧ H14 40 1 ≤ 999 := hI15.1 40 _
            have b136 : (-2147483648) ≤ H14 40 5 ∧ H14 40 5 ≤ 2147483647 := hI15.1 40 _
            refine fz_callV (d' := 2) (M' := mX10_does) (As := [fz_i 12, fz_i 5]) (st := []) kL_law rfl rfl vX10_does rfl rfl rfl rfl (Nat.le_of_ble_eq_true rfl) (Nat.le_of_ble_eq_true rfl) (by decide) (sX10_does H14 hI15 12 5 ) (fun H137 r138 q139 o140 => ?_)
            obtain ⟨hI141, hf142, y148, rfl, f143, f144, f145, f146, f147⟩ := q139
            clear o140
            have hf149 := fz_fr_tr hf16 hf142 (show fz_su [(9, 5), (10, 99999), (11, 99999), (12, 99999), (13, 99999), (14, 99999), (40, 5)] [(1, 7), (1, 8), (2, 99999), (3, 99999), (4, 99999), (5, 99999), (6, 99999), (7, 99999), (8, 99999), (9, 5), (10, 99999), (11, 99999), (12, 99999), (13, 99999), (14, 99999), (15, 4), (16, 99999), (17, 99999), (18, 99999), (19, 99999), (20, 2), (20, 3), (20, 4), (21, 4), (22, 99999), (23, 99999), (26, 99999), (27, 8), (27, 9), (28, 99999), (29, 99999), (30, 99999), (31, 99999), (32, 99999), (33, 3), (33, 4), (33, 5), (33, 6), (33, 7), (34, 99999), (35, 4), (35, 5), (36, 99999), (37, 99999), (38, 99999), (39, 99999), (40, 1), (40, 2), (40, 3), (40, 4), (40, 5), (40, 6), (41, 99999), (42, 99999), (43, 99999), (44, 2), (45, 99999), (48, 99999), (50, 99999), (51, 99999), (52, 99999), (53, 99999)] = true from rfl)
            have hRE150 : fz_RE H137 := fz_RE_eq (funext fun s => hf142 5 s rfl) (funext fun s => hf142 6 s rfl) (hf142 1 8 rfl) (hf142 1 7 rfl) hRE6
            have hRV151 : fz_RV H137 := fz_RV_eq (funext fun s => hf142 7 s rfl) (funext fun s => hf142 8 s rfl) (funext fun s => hf142 3 s rfl) (funext fun s => hf142 4 s rfl) (funext fun s => hf142 5 s rfl) (funext fun s => hf142 6 s rfl) (hf142 1 7 rfl) (hf142 1 8 rfl) hRV7
            have hL1152 : st_L1 H137 := st_L1_eq (funext fun s => hf142 3 s rfl) (hf142 1 8 rfl) hL111
            have hIm153 : st_Im H137 := st_Im_eq (hf142 40 6 rfl) (funext fun s => hf142 43 s rfl) (funext fun s => hf142 42 s rfl) hIm12
            have hRT154 : fz_RT H137 := fz_RT_eq (funext fun s => hf142 41 s rfl) (funext fun s => hf142 42 s rfl) (hf142 1 7 rfl) hRT13
            have hX155 : fz_Xc H137 := fz_Xc_fr hf142 rfl hXq9
            have t156 : H137 1 7 = H14 1 7 := hf142 1 7 rfl
            have t157 : H137 1 8 = H14 1 8 := hf142 1 8 rfl
            have k159 : 0 ≤ y148 ∧ y148 ≤ 8 := by omega
            refine fz_goto (tgt := 1644) kL_law rfl (by decide) ?_
            refine fz_istore (ls' := [(7, fz_i y148), (0, fz_r 200), (1, fz_r 0), (2, fz_r 53), (3, fz_i tw), (4, fz_l sm), (6, fz_i dd)]) kL_law rfl (by decide) rfl ?_
            refine fz_iload kL_law rfl rfl ?_
            refine fz_if_lt (tgt := 1702) kL_law rfl (by decide) (fun c160 => ?_) (fun c160 => ?_)
            · exfalso; omega
            · refine fz_iload kL_law rfl rfl ?_
              refine fz_iload kL_law rfl rfl ?_
              refine fz_icmp_ne (tgt := 1700) kL_law rfl (by decide) (fun c161 => ?_) (fun c161 => ?_)
              · exfalso; omega
              · refine fz_aload_n kL_law rfl rfl ?_
                refine fz_iload kL_law rfl rfl ?_
                refine fz_iconst ⟨by decide, by decide⟩ kL_law rfl ?_
                refine fz_callV (d' := 3) (M' := mX10_of) (As := [fz_i y148, fz_i 3]) (st := []) kL_law rfl rfl vX10_of rfl rfl rfl rfl (Nat.le_of_ble_eq_true rfl) (Nat.le_of_ble_eq_true rfl) (by decide) (sX10_of H137 hI141 y148 3 ) (fun H162 r163 q164 o165 => ?_)
                obtain ⟨e166, y169, rfl, f167, f168⟩ := q164
                subst H162
                clear o165
                have k170 := of_3 f168 (by omega)
                refine fz_aload_n kL_law rfl rfl ?_
                refine fz_iconst ⟨by decide, by decide⟩ kL_law rfl ?_
                refine fz_callV (d' := 0) (M' := mX10_led) (As := [fz_i 4]) (st := [fz_i y169]) kL_law rfl rfl vX10_led rfl rfl rfl rfl (Nat.le_of_ble_eq_true rfl) (Nat.le_of_ble_eq_true rfl) (by decide) (sX10_led H137 hI141 4 ) (fun H172 r173 q174 o175 => ?_)
                obtain ⟨e176, y179, rfl, f177, f178⟩ := q174
                subst H172
                clear o175
                have k180 : y169 = y179 := st_d3 f145 (hf142 40 1 rfl) k170 f178 (by omega) (by omega)
                refine fz_icmp_ne (tgt := 1700) kL_law rfl (by decide) (fun c181 => ?_) (fun c181 => ?_)
                · exfalso; omega
                · refine fz_aload_n kL_law rfl rfl ?_
                  refine fz_iload kL_law rfl rfl ?_
                  refine fz_bipush ⟨by decide, by decide⟩ kL_law rfl ?_
                  refine fz_callV (d' := 3) (M' := mX10_of) (As := [fz_i y148, fz_i 10]) (st := []) kL_law rfl rfl vX10_of rfl rfl rfl rfl (Nat.le_of_ble_eq_true rfl) (Nat.le_of_ble_eq_true rfl) (by decide) (sX10_of H137 hI141 y148 10 ) (fun H182 r183 q184 o185 => ?_)
                  obtain ⟨e186, y189, rfl, f187, f188⟩ := q184
                  subst H182
                  clear o185
                  have k190 := of_10 f188 (by omega)
                  refine fz_aload_n kL_law rfl rfl ?_
                  refine fz_iconst ⟨by decide, by decide⟩ kL_law rfl ?_
                  refine fz_bipush ⟨by decide, by decide⟩ kL_law rfl ?_
                  refine fz_callV (d' := 3) (M' := mX10_of) (As := [fz_i 1, fz_i 11]) (st := [fz_i y189]) kL_law rfl rfl vX10_of rfl rfl rfl rfl (Nat.le_of_ble_eq_true rfl) (Nat.le_of_ble_eq_true rfl) (by decide) (sX10_of H137 hI141 1 11 ) (fun H192 r193 q194 o195 => ?_)
                  obtain ⟨e196, y199, rfl, f197, f198⟩ := q194
                  subst H192
                  clear o195
                  have k200 := of_11 f198 (by omega)
                  have k202 : y189 = y199 := st_d10 f145 (funext fun s => hf142 41 s rfl) k190 k200 (by omega) (by omega)
                  refine fz_icmp_ne (tgt := 1700) kL_law rfl (by decide) (fun c203 => ?_) (fun c203 => ?_)
                  · exfalso; omega
                  · refine fz_aload_n kL_law rfl rfl ?_
                    refine fz_iconst ⟨by decide, by decide⟩ kL_law rfl ?_
                    refine fz_callV (d' := 0) (M' := mX10_led) (As := [fz_i 3]) (st := []) kL_law rfl rfl vX10_led rfl rfl rfl rfl (Nat.le_of_ble_eq_true rfl) (Nat.le_of_ble_eq_true rfl) (by decide) (sX10_led H137 hI141 3 ) (fun H204 r205 q206 o207 => ?_)
                    obtain ⟨e208, y211, rfl, f209, f210⟩ := q206
                    subst H204
                    clear o207
                    have k212 := st_d5 f146 (st_wl5 hv23 hZ) f210 (by omega)
                    refine fz_iconst ⟨by decide, by decide⟩ kL_law rfl ?_
                    refine fz_icmp_eq (tgt := 1702) kL_law rfl (by decide) (fun c213 => ?_) (fun c213 => ?_)
                    · refine fz_aload_n kL_law rfl rfl ?_
                      refine fz_callV (d' := 2) (M' := mX10_back) (As := []) (st := []) kL_law rfl rfl vX10_back rfl rfl rfl rfl (Nat.le_of_ble_eq_true rfl) (Nat.le_of_ble_eq_true rfl) (by decide) (sX10_back H137 hI141  hRT154) (fun H214 r215 q216 o217 => ?_)
                      obtain ⟨hI218, hf219, hRT220, y224, rfl, f221, f222, f223⟩ := q216
                      clear o217
                      have hf225 := fz_fr_tr hf149 hf219 (show fz_su [(40, 1), (40, 2), (40, 3), (40, 4), (40, 5), (41, 99999)] [(1, 7), (1, 8), (2, 99999), (3, 99999), (4, 99999), (5, 99999), (6, 99999), (7, 99999), (8, 99999), (9, 5), (10, 99999), (11, 99999), (12, 99999), (13, 99999), (14, 99999), (15, 4), (16, 99999), (17, 99999), (18, 99999), (19, 99999), (20, 2), (20, 3), (20, 4), (21, 4), (22, 99999), (23, 99999), (26, 99999), (27, 8), (27, 9), (28, 99999), (29, 99999), (30, 99999), (31, 99999), (32, 99999), (33, 3), (33, 4), (33, 5), (33, 6), (33, 7), (34, 99999), (35, 4), (35, 5), (36, 99999), (37, 99999), (38, 99999), (39, 99999), (40, 1), (40, 2), (40, 3), (40, 4), (40, 5), (40, 6), (41, 99999), (42, 99999), (43, 99999), (44, 2), (45, 99999), (48, 99999), (50, 99999), (51, 99999), (52, 99999), (53, 99999)] = true from rfl)
                      have hRE226 : fz_RE H214 := fz_RE_eq (funext fun s => hf219 5 s rfl) (funext fun s => hf219 6 s rfl) (hf219 1 8 rfl) (hf219 1 7 rfl) hRE150
                      have hRV227 : fz_RV H214 := fz_RV_eq (funext fun s => hf219 7 s rfl) (funext fun s => hf219 8 s rfl) (funext fun s => hf219 3 s rfl) (funext fun s => hf219 4 s rfl) (funext fun s => hf219 5 s rfl) (funext fun s => hf219 6 s rfl) (hf219 1 7 rfl) (hf219 1 8 rfl) hRV151
                      have hL1228 : st_L1 H214 := st_L1_eq (funext fun s => hf219 3 s rfl) (hf219 1 8 rfl) hL1152
                      have hIm229 : st_Im H214 := st_Im_eq (hf219 40 6 rfl) (funext fun s => hf219 43 s rfl) (funext fun s => hf219 42 s rfl) hIm153
                      have hX230 : fz_Xc H214 := fz_Xc_fr hf219 rfl hX155
                      have t231 : H214 9 5 = H137 9 5 := hf219 9 5 rfl
                      have t232 : H214 1 7 = H137 1 7 := hf219 1 7 rfl
                      have t233 : H214 1 8 = H137 1 8 := hf219 1 8 rfl
                      have k234 := st_bk hIm153 f222 f223
                      refine fz_if_ne (tgt := 1752) kL_law rfl (by decide) (fun c236 => ?_) (fun c236 => ?_)
                      · exfalso; omega
                      · refine fz_aload_n kL_law rfl rfl ?_
                        refine fz_iconst ⟨by decide, by decide⟩ kL_law rfl ?_
                        refine fz_callV (d' := 0) (M' := mX10_led) (As := [fz_i 0]) (st := []) kL_law rfl rfl vX10_led rfl rfl rfl rfl (Nat.le_of_ble_eq_true rfl) (Nat.le_of_ble_eq_true rfl) (by decide) (sX10_led H214 hI218 0 ) (fun H237 r238 q239 o240 => ?_)
                        obtain ⟨e241, y244, rfl, f242, f243⟩ := q239
                        subst H237
                        clear o240
                        have k245 := st_le0 f243
                        refine fz_if_ne (tgt := 1752) kL_law rfl (by decide) (fun c246 => ?_) (fun c246 => ?_)
                        · exfalso; omega
                        · refine fz_aload_n kL_law rfl rfl ?_
                          refine fz_iconst ⟨by decide, by decide⟩ kL_law rfl ?_
                          refine fz_callV (d' := 0) (M' := mX10_led) (As := [fz_i 3]) (st := []) kL_law rfl rfl vX10_led rfl rfl rfl rfl (Nat.le_of_ble_eq_true rfl) (Nat.le_of_ble_eq_true rfl) (by decide) (sX10_led H214 hI218 3 ) (fun H247 r248 q249 o250 => ?_)
                          obtain ⟨e251, y254, rfl, f252, f253⟩ := q249
                          subst H247
                          clear o250
                          have k255 := st_le3 f253
                          refine fz_if_ne (tgt := 1752) kL_law rfl (by decide) (fun c256 => ?_) (fun c256 => ?_)
                          · exfalso; omega
                          · refine fz_aload_n kL_law rfl rfl ?_
                            refine fz_iconst ⟨by decide, by decide⟩ kL_law rfl ?_
                            refine fz_bipush ⟨by decide, by decide⟩ kL_law rfl ?_
                            refine fz_callV (d' := 3) (M' := mX10_of) (As := [fz_i 0, fz_i 12]) (st := []) kL_law rfl rfl vX10_of rfl rfl rfl rfl (Nat.le_of_ble_eq_true rfl) (Nat.le_of_ble_eq_true rfl) (by decide) (sX10_of H214 hI218 0 12 ) (fun H257 r258 q259 o260 => ?_)
                            obtain ⟨e261, y264, rfl, f262, f263⟩ := q259
                            subst H257
                            clear o260
                            have k265 := of_12 f263
                            refine fz_if_ne (tgt := 1752) kL_law rfl (by decide) (fun c266 => ?_) (fun c266 => ?_)
                            · exfalso; omega
                            · refine fz_iload kL_law rfl rfl ?_
                              refine fz_if_lt (tgt := 1754) kL_law rfl (by decide) (fun c267 => ?_) (fun c267 => ?_)
                              · exfalso; omega
                              · refine fz_aload_n kL_law rfl rfl ?_
                                refine fz_iconst ⟨by decide, by decide⟩ kL_law rfl ?_
                                have b268 : 0 ≤ H214 1 7 ∧ H214 1 7 ≤ 8 := hI218.1 1 _
                                have b269 : 0 ≤ H214 1 8 ∧ H214 1 8 ≤ 12 := hI218.1 1 _
                                have b270 : 0 ≤ H214 9 5 ∧ H214 9 5 ≤ 10 := hI218.1 9 _
                                have b271 : 0 ≤ H214 20 2 ∧ H214 20 2 ≤ 120 := hI218.1 20 _
                                have b272 : 0 ≤ H214 35 4 ∧ H214 35 4 ≤ 40 := hI218.1 35 _
                                have b273 : 0 ≤ H214 44 2 ∧ H214 44 2 ≤ 50 := hI218.1 44 _
                                have e274 : H214 44 3 = h 44 3 := hf225 44 3 rfl
                                refine fz_callV (d' := 0) (M' := mX10_count) (As := [fz_i 2]) (st := []) kL_law rfl rfl vX10_count rfl rfl rfl rfl (Nat.le_of_ble_eq_true rfl) (Nat.le_of_ble_eq_true rfl) (by decide) (sX10_count H214 hI218 2 ) (fun H275 r276 q277 o278 => ?_)
                                obtain ⟨e279, y282, rfl, f280, f281⟩ := q277
                                subst H275
                                clear o278
                                refine fz_iload kL_law rfl rfl ?_
                                refine fz_iconst ⟨by decide, by decide⟩ kL_law rfl ?_
                                refine fz_iaddN kL_law rfl (by omega) ?_
                                refine fz_icmp_eq (tgt := 1754) kL_law rfl (by decide) (fun c283 => ?_) (fun c283 => ?_)
                                · refine fz_iconst ⟨by decide, by decide⟩ kL_law rfl ?_
                                  refine fz_istore (ls' := [(8, fz_i 0), (7, fz_i y148), (0, fz_r 200), (1, fz_r 0), (2, fz_r 53), (3, fz_i tw), (4, fz_l sm), (6, fz_i dd)]) kL_law rfl (by decide) rfl ?_
                                  have lp286 : ∀ (n285 : Nat) (x284 : Int), (0 ≤ x284 ∧ x284 ≤ 4) → (4 - x284).toNat < n285 → fz_R 48 mL_law 1757 [(8, fz_i x284), (7, fz_i y148), (0, fz_r 200), (1, fz_r 0), (2, fz_r 53), (3, fz_i tw), (4, fz_l sm), (6, fz_i dd)] [] H214 (qL_law h) := by
                                    intro n285
                                    induction n285 with
                                    | zero => intro x284 hv289 hm288; exact absurd hm288 (by omega)
                                    | succ n285 ih287 =>
                                      intro x284 hv289 hm288
                                      refine fz_iload kL_law rfl rfl ?_
                                      refine fz_iconst ⟨by decide, by decide⟩ kL_law rfl ?_
                                      refine fz_icmp_ge (tgt := 1782) kL_law rfl (by decide) (fun c290 => ?_) (fun c290 => ?_)
                                      · refine fz_iload kL_law rfl rfl ?_
                                        refine fz_if_ge (tgt := 1797) kL_law rfl (by decide) (fun c291 => ?_) (fun c291 => ?_)
                                        · refine fz_iconst ⟨by decide, by decide⟩ kL_law rfl ?_
                                          refine fz_goto (tgt := 1802) kL_law rfl (by decide) ?_
                                          exact fz_zret kL_law rfl rfl (by omega) ⟨hI218, hf225, hX230, hRE226, hRV227, _, rfl, (by omega)⟩
                                        · exfalso; omega
                                      · refine fz_aload_n kL_law rfl rfl ?_
                                        refine fz_iload kL_law rfl rfl ?_
                                        refine fz_bipush ⟨by decide, by decide⟩ kL_law rfl ?_
                                        refine fz_callV (d' := 3) (M' := mX10_of) (As := [fz_i x284, fz_i 11]) (st := []) kL_law rfl rfl vX10_of rfl rfl rfl rfl (Nat.le_of_ble_eq_true rfl) (Nat.le_of_ble_eq_true rfl) (by decide) (sX10_of H214 hI218 x284 11 ) (fun H292 r293 q294 o295 => ?_)
                                        obtain ⟨e296, y299, rfl, f297, f298⟩ := q294
                                        subst H292
                                        clear o295
                                        have k300 := of_11 f298 (by omega)
                                        have k301 := st_bk41 hIm153 f222 (x284).toNat (by omega)
                                        refine fz_if_eq (tgt := 1776) kL_law rfl (by decide) (fun c302 => ?_) (fun c302 => ?_)
                                        · refine fz_iincN (ls' := [(8, fz_i (x284 + 1)), (7, fz_i y148), (0, fz_r 200), (1, fz_r 0), (2, fz_r 53), (3, fz_i tw), (4, fz_l sm), (6, fz_i dd)]) kL_law rfl (by decide) rfl (by omega) rfl ?_
                                          refine fz_goto (tgt := 1757) kL_law rfl (by decide) ?_
                                          exact ih287 (x284 + 1) (by omega) (by omega)
                                        · exfalso; omega
                                  exact lp286 _ 0 (by omega) (Nat.lt_succ_self _)
                                · exfalso; omega
                    · exfalso; omega
      · refine fz_aload_n kL_law rfl rfl ?_
        refine fz_iconst ⟨by decide, by decide⟩ kL_law rfl ?_
        obtain ⟨v303, e304⟩ : ∃ z, H14 53 (1) = z := ⟨_, rfl⟩
        refine fz_ialdV (n := 40) (v := v303) kL_law rfl rfl (by omega) (by omega) e304 ?_
        have b305 : (-2147483648) ≤ v303 ∧ v303 ≤ 2147483647 := by rw [← e304]; exact hI15.1 53 _
        have k307 : 0 ≤ v303 ∧ v303 ≤ 12 := by omega
        refine fz_if_le (tgt := 1622) kL_law rfl (by decide) (fun c308 => ?_) (fun c308 => ?_)
        · have k309 := st_N_e hI15 hN10
          refine fz_iload_n kL_law rfl rfl ?_
          refine fz_if_le (tgt := 1643) kL_law rfl (by decide) (fun c311 => ?_) (fun c311 => ?_)
          · refine fz_iconst ⟨by decide, by decide⟩ kL_law rfl ?_
            refine fz_istore (ls' := [(7, fz_i (-1)), (0, fz_r 200), (1, fz_r 0), (2, fz_r 53), (3, fz_i tw), (4, fz_l sm), (6, fz_i dd)]) kL_law rfl (by decide) rfl ?_
            refine fz_iload kL_law rfl rfl ?_
            refine fz_if_lt (tgt := 1702) kL_law rfl (by decide) (fun c312 => ?_) (fun c312 => ?_)
            · refine fz_aload_n kL_law rfl rfl ?_
              refine fz_callV (d' := 2) (M' := mX10_back) (As := []) (st := []) kL_law rfl rfl vX10_back rfl rfl rfl rfl (Nat.le_of_ble_eq_true rfl) (Nat.le_of_ble_eq_true rfl) (by decide) (sX10_back H14 hI15  hRT13) (fun H313 r314 q315 o316 => ?_)
              obtain ⟨hI317, hf318, hRT319, y323, rfl, f320, f321, f322⟩ := q315
              clear o316
              have hf324 := fz_fr_tr hf16 hf318 (show fz_su [(40, 1), (40, 2), (40, 3), (40, 4), (40, 5), (41, 99999)] [(1, 7), (1, 8), (2, 99999), (3, 99999), (4, 99999), (5, 99999), (6, 99999), (7, 99999), (8, 99999), (9, 5), (10, 99999), (11, 99999), (12, 99999), (13, 99999), (14, 99999), (15, 4), (16, 99999), (17, 99999), (18, 99999), (19, 99999), (20, 2), (20, 3), (20, 4), (21, 4), (22, 99999), (23, 99999), (26, 99999), (27, 8), (27, 9), (28, 99999), (29, 99999), (30, 99999), (31, 99999), (32, 99999), (33, 3), (33, 4), (33, 5), (33, 6), (33, 7), (34, 99999), (35, 4), (35, 5), (36, 99999), (37, 99999), (38, 99999), (39, 99999), (40, 1), (40, 2), (40, 3), (40, 4), (40, 5), (40, 6), (41, 99999), (42, 99999), (43, 99999), (44, 2), (45, 99999), (48, 99999), (50, 99999), (51, 99999), (52, 99999), (53, 99999)] = true from rfl)
              have hRE325 : fz_RE H313 := fz_RE_eq (funext fun s => hf318 5 s rfl) (funext fun s => hf318 6 s rfl) (hf318 1 8 rfl) (hf318 1 7 rfl) hRE6
              have hRV326 : fz_RV H313 := fz_RV_eq (funext fun s => hf318 7 s rfl) (funext fun s => hf318 8 s rfl) (funext fun s => hf318 3 s rfl) (funext fun s => hf318 4 s rfl) (funext fun s => hf318 5 s rfl) (funext fun s => hf318 6 s rfl) (hf318 1 7 rfl) (hf318 1 8 rfl) hRV7
              have hRP2327 : fz_RP2 H313 := fz_RP2_eq (funext fun s => hf318 11 s rfl) (hf318 9 5 rfl) (hf318 1 7 rfl) hRP28
              have hN328 : st_N tw H313 := st_N_eq (hf318 53 0 rfl) (hf318 53 1 rfl) (hf318 53 2 rfl) (hf318 1 7 rfl) (hf318 1 8 rfl) (hf318 9 5 rfl) (hf318 35 4 rfl) (hf318 20 2 rfl) hN10
              have hL1329 : st_L1 H313 := st_L1_eq (funext fun s => hf318 3 s rfl) (hf318 1 8 rfl) hL111
              have hIm330 : st_Im H313 := st_Im_eq (hf318 40 6 rfl) (funext fun s => hf318 43 s rfl) (funext fun s => hf318 42 s rfl) hIm12
              have hX331 : fz_Xc H313 := fz_Xc_fr hf318 rfl hXq9
              have t332 : H313 9 5 = H14 9 5 := hf318 9 5 rfl
              have t333 : H313 1 7 = H14 1 7 := hf318 1 7 rfl
              have t334 : H313 1 8 = H14 1 8 := hf318 1 8 rfl
              have k335 := st_bk hIm12 f321 f322
              refine fz_if_ne (tgt := 1752) kL_law rfl (by decide) (fun c337 => ?_) (fun c337 => ?_)
              · exfalso; omega
              · refine fz_aload_n kL_law rfl rfl ?_
                refine fz_iconst ⟨by decide, by decide⟩ kL_law rfl ?_
                refine fz_callV (d' := 0) (M' := mX10_led) (As := [fz_i 0]) (st := []) kL_law rfl rfl vX10_led rfl rfl rfl rfl (Nat.le_of_ble_eq_true rfl) (Nat.le_of_ble_eq_true rfl) (by decide) (sX10_led H313 hI317 0 ) (fun H338 r339 q340 o341 => ?_)
                obtain ⟨e342, y345, rfl, f343, f344⟩ := q340
                subst H338
                clear o341
                have k346 := st_le0 f344
                refine fz_if_ne (tgt := 1752) kL_law rfl (by decide) (fun c347 => ?_) (fun c347 => ?_)
                · exfalso; omega
                · refine fz_aload_n kL_law rfl rfl ?_
                  refine fz_iconst ⟨by decide, by decide⟩ kL_law rfl ?_
                  refine fz_callV (d' := 0) (M' := mX10_led) (As := [fz_i 3]) (st := []) kL_law rfl rfl vX10_led rfl rfl rfl rfl (Nat.le_of_ble_eq_true rfl) (Nat.le_of_ble_eq_true rfl) (by decide) (sX10_led H313 hI317 3 ) (fun H348 r349 q350 o351 => ?_)
                  obtain ⟨e352, y355, rfl, f353, f354⟩ := q350
                  subst H348
                  clear o351
                  have k356 := st_le3 f354
                  refine fz_if_ne (tgt := 1752) kL_law rfl (by decide) (fun c357 => ?_) (fun c357 => ?_)
                  · exfalso; omega
                  · refine fz_aload_n kL_law rfl rfl ?_
                    refine fz_iconst ⟨by decide, by decide⟩ kL_law rfl ?_
                    refine fz_bipush ⟨by decide, by decide⟩ kL_law rfl ?_
                    refine fz_callV (d' := 3) (M' := mX10_of) (As := [fz_i 0, fz_i 12]) (st := []) kL_law rfl rfl vX10_of rfl rfl rfl rfl (Nat.le_of_ble_eq_true rfl) (Nat.le_of_ble_eq_true rfl) (by decide) (sX10_of H313 hI317 0 12 ) (fun H358 r359 q360 o361 => ?_)
                    obtain ⟨e362, y365, rfl, f363, f364⟩ := q360
                    subst H358
                    clear o361
                    have k366 := of_12 f364
                    refine fz_if_ne (tgt := 1752) kL_law rfl (by decide) (fun c367 => ?_) (fun c367 => ?_)
                    · exfalso; omega
                    · refine fz_iload kL_law rfl rfl ?_
                      refine fz_if_lt (tgt := 1754) kL_law rfl (by decide) (fun c368 => ?_) (fun c368 => ?_)
                      · refine fz_iconst ⟨by decide, by decide⟩ kL_law rfl ?_
                        refine fz_istore (ls' := [(8, fz_i 0), (7, fz_i (-1)), (0, fz_r 200), (1, fz_r 0), (2, fz_r 53), (3, fz_i tw), (4, fz_l sm), (6, fz_i dd)]) kL_law rfl (by decide) rfl ?_
                        have lp371 : ∀ (n370 : Nat) (x369 : Int), (0 ≤ x369 ∧ x369 ≤ 4) → (4 - x369).toNat < n370 → fz_R 48 mL_law 1757 [(8, fz_i x369), (7, fz_i (-1)), (0, fz_r 200), (1, fz_r 0), (2, fz_r 53), (3, fz_i tw), (4, fz_l sm), (6, fz_i dd)] [] H313 (qL_law h) := by
                          intro n370
                          induction n370 with
                          | zero => intro x369 hv374 hm373; exact absurd hm373 (by omega)
                          | succ n370 ih372 =>
                            intro x369 hv374 hm373
                            refine fz_iload kL_law rfl rfl ?_
                            refine fz_iconst ⟨by decide, by decide⟩ kL_law rfl ?_
                            refine fz_icmp_ge (tgt := 1782) kL_law rfl (by decide) (fun c375 => ?_) (fun c375 => ?_)
                            · refine fz_iload kL_law rfl rfl ?_
                              refine fz_if_ge (tgt := 1797) kL_law rfl (by decide) (fun c376 => ?_) (fun c376 => ?_)
                              · exfalso; omega
                              · refine fz_aload_n kL_law rfl rfl ?_
                                refine fz_callS (d' := 7) (M' := mL_told) (As := [fz_r 0]) (st := []) kL_law rfl rfl vL_told rfl rfl (Nat.le_of_ble_eq_true rfl) (Nat.le_of_ble_eq_true rfl) (by decide) (sL_told H313 hI317  ) (fun H377 r378 q379 o380 => ?_)
                                obtain ⟨hI381, hf382, y385, rfl, f383, f384⟩ := q379
                                clear o380
                                have hf386 := fz_fr_tr hf324 hf382 (show fz_su [(18, 99999), (19, 99999), (29, 99999), (30, 99999), (32, 99999)] [(1, 7), (1, 8), (2, 99999), (3, 99999), (4, 99999), (5, 99999), (6, 99999), (7, 99999), (8, 99999), (9, 5), (10, 99999), (11, 99999), (12, 99999), (13, 99999), (14, 99999), (15, 4), (16, 99999), (17, 99999), (18, 99999), (19, 99999), (20, 2), (20, 3), (20, 4), (21, 4), (22, 99999), (23, 99999), (26, 99999), (27, 8), (27, 9), (28, 99999), (29, 99999), (30, 99999), (31, 99999), (32, 99999), (33, 3), (33, 4), (33, 5), (33, 6), (33, 7), (34, 99999), (35, 4), (35, 5), (36, 99999), (37, 99999), (38, 99999), (39, 99999), (40, 1), (40, 2), (40, 3), (40, 4), (40, 5), (40, 6), (41, 99999), (42, 99999), (43, 99999), (44, 2), (45, 99999), (48, 99999), (50, 99999), (51, 99999), (52, 99999), (53, 99999)] = true from rfl)
                                have hRE387 : fz_RE H377 := fz_RE_eq (funext fun s => hf382 5 s rfl) (funext fun s => hf382 6 s rfl) (hf382 1 8 rfl) (hf382 1 7 rfl) hRE325
                                have hRV388 : fz_RV H377 := fz_RV_eq (funext fun s => hf382 7 s rfl) (funext fun s => hf382 8 s rfl) (funext fun s => hf382 3 s rfl) (funext fun s => hf382 4 s rfl) (funext fun s => hf382 5 s rfl) (funext fun s => hf382 6 s rfl) (hf382 1 7 rfl) (hf382 1 8 rfl) hRV326
                                have hRP2389 : fz_RP2 H377 := fz_RP2_eq (funext fun s => hf382 11 s rfl) (hf382 9 5 rfl) (hf382 1 7 rfl) hRP2327
                                have hN390 : st_N tw H377 := st_N_eq (hf382 53 0 rfl) (hf382 53 1 rfl) (hf382 53 2 rfl) (hf382 1 7 rfl) (hf382 1 8 rfl) (hf382 9 5 rfl) (hf382 35 4 rfl) (hf382 20 2 rfl) hN328
                                have hL1391 : st_L1 H377 := st_L1_eq (funext fun s => hf382 3 s rfl) (hf382 1 8 rfl) hL1329
                                have hIm392 : st_Im H377 := st_Im_eq (hf382 40 6 rfl) (funext fun s => hf382 43 s rfl) (funext fun s => hf382 42 s rfl) hIm330
                                have hRT393 : fz_RT H377 := fz_RT_eq (funext fun s => hf382 41 s rfl) (funext fun s => hf382 42 s rfl) (hf382 1 7 rfl) hRT319
                                have hX394 : fz_Xc H377 := fz_Xc_fr hf382 rfl hX331
                                have t395 : H377 9 5 = H313 9 5 := hf382 9 5 rfl
                                have t396 : H377 1 7 = H313 1 7 := hf382 1 7 rfl
                                have t397 : H377 1 8 = H313 1 8 := hf382 1 8 rfl
                                refine fz_lload kL_law rfl rfl ?_
                                have k398 : y385 = sm := f384.trans ((congrArg st_td (st_nm_end hv23 hZ hIm12 f321 f322 hf318)).trans hS.symm)
                                refine fz_lcmp kL_law rfl ?_
                                have b399 := fz_cmp_c y385 sm
                                refine fz_if_ne (tgt := 1801) kL_law rfl (by decide) (fun c400 => ?_) (fun c400 => ?_)
                                · exfalso; omega
                                · refine fz_iconst ⟨by decide, by decide⟩ kL_law rfl ?_
                                  refine fz_goto (tgt := 1802) kL_law rfl (by decide) ?_
                                  exact fz_zret kL_law rfl rfl (by omega) ⟨hI381, hf386, hX394, hRE387, hRV388, _, rfl, (by omega)⟩
                            · refine fz_aload_n kL_law rfl rfl ?_
                              refine fz_iload kL_law rfl rfl ?_
                              refine fz_bipush ⟨by decide, by decide⟩ kL_law rfl ?_
                              refine fz_callV (d' := 3) (M' := mX10_of) (As := [fz_i x369, fz_i 11]) (st := []) kL_law rfl rfl vX10_of rfl rfl rfl rfl (Nat.le_of_ble_eq_true rfl) (Nat.le_of_ble_eq_true rfl) (by decide) (sX10_of H313 hI317 x369 11 ) (fun H401 r402 q403 o404 => ?_)
                              obtain ⟨e405, y408, rfl, f406, f407⟩ := q403
                              subst H401
                              clear o404
                              have k409 := of_11 f407 (by omega)
                              have k410 := st_bk41 hIm12 f321 (x369).toNat (by omega)
                              refine fz_if_eq (tgt := 1776) kL_law rfl (by decide) (fun c411 => ?_) (fun c411 => ?_)
                              · refine fz_iincN (ls' := [(8, fz_i (x369 + 1)), (7, fz_i (-1)), (0, fz_r 200), (1, fz_r 0), (2, fz_r 53), (3, fz_i tw), (4, fz_l sm), (6, fz_i dd)]) kL_law rfl (by decide) rfl (by omega) rfl ?_
                                refine fz_goto (tgt := 1757) kL_law rfl (by decide) ?_
                                exact ih372 (x369 + 1) (by omega) (by omega)
                              · exfalso; omega
                        exact lp371 _ 0 (by omega) (Nat.lt_succ_self _)
                      · exfalso; omega
            · exfalso; omega
          · refine fz_iload kL_law rfl rfl ?_
            refine fz_bipush ⟨by decide, by decide⟩ kL_law rfl ?_
            refine fz_icmp_ge (tgt := 1643) kL_law rfl (by decide) (fun c412 => ?_) (fun c412 => ?_)
            · exfalso; omega
            · refine fz_aload_n kL_law rfl rfl ?_
              refine fz_bipush ⟨by decide, by decide⟩ kL_law rfl ?_
              refine fz_iconst ⟨by decide, by decide⟩ kL_law rfl ?_
              have k413 := st_RT1 hRT13 (by omega)
              have b415 : 0 ≤ H14 1 7 ∧ H14 1 7 ≤ 8 := hI15.1 1 _
              have b416 : 0 ≤ H14 9 5 ∧ H14 9 5 ≤ 10 := hI15.1 9 _
              have b417 : 0 ≤ H14 40 1 ∧ H14 40 1 ≤ 999 := hI15.1 40 _
              have b418 : (-2147483648) ≤ H14 40 5 ∧ H14 40 5 ≤ 2147483647 := hI15.1 40 _
              refine fz_callV (d' := 2) (M' := mX10_does) (As := [fz_i 12, fz_i 5]) (st := []) kL_law rfl rfl vX10_does rfl rfl rfl rfl (Nat.le_of_ble_eq_true rfl) (Nat.le_of_ble_eq_true rfl) (by decide) (sX10_does H14 hI15 12 5 ) (fun H419 r420 q421 o422 => ?_)
              obtain ⟨hI423, hf424, y430, rfl, f425, f426, f427, f428, f429⟩ := q421
              clear o422
              have hf431 := fz_fr_tr hf16 hf424 (show fz_su [(9, 5), (10, 99999), (11, 99999), (12, 99999), (13, 99999), (14, 99999), (40, 5)] [(1, 7), (1, 8), (2, 99999), (3, 99999), (4, 99999), (5, 99999), (6, 99999), (7, 99999), (8, 99999), (9, 5), (10, 99999), (11, 99999), (12, 99999), (13, 99999), (14, 99999), (15, 4), (16, 99999), (17, 99999), (18, 99999), (19, 99999), (20, 2), (20, 3), (20, 4), (21, 4), (22, 99999), (23, 99999), (26, 99999), (27, 8), (27, 9), (28, 99999), (29, 99999), (30, 99999), (31, 99999), (32, 99999), (33, 3), (33, 4), (33, 5), (33, 6), (33, 7), (34, 99999), (35, 4), (35, 5), (36, 99999), (37, 99999), (38, 99999), (39, 99999), (40, 1), (40, 2), (40, 3), (40, 4), (40, 5), (40, 6), (41, 99999), (42, 99999), (43, 99999), (44, 2), (45, 99999), (48, 99999), (50, 99999), (51, 99999), (52, 99999), (53, 99999)] = true from rfl)
              have hRE432 : fz_RE H419 := fz_RE_eq (funext fun s => hf424 5 s rfl) (funext fun s => hf424 6 s rfl) (hf424 1 8 rfl) (hf424 1 7 rfl) hRE6
              have hRV433 : fz_RV H419 := fz_RV_eq (funext fun s => hf424 7 s rfl) (funext fun s => hf424 8 s rfl) (funext fun s => hf424 3 s rfl) (funext fun s => hf424 4 s rfl) (funext fun s => hf424 5 s rfl) (funext fun s => hf424 6 s rfl) (hf424 1 7 rfl) (hf424 1 8 rfl) hRV7
              have hL1434 : st_L1 H419 := st_L1_eq (funext fun s => hf424 3 s rfl) (hf424 1 8 rfl) hL111
              have hIm435 : st_Im H419 := st_Im_eq (hf424 40 6 rfl) (funext fun s => hf424 43 s rfl) (funext fun s => hf424 42 s rfl) hIm12
              have hRT436 : fz_RT H419 := fz_RT_eq (funext fun s => hf424 41 s rfl) (funext fun s => hf424 42 s rfl) (hf424 1 7 rfl) hRT13
              have hX437 : fz_Xc H419 := fz_Xc_fr hf424 rfl hXq9
              have t438 : H419 1 7 = H14 1 7 := hf424 1 7 rfl
              have t439 : H419 1 8 = H14 1 8 := hf424 1 8 rfl
              have k441 : 0 ≤ y430 ∧ y430 ≤ 8 := by omega
              refine fz_goto (tgt := 1644) kL_law rfl (by decide) ?_
              refine fz_istore (ls' := [(7, fz_i y430), (0, fz_r 200), (1, fz_r 0), (2, fz_r 53), (3, fz_i tw), (4, fz_l sm), (6, fz_i dd)]) kL_law rfl (by decide) rfl ?_
              refine fz_iload kL_law rfl rfl ?_
              refine fz_if_lt (tgt := 1702) kL_law rfl (by decide) (fun c442 => ?_) (fun c442 => ?_)
              · exfalso; omega
              · refine fz_iload kL_law rfl rfl ?_
                refine fz_iload kL_law rfl rfl ?_
                refine fz_icmp_ne (tgt := 1700) kL_law rfl (by decide) (fun c443 => ?_) (fun c443 => ?_)
                · exfalso; omega
                · refine fz_aload_n kL_law rfl rfl ?_
                  refine fz_iload kL_law rfl rfl ?_
                  refine fz_iconst ⟨by decide, by decide⟩ kL_law rfl ?_
                  refine fz_callV (d' := 3) (M' := mX10_of) (As := [fz_i y430, fz_i 3]) (st := []) kL_law rfl rfl vX10_of rfl rfl rfl rfl (Nat.le_of_ble_eq_true rfl) (Nat.le_of_ble_eq_true rfl) (by decide) (sX10_of H419 hI423 y430 3 ) (fun H444 r445 q446 o447 => ?_)
                  obtain ⟨e448, y451, rfl, f449, f450⟩ := q446
                  subst H444
                  clear o447
                  have k452 := of_3 f450 (by omega)
                  refine fz_aload_n kL_law rfl rfl ?_
                  refine fz_iconst ⟨by decide, by decide⟩ kL_law rfl ?_
                  refine fz_callV (d' := 0) (M' := mX10_led) (As := [fz_i 4]) (st := [fz_i y451]) kL_law rfl rfl vX10_led rfl rfl rfl rfl (Nat.le_of_ble_eq_true rfl) (Nat.le_of_ble_eq_true rfl) (by decide) (sX10_led H419 hI423 4 ) (fun H454 r455 q456 o457 => ?_)
                  obtain ⟨e458, y461, rfl, f459, f460⟩ := q456
                  subst H454
                  clear o457
                  have k462 : y451 = y461 := st_d3 f427 (hf424 40 1 rfl) k452 f460 (by omega) (by omega)
                  refine fz_icmp_ne (tgt := 1700) kL_law rfl (by decide) (fun c463 => ?_) (fun c463 => ?_)
                  · exfalso; omega
                  · refine fz_aload_n kL_law rfl rfl ?_
                    refine fz_iload kL_law rfl rfl ?_
                    refine fz_bipush ⟨by decide, by decide⟩ kL_law rfl ?_
                    refine fz_callV (d' := 3) (M' := mX10_of) (As := [fz_i y430, fz_i 10]) (st := []) kL_law rfl rfl vX10_of rfl rfl rfl rfl (Nat.le_of_ble_eq_true rfl) (Nat.le_of_ble_eq_true rfl) (by decide) (sX10_of H419 hI423 y430 10 ) (fun H464 r465 q466 o467 => ?_)
                    obtain ⟨e468, y471, rfl, f469, f470⟩ := q466
                    subst H464
                    clear o467
                    have k472 := of_10 f470 (by omega)
                    refine fz_aload_n kL_law rfl rfl ?_
                    refine fz_iconst ⟨by decide, by decide⟩ kL_law rfl ?_
                    refine fz_bipush ⟨by decide, by decide⟩ kL_law rfl ?_
                    refine fz_callV (d' := 3) (M' := mX10_of) (As := [fz_i 1, fz_i 11]) (st := [fz_i y471]) kL_law rfl rfl vX10_of rfl rfl rfl rfl (Nat.le_of_ble_eq_true rfl) (Nat.le_of_ble_eq_true rfl) (by decide) (sX10_of H419 hI423 1 11 ) (fun H474 r475 q476 o477 => ?_)
                    obtain ⟨e478, y481, rfl, f479, f480⟩ := q476
                    subst H474
                    clear o477
                    have k482 := of_11 f480 (by omega)
                    have k484 : y471 = y481 := st_d10 f427 (funext fun s => hf424 41 s rfl) k472 k482 (by omega) (by omega)
                    refine fz_icmp_ne (tgt := 1700) kL_law rfl (by decide) (fun c485 => ?_) (fun c485 => ?_)
                    · exfalso; omega
                    · refine fz_aload_n kL_law rfl rfl ?_
                      refine fz_iconst ⟨by decide, by decide⟩ kL_law rfl ?_
                      refine fz_callV (d' := 0) (M' := mX10_led) (As := [fz_i 3]) (st := []) kL_law rfl rfl vX10_led rfl rfl rfl rfl (Nat.le_of_ble_eq_true rfl) (Nat.le_of_ble_eq_true rfl) (by decide) (sX10_led H419 hI423 3 ) (fun H486 r487 q488 o489 => ?_)
                      obtain ⟨e490, y493, rfl, f491, f492⟩ := q488
                      subst H486
                      clear o489
                      have k494 := st_d5 f428 (st_wl5 hv23 hZ) f492 (by omega)
                      refine fz_iconst ⟨by decide, by decide⟩ kL_law rfl ?_
                      refine fz_icmp_eq (tgt := 1702) kL_law rfl (by decide) (fun c495 => ?_) (fun c495 => ?_)
                      · refine fz_aload_n kL_law rfl rfl ?_
                        refine fz_callV (d' := 2) (M' := mX10_back) (As := []) (st := []) kL_law rfl rfl vX10_back rfl rfl rfl rfl (Nat.le_of_ble_eq_true rfl) (Nat.le_of_ble_eq_true rfl) (by decide) (sX10_back H419 hI423  hRT436) (fun H496 r497 q498 o499 => ?_)
                        obtain ⟨hI500, hf501, hRT502, y506, rfl, f503, f504, f505⟩ := q498
                        clear o499
                        have hf507 := fz_fr_tr hf431 hf501 (show fz_su [(40, 1), (40, 2), (40, 3), (40, 4), (40, 5), (41, 99999)] [(1, 7), (1, 8), (2, 99999), (3, 99999), (4, 99999), (5, 99999), (6, 99999), (7, 99999), (8, 99999), (9, 5), (10, 99999), (11, 99999), (12, 99999), (13, 99999), (14, 99999), (15, 4), (16, 99999), (17, 99999), (18, 99999), (19, 99999), (20, 2), (20, 3), (20, 4), (21, 4), (22, 99999), (23, 99999), (26, 99999), (27, 8), (27, 9), (28, 99999), (29, 99999), (30, 99999), (31, 99999), (32, 99999), (33, 3), (33, 4), (33, 5), (33, 6), (33, 7), (34, 99999), (35, 4), (35, 5), (36, 99999), (37, 99999), (38, 99999), (39, 99999), (40, 1), (40, 2), (40, 3), (40, 4), (40, 5), (40, 6), (41, 99999), (42, 99999), (43, 99999), (44, 2), (45, 99999), (48, 99999), (50, 99999), (51, 99999), (52, 99999), (53, 99999)] = true from rfl)
                        have hRE508 : fz_RE H496 := fz_RE_eq (funext fun s => hf501 5 s rfl) (funext fun s => hf501 6 s rfl) (hf501 1 8 rfl) (hf501 1 7 rfl) hRE432
                        have hRV509 : fz_RV H496 := fz_RV_eq (funext fun s => hf501 7 s rfl) (funext fun s => hf501 8 s rfl) (funext fun s => hf501 3 s rfl) (funext fun s => hf501 4 s rfl) (funext fun s => hf501 5 s rfl) (funext fun s => hf501 6 s rfl) (hf501 1 7 rfl) (hf501 1 8 rfl) hRV433
                        have hL1510 : st_L1 H496 := st_L1_eq (funext fun s => hf501 3 s rfl) (hf501 1 8 rfl) hL1434
                        have hIm511 : st_Im H496 := st_Im_eq (hf501 40 6 rfl) (funext fun s => hf501 43 s rfl) (funext fun s => hf501 42 s rfl) hIm435
                        have hX512 : fz_Xc H496 := fz_Xc_fr hf501 rfl hX437
                        have t513 : H496 9 5 = H419 9 5 := hf501 9 5 rfl
                        have t514 : H496 1 7 = H419 1 7 := hf501 1 7 rfl
                        have t515 : H496 1 8 = H419 1 8 := hf501 1 8 rfl
                        have k516 := st_bk hIm435 f504 f505
                        refine fz_if_ne (tgt := 1752) kL_law rfl (by decide) (fun c518 => ?_) (fun c518 => ?_)
                        · exfalso; omega
                        · refine fz_aload_n kL_law rfl rfl ?_
                          refine fz_iconst ⟨by decide, by decide⟩ kL_law rfl ?_
                          refine fz_callV (d' := 0) (M' := mX10_led) (As := [fz_i 0]) (st := []) kL_law rfl rfl vX10_led rfl rfl rfl rfl (Nat.le_of_ble_eq_true rfl) (Nat.le_of_ble_eq_true rfl) (by decide) (sX10_led H496 hI500 0 ) (fun H519 r520 q521 o522 => ?_)
                          obtain ⟨e523, y526, rfl, f524, f525⟩ := q521
                          subst H519
                          clear o522
                          have k527 := st_le0 f525
                          refine fz_if_ne (tgt := 1752) kL_law rfl (by decide) (fun c528 => ?_) (fun c528 => ?_)
                          · exfalso; omega
                          · refine fz_aload_n kL_law rfl rfl ?_
                            refine fz_iconst ⟨by decide, by decide⟩ kL_law rfl ?_
                            refine fz_callV (d' := 0) (M' := mX10_led) (As := [fz_i 3]) (st := []) kL_law rfl rfl vX10_led rfl rfl rfl rfl (Nat.le_of_ble_eq_true rfl) (Nat.le_of_ble_eq_true rfl) (by decide) (sX10_led H496 hI500 3 ) (fun H529 r530 q531 o532 => ?_)
                            obtain ⟨e533, y536, rfl, f534, f535⟩ := q531
                            subst H529
                            clear o532
                            have k537 := st_le3 f535
                            refine fz_if_ne (tgt := 1752) kL_law rfl (by decide) (fun c538 => ?_) (fun c538 => ?_)
                            · exfalso; omega
                            · refine fz_aload_n kL_law rfl rfl ?_
                              refine fz_iconst ⟨by decide, by decide⟩ kL_law rfl ?_
                              refine fz_bipush ⟨by decide, by decide⟩ kL_law rfl ?_
                              refine fz_callV (d' := 3) (M' := mX10_of) (As := [fz_i 0, fz_i 12]) (st := []) kL_law rfl rfl vX10_of rfl rfl rfl rfl (Nat.le_of_ble_eq_true rfl) (Nat.le_of_ble_eq_true rfl) (by decide) (sX10_of H496 hI500 0 12 ) (fun H539 r540 q541 o542 => ?_)
                              obtain ⟨e543, y546, rfl, f544, f545⟩ := q541
                              subst H539
                              clear o542
                              have k547 := of_12 f545
                              refine fz_if_ne (tgt := 1752) kL_law rfl (by decide) (fun c548 => ?_) (fun c548 => ?_)
                              · exfalso; omega
                              · refine fz_iload kL_law rfl rfl ?_
                                refine fz_if_lt (tgt := 1754) kL_law rfl (by decide) (fun c549 => ?_) (fun c549 => ?_)
                                · exfalso; omega
                                · refine fz_aload_n kL_law rfl rfl ?_
                                  refine fz_iconst ⟨by decide, by decide⟩ kL_law rfl ?_
                                  have b550 : 0 ≤ H496 1 7 ∧ H496 1 7 ≤ 8 := hI500.1 1 _
                                  have b551 : 0 ≤ H496 1 8 ∧ H496 1 8 ≤ 12 := hI500.1 1 _
                                  have b552 : 0 ≤ H496 9 5 ∧ H496 9 5 ≤ 10 := hI500.1 9 _
                                  have b553 : 0 ≤ H496 20 2 ∧ H496 20 2 ≤ 120 := hI500.1 20 _
                                  have b554 : 0 ≤ H496 35 4 ∧ H496 35 4 ≤ 40 := hI500.1 35 _
                                  have b555 : 0 ≤ H496 44 2 ∧ H496 44 2 ≤ 50 := hI500.1 44 _
                                  have e556 : H496 44 3 = h 44 3 := hf507 44 3 rfl
                                  refine fz_callV (d' := 0) (M' := mX10_count) (As := [fz_i 2]) (st := []) kL_law rfl rfl vX10_count rfl rfl rfl rfl (Nat.le_of_ble_eq_true rfl) (Nat.le_of_ble_eq_true rfl) (by decide) (sX10_count H496 hI500 2 ) (fun H557 r558 q559 o560 => ?_)
                                  obtain ⟨e561, y564, rfl, f562, f563⟩ := q559
                                  subst H557
                                  clear o560
                                  refine fz_iload kL_law rfl rfl ?_
                                  refine fz_iconst ⟨by decide, by decide⟩ kL_law rfl ?_
                                  refine fz_iaddN kL_law rfl (by omega) ?_
                                  refine fz_icmp_eq (tgt := 1754) kL_law rfl (by decide) (fun c565 => ?_) (fun c565 => ?_)
                                  · refine fz_iconst ⟨by decide, by decide⟩ kL_law rfl ?_
                                    refine fz_istore (ls' := [(8, fz_i 0), (7, fz_i y430), (0, fz_r 200), (1, fz_r 0), (2, fz_r 53), (3, fz_i tw), (4, fz_l sm), (6, fz_i dd)]) kL_law rfl (by decide) rfl ?_
                                    have lp568 : ∀ (n567 : Nat) (x566 : Int), (0 ≤ x566 ∧ x566 ≤ 4) → (4 - x566).toNat < n567 → fz_R 48 mL_law 1757 [(8, fz_i x566), (7, fz_i y430), (0, fz_r 200), (1, fz_r 0), (2, fz_r 53), (3, fz_i tw), (4, fz_l sm), (6, fz_i dd)] [] H496 (qL_law h) := by
                                      intro n567
                                      induction n567 with
                                      | zero => intro x566 hv571 hm570; exact absurd hm570 (by omega)
                                      | succ n567 ih569 =>
                                        intro x566 hv571 hm570
                                        refine fz_iload kL_law rfl rfl ?_
                                        refine fz_iconst ⟨by decide, by decide⟩ kL_law rfl ?_
                                        refine fz_icmp_ge (tgt := 1782) kL_law rfl (by decide) (fun c572 => ?_) (fun c572 => ?_)
                                        · refine fz_iload kL_law rfl rfl ?_
                                          refine fz_if_ge (tgt := 1797) kL_law rfl (by decide) (fun c573 => ?_) (fun c573 => ?_)
                                          · refine fz_iconst ⟨by decide, by decide⟩ kL_law rfl ?_
                                            refine fz_goto (tgt := 1802) kL_law rfl (by decide) ?_
                                            exact fz_zret kL_law rfl rfl (by omega) ⟨hI500, hf507, hX512, hRE508, hRV509, _, rfl, (by omega)⟩
                                          · exfalso; omega
                                        · refine fz_aload_n kL_law rfl rfl ?_
                                          refine fz_iload kL_law rfl rfl ?_
                                          refine fz_bipush ⟨by decide, by decide⟩ kL_law rfl ?_
                                          refine fz_callV (d' := 3) (M' := mX10_of) (As := [fz_i x566, fz_i 11]) (st := []) kL_law rfl rfl vX10_of rfl rfl rfl rfl (Nat.le_of_ble_eq_true rfl) (Nat.le_of_ble_eq_true rfl) (by decide) (sX10_of H496 hI500 x566 11 ) (fun H574 r575 q576 o577 => ?_)
                                          obtain ⟨e578, y581, rfl, f579, f580⟩ := q576
                                          subst H574
                                          clear o577
                                          have k582 := of_11 f580 (by omega)
                                          have k583 := st_bk41 hIm435 f504 (x566).toNat (by omega)
                                          refine fz_if_eq (tgt := 1776) kL_law rfl (by decide) (fun c584 => ?_) (fun c584 => ?_)
                                          · refine fz_iincN (ls' := [(8, fz_i (x566 + 1)), (7, fz_i y430), (0, fz_r 200), (1, fz_r 0), (2, fz_r 53), (3, fz_i tw), (4, fz_l sm), (6, fz_i dd)]) kL_law rfl (by decide) rfl (by omega) rfl ?_
                                            refine fz_goto (tgt := 1757) kL_law rfl (by decide) ?_
                                            exact ih569 (x566 + 1) (by omega) (by omega)
                                          · exfalso; omega
                                    exact lp568 _ 0 (by omega) (Nat.lt_succ_self _)
                                  · exfalso; omega
                      · exfalso; omega
        · refine fz_aload_n kL_law rfl rfl ?_
          refine fz_aload_n kL_law rfl rfl ?_
          refine fz_bipush ⟨by decide, by decide⟩ kL_law rfl ?_
          have e585 : H14 200 100000 = h 200 100000 := hf16 200 100000 rfl
          refine fz_callS (d' := 0) (M' := mL_at) (As := [fz_r 200, fz_i 26]) (st := [fz_r 0]) kL_law rfl rfl vL_at rfl rfl (Nat.le_of_ble_eq_true rfl) (Nat.le_of_ble_eq_true rfl) (by decide) (sL_at H14 hI15 26 (by omega) (by omega)) (fun H586 r587 q588 o589 => ?_)
          obtain ⟨e590, y592, rfl, f591⟩ := q588
          subst H586
          clear o589
          refine fz_iload kL_law rfl rfl ?_
          refine fz_ishr kL_law rfl ?_
          have b593 : -2147483648 ≤ (fz_shr y592 x5) ∧ (fz_shr y592 x5) < 2147483648 := fz_b32 _
          refine fz_iconst ⟨by decide, by decide⟩ kL_law rfl ?_
          refine fz_callS (d' := 0) (M' := mL_some) (As := [fz_i (fz_shr y592 x5), fz_i 4]) (st := [fz_r 0]) kL_law rfl rfl vL_some rfl rfl (Nat.le_of_ble_eq_true rfl) (Nat.le_of_ble_eq_true rfl) (by decide) (sL_some H14 hI15 (fz_shr y592 x5) 4 (by omega)) (fun H595 r596 q597 o598 => ?_)
          obtain ⟨e599, y603, rfl, f600, f601, f602⟩ := q597
          subst H595
          clear o598
          refine fz_aload_n kL_law rfl rfl ?_
          refine fz_bipush ⟨by decide, by decide⟩ kL_law rfl ?_
          refine fz_callS (d' := 0) (M' := mL_at) (As := [fz_r 200, fz_i 27]) (st := [fz_i y603, fz_r 0]) kL_law rfl rfl vL_at rfl rfl (Nat.le_of_ble_eq_true rfl) (Nat.le_of_ble_eq_true rfl) (by decide) (sL_at H14 hI15 27 (by omega) (by omega)) (fun H604 r605 q606 o607 => ?_)
          obtain ⟨e608, y610, rfl, f609⟩ := q606
          subst H604
          clear o607
          refine fz_iload kL_law rfl rfl ?_
          refine fz_ishr kL_law rfl ?_
          have b611 : -2147483648 ≤ (fz_shr y610 x5) ∧ (fz_shr y610 x5) < 2147483648 := fz_b32 _
          refine fz_aload_n kL_law rfl rfl ?_
          refine fz_iconst ⟨by decide, by decide⟩ kL_law rfl ?_
          obtain ⟨v613, e614⟩ : ∃ z, H14 53 (1) = z := ⟨_, rfl⟩
          refine fz_ialdV (n := 40) (v := v613) kL_law rfl rfl (by omega) (by omega) e614 ?_
          have b615 : (-2147483648) ≤ v613 ∧ v613 ≤ 2147483647 := by rw [← e614]; exact hI15.1 53 _
          have k617 : 1 ≤ v613 ∧ v613 ≤ 12 := by omega
          refine fz_callS (d' := 0) (M' := mL_some) (As := [fz_i (fz_shr y610 x5), fz_i v613]) (st := [fz_i y603, fz_r 0]) kL_law rfl rfl vL_some rfl rfl (Nat.le_of_ble_eq_true rfl) (Nat.le_of_ble_eq_true rfl) (by decide) (sL_some H14 hI15 (fz_shr y610 x5) v613 (by omega)) (fun H618 r619 q620 o621 => ?_)
          obtain ⟨e622, y626, rfl, f623, f624, f625⟩ := q620
          subst H618
          clear o621
          have b627 : 0 ≤ H14 1 7 ∧ H14 1 7 ≤ 8 := hI15.1 1 _
          refine fz_callV (d' := 5) (M' := mX10_walk) (As := [fz_i y603, fz_i y626]) (st := []) kL_law rfl rfl vX10_walk rfl rfl rfl rfl (Nat.le_of_ble_eq_true rfl) (Nat.le_of_ble_eq_true rfl) (by decide) (sX10_walk H14 hI15 y603 y626 hRT13 hRE6) (fun H628 r629 q630 o631 => ?_)
          obtain ⟨hI632, hf633, hRT634, hRE635, y641, rfl, f636, f637, f638, f639, f640⟩ := q630
          clear o631
          have hf642 := fz_fr_tr hf16 hf633 (show fz_su [(18, 99999), (19, 99999), (29, 99999), (40, 1), (40, 2), (40, 3), (40, 4), (41, 99999)] [(1, 7), (1, 8), (2, 99999), (3, 99999), (4, 99999), (5, 99999), (6, 99999), (7, 99999), (8, 99999), (9, 5), (10, 99999), (11, 99999), (12, 99999), (13, 99999), (14, 99999), (15, 4), (16, 99999), (17, 99999), (18, 99999), (19, 99999), (20, 2), (20, 3), (20, 4), (21, 4), (22, 99999), (23, 99999), (26, 99999), (27, 8), (27, 9), (28, 99999), (29, 99999), (30, 99999), (31, 99999), (32, 99999), (33, 3), (33, 4), (33, 5), (33, 6), (33, 7), (34, 99999), (35, 4), (35, 5), (36, 99999), (37, 99999), (38, 99999), (39, 99999), (40, 1), (40, 2), (40, 3), (40, 4), (40, 5), (40, 6), (41, 99999), (42, 99999), (43, 99999), (44, 2), (45, 99999), (48, 99999), (50, 99999), (51, 99999), (52, 99999), (53, 99999)] = true from rfl)
          have hRV643 : fz_RV H628 := fz_RV_eq (funext fun s => hf633 7 s rfl) (funext fun s => hf633 8 s rfl) (funext fun s => hf633 3 s rfl) (funext fun s => hf633 4 s rfl) (funext fun s => hf633 5 s rfl) (funext fun s => hf633 6 s rfl) (hf633 1 7 rfl) (hf633 1 8 rfl) hRV7
          have hRP2644 : fz_RP2 H628 := fz_RP2_eq (funext fun s => hf633 11 s rfl) (hf633 9 5 rfl) (hf633 1 7 rfl) hRP28
          have hN645 : st_N tw H628 := st_N_eq (hf633 53 0 rfl) (hf633 53 1 rfl) (hf633 53 2 rfl) (hf633 1 7 rfl) (hf633 1 8 rfl) (hf633 9 5 rfl) (hf633 35 4 rfl) (hf633 20 2 rfl) hN10
          have hL1646 : st_L1 H628 := st_L1_eq (funext fun s => hf633 3 s rfl) (hf633 1 8 rfl) hL111
          have hIm647 : st_Im H628 := st_Im_eq (hf633 40 6 rfl) (funext fun s => hf633 43 s rfl) (funext fun s => hf633 42 s rfl) hIm12
          have hX648 : fz_Xc H628 := fz_Xc_fr hf633 rfl hXq9
          have t649 : H628 9 5 = H14 9 5 := hf633 9 5 rfl
          have t650 : H628 1 7 = H14 1 7 := hf633 1 7 rfl
          have t651 : H628 1 8 = H14 1 8 := hf633 1 8 rfl
          refine fz_pop rfl kL_law rfl ?_
          refine fz_iincN (ls' := [(7, fz_i (x5 + 1)), (0, fz_r 200), (1, fz_r 0), (2, fz_r 53), (3, fz_i tw), (4, fz_l sm), (6, fz_i dd)]) kL_law rfl (by decide) rfl (by omega) rfl ?_
          refine fz_goto (tgt := 1570) kL_law rfl (by decide) ?_
          exact ih19 (x5 + 1) H628 hI632 hf642 hRE635 hRV643 hRP2644 hX648 hN645 hL1646 hIm647 hRT634 (by omega) (by omega) (st_wl_s hv23 hf633 f637) (by omega)
  exact lp18 _ 0 H hI hf hRE hRV hRP2 hX hN hL1 hIm hRT1 (by omega) (by omega) (st_wl_0) (Nat.lt_succ_self _)

set_option maxHeartbeats 1000000 in
set_option maxRecDepth 100000 in
theorem sL_l1548 (h H : fz_H) (tw sm : Int) (hI : fz_Iv H) (hf : fz_fr [(1, 7), (1, 8), (2, 99999), (3, 99999), (4, 99999), (5, 99999), (6, 99999), (7, 99999), (8, 99999), (9, 5), (10, 99999), (11, 99999), (12, 99999), (13, 99999), (14, 99999), (15, 4), (16, 99999), (17, 99999), (18, 99999), (19, 99999), (20, 2), (20, 3), (20, 4), (21, 4), (22, 99999), (23, 99999), (26, 99999), (27, 8), (27, 9), (28, 99999), (29, 99999), (30, 99999), (31, 99999), (32, 99999), (33, 3), (33, 4), (33, 5), (33, 6), (33, 7), (34, 99999), (35, 4), (35, 5), (36, 99999), (37, 99999), (38, 99999), (39, 99999), (40, 1), (40, 2), (40, 3), (40, 4), (40, 5), (40, 6), (41, 99999), (42, 99999), (43, 99999), (44, 2), (45, 99999), (48, 99999), (50, 99999), (51, 99999), (52, 99999), (53, 99999)] h H) (hX : fz_Xc H) (hRE : fz_RE H) (hRV : fz_RV H) (hRP2 : fz_RP2 H) (hN : st_N tw H) (hS : st_S sm H) (hL1 : st_L1 H) (hZ : st_Z H) (hIm : st_Im H) (hp0 : 0 ≤ h 200 100000 ∧ h 200 100000 ≤ 3072) (hq0 : 0 ≤ tw ∧ tw ≤ 8) : fz_R 48 mL_law 1548 [(0, fz_r 200), (1, fz_r 0), (2, fz_r 53), (3, fz_i tw), (4, fz_l sm)] [] H (qL_law h) := by
  refine fz_aload_n kL_law rfl rfl ?_
  refine fz_callS (d' := 7) (M' := mL_told) (As := [fz_r 0]) (st := []) kL_law rfl rfl vL_told rfl rfl (Nat.le_of_ble_eq_true rfl) (Nat.le_of_ble_eq_true rfl) (by decide) (sL_told H hI  ) (fun H1 r2 q3 o4 => ?_)
  obtain ⟨hI5, hf6, y9, rfl, f7, f8⟩ := q3
  clear o4
  have hf10 := fz_fr_tr hf hf6 (show fz_su [(18, 99999), (19, 99999), (29, 99999), (30, 99999), (32, 99999)] [(1, 7), (1, 8), (2, 99999), (3, 99999), (4, 99999), (5, 99999), (6, 99999), (7, 99999), (8, 99999), (9, 5), (10, 99999), (11, 99999), (12, 99999), (13, 99999), (14, 99999), (15, 4), (16, 99999), (17, 99999), (18, 99999), (19, 99999), (20, 2), (20, 3), (20, 4), (21, 4), (22, 99999), (23, 99999), (26, 99999), (27, 8), (27, 9), (28, 99999), (29, 99999), (30, 99999), (31, 99999), (32, 99999), (33, 3), (33, 4), (33, 5), (33, 6), (33, 7), (34, 99999), (35, 4), (35, 5), (36, 99999), (37, 99999), (38, 99999), (39, 99999), (40, 1), (40, 2), (40, 3), (40, 4), (40, 5), (40, 6), (41, 99999), (42, 99999), (43, 99999), (44, 2), (45, 99999), (48, 99999), (50, 99999), (51, 99999), (52, 99999), (53, 99999)] = true from rfl)
  have hRE11 : fz_RE H1 := fz_RE_eq (funext fun s => hf6 5 s rfl) (funext fun s => hf6 6 s rfl) (hf6 1 8 rfl) (hf6 1 7 rfl) hRE
  have hRV12 : fz_RV H1 := fz_RV_eq (funext fun s => hf6 7 s rfl) (funext fun s => hf6 8 s rfl) (funext fun s => hf6 3 s rfl) (funext fun s => hf6 4 s rfl) (funext fun s => hf6 5 s rfl) (funext fun s => hf6 6 s rfl) (hf6 1 7 rfl) (hf6 1 8 rfl) hRV
  have hRP213 : fz_RP2 H1 := fz_RP2_eq (funext fun s => hf6 11 s rfl) (hf6 9 5 rfl) (hf6 1 7 rfl) hRP2
  have hN14 : st_N tw H1 := st_N_eq (hf6 53 0 rfl) (hf6 53 1 rfl) (hf6 53 2 rfl) (hf6 1 7 rfl) (hf6 1 8 rfl) (hf6 9 5 rfl) (hf6 35 4 rfl) (hf6 20 2 rfl) hN
  have hL115 : st_L1 H1 := st_L1_eq (funext fun s => hf6 3 s rfl) (hf6 1 8 rfl) hL1
  have hZ16 : st_Z H1 := st_Z_eq (hf6 40 1 rfl) (hf6 40 2 rfl) (hf6 40 3 rfl) (hf6 40 4 rfl) (hf6 40 5 rfl) (funext fun s => hf6 41 s rfl) hZ
  have hIm17 : st_Im H1 := st_Im_eq (hf6 40 6 rfl) (funext fun s => hf6 43 s rfl) (funext fun s => hf6 42 s rfl) hIm
  have hX18 : fz_Xc H1 := fz_Xc_fr hf6 rfl hX
  have t19 : H1 9 5 = H 9 5 := hf6 9 5 rfl
  have t20 : H1 1 7 = H 1 7 := hf6 1 7 rfl
  have t21 : H1 1 8 = H 1 8 := hf6 1 8 rfl
  have nm22 : fz_nm H1 = fz_nm H := (fz_nm_fr rfl hf6).trans rfl
  have hS23 : st_S sm H1 := st_S_fr rfl hf6 hS
  refine fz_lload kL_law rfl rfl ?_
  have k24 := st_S_t hS f8
  refine fz_lcmp kL_law rfl ?_
  have b25 := fz_cmp_c y9 sm
  refine fz_if_eq (tgt := 1560) kL_law rfl (by decide) (fun c26 => ?_) (fun c26 => ?_)
  · refine fz_aload_n kL_law rfl rfl ?_
    refine fz_iconst ⟨by decide, by decide⟩ kL_law rfl ?_
    have k27 := st_N_e hI5 hN14
    have b28 : 0 ≤ H1 1 7 ∧ H1 1 7 ≤ 8 := hI5.1 1 _
    have b29 : 0 ≤ H1 1 8 ∧ H1 1 8 ≤ 12 := hI5.1 1 _
    have b30 : 0 ≤ H1 9 5 ∧ H1 9 5 ≤ 10 := hI5.1 9 _
    have b31 : 0 ≤ H1 20 2 ∧ H1 20 2 ≤ 120 := hI5.1 20 _
    have b32 : 0 ≤ H1 35 4 ∧ H1 35 4 ≤ 40 := hI5.1 35 _
    have b33 : 0 ≤ H1 44 2 ∧ H1 44 2 ≤ 50 := hI5.1 44 _
    have e34 : H1 44 3 = h 44 3 := hf10 44 3 rfl
    refine fz_callV (d' := 0) (M' := mX10_count) (As := [fz_i 2]) (st := []) kL_law rfl rfl vX10_count rfl rfl rfl rfl (Nat.le_of_ble_eq_true rfl) (Nat.le_of_ble_eq_true rfl) (by decide) (sX10_count H1 hI5 2 ) (fun H35 r36 q37 o38 => ?_)
    obtain ⟨e39, y42, rfl, f40, f41⟩ := q37
    subst H35
    clear o38
    have k44 : 0 ≤ y42 ∧ y42 ≤ 8 := by omega
    refine fz_istore (ls' := [(6, fz_i y42), (0, fz_r 200), (1, fz_r 0), (2, fz_r 53), (3, fz_i tw), (4, fz_l sm)]) kL_law rfl (by decide) rfl ?_
    refine fz_sub (fz_pk_sub (ls' := [(0, fz_r 200), (1, fz_r 0), (2, fz_r 53), (3, fz_i tw), (4, fz_l sm), (6, fz_i y42)]) [1, 2, 3, 4, 5, 0] rfl) ?_
    exact sL_l1567 h H1 tw sm y42 hI5 hf10 hX18 hRE11 hRV12 hRP213 hN14 hS23 hL115 hZ16 hIm17 hp0 (by omega) (by omega)
  · exfalso; omega

set_option maxHeartbeats 1000000 in
set_option maxRecDepth 100000 in
theorem sL_l959 (h H : fz_H) (tw sm p : Int) (hI : fz_Iv H) (hf : fz_fr [(1, 7), (1, 8), (2, 99999), (3, 99999), (4, 99999), (5, 99999), (6, 99999), (7, 99999), (8, 99999), (9, 5), (10, 99999), (11, 99999), (12, 99999), (13, 99999), (14, 99999), (15, 4), (16, 99999), (17, 99999), (18, 99999), (19, 99999), (20, 2), (20, 3), (20, 4), (21, 4), (22, 99999), (23, 99999), (26, 99999), (27, 8), (27, 9), (28, 99999), (29, 99999), (30, 99999), (31, 99999), (32, 99999), (33, 3), (33, 4), (33, 5), (33, 6), (33, 7), (34, 99999), (35, 4), (35, 5), (36, 99999), (37, 99999), (38, 99999), (39, 99999), (40, 1), (40, 2), (40, 3), (40, 4), (40, 5), (40, 6), (41, 99999), (42, 99999), (43, 99999), (44, 2), (45, 99999), (48, 99999), (50, 99999), (51, 99999), (52, 99999), (53, 99999)] h H) (hX : fz_Xc H) (hRE : fz_RE H) (hRV : fz_RV H) (hRP2 : fz_RP2 H) (hN : st_N tw H) (hS : st_S sm H) (hL1 : st_L1 H) (hZ : st_Z H) (hIm : st_Im H) (hp0 : 0 ≤ h 200 100000 ∧ h 200 100000 ≤ 3072) (hq0 : 0 ≤ tw ∧ tw ≤ 8) (hq1 : 0 ≤ p ∧ p ≤ 3) (hq2 : 0 < tw) (k : ∀ (G : fz_H) (hr t th mk rc : Int), fz_Iv G → fz_fr [(1, 7), (1, 8), (2, 99999), (3, 99999), (4, 99999), (5, 99999), (6, 99999), (7, 99999), (8, 99999), (9, 5), (10, 99999), (11, 99999), (12, 99999), (13, 99999), (14, 99999), (15, 4), (16, 99999), (17, 99999), (18, 99999), (19, 99999), (20, 2), (20, 3), (20, 4), (21, 4), (22, 99999), (23, 99999), (26, 99999), (27, 8), (27, 9), (28, 99999), (29, 99999), (30, 99999), (31, 99999), (32, 99999), (33, 3), (33, 4), (33, 5), (33, 6), (33, 7), (34, 99999), (35, 4), (35, 5), (36, 99999), (37, 99999), (38, 99999), (39, 99999), (40, 1), (40, 2), (40, 3), (40, 4), (40, 5), (40, 6), (41, 99999), (42, 99999), (43, 99999), (44, 2), (45, 99999), (48, 99999), (50, 99999), (51, 99999), (52, 99999), (53, 99999)] h G → fz_Xc G → fz_RE G → fz_RV G → fz_RP2 G → st_N tw G → st_S sm G → st_L1 G → st_Z G → st_Im G → st_W p t hr mk rc G → (0 ≤ p ∧ p ≤ 3) → (0 ≤ hr ∧ hr ≤ 299) → (0 ≤ t ∧ t < tw) → (th = 1000 * t + hr) → (0 ≤ mk ∧ mk ≤ 5) → fz_R 48 mL_law 1095 [(0, fz_r 200), (1, fz_r 0), (2, fz_r 53), (3, fz_i tw), (4, fz_l sm), (6, fz_i p), (7, fz_i hr), (8, fz_i t), (9, fz_i th), (10, fz_i mk), (11, fz_i rc)] [] G (qL_law h)) : fz_R 48 mL_law 959 [(0, fz_r 200), (1, fz_r 0), (2, fz_r 53), (3, fz_i tw), (4, fz_l sm), (6, fz_i p)] [] H (qL_law h) := by
  have k1 := st_N_e hI hN
  refine fz_aload_n kL_law rfl rfl ?_
  refine fz_bipush ⟨by decide, by decide⟩ kL_law rfl ?_
  refine fz_iload kL_law rfl rfl ?_
  refine fz_iaddN kL_law rfl (by omega) ?_
  have e2 : H 200 100000 = h 200 100000 := hf 200 100000 rfl
  refine fz_callS (d' := 0) (M' := mL_at) (As := [fz_r 200, fz_i (22 + p)]) (st := []) kL_law rfl rfl vL_at rfl rfl (Nat.le_of_ble_eq_true rfl) (Nat.le_of_ble_eq_true rfl) (by decide) (sL_at H hI (22 + p) (by omega) (by omega)) (fun H3 r4 q5 o6 => ?_)
  obtain ⟨e7, y9, rfl, f8⟩ := q5
  subst H3
  clear o6
  refine fz_sipush ⟨by decide, by decide⟩ kL_law rfl ?_
  refine fz_callS (d' := 0) (M' := mL_some) (As := [fz_i y9, fz_i 300]) (st := []) kL_law rfl rfl vL_some rfl rfl (Nat.le_of_ble_eq_true rfl) (Nat.le_of_ble_eq_true rfl) (by decide) (sL_some H hI y9 300 (by omega)) (fun H10 r11 q12 o13 => ?_)
  obtain ⟨e14, y18, rfl, f15, f16, f17⟩ := q12
  subst H10
  clear o13
  refine fz_istore (ls' := [(7, fz_i y18), (0, fz_r 200), (1, fz_r 0), (2, fz_r 53), (3, fz_i tw), (4, fz_l sm), (6, fz_i p)]) kL_law rfl (by decide) rfl ?_
  refine fz_aload_n kL_law rfl rfl ?_
  refine fz_bipush ⟨by decide, by decide⟩ kL_law rfl ?_
  refine fz_iload kL_law rfl rfl ?_
  refine fz_iaddN kL_law rfl (by omega) ?_
  refine fz_callS (d' := 0) (M' := mL_at) (As := [fz_r 200, fz_i (22 + p)]) (st := []) kL_law rfl rfl vL_at rfl rfl (Nat.le_of_ble_eq_true rfl) (Nat.le_of_ble_eq_true rfl) (by decide) (sL_at H hI (22 + p) (by omega) (by omega)) (fun H19 r20 q21 o22 => ?_)
  obtain ⟨e23, y25, rfl, f24⟩ := q21
  subst H19
  clear o22
  refine fz_bipush ⟨by decide, by decide⟩ kL_law rfl ?_
  refine fz_ishr kL_law rfl ?_
  have b26 : -2147483648 ≤ (fz_shr y25 9) ∧ (fz_shr y25 9) < 2147483648 := fz_b32 _
  refine fz_iload_n kL_law rfl rfl ?_
  refine fz_callS (d' := 0) (M' := mL_some) (As := [fz_i (fz_shr y25 9), fz_i tw]) (st := []) kL_law rfl rfl vL_some rfl rfl (Nat.le_of_ble_eq_true rfl) (Nat.le_of_ble_eq_true rfl) (by decide) (sL_some H hI (fz_shr y25 9) tw (by omega)) (fun H28 r29 q30 o31 => ?_)
  obtain ⟨e32, y36, rfl, f33, f34, f35⟩ := q30
  subst H28
  clear o31
  refine fz_istore (ls' := [(8, fz_i y36), (7, fz_i y18), (0, fz_r 200), (1, fz_r 0), (2, fz_r 53), (3, fz_i tw), (4, fz_l sm), (6, fz_i p)]) kL_law rfl (by decide) rfl ?_
  refine fz_sipush ⟨by decide, by decide⟩ kL_law rfl ?_
  refine fz_iload kL_law rfl rfl ?_
  refine fz_imulN kL_law rfl (by omega) ?_
  refine fz_iload kL_law rfl rfl ?_
  refine fz_iaddN kL_law rfl (by omega) ?_
  refine fz_istore (ls' := [(9, fz_i ((1000 * y36) + y18)), (8, fz_i y36), (7, fz_i y18), (0, fz_r 200), (1, fz_r 0), (2, fz_r 53), (3, fz_i tw), (4, fz_l sm), (6, fz_i p)]) kL_law rfl (by decide) rfl ?_
  refine fz_iconst ⟨by decide, by decide⟩ kL_law rfl ?_
  refine fz_istore (ls' := [(10, fz_i 0), (9, fz_i ((1000 * y36) + y18)), (8, fz_i y36), (7, fz_i y18), (0, fz_r 200), (1, fz_r 0), (2, fz_r 53), (3, fz_i tw), (4, fz_l sm), (6, fz_i p)]) kL_law rfl (by decide) rfl ?_
  refine fz_iconst ⟨by decide, by decide⟩ kL_law rfl ?_
  refine fz_istore (ls' := [(11, fz_i 0), (10, fz_i 0), (9, fz_i ((1000 * y36) + y18)), (8, fz_i y36), (7, fz_i y18), (0, fz_r 200), (1, fz_r 0), (2, fz_r 53), (3, fz_i tw), (4, fz_l sm), (6, fz_i p)]) kL_law rfl (by decide) rfl ?_
  refine fz_aload_n kL_law rfl rfl ?_
  refine fz_iconst ⟨by decide, by decide⟩ kL_law rfl ?_
  refine fz_iconst ⟨by decide, by decide⟩ kL_law rfl ?_
  refine fz_iconst ⟨by decide, by decide⟩ kL_law rfl ?_
  refine fz_callV (d' := 3) (M' := mX10_row) (As := [fz_i 0, fz_i 0, fz_i 5]) (st := []) kL_law rfl rfl vX10_row rfl rfl rfl rfl (Nat.le_of_ble_eq_true rfl) (Nat.le_of_ble_eq_true rfl) (by decide) (sX10_row H hI 0 0 5 ) (fun H37 r38 q39 o40 => ?_)
  obtain ⟨hI41, hf42, y46, rfl, f43, f44, f45⟩ := q39
  clear o40
  have hf47 := fz_fr_tr hf hf42 (show fz_su [(48, 99999), (50, 99999), (51, 99999), (52, 99999)] [(1, 7), (1, 8), (2, 99999), (3, 99999), (4, 99999), (5, 99999), (6, 99999), (7, 99999), (8, 99999), (9, 5), (10, 99999), (11, 99999), (12, 99999), (13, 99999), (14, 99999), (15, 4), (16, 99999), (17, 99999), (18, 99999), (19, 99999), (20, 2), (20, 3), (20, 4), (21, 4), (22, 99999), (23, 99999), (26, 99999), (27, 8), (27, 9), (28, 99999), (29, 99999), (30, 99999), (31, 99999), (32, 99999), (33, 3), (33, 4), (33, 5), (33, 6), (33, 7), (34, 99999), (35, 4), (35, 5), (36, 99999), (37, 99999), (38, 99999), (39, 99999), (40, 1), (40, 2), (40, 3), (40, 4), (40, 5), (40, 6), (41, 99999), (42, 99999), (43, 99999), (44, 2), (45, 99999), (48, 99999), (50, 99999), (51, 99999), (52, 99999), (53, 99999)] = true from rfl)
  have hRE48 : fz_RE H37 := fz_RE_eq (funext fun s => hf42 5 s rfl) (funext fun s => hf42 6 s rfl) (hf42 1 8 rfl) (hf42 1 7 rfl) hRE
  have hRV49 : fz_RV H37 := fz_RV_eq (funext fun s => hf42 7 s rfl) (funext fun s => hf42 8 s rfl) (funext fun s => hf42 3 s rfl) (funext fun s => hf42 4 s rfl) (funext fun s => hf42 5 s rfl) (funext fun s => hf42 6 s rfl) (hf42 1 7 rfl) (hf42 1 8 rfl) hRV
  have hRP250 : fz_RP2 H37 := fz_RP2_eq (funext fun s => hf42 11 s rfl) (hf42 9 5 rfl) (hf42 1 7 rfl) hRP2
  have hN51 : st_N tw H37 := st_N_eq (hf42 53 0 rfl) (hf42 53 1 rfl) (hf42 53 2 rfl) (hf42 1 7 rfl) (hf42 1 8 rfl) (hf42 9 5 rfl) (hf42 35 4 rfl) (hf42 20 2 rfl) hN
  have hL152 : st_L1 H37 := st_L1_eq (funext fun s => hf42 3 s rfl) (hf42 1 8 rfl) hL1
  have hZ53 : st_Z H37 := st_Z_eq (hf42 40 1 rfl) (hf42 40 2 rfl) (hf42 40 3 rfl) (hf42 40 4 rfl) (hf42 40 5 rfl) (funext fun s => hf42 41 s rfl) hZ
  have hIm54 : st_Im H37 := st_Im_eq (hf42 40 6 rfl) (funext fun s => hf42 43 s rfl) (funext fun s => hf42 42 s rfl) hIm
  have hX55 : fz_Xc H37 := fz_Xc_fr hf42 rfl hX
  have t56 : H37 9 5 = H 9 5 := hf42 9 5 rfl
  have t57 : H37 1 7 = H 1 7 := hf42 1 7 rfl
  have t58 : H37 1 8 = H 1 8 := hf42 1 8 rfl
  have nm59 : fz_nm H37 = fz_nm H := (fz_nm_fr rfl hf42).trans rfl
  have hS60 : st_S sm H37 := st_S_fr rfl hf42 hS
  have k61 := pf_row f45
  have k63 := k61.1
  have k64 := k61.2.1
  have k65 := k61.2.2
  refine fz_iconst ⟨by decide, by decide⟩ kL_law rfl ?_
  refine fz_icmp_eq (tgt := 1024) kL_law rfl (by decide) (fun c66 => ?_) (fun c66 => ?_)
  · refine fz_iconst ⟨by decide, by decide⟩ kL_law rfl ?_
    refine fz_istore (ls' := [(12, fz_i 0), (11, fz_i 0), (10, fz_i 0), (9, fz_i ((1000 * y36) + y18)), (8, fz_i y36), (7, fz_i y18), (0, fz_r 200), (1, fz_r 0), (2, fz_r 53), (3, fz_i tw), (4, fz_l sm), (6, fz_i p)]) kL_law rfl (by decide) rfl ?_
    have lp83 : ∀ (n82 : Nat) (x67 : Int) (x68 : Int) (x69 : Int) (H79 : fz_H), fz_Iv H79 → fz_fr [(1, 7), (1, 8), (2, 99999), (3, 99999), (4, 99999), (5, 99999), (6, 99999), (7, 99999), (8, 99999), (9, 5), (10, 99999), (11, 99999), (12, 99999), (13, 99999), (14, 99999), (15, 4), (16, 99999), (17, 99999), (18, 99999), (19, 99999), (20, 2), (20, 3), (20, 4), (21, 4), (22, 99999), (23, 99999), (26, 99999), (27, 8), (27, 9), (28, 99999), (29, 99999), (30, 99999), (31, 99999), (32, 99999), (33, 3), (33, 4), (33, 5), (33, 6), (33, 7), (34, 99999), (35, 4), (35, 5), (36, 99999), (37, 99999), (38, 99999), (39, 99999), (40, 1), (40, 2), (40, 3), (40, 4), (40, 5), (40, 6), (41, 99999), (42, 99999), (43, 99999), (44, 2), (45, 99999), (48, 99999), (50, 99999), (51, 99999), (52, 99999), (53, 99999)] h H79 → fz_RE H79 → fz_RV H79 → fz_RP2 H79 → fz_Xc H79 → st_N tw H79 → st_S sm H79 → st_L1 H79 → st_Z H79 → st_Im H79 → (0 ≤ x67 ∧ x67 ≤ 5) → ((-2147483648) ≤ x68 ∧ x68 ≤ 2147483647) → (0 ≤ x69 ∧ x69 ≤ 5) → (x69 ≤ x67) → (H79 48 0 = 2) → (H79 50 0 = 0) → (H79 51 0 = 5) → (x69 = fl_ms (fun m : Nat => fl_SC H p p (m : Int) y36 y18) (x67).toNat) → (x68 = fl_rp (fun m : Nat => fl_SC H p p (m : Int) y36 y18) (H 28) (x67).toNat) → (∀ k : Nat, (k : Int) < x67 → H79 52 k = fl_SC H p p (k : Int) y36 y18) → (fz_nm H79 = fz_nm H) → (5 - x67).toNat < n82 → fz_R 48 mL_law 1027 [(12, fz_i x67), (11, fz_i x68), (10, fz_i x69), (9, fz_i ((1000 * y36) + y18)), (8, fz_i y36), (7, fz_i y18), (0, fz_r 200), (1, fz_r 0), (2, fz_r 53), (3, fz_i tw), (4, fz_l sm), (6, fz_i p)] [] H79 (qL_law h) := by
      intro n82
      induction n82 with
      | zero => intro x67 x68 x69 H79 hI80 hf81 hRE70 hRV71 hRP272 hXq73 hN74 hS75 hL176 hZ77 hIm78 hv86 hv87 hv88 hv89 hv90 hv91 hv92 hv93 hv94 hv95 hv96 hm85; exact absurd hm85 (by omega)
      | succ n82 ih84 =>
        intro x67 x68 x69 H79 hI80 hf81 hRE70 hRV71 hRP272 hXq73 hN74 hS75 hL176 hZ77 hIm78 hv86 hv87 hv88 hv89 hv90 hv91 hv92 hv93 hv94 hv95 hv96 hm85
        refine fz_iload kL_law rfl rfl ?_
        refine fz_iconst ⟨by decide, by decide⟩ kL_law rfl ?_
        refine fz_icmp_ge (tgt := 1095) kL_law rfl (by decide) (fun c97 => ?_) (fun c97 => ?_)
        · refine fz_sub (fz_pk_sub (ls' := [(0, fz_r 200), (1, fz_r 0), (2, fz_r 53), (3, fz_i tw), (4, fz_l sm), (6, fz_i p), (7, fz_i y18), (8, fz_i y36), (9, fz_i ((1000 * y36) + y18)), (10, fz_i x69), (11, fz_i x68)]) [6, 7, 8, 9, 10, 11, 5, 4, 3, 2, 1] rfl) ?_
          have hW98 : st_W p y36 y18 x69 x68 H79 := st_W_in hv96 (show x67 = 5 by omega) hv93 hv94 (by omega) (by omega) (by omega) hv95
          exact k H79 y18 y36 ((1000 * y36) + y18) x69 x68 hI80 hf81 hXq73 hRE70 hRV71 hRP272 hN74 hS75 hL176 hZ77 hIm78 hW98 (by omega) (by omega) (by omega) (by omega) (by omega)
        · have k101 := st_N_e hI80 hN74
          refine fz_aload_n kL_law rfl rfl ?_
          refine fz_bipush ⟨by decide, by decide⟩ kL_law rfl ?_
          refine fz_iload kL_law rfl rfl ?_
          refine fz_imulN kL_law rfl (by omega) ?_
          refine fz_iload kL_law rfl rfl ?_
          refine fz_iaddN kL_law rfl (by omega) ?_
          refine fz_iload kL_law rfl rfl ?_
          refine fz_callV (d' := 5) (M' := mX10_said) (As := [fz_i ((10 * p) + x67), fz_i ((1000 * y36) + y18)]) (st := []) kL_law rfl rfl vX10_said rfl rfl rfl rfl (Nat.le_of_ble_eq_true rfl) (Nat.le_of_ble_eq_true rfl) (by decide) (sX10_said H79 hI80 ((10 * p) + x67) ((1000 * y36) + y18) ) (fun H102 r103 q104 o105 => ?_)
          obtain ⟨hI106, hf107, y110, rfl, f108, f109⟩ := q104
          clear o105
          have hf111 := fz_fr_tr hf81 hf107 (show fz_su [(18, 99999), (19, 99999)] [(1, 7), (1, 8), (2, 99999), (3, 99999), (4, 99999), (5, 99999), (6, 99999), (7, 99999), (8, 99999), (9, 5), (10, 99999), (11, 99999), (12, 99999), (13, 99999), (14, 99999), (15, 4), (16, 99999), (17, 99999), (18, 99999), (19, 99999), (20, 2), (20, 3), (20, 4), (21, 4), (22, 99999), (23, 99999), (26, 99999), (27, 8), (27, 9), (28, 99999), (29, 99999), (30, 99999), (31, 99999), (32, 99999), (33, 3), (33, 4), (33, 5), (33, 6), (33, 7), (34, 99999), (35, 4), (35, 5), (36, 99999), (37, 99999), (38, 99999), (39, 99999), (40, 1), (40, 2), (40, 3), (40, 4), (40, 5), (40, 6), (41, 99999), (42, 99999), (43, 99999), (44, 2), (45, 99999), (48, 99999), (50, 99999), (51, 99999), (52, 99999), (53, 99999)] = true from rfl)
          have hRE112 : fz_RE H102 := fz_RE_eq (funext fun s => hf107 5 s rfl) (funext fun s => hf107 6 s rfl) (hf107 1 8 rfl) (hf107 1 7 rfl) hRE70
          have hRV113 : fz_RV H102 := fz_RV_eq (funext fun s => hf107 7 s rfl) (funext fun s => hf107 8 s rfl) (funext fun s => hf107 3 s rfl) (funext fun s => hf107 4 s rfl) (funext fun s => hf107 5 s rfl) (funext fun s => hf107 6 s rfl) (hf107 1 7 rfl) (hf107 1 8 rfl) hRV71
          have hRP2114 : fz_RP2 H102 := fz_RP2_eq (funext fun s => hf107 11 s rfl) (hf107 9 5 rfl) (hf107 1 7 rfl) hRP272
          have hN115 : st_N tw H102 := st_N_eq (hf107 53 0 rfl) (hf107 53 1 rfl) (hf107 53 2 rfl) (hf107 1 7 rfl) (hf107 1 8 rfl) (hf107 9 5 rfl) (hf107 35 4 rfl) (hf107 20 2 rfl) hN74
          have hL1116 : st_L1 H102 := st_L1_eq (funext fun s => hf107 3 s rfl) (hf107 1 8 rfl) hL176
          have hZ117 : st_Z H102 := st_Z_eq (hf107 40 1 rfl) (hf107 40 2 rfl) (hf107 40 3 rfl) (hf107 40 4 rfl) (hf107 40 5 rfl) (funext fun s => hf107 41 s rfl) hZ77
          have hIm118 : st_Im H102 := st_Im_eq (hf107 40 6 rfl) (funext fun s => hf107 43 s rfl) (funext fun s => hf107 42 s rfl) hIm78
          have hX119 : fz_Xc H102 := fz_Xc_fr hf107 rfl hXq73
          have t120 : H102 9 5 = H79 9 5 := hf107 9 5 rfl
          have t121 : H102 1 7 = H79 1 7 := hf107 1 7 rfl
          have t122 : H102 1 8 = H79 1 8 := hf107 1 8 rfl
          have t123 : H102 48 0 = H79 48 0 := hf107 48 0 rfl
          have t124 : H102 50 0 = H79 50 0 := hf107 50 0 rfl
          have t125 : H102 51 0 = H79 51 0 := hf107 51 0 rfl
          have hS126 : st_S sm H102 := st_S_fr rfl hf107 hS75
          have k127 := pf_b hI80 (p := p) (q := p) (m := x67) (t := y36) (hr := y18)
          have k128 := pf_said (by omega) (by omega) (by omega) (by omega) (show ((1000 * y36) + y18) = 1000 * y36 + y18 by omega) f109
          have k131 : 0 ≤ y110 ∧ y110 ≤ 99 := by omega
          have k132 : fz_nm H102 = fz_nm H := (fz_nm_fr rfl hf107).trans hv96
          have k134 : y110 = (fun m : Nat => fl_SC H p p (m : Int) y36 y18) (x67).toNat := pf_c4 hv96 (by omega) k128
          refine fz_istore (ls' := [(13, fz_i y110), (12, fz_i x67), (11, fz_i x68), (10, fz_i x69), (9, fz_i ((1000 * y36) + y18)), (8, fz_i y36), (7, fz_i y18), (0, fz_r 200), (1, fz_r 0), (2, fz_r 53), (3, fz_i tw), (4, fz_l sm), (6, fz_i p)]) kL_law rfl (by decide) rfl ?_
          refine fz_iload kL_law rfl rfl ?_
          refine fz_if_le (tgt := 1057) kL_law rfl (by decide) (fun c136 => ?_) (fun c136 => ?_)
          · refine fz_iload kL_law rfl rfl ?_
            refine fz_iload kL_law rfl rfl ?_
            refine fz_aload_n kL_law rfl rfl ?_
            refine fz_iload kL_law rfl rfl ?_
            refine fz_bipush ⟨by decide, by decide⟩ kL_law rfl ?_
            refine fz_callV (d' := 3) (M' := mX10_of) (As := [fz_i x67, fz_i 6]) (st := [fz_i y110, fz_i x68]) kL_law rfl rfl vX10_of rfl rfl rfl rfl (Nat.le_of_ble_eq_true rfl) (Nat.le_of_ble_eq_true rfl) (by decide) (sX10_of H102 hI106 x67 6 ) (fun H137 r138 q139 o140 => ?_)
            obtain ⟨e141, y144, rfl, f142, f143⟩ := q139
            subst H137
            clear o140
            have k145 := pf_c5 k132 (of_6 f143 (by omega))
            refine fz_imul kL_law rfl ?_
            have b147 := fz_w_b (y110 * y144)
            refine fz_iadd kL_law rfl ?_
            have b148 := fz_w_b (x68 + (fz_w (y110 * y144)))
            refine fz_istore (ls' := [(11, fz_i (fz_w (x68 + (fz_w (y110 * y144))))), (13, fz_i y110), (12, fz_i x67), (10, fz_i x69), (9, fz_i ((1000 * y36) + y18)), (8, fz_i y36), (7, fz_i y18), (0, fz_r 200), (1, fz_r 0), (2, fz_r 53), (3, fz_i tw), (4, fz_l sm), (6, fz_i p)]) kL_law rfl (by decide) rfl ?_
            refine fz_aload_n kL_law rfl rfl ?_
            refine fz_iconst ⟨by decide, by decide⟩ kL_law rfl ?_
            refine fz_iload kL_law rfl rfl ?_
            refine fz_iload kL_law rfl rfl ?_
            refine fz_i2l kL_law rfl ?_
            have k149 : H102 48 (0 : Int).toNat = H102 48 0 := rfl
            have k150 : H102 51 (0 : Int).toNat = H102 51 0 := rfl
            refine fz_callV (d' := 3) (M' := mX10_put) (As := [fz_i 0, fz_i x67, fz_l y110]) (st := []) kL_law rfl rfl vX10_put rfl rfl rfl rfl (Nat.le_of_ble_eq_true rfl) (Nat.le_of_ble_eq_true rfl) (by decide) (sX10_put H102 hI106 0 x67 y110 ) (fun H151 r152 q153 o154 => ?_)
            obtain ⟨hI155, hf156, y160, rfl, f157, f158, f159⟩ := q153
            clear o154
            have hf161 := fz_fr_tr hf111 hf156 (show fz_su [(52, 99999)] [(1, 7), (1, 8), (2, 99999), (3, 99999), (4, 99999), (5, 99999), (6, 99999), (7, 99999), (8, 99999), (9, 5), (10, 99999), (11, 99999), (12, 99999), (13, 99999), (14, 99999), (15, 4), (16, 99999), (17, 99999), (18, 99999), (19, 99999), (20, 2), (20, 3), (20, 4), (21, 4), (22, 99999), (23, 99999), (26, 99999), (27, 8), (27, 9), (28, 99999), (29, 99999), (30, 99999), (31, 99999), (32, 99999), (33, 3), (33, 4), (33, 5), (33, 6), (33, 7), (34, 99999), (35, 4), (35, 5), (36, 99999), (37, 99999), (38, 99999), (39, 99999), (40, 1), (40, 2), (40, 3), (40, 4), (40, 5), (40, 6), (41, 99999), (42, 99999), (43, 99999), (44, 2), (45, 99999), (48, 99999), (50, 99999), (51, 99999), (52, 99999), (53, 99999)] = true from rfl)
            have hRE162 : fz_RE H151 := fz_RE_eq (funext fun s => hf156 5 s rfl) (funext fun s => hf156 6 s rfl) (hf156 1 8 rfl) (hf156 1 7 rfl) hRE112
            have hRV163 : fz_RV H151 := fz_RV_eq (funext fun s => hf156 7 s rfl) (funext fun s => hf156 8 s rfl) (funext fun s => hf156 3 s rfl) (funext fun s => hf156 4 s rfl) (funext fun s => hf156 5 s rfl) (funext fun s => hf156 6 s rfl) (hf156 1 7 rfl) (hf156 1 8 rfl) hRV113
            have hRP2164 : fz_RP2 H151 := fz_RP2_eq (funext fun s => hf156 11 s rfl) (hf156 9 5 rfl) (hf156 1 7 rfl) hRP2114
            have hN165 : st_N tw H151 := st_N_eq (hf156 53 0 rfl) (hf156 53 1 rfl) (hf156 53 2 rfl) (hf156 1 7 rfl) (hf156 1 8 rfl) (hf156 9 5 rfl) (hf156 35 4 rfl) (hf156 20 2 rfl) hN115
            have hL1166 : st_L1 H151 := st_L1_eq (funext fun s => hf156 3 s rfl) (hf156 1 8 rfl) hL1116
            have hZ167 : st_Z H151 := st_Z_eq (hf156 40 1 rfl) (hf156 40 2 rfl) (hf156 40 3 rfl) (hf156 40 4 rfl) (hf156 40 5 rfl) (funext fun s => hf156 41 s rfl) hZ117
            have hIm168 : st_Im H151 := st_Im_eq (hf156 40 6 rfl) (funext fun s => hf156 43 s rfl) (funext fun s => hf156 42 s rfl) hIm118
            have hX169 : fz_Xc H151 := fz_Xc_fr hf156 rfl hX119
            have t170 : H151 9 5 = H102 9 5 := hf156 9 5 rfl
            have t171 : H151 1 7 = H102 1 7 := hf156 1 7 rfl
            have t172 : H151 1 8 = H102 1 8 := hf156 1 8 rfl
            have t173 : H151 48 0 = H102 48 0 := hf156 48 0 rfl
            have t174 : H151 50 0 = H102 50 0 := hf156 50 0 rfl
            have t175 : H151 51 0 = H102 51 0 := hf156 51 0 rfl
            have hS176 : st_S sm H151 := st_S_fr rfl hf156 hS126
            have k177 := pf_put (f := fun k => fl_SC H p p (k : Int) y36 y18) (fun j hj => (hf107 52 j rfl).trans (hv95 j hj)) (by omega) (by omega) (by omega) (by omega) (by omega) k134 f159
            have k179 : fz_nm H151 = fz_nm H := (fz_nm_fr rfl hf156).trans k132
            refine fz_iconst ⟨by decide, by decide⟩ kL_law rfl ?_
            refine fz_icmp_eq (tgt := 1089) kL_law rfl (by decide) (fun c181 => ?_) (fun c181 => ?_)
            · refine fz_iincN (ls' := [(12, fz_i (x67 + 1)), (11, fz_i (fz_w (x68 + (fz_w (y110 * y144))))), (13, fz_i y110), (10, fz_i x69), (9, fz_i ((1000 * y36) + y18)), (8, fz_i y36), (7, fz_i y18), (0, fz_r 200), (1, fz_r 0), (2, fz_r 53), (3, fz_i tw), (4, fz_l sm), (6, fz_i p)]) kL_law rfl (by decide) rfl (by omega) rfl ?_
              refine fz_goto (tgt := 1027) kL_law rfl (by decide) ?_
              refine fz_sub (fz_pk_sub (ls' := [(12, fz_i (x67 + 1)), (11, fz_i (fz_w (x68 + (fz_w (y110 * y144))))), (10, fz_i x69), (9, fz_i ((1000 * y36) + y18)), (8, fz_i y36), (7, fz_i y18), (0, fz_r 200), (1, fz_r 0), (2, fz_r 53), (3, fz_i tw), (4, fz_l sm), (6, fz_i p)]) [0, 1, 3, 4, 5, 6, 7, 8, 9, 10, 11, 12] rfl) ?_
              exact ih84 (x67 + 1) (fz_w (x68 + (fz_w (y110 * y144)))) x69 H151 hI155 hf161 hRE162 hRV163 hRP2164 hX169 hN165 hS176 hL1166 hZ167 hIm168 (by omega) (by omega) (by omega) (by omega) (by omega) (by omega) (by omega) (fl_ms_s hv93 (by omega) k134 (by omega)) (pf_rp hv94 (by omega) k134 k145 rfl) (k177) (k179) (by omega)
            · exfalso; omega
          · refine fz_iincN (ls' := [(10, fz_i (x69 + 1)), (13, fz_i y110), (12, fz_i x67), (11, fz_i x68), (9, fz_i ((1000 * y36) + y18)), (8, fz_i y36), (7, fz_i y18), (0, fz_r 200), (1, fz_r 0), (2, fz_r 53), (3, fz_i tw), (4, fz_l sm), (6, fz_i p)]) kL_law rfl (by decide) rfl (by omega) rfl ?_
            refine fz_iload kL_law rfl rfl ?_
            refine fz_iload kL_law rfl rfl ?_
            refine fz_aload_n kL_law rfl rfl ?_
            refine fz_iload kL_law rfl rfl ?_
            refine fz_bipush ⟨by decide, by decide⟩ kL_law rfl ?_
            refine fz_callV (d' := 3) (M' := mX10_of) (As := [fz_i x67, fz_i 6]) (st := [fz_i y110, fz_i x68]) kL_law rfl rfl vX10_of rfl rfl rfl rfl (Nat.le_of_ble_eq_true rfl) (Nat.le_of_ble_eq_true rfl) (by decide) (sX10_of H102 hI106 x67 6 ) (fun H186 r187 q188 o189 => ?_)
            obtain ⟨e190, y193, rfl, f191, f192⟩ := q188
            subst H186
            clear o189
            have k194 := pf_c5 k132 (of_6 f192 (by omega))
            refine fz_imul kL_law rfl ?_
            have b196 := fz_w_b (y110 * y193)
            refine fz_iadd kL_law rfl ?_
            have b197 := fz_w_b (x68 + (fz_w (y110 * y193)))
            refine fz_istore (ls' := [(11, fz_i (fz_w (x68 + (fz_w (y110 * y193))))), (10, fz_i (x69 + 1)), (13, fz_i y110), (12, fz_i x67), (9, fz_i ((1000 * y36) + y18)), (8, fz_i y36), (7, fz_i y18), (0, fz_r 200), (1, fz_r 0), (2, fz_r 53), (3, fz_i tw), (4, fz_l sm), (6, fz_i p)]) kL_law rfl (by decide) rfl ?_
            refine fz_aload_n kL_law rfl rfl ?_
            refine fz_iconst ⟨by decide, by decide⟩ kL_law rfl ?_
            refine fz_iload kL_law rfl rfl ?_
            refine fz_iload kL_law rfl rfl ?_
            refine fz_i2l kL_law rfl ?_
            have k198 : H102 48 (0 : Int).toNat = H102 48 0 := rfl
            have k199 : H102 51 (0 : Int).toNat = H102 51 0 := rfl
            refine fz_callV (d' := 3) (M' := mX10_put) (As := [fz_i 0, fz_i x67, fz_l y110]) (st := []) kL_law rfl rfl vX10_put rfl rfl rfl rfl (Nat.le_of_ble_eq_true rfl) (Nat.le_of_ble_eq_true rfl) (by decide) (sX10_put H102 hI106 0 x67 y110 ) (fun H200 r201 q202 o203 => ?_)
            obtain ⟨hI204, hf205, y209, rfl, f206, f207, f208⟩ := q202
            clear o203
            have hf210 := fz_fr_tr hf111 hf205 (show fz_su [(52, 99999)] [(1, 7), (1, 8), (2, 99999), (3, 99999), (4, 99999), (5, 99999), (6, 99999), (7, 99999), (8, 99999), (9, 5), (10, 99999), (11, 99999), (12, 99999), (13, 99999), (14, 99999), (15, 4), (16, 99999), (17, 99999), (18, 99999), (19, 99999), (20, 2), (20, 3), (20, 4), (21, 4), (22, 99999), (23, 99999), (26, 99999), (27, 8), (27, 9), (28, 99999), (29, 99999), (30, 99999), (31, 99999), (32, 99999), (33, 3), (33, 4), (33, 5), (33, 6), (33, 7), (34, 99999), (35, 4), (35, 5), (36, 99999), (37, 99999), (38, 99999), (39, 99999), (40, 1), (40, 2), (40, 3), (40, 4), (40, 5), (40, 6), (41, 99999), (42, 99999), (43, 99999), (44, 2), (45, 99999), (48, 99999), (50, 99999), (51, 99999), (52, 99999), (53, 99999)] = true from rfl)
            have hRE211 : fz_RE H200 := fz_RE_eq (funext fun s => hf205 5 s rfl) (funext fun s => hf205 6 s rfl) (hf205 1 8 rfl) (hf205 1 7 rfl) hRE112
            have hRV212 : fz_RV H200 := fz_RV_eq (funext fun s => hf205 7 s rfl) (funext fun s => hf205 8 s rfl) (funext fun s => hf205 3 s rfl) (funext fun s => hf205 4 s rfl) (funext fun s => hf205 5 s rfl) (funext fun s => hf205 6 s rfl) (hf205 1 7 rfl) (hf205 1 8 rfl) hRV113
            have hRP2213 : fz_RP2 H200 := fz_RP2_eq (funext fun s => hf205 11 s rfl) (hf205 9 5 rfl) (hf205 1 7 rfl) hRP2114
            have hN214 : st_N tw H200 := st_N_eq (hf205 53 0 rfl) (hf205 53 1 rfl) (hf205 53 2 rfl) (hf205 1 7 rfl) (hf205 1 8 rfl) (hf205 9 5 rfl) (hf205 35 4 rfl) (hf205 20 2 rfl) hN115
            have hL1215 : st_L1 H200 := st_L1_eq (funext fun s => hf205 3 s rfl) (hf205 1 8 rfl) hL1116
            have hZ216 : st_Z H200 := st_Z_eq (hf205 40 1 rfl) (hf205 40 2 rfl) (hf205 40 3 rfl) (hf205 40 4 rfl) (hf205 40 5 rfl) (funext fun s => hf205 41 s rfl) hZ117
            have hIm217 : st_Im H200 := st_Im_eq (hf205 40 6 rfl) (funext fun s => hf205 43 s rfl) (funext fun s => hf205 42 s rfl) hIm118
            have hX218 : fz_Xc H200 := fz_Xc_fr hf205 rfl hX119
            have t219 : H200 9 5 = H102 9 5 := hf205 9 5 rfl
            have t220 : H200 1 7 = H102 1 7 := hf205 1 7 rfl
            have t221 : H200 1 8 = H102 1 8 := hf205 1 8 rfl
            have t222 : H200 48 0 = H102 48 0 := hf205 48 0 rfl
            have t223 : H200 50 0 = H102 50 0 := hf205 50 0 rfl
            have t224 : H200 51 0 = H102 51 0 := hf205 51 0 rfl
            have hS225 : st_S sm H200 := st_S_fr rfl hf205 hS126
            have k226 := pf_put (f := fun k => fl_SC H p p (k : Int) y36 y18) (fun j hj => (hf107 52 j rfl).trans (hv95 j hj)) (by omega) (by omega) (by omega) (by omega) (by omega) k134 f208
            have k228 : fz_nm H200 = fz_nm H := (fz_nm_fr rfl hf205).trans k132
            refine fz_iconst ⟨by decide, by decide⟩ kL_law rfl ?_
            refine fz_icmp_eq (tgt := 1089) kL_law rfl (by decide) (fun c230 => ?_) (fun c230 => ?_)
            · refine fz_iincN (ls' := [(12, fz_i (x67 + 1)), (11, fz_i (fz_w (x68 + (fz_w (y110 * y193))))), (10, fz_i (x69 + 1)), (13, fz_i y110), (9, fz_i ((1000 * y36) + y18)), (8, fz_i y36), (7, fz_i y18), (0, fz_r 200), (1, fz_r 0), (2, fz_r 53), (3, fz_i tw), (4, fz_l sm), (6, fz_i p)]) kL_law rfl (by decide) rfl (by omega) rfl ?_
              refine fz_goto (tgt := 1027) kL_law rfl (by decide) ?_
              refine fz_sub (fz_pk_sub (ls' := [(12, fz_i (x67 + 1)), (11, fz_i (fz_w (x68 + (fz_w (y110 * y193))))), (10, fz_i (x69 + 1)), (9, fz_i ((1000 * y36) + y18)), (8, fz_i y36), (7, fz_i y18), (0, fz_r 200), (1, fz_r 0), (2, fz_r 53), (3, fz_i tw), (4, fz_l sm), (6, fz_i p)]) [0, 1, 2, 4, 5, 6, 7, 8, 9, 10, 11, 12] rfl) ?_
              exact ih84 (x67 + 1) (fz_w (x68 + (fz_w (y110 * y193)))) (x69 + 1) H200 hI204 hf210 hRE211 hRV212 hRP2213 hX218 hN214 hS225 hL1215 hZ216 hIm217 (by omega) (by omega) (by omega) (by omega) (by omega) (by omega) (by omega) (fl_ms_s hv93 (by omega) k134 (by omega)) (pf_rp hv94 (by omega) k134 k194 rfl) (k226) (k228) (by omega)
            · exfalso; omega
    exact lp83 _ 0 0 0 H37 hI41 hf47 hRE48 hRV49 hRP250 hX55 hN51 hS60 hL152 hZ53 hIm54 (by omega) (by omega) (by omega) (by omega) (by omega) (by omega) (by omega) (rfl) (rfl) ((fun k hk => absurd hk (by omega))) (nm59) (Nat.lt_succ_self _)
  · exfalso; omega

set_option maxHeartbeats 1000000 in
set_option maxRecDepth 100000 in
theorem sL_l1095 (h H : fz_H) (tw sm p hr t th mk rc : Int) (hI : fz_Iv H) (hf : fz_fr [(1, 7), (1, 8), (2, 99999), (3, 99999), (4, 99999), (5, 99999), (6, 99999), (7, 99999), (8, 99999), (9, 5), (10, 99999), (11, 99999), (12, 99999), (13, 99999), (14, 99999), (15, 4), (16, 99999), (17, 99999), (18, 99999), (19, 99999), (20, 2), (20, 3), (20, 4), (21, 4), (22, 99999), (23, 99999), (26, 99999), (27, 8), (27, 9), (28, 99999), (29, 99999), (30, 99999), (31, 99999), (32, 99999), (33, 3), (33, 4), (33, 5), (33, 6), (33, 7), (34, 99999), (35, 4), (35, 5), (36, 99999), (37, 99999), (38, 99999), (39, 99999), (40, 1), (40, 2), (40, 3), (40, 4), (40, 5), (40, 6), (41, 99999), (42, 99999), (43, 99999), (44, 2), (45, 99999), (48, 99999), (50, 99999), (51, 99999), (52, 99999), (53, 99999)] h H) (hX : fz_Xc H) (hRE : fz_RE H) (hRV : fz_RV H) (hRP2 : fz_RP2 H) (hN : st_N tw H) (hS : st_S sm H) (hL1 : st_L1 H) (hZ : st_Z H) (hIm : st_Im H) (hW : st_W p t hr mk rc H) (hp0 : 0 ≤ h 200 100000 ∧ h 200 100000 ≤ 3072) (hq0 : 0 ≤ tw ∧ tw ≤ 8) (hq1 : 0 ≤ p ∧ p ≤ 3) (hq2 : 0 ≤ hr ∧ hr ≤ 299) (hq3 : 0 ≤ t ∧ t < tw) (hq4 : th = 1000 * t + hr) (hq5 : 0 ≤ mk ∧ mk ≤ 5) (k : ∀ (G : fz_H), fz_Iv G → fz_fr [(1, 7), (1, 8), (2, 99999), (3, 99999), (4, 99999), (5, 99999), (6, 99999), (7, 99999), (8, 99999), (9, 5), (10, 99999), (11, 99999), (12, 99999), (13, 99999), (14, 99999), (15, 4), (16, 99999), (17, 99999), (18, 99999), (19, 99999), (20, 2), (20, 3), (20, 4), (21, 4), (22, 99999), (23, 99999), (26, 99999), (27, 8), (27, 9), (28, 99999), (29, 99999), (30, 99999), (31, 99999), (32, 99999), (33, 3), (33, 4), (33, 5), (33, 6), (33, 7), (34, 99999), (35, 4), (35, 5), (36, 99999), (37, 99999), (38, 99999), (39, 99999), (40, 1), (40, 2), (40, 3), (40, 4), (40, 5), (40, 6), (41, 99999), (42, 99999), (43, 99999), (44, 2), (45, 99999), (48, 99999), (50, 99999), (51, 99999), (52, 99999), (53, 99999)] h G → fz_Xc G → fz_RE G → fz_RV G → fz_RP2 G → st_N tw G → st_S sm G → st_L1 G → st_Z G → st_Im G → st_W p t hr mk rc G → fz_R 48 mL_law 1208 [(0, fz_r 200), (1, fz_r 0), (2, fz_r 53), (3, fz_i tw), (4, fz_l sm), (6, fz_i p), (7, fz_i hr), (8, fz_i t), (9, fz_i th), (10, fz_i mk), (11, fz_i rc)] [] G (qL_law h)) : fz_R 48 mL_law 1095 [(0, fz_r 200), (1, fz_r 0), (2, fz_r 53), (3, fz_i tw), (4, fz_l sm), (6, fz_i p), (7, fz_i hr), (8, fz_i t), (9, fz_i th), (10, fz_i mk), (11, fz_i rc)] [] H (qL_law h) := by
  have k1 := st_N_e hI hN
  refine fz_aload_n kL_law rfl rfl ?_
  refine fz_iload kL_law rfl rfl ?_
  refine fz_iload kL_law rfl rfl ?_
  refine fz_iconst ⟨by decide, by decide⟩ kL_law rfl ?_
  refine fz_callV (d' := 5) (M' := mX10_received) (As := [fz_i p, fz_i th, fz_i 0]) (st := []) kL_law rfl rfl vX10_received rfl rfl rfl rfl (Nat.le_of_ble_eq_true rfl) (Nat.le_of_ble_eq_true rfl) (by decide) (sX10_received H hI p th 0 ) (fun H2 r3 q4 o5 => ?_)
  obtain ⟨hI6, hf7, y10, rfl, f8, f9⟩ := q4
  clear o5
  have hf11 := fz_fr_tr hf hf7 (show fz_su [(18, 99999), (19, 99999), (29, 99999)] [(1, 7), (1, 8), (2, 99999), (3, 99999), (4, 99999), (5, 99999), (6, 99999), (7, 99999), (8, 99999), (9, 5), (10, 99999), (11, 99999), (12, 99999), (13, 99999), (14, 99999), (15, 4), (16, 99999), (17, 99999), (18, 99999), (19, 99999), (20, 2), (20, 3), (20, 4), (21, 4), (22, 99999), (23, 99999), (26, 99999), (27, 8), (27, 9), (28, 99999), (29, 99999), (30, 99999), (31, 99999), (32, 99999), (33, 3), (33, 4), (33, 5), (33, 6), (33, 7), (34, 99999), (35, 4), (35, 5), (36, 99999), (37, 99999), (38, 99999), (39, 99999), (40, 1), (40, 2), (40, 3), (40, 4), (40, 5), (40, 6), (41, 99999), (42, 99999), (43, 99999), (44, 2), (45, 99999), (48, 99999), (50, 99999), (51, 99999), (52, 99999), (53, 99999)] = true from rfl)
  have hRE12 : fz_RE H2 := fz_RE_eq (funext fun s => hf7 5 s rfl) (funext fun s => hf7 6 s rfl) (hf7 1 8 rfl) (hf7 1 7 rfl) hRE
  have hRV13 : fz_RV H2 := fz_RV_eq (funext fun s => hf7 7 s rfl) (funext fun s => hf7 8 s rfl) (funext fun s => hf7 3 s rfl) (funext fun s => hf7 4 s rfl) (funext fun s => hf7 5 s rfl) (funext fun s => hf7 6 s rfl) (hf7 1 7 rfl) (hf7 1 8 rfl) hRV
  have hRP214 : fz_RP2 H2 := fz_RP2_eq (funext fun s => hf7 11 s rfl) (hf7 9 5 rfl) (hf7 1 7 rfl) hRP2
  have hN15 : st_N tw H2 := st_N_eq (hf7 53 0 rfl) (hf7 53 1 rfl) (hf7 53 2 rfl) (hf7 1 7 rfl) (hf7 1 8 rfl) (hf7 9 5 rfl) (hf7 35 4 rfl) (hf7 20 2 rfl) hN
  have hL116 : st_L1 H2 := st_L1_eq (funext fun s => hf7 3 s rfl) (hf7 1 8 rfl) hL1
  have hZ17 : st_Z H2 := st_Z_eq (hf7 40 1 rfl) (hf7 40 2 rfl) (hf7 40 3 rfl) (hf7 40 4 rfl) (hf7 40 5 rfl) (funext fun s => hf7 41 s rfl) hZ
  have hIm18 : st_Im H2 := st_Im_eq (hf7 40 6 rfl) (funext fun s => hf7 43 s rfl) (funext fun s => hf7 42 s rfl) hIm
  have hX19 : fz_Xc H2 := fz_Xc_fr hf7 rfl hX
  have t20 : H2 9 5 = H 9 5 := hf7 9 5 rfl
  have t21 : H2 1 7 = H 1 7 := hf7 1 7 rfl
  have t22 : H2 1 8 = H 1 8 := hf7 1 8 rfl
  have t23 : H2 48 0 = H 48 0 := hf7 48 0 rfl
  have t24 : H2 50 0 = H 50 0 := hf7 50 0 rfl
  have t25 : H2 51 0 = H 51 0 := hf7 51 0 rfl
  have hW26 := st_W_fr rfl hf7 hW
  have nm27 : fz_nm H2 = fz_nm H := (fz_nm_fr rfl hf7).trans rfl
  have hS28 : st_S sm H2 := st_S_fr rfl hf7 hS
  have k29 := st_W_0 hW (by omega) (by omega) (by omega) (by omega) f9
  refine fz_iload kL_law rfl rfl ?_
  refine fz_icmp_ne (tgt := 1206) kL_law rfl (by decide) (fun c30 => ?_) (fun c30 => ?_)
  · exfalso; omega
  · refine fz_aload_n kL_law rfl rfl ?_
    refine fz_iload kL_law rfl rfl ?_
    refine fz_iload kL_law rfl rfl ?_
    refine fz_iconst ⟨by decide, by decide⟩ kL_law rfl ?_
    refine fz_callV (d' := 5) (M' := mX10_received) (As := [fz_i p, fz_i th, fz_i 2]) (st := []) kL_law rfl rfl vX10_received rfl rfl rfl rfl (Nat.le_of_ble_eq_true rfl) (Nat.le_of_ble_eq_true rfl) (by decide) (sX10_received H2 hI6 p th 2 ) (fun H31 r32 q33 o34 => ?_)
    obtain ⟨hI35, hf36, y39, rfl, f37, f38⟩ := q33
    clear o34
    have hf40 := fz_fr_tr hf11 hf36 (show fz_su [(18, 99999), (19, 99999), (29, 99999)] [(1, 7), (1, 8), (2, 99999), (3, 99999), (4, 99999), (5, 99999), (6, 99999), (7, 99999), (8, 99999), (9, 5), (10, 99999), (11, 99999), (12, 99999), (13, 99999), (14, 99999), (15, 4), (16, 99999), (17, 99999), (18, 99999), (19, 99999), (20, 2), (20, 3), (20, 4), (21, 4), (22, 99999), (23, 99999), (26, 99999), (27, 8), (27, 9), (28, 99999), (29, 99999), (30, 99999), (31, 99999), (32, 99999), (33, 3), (33, 4), (33, 5), (33, 6), (33, 7), (34, 99999), (35, 4), (35, 5), (36, 99999), (37, 99999), (38, 99999), (39, 99999), (40, 1), (40, 2), (40, 3), (40, 4), (40, 5), (40, 6), (41, 99999), (42, 99999), (43, 99999), (44, 2), (45, 99999), (48, 99999), (50, 99999), (51, 99999), (52, 99999), (53, 99999)] = true from rfl)
    have hRE41 : fz_RE H31 := fz_RE_eq (funext fun s => hf36 5 s rfl) (funext fun s => hf36 6 s rfl) (hf36 1 8 rfl) (hf36 1 7 rfl) hRE12
    have hRV42 : fz_RV H31 := fz_RV_eq (funext fun s => hf36 7 s rfl) (funext fun s => hf36 8 s rfl) (funext fun s => hf36 3 s rfl) (funext fun s => hf36 4 s rfl) (funext fun s => hf36 5 s rfl) (funext fun s => hf36 6 s rfl) (hf36 1 7 rfl) (hf36 1 8 rfl) hRV13
    have hRP243 : fz_RP2 H31 := fz_RP2_eq (funext fun s => hf36 11 s rfl) (hf36 9 5 rfl) (hf36 1 7 rfl) hRP214
    have hN44 : st_N tw H31 := st_N_eq (hf36 53 0 rfl) (hf36 53 1 rfl) (hf36 53 2 rfl) (hf36 1 7 rfl) (hf36 1 8 rfl) (hf36 9 5 rfl) (hf36 35 4 rfl) (hf36 20 2 rfl) hN15
    have hL145 : st_L1 H31 := st_L1_eq (funext fun s => hf36 3 s rfl) (hf36 1 8 rfl) hL116
    have hZ46 : st_Z H31 := st_Z_eq (hf36 40 1 rfl) (hf36 40 2 rfl) (hf36 40 3 rfl) (hf36 40 4 rfl) (hf36 40 5 rfl) (funext fun s => hf36 41 s rfl) hZ17
    have hIm47 : st_Im H31 := st_Im_eq (hf36 40 6 rfl) (funext fun s => hf36 43 s rfl) (funext fun s => hf36 42 s rfl) hIm18
    have hX48 : fz_Xc H31 := fz_Xc_fr hf36 rfl hX19
    have t49 : H31 9 5 = H2 9 5 := hf36 9 5 rfl
    have t50 : H31 1 7 = H2 1 7 := hf36 1 7 rfl
    have t51 : H31 1 8 = H2 1 8 := hf36 1 8 rfl
    have t52 : H31 48 0 = H2 48 0 := hf36 48 0 rfl
    have t53 : H31 50 0 = H2 50 0 := hf36 50 0 rfl
    have t54 : H31 51 0 = H2 51 0 := hf36 51 0 rfl
    have hW55 := st_W_fr rfl hf36 hW26
    have nm56 : fz_nm H31 = fz_nm H := (fz_nm_fr rfl hf36).trans nm27
    have hS57 : st_S sm H31 := st_S_fr rfl hf36 hS28
    have k58 := st_W_2 hW26 (by omega) (by omega) (by omega) (by omega) f38
    refine fz_iload kL_law rfl rfl ?_
    refine fz_icmp_ne (tgt := 1206) kL_law rfl (by decide) (fun c59 => ?_) (fun c59 => ?_)
    · exfalso; omega
    · refine fz_aload_n kL_law rfl rfl ?_
      refine fz_iload kL_law rfl rfl ?_
      refine fz_iload kL_law rfl rfl ?_
      refine fz_iconst ⟨by decide, by decide⟩ kL_law rfl ?_
      refine fz_callV (d' := 5) (M' := mX10_received) (As := [fz_i p, fz_i th, fz_i 3]) (st := []) kL_law rfl rfl vX10_received rfl rfl rfl rfl (Nat.le_of_ble_eq_true rfl) (Nat.le_of_ble_eq_true rfl) (by decide) (sX10_received H31 hI35 p th 3 ) (fun H60 r61 q62 o63 => ?_)
      obtain ⟨hI64, hf65, y68, rfl, f66, f67⟩ := q62
      clear o63
      have hf69 := fz_fr_tr hf40 hf65 (show fz_su [(18, 99999), (19, 99999), (29, 99999)] [(1, 7), (1, 8), (2, 99999), (3, 99999), (4, 99999), (5, 99999), (6, 99999), (7, 99999), (8, 99999), (9, 5), (10, 99999), (11, 99999), (12, 99999), (13, 99999), (14, 99999), (15, 4), (16, 99999), (17, 99999), (18, 99999), (19, 99999), (20, 2), (20, 3), (20, 4), (21, 4), (22, 99999), (23, 99999), (26, 99999), (27, 8), (27, 9), (28, 99999), (29, 99999), (30, 99999), (31, 99999), (32, 99999), (33, 3), (33, 4), (33, 5), (33, 6), (33, 7), (34, 99999), (35, 4), (35, 5), (36, 99999), (37, 99999), (38, 99999), (39, 99999), (40, 1), (40, 2), (40, 3), (40, 4), (40, 5), (40, 6), (41, 99999), (42, 99999), (43, 99999), (44, 2), (45, 99999), (48, 99999), (50, 99999), (51, 99999), (52, 99999), (53, 99999)] = true from rfl)
      have hRE70 : fz_RE H60 := fz_RE_eq (funext fun s => hf65 5 s rfl) (funext fun s => hf65 6 s rfl) (hf65 1 8 rfl) (hf65 1 7 rfl) hRE41
      have hRV71 : fz_RV H60 := fz_RV_eq (funext fun s => hf65 7 s rfl) (funext fun s => hf65 8 s rfl) (funext fun s => hf65 3 s rfl) (funext fun s => hf65 4 s rfl) (funext fun s => hf65 5 s rfl) (funext fun s => hf65 6 s rfl) (hf65 1 7 rfl) (hf65 1 8 rfl) hRV42
      have hRP272 : fz_RP2 H60 := fz_RP2_eq (funext fun s => hf65 11 s rfl) (hf65 9 5 rfl) (hf65 1 7 rfl) hRP243
      have hN73 : st_N tw H60 := st_N_eq (hf65 53 0 rfl) (hf65 53 1 rfl) (hf65 53 2 rfl) (hf65 1 7 rfl) (hf65 1 8 rfl) (hf65 9 5 rfl) (hf65 35 4 rfl) (hf65 20 2 rfl) hN44
      have hL174 : st_L1 H60 := st_L1_eq (funext fun s => hf65 3 s rfl) (hf65 1 8 rfl) hL145
      have hZ75 : st_Z H60 := st_Z_eq (hf65 40 1 rfl) (hf65 40 2 rfl) (hf65 40 3 rfl) (hf65 40 4 rfl) (hf65 40 5 rfl) (funext fun s => hf65 41 s rfl) hZ46
      have hIm76 : st_Im H60 := st_Im_eq (hf65 40 6 rfl) (funext fun s => hf65 43 s rfl) (funext fun s => hf65 42 s rfl) hIm47
      have hX77 : fz_Xc H60 := fz_Xc_fr hf65 rfl hX48
      have t78 : H60 9 5 = H31 9 5 := hf65 9 5 rfl
      have t79 : H60 1 7 = H31 1 7 := hf65 1 7 rfl
      have t80 : H60 1 8 = H31 1 8 := hf65 1 8 rfl
      have t81 : H60 48 0 = H31 48 0 := hf65 48 0 rfl
      have t82 : H60 50 0 = H31 50 0 := hf65 50 0 rfl
      have t83 : H60 51 0 = H31 51 0 := hf65 51 0 rfl
      have hW84 := st_W_fr rfl hf65 hW55
      have nm85 : fz_nm H60 = fz_nm H := (fz_nm_fr rfl hf65).trans nm56
      have hS86 : st_S sm H60 := st_S_fr rfl hf65 hS57
      have k87 := st_W_3 hW55 (by omega) (by omega) (by omega) (by omega) f67
      refine fz_if_ge (tgt := 1139) kL_law rfl (by decide) (fun c88 => ?_) (fun c88 => ?_)
      · refine fz_iconst ⟨by decide, by decide⟩ kL_law rfl ?_
        refine fz_iload kL_law rfl rfl ?_
        refine fz_if_ne (tgt := 1149) kL_law rfl (by decide) (fun c89 => ?_) (fun c89 => ?_)
        · refine fz_iconst ⟨by decide, by decide⟩ kL_law rfl ?_
          refine fz_icmp_ne (tgt := 1206) kL_law rfl (by decide) (fun c90 => ?_) (fun c90 => ?_)
          · exfalso; omega
          · refine fz_aload_n kL_law rfl rfl ?_
            refine fz_iload kL_law rfl rfl ?_
            refine fz_iload kL_law rfl rfl ?_
            refine fz_iconst ⟨by decide, by decide⟩ kL_law rfl ?_
            refine fz_callV (d' := 6) (M' := mX10_atHour) (As := [fz_i p, fz_i hr, fz_i 0]) (st := []) kL_law rfl rfl vX10_atHour rfl rfl rfl rfl (Nat.le_of_ble_eq_true rfl) (Nat.le_of_ble_eq_true rfl) (by decide) (sX10_atHour H60 hI64 p hr 0 ) (fun H91 r92 q93 o94 => ?_)
            obtain ⟨hI95, hf96, y99, rfl, f97, f98⟩ := q93
            clear o94
            have hf100 := fz_fr_tr hf69 hf96 (show fz_su [(18, 99999), (19, 99999), (29, 99999)] [(1, 7), (1, 8), (2, 99999), (3, 99999), (4, 99999), (5, 99999), (6, 99999), (7, 99999), (8, 99999), (9, 5), (10, 99999), (11, 99999), (12, 99999), (13, 99999), (14, 99999), (15, 4), (16, 99999), (17, 99999), (18, 99999), (19, 99999), (20, 2), (20, 3), (20, 4), (21, 4), (22, 99999), (23, 99999), (26, 99999), (27, 8), (27, 9), (28, 99999), (29, 99999), (30, 99999), (31, 99999), (32, 99999), (33, 3), (33, 4), (33, 5), (33, 6), (33, 7), (34, 99999), (35, 4), (35, 5), (36, 99999), (37, 99999), (38, 99999), (39, 99999), (40, 1), (40, 2), (40, 3), (40, 4), (40, 5), (40, 6), (41, 99999), (42, 99999), (43, 99999), (44, 2), (45, 99999), (48, 99999), (50, 99999), (51, 99999), (52, 99999), (53, 99999)] = true from rfl)
            have hRE101 : fz_RE H91 := fz_RE_eq (funext fun s => hf96 5 s rfl) (funext fun s => hf96 6 s rfl) (hf96 1 8 rfl) (hf96 1 7 rfl) hRE70
            have hRV102 : fz_RV H91 := fz_RV_eq (funext fun s => hf96 7 s rfl) (funext fun s => hf96 8 s rfl) (funext fun s => hf96 3 s rfl) (funext fun s => hf96 4 s rfl) (funext fun s => hf96 5 s rfl) (funext fun s => hf96 6 s rfl) (hf96 1 7 rfl) (hf96 1 8 rfl) hRV71
            have hRP2103 : fz_RP2 H91 := fz_RP2_eq (funext fun s => hf96 11 s rfl) (hf96 9 5 rfl) (hf96 1 7 rfl) hRP272
            have hN104 : st_N tw H91 := st_N_eq (hf96 53 0 rfl) (hf96 53 1 rfl) (hf96 53 2 rfl) (hf96 1 7 rfl) (hf96 1 8 rfl) (hf96 9 5 rfl) (hf96 35 4 rfl) (hf96 20 2 rfl) hN73
            have hL1105 : st_L1 H91 := st_L1_eq (funext fun s => hf96 3 s rfl) (hf96 1 8 rfl) hL174
            have hZ106 : st_Z H91 := st_Z_eq (hf96 40 1 rfl) (hf96 40 2 rfl) (hf96 40 3 rfl) (hf96 40 4 rfl) (hf96 40 5 rfl) (funext fun s => hf96 41 s rfl) hZ75
            have hIm107 : st_Im H91 := st_Im_eq (hf96 40 6 rfl) (funext fun s => hf96 43 s rfl) (funext fun s => hf96 42 s rfl) hIm76
            have hX108 : fz_Xc H91 := fz_Xc_fr hf96 rfl hX77
            have t109 : H91 9 5 = H60 9 5 := hf96 9 5 rfl
            have t110 : H91 1 7 = H60 1 7 := hf96 1 7 rfl
            have t111 : H91 1 8 = H60 1 8 := hf96 1 8 rfl
            have t112 : H91 48 0 = H60 48 0 := hf96 48 0 rfl
            have t113 : H91 50 0 = H60 50 0 := hf96 50 0 rfl
            have t114 : H91 51 0 = H60 51 0 := hf96 51 0 rfl
            have hW115 := st_W_fr rfl hf96 hW84
            have nm116 : fz_nm H91 = fz_nm H := (fz_nm_fr rfl hf96).trans nm85
            have hS117 : st_S sm H91 := st_S_fr rfl hf96 hS86
            have k118 := pf_ah0 hI64 (t := t) (by omega) (by omega) (by omega) f98 hW84.1
            refine fz_iload kL_law rfl rfl ?_
            refine fz_ishr kL_law rfl ?_
            have b119 : -2147483648 ≤ (fz_shr y99 t) ∧ (fz_shr y99 t) < 2147483648 := fz_b32 _
            refine fz_iconst ⟨by decide, by decide⟩ kL_law rfl ?_
            refine fz_iand kL_law rfl ?_
            have b121 : -2147483648 ≤ (fz_and (fz_shr y99 t) 1) ∧ (fz_and (fz_shr y99 t) 1) < 2147483648 := fz_b32 _
            have b122 : 0 ≤ (fz_and (fz_shr y99 t) 1) ∧ (fz_and (fz_shr y99 t) 1) ≤ 1 := fz_and_m (by omega) (by omega)
            refine fz_iload kL_law rfl rfl ?_
            refine fz_if_ne (tgt := 1176) kL_law rfl (by decide) (fun c123 => ?_) (fun c123 => ?_)
            · refine fz_iconst ⟨by decide, by decide⟩ kL_law rfl ?_
              refine fz_icmp_ne (tgt := 1206) kL_law rfl (by decide) (fun c124 => ?_) (fun c124 => ?_)
              · exfalso; omega
              · refine fz_aload_n kL_law rfl rfl ?_
                refine fz_iload kL_law rfl rfl ?_
                refine fz_iload kL_law rfl rfl ?_
                refine fz_iconst ⟨by decide, by decide⟩ kL_law rfl ?_
                refine fz_callV (d' := 6) (M' := mX10_atHour) (As := [fz_i p, fz_i hr, fz_i 1]) (st := []) kL_law rfl rfl vX10_atHour rfl rfl rfl rfl (Nat.le_of_ble_eq_true rfl) (Nat.le_of_ble_eq_true rfl) (by decide) (sX10_atHour H91 hI95 p hr 1 ) (fun H125 r126 q127 o128 => ?_)
                obtain ⟨hI129, hf130, y133, rfl, f131, f132⟩ := q127
                clear o128
                have hf134 := fz_fr_tr hf100 hf130 (show fz_su [(18, 99999), (19, 99999), (29, 99999)] [(1, 7), (1, 8), (2, 99999), (3, 99999), (4, 99999), (5, 99999), (6, 99999), (7, 99999), (8, 99999), (9, 5), (10, 99999), (11, 99999), (12, 99999), (13, 99999), (14, 99999), (15, 4), (16, 99999), (17, 99999), (18, 99999), (19, 99999), (20, 2), (20, 3), (20, 4), (21, 4), (22, 99999), (23, 99999), (26, 99999), (27, 8), (27, 9), (28, 99999), (29, 99999), (30, 99999), (31, 99999), (32, 99999), (33, 3), (33, 4), (33, 5), (33, 6), (33, 7), (34, 99999), (35, 4), (35, 5), (36, 99999), (37, 99999), (38, 99999), (39, 99999), (40, 1), (40, 2), (40, 3), (40, 4), (40, 5), (40, 6), (41, 99999), (42, 99999), (43, 99999), (44, 2), (45, 99999), (48, 99999), (50, 99999), (51, 99999), (52, 99999), (53, 99999)] = true from rfl)
                have hRE135 : fz_RE H125 := fz_RE_eq (funext fun s => hf130 5 s rfl) (funext fun s => hf130 6 s rfl) (hf130 1 8 rfl) (hf130 1 7 rfl) hRE101
                have hRV136 : fz_RV H125 := fz_RV_eq (funext fun s => hf130 7 s rfl) (funext fun s => hf130 8 s rfl) (funext fun s => hf130 3 s rfl) (funext fun s => hf130 4 s rfl) (funext fun s => hf130 5 s rfl) (funext fun s => hf130 6 s rfl) (hf130 1 7 rfl) (hf130 1 8 rfl) hRV102
                have hRP2137 : fz_RP2 H125 := fz_RP2_eq (funext fun s => hf130 11 s rfl) (hf130 9 5 rfl) (hf130 1 7 rfl) hRP2103
                have hN138 : st_N tw H125 := st_N_eq (hf130 53 0 rfl) (hf130 53 1 rfl) (hf130 53 2 rfl) (hf130 1 7 rfl) (hf130 1 8 rfl) (hf130 9 5 rfl) (hf130 35 4 rfl) (hf130 20 2 rfl) hN104
                have hL1139 : st_L1 H125 := st_L1_eq (funext fun s => hf130 3 s rfl) (hf130 1 8 rfl) hL1105
                have hZ140 : st_Z H125 := st_Z_eq (hf130 40 1 rfl) (hf130 40 2 rfl) (hf130 40 3 rfl) (hf130 40 4 rfl) (hf130 40 5 rfl) (funext fun s => hf130 41 s rfl) hZ106
                have hIm141 : st_Im H125 := st_Im_eq (hf130 40 6 rfl) (funext fun s => hf130 43 s rfl) (funext fun s => hf130 42 s rfl) hIm107
                have hX142 : fz_Xc H125 := fz_Xc_fr hf130 rfl hX108
                have t143 : H125 9 5 = H91 9 5 := hf130 9 5 rfl
                have t144 : H125 1 7 = H91 1 7 := hf130 1 7 rfl
                have t145 : H125 1 8 = H91 1 8 := hf130 1 8 rfl
                have t146 : H125 48 0 = H91 48 0 := hf130 48 0 rfl
                have t147 : H125 50 0 = H91 50 0 := hf130 50 0 rfl
                have t148 : H125 51 0 = H91 51 0 := hf130 51 0 rfl
                have hW149 := st_W_fr rfl hf130 hW115
                have nm150 : fz_nm H125 = fz_nm H := (fz_nm_fr rfl hf130).trans nm116
                have hS151 : st_S sm H125 := st_S_fr rfl hf130 hS117
                have k152 := f132
                refine fz_iload kL_law rfl rfl ?_
                refine fz_ishr kL_law rfl ?_
                have b154 : -2147483648 ≤ (fz_shr y133 t) ∧ (fz_shr y133 t) < 2147483648 := fz_b32 _
                refine fz_iconst ⟨by decide, by decide⟩ kL_law rfl ?_
                refine fz_iand kL_law rfl ?_
                have b156 : -2147483648 ≤ (fz_and (fz_shr y133 t) 1) ∧ (fz_and (fz_shr y133 t) 1) < 2147483648 := fz_b32 _
                have b157 : 0 ≤ (fz_and (fz_shr y133 t) 1) ∧ (fz_and (fz_shr y133 t) 1) ≤ 1 := fz_and_m (by omega) (by omega)
                refine fz_aload_n kL_law rfl rfl ?_
                refine fz_iload kL_law rfl rfl ?_
                refine fz_iload kL_law rfl rfl ?_
                refine fz_iconst ⟨by decide, by decide⟩ kL_law rfl ?_
                refine fz_callV (d' := 5) (M' := mX10_received) (As := [fz_i p, fz_i th, fz_i 1]) (st := [fz_i (fz_and (fz_shr y133 t) 1)]) kL_law rfl rfl vX10_received rfl rfl rfl rfl (Nat.le_of_ble_eq_true rfl) (Nat.le_of_ble_eq_true rfl) (by decide) (sX10_received H125 hI129 p th 1 ) (fun H158 r159 q160 o161 => ?_)
                obtain ⟨hI162, hf163, y166, rfl, f164, f165⟩ := q160
                clear o161
                have hf167 := fz_fr_tr hf134 hf163 (show fz_su [(18, 99999), (19, 99999), (29, 99999)] [(1, 7), (1, 8), (2, 99999), (3, 99999), (4, 99999), (5, 99999), (6, 99999), (7, 99999), (8, 99999), (9, 5), (10, 99999), (11, 99999), (12, 99999), (13, 99999), (14, 99999), (15, 4), (16, 99999), (17, 99999), (18, 99999), (19, 99999), (20, 2), (20, 3), (20, 4), (21, 4), (22, 99999), (23, 99999), (26, 99999), (27, 8), (27, 9), (28, 99999), (29, 99999), (30, 99999), (31, 99999), (32, 99999), (33, 3), (33, 4), (33, 5), (33, 6), (33, 7), (34, 99999), (35, 4), (35, 5), (36, 99999), (37, 99999), (38, 99999), (39, 99999), (40, 1), (40, 2), (40, 3), (40, 4), (40, 5), (40, 6), (41, 99999), (42, 99999), (43, 99999), (44, 2), (45, 99999), (48, 99999), (50, 99999), (51, 99999), (52, 99999), (53, 99999)] = true from rfl)
                have hRE168 : fz_RE H158 := fz_RE_eq (funext fun s => hf163 5 s rfl) (funext fun s => hf163 6 s rfl) (hf163 1 8 rfl) (hf163 1 7 rfl) hRE135
                have hRV169 : fz_RV H158 := fz_RV_eq (funext fun s => hf163 7 s rfl) (funext fun s => hf163 8 s rfl) (funext fun s => hf163 3 s rfl) (funext fun s => hf163 4 s rfl) (funext fun s => hf163 5 s rfl) (funext fun s => hf163 6 s rfl) (hf163 1 7 rfl) (hf163 1 8 rfl) hRV136
                have hRP2170 : fz_RP2 H158 := fz_RP2_eq (funext fun s => hf163 11 s rfl) (hf163 9 5 rfl) (hf163 1 7 rfl) hRP2137
                have hN171 : st_N tw H158 := st_N_eq (hf163 53 0 rfl) (hf163 53 1 rfl) (hf163 53 2 rfl) (hf163 1 7 rfl) (hf163 1 8 rfl) (hf163 9 5 rfl) (hf163 35 4 rfl) (hf163 20 2 rfl) hN138
                have hL1172 : st_L1 H158 := st_L1_eq (funext fun s => hf163 3 s rfl) (hf163 1 8 rfl) hL1139
                have hZ173 : st_Z H158 := st_Z_eq (hf163 40 1 rfl) (hf163 40 2 rfl) (hf163 40 3 rfl) (hf163 40 4 rfl) (hf163 40 5 rfl) (funext fun s => hf163 41 s rfl) hZ140
                have hIm174 : st_Im H158 := st_Im_eq (hf163 40 6 rfl) (funext fun s => hf163 43 s rfl) (funext fun s => hf163 42 s rfl) hIm141
                have hX175 : fz_Xc H158 := fz_Xc_fr hf163 rfl hX142
                have t176 : H158 9 5 = H125 9 5 := hf163 9 5 rfl
                have t177 : H158 1 7 = H125 1 7 := hf163 1 7 rfl
                have t178 : H158 1 8 = H125 1 8 := hf163 1 8 rfl
                have t179 : H158 48 0 = H125 48 0 := hf163 48 0 rfl
                have t180 : H158 50 0 = H125 50 0 := hf163 50 0 rfl
                have t181 : H158 51 0 = H125 51 0 := hf163 51 0 rfl
                have hW182 := st_W_fr rfl hf163 hW149
                have nm183 : fz_nm H158 = fz_nm H := (fz_nm_fr rfl hf163).trans nm150
                have hS184 : st_S sm H158 := st_S_fr rfl hf163 hS151
                have k185 := st_W_5 (nm150.trans nm116.symm) hI95 (t := t) (by omega) (by omega) (by omega) (by omega) (by omega) k152 f165
                refine fz_icmp_eq (tgt := 1208) kL_law rfl (by decide) (fun c186 => ?_) (fun c186 => ?_)
                · exact k H158  hI162 hf167 hX175 hRE168 hRV169 hRP2170 hN171 hS184 hL1172 hZ173 hIm174 hW182
                · exfalso; omega
            · exfalso; omega
        · refine fz_iconst ⟨by decide, by decide⟩ kL_law rfl ?_
          refine fz_goto (tgt := 1150) kL_law rfl (by decide) ?_
          refine fz_icmp_ne (tgt := 1206) kL_law rfl (by decide) (fun c187 => ?_) (fun c187 => ?_)
          · exfalso; omega
          · exfalso; omega
      · refine fz_iconst ⟨by decide, by decide⟩ kL_law rfl ?_
        refine fz_goto (tgt := 1140) kL_law rfl (by decide) ?_
        refine fz_iload kL_law rfl rfl ?_
        refine fz_if_ne (tgt := 1149) kL_law rfl (by decide) (fun c188 => ?_) (fun c188 => ?_)
        · refine fz_iconst ⟨by decide, by decide⟩ kL_law rfl ?_
          refine fz_icmp_ne (tgt := 1206) kL_law rfl (by decide) (fun c189 => ?_) (fun c189 => ?_)
          · exfalso; omega
          · exfalso; omega
        · refine fz_iconst ⟨by decide, by decide⟩ kL_law rfl ?_
          refine fz_goto (tgt := 1150) kL_law rfl (by decide) ?_
          refine fz_icmp_ne (tgt := 1206) kL_law rfl (by decide) (fun c190 => ?_) (fun c190 => ?_)
          · exfalso; omega
          · refine fz_aload_n kL_law rfl rfl ?_
            refine fz_iload kL_law rfl rfl ?_
            refine fz_iload kL_law rfl rfl ?_
            refine fz_iconst ⟨by decide, by decide⟩ kL_law rfl ?_
            refine fz_callV (d' := 6) (M' := mX10_atHour) (As := [fz_i p, fz_i hr, fz_i 0]) (st := []) kL_law rfl rfl vX10_atHour rfl rfl rfl rfl (Nat.le_of_ble_eq_true rfl) (Nat.le_of_ble_eq_true rfl) (by decide) (sX10_atHour H60 hI64 p hr 0 ) (fun H191 r192 q193 o194 => ?_)
            obtain ⟨hI195, hf196, y199, rfl, f197, f198⟩ := q193
            clear o194
            have hf200 := fz_fr_tr hf69 hf196 (show fz_su [(18, 99999), (19, 99999), (29, 99999)] [(1, 7), (1, 8), (2, 99999), (3, 99999), (4, 99999), (5, 99999), (6, 99999), (7, 99999), (8, 99999), (9, 5), (10, 99999), (11, 99999), (12, 99999), (13, 99999), (14, 99999), (15, 4), (16, 99999), (17, 99999), (18, 99999), (19, 99999), (20, 2), (20, 3), (20, 4), (21, 4), (22, 99999), (23, 99999), (26, 99999), (27, 8), (27, 9), (28, 99999), (29, 99999), (30, 99999), (31, 99999), (32, 99999), (33, 3), (33, 4), (33, 5), (33, 6), (33, 7), (34, 99999), (35, 4), (35, 5), (36, 99999), (37, 99999), (38, 99999), (39, 99999), (40, 1), (40, 2), (40, 3), (40, 4), (40, 5), (40, 6), (41, 99999), (42, 99999), (43, 99999), (44, 2), (45, 99999), (48, 99999), (50, 99999), (51, 99999), (52, 99999), (53, 99999)] = true from rfl)
            have hRE201 : fz_RE H191 := fz_RE_eq (funext fun s => hf196 5 s rfl) (funext fun s => hf196 6 s rfl) (hf196 1 8 rfl) (hf196 1 7 rfl) hRE70
            have hRV202 : fz_RV H191 := fz_RV_eq (funext fun s => hf196 7 s rfl) (funext fun s => hf196 8 s rfl) (funext fun s => hf196 3 s rfl) (funext fun s => hf196 4 s rfl) (funext fun s => hf196 5 s rfl) (funext fun s => hf196 6 s rfl) (hf196 1 7 rfl) (hf196 1 8 rfl) hRV71
            have hRP2203 : fz_RP2 H191 := fz_RP2_eq (funext fun s => hf196 11 s rfl) (hf196 9 5 rfl) (hf196 1 7 rfl) hRP272
            have hN204 : st_N tw H191 := st_N_eq (hf196 53 0 rfl) (hf196 53 1 rfl) (hf196 53 2 rfl) (hf196 1 7 rfl) (hf196 1 8 rfl) (hf196 9 5 rfl) (hf196 35 4 rfl) (hf196 20 2 rfl) hN73
            have hL1205 : st_L1 H191 := st_L1_eq (funext fun s => hf196 3 s rfl) (hf196 1 8 rfl) hL174
            have hZ206 : st_Z H191 := st_Z_eq (hf196 40 1 rfl) (hf196 40 2 rfl) (hf196 40 3 rfl) (hf196 40 4 rfl) (hf196 40 5 rfl) (funext fun s => hf196 41 s rfl) hZ75
            have hIm207 : st_Im H191 := st_Im_eq (hf196 40 6 rfl) (funext fun s => hf196 43 s rfl) (funext fun s => hf196 42 s rfl) hIm76
            have hX208 : fz_Xc H191 := fz_Xc_fr hf196 rfl hX77
            have t209 : H191 9 5 = H60 9 5 := hf196 9 5 rfl
            have t210 : H191 1 7 = H60 1 7 := hf196 1 7 rfl
            have t211 : H191 1 8 = H60 1 8 := hf196 1 8 rfl
            have t212 : H191 48 0 = H60 48 0 := hf196 48 0 rfl
            have t213 : H191 50 0 = H60 50 0 := hf196 50 0 rfl
            have t214 : H191 51 0 = H60 51 0 := hf196 51 0 rfl
            have hW215 := st_W_fr rfl hf196 hW84
            have nm216 : fz_nm H191 = fz_nm H := (fz_nm_fr rfl hf196).trans nm85
            have hS217 : st_S sm H191 := st_S_fr rfl hf196 hS86
            have k218 := pf_ah0 hI64 (t := t) (by omega) (by omega) (by omega) f198 hW84.1
            refine fz_iload kL_law rfl rfl ?_
            refine fz_ishr kL_law rfl ?_
            have b219 : -2147483648 ≤ (fz_shr y199 t) ∧ (fz_shr y199 t) < 2147483648 := fz_b32 _
            refine fz_iconst ⟨by decide, by decide⟩ kL_law rfl ?_
            refine fz_iand kL_law rfl ?_
            have b221 : -2147483648 ≤ (fz_and (fz_shr y199 t) 1) ∧ (fz_and (fz_shr y199 t) 1) < 2147483648 := fz_b32 _
            have b222 : 0 ≤ (fz_and (fz_shr y199 t) 1) ∧ (fz_and (fz_shr y199 t) 1) ≤ 1 := fz_and_m (by omega) (by omega)
            refine fz_iload kL_law rfl rfl ?_
            refine fz_if_ne (tgt := 1176) kL_law rfl (by decide) (fun c223 => ?_) (fun c223 => ?_)
            · exfalso; omega
            · refine fz_iconst ⟨by decide, by decide⟩ kL_law rfl ?_
              refine fz_goto (tgt := 1177) kL_law rfl (by decide) ?_
              refine fz_icmp_ne (tgt := 1206) kL_law rfl (by decide) (fun c224 => ?_) (fun c224 => ?_)
              · exfalso; omega
              · refine fz_aload_n kL_law rfl rfl ?_
                refine fz_iload kL_law rfl rfl ?_
                refine fz_iload kL_law rfl rfl ?_
                refine fz_iconst ⟨by decide, by decide⟩ kL_law rfl ?_
                refine fz_callV (d' := 6) (M' := mX10_atHour) (As := [fz_i p, fz_i hr, fz_i 1]) (st := []) kL_law rfl rfl vX10_atHour rfl rfl rfl rfl (Nat.le_of_ble_eq_true rfl) (Nat.le_of_ble_eq_true rfl) (by decide) (sX10_atHour H191 hI195 p hr 1 ) (fun H225 r226 q227 o228 => ?_)
                obtain ⟨hI229, hf230, y233, rfl, f231, f232⟩ := q227
                clear o228
                have hf234 := fz_fr_tr hf200 hf230 (show fz_su [(18, 99999), (19, 99999), (29, 99999)] [(1, 7), (1, 8), (2, 99999), (3, 99999), (4, 99999), (5, 99999), (6, 99999), (7, 99999), (8, 99999), (9, 5), (10, 99999), (11, 99999), (12, 99999), (13, 99999), (14, 99999), (15, 4), (16, 99999), (17, 99999), (18, 99999), (19, 99999), (20, 2), (20, 3), (20, 4), (21, 4), (22, 99999), (23, 99999), (26, 99999), (27, 8), (27, 9), (28, 99999), (29, 99999), (30, 99999), (31, 99999), (32, 99999), (33, 3), (33, 4), (33, 5), (33, 6), (33, 7), (34, 99999), (35, 4), (35, 5), (36, 99999), (37, 99999), (38, 99999), (39, 99999), (40, 1), (40, 2), (40, 3), (40, 4), (40, 5), (40, 6), (41, 99999), (42, 99999), (43, 99999), (44, 2), (45, 99999), (48, 99999), (50, 99999), (51, 99999), (52, 99999), (53, 99999)] = true from rfl)
                have hRE235 : fz_RE H225 := fz_RE_eq (funext fun s => hf230 5 s rfl) (funext fun s => hf230 6 s rfl) (hf230 1 8 rfl) (hf230 1 7 rfl) hRE201
                have hRV236 : fz_RV H225 := fz_RV_eq (funext fun s => hf230 7 s rfl) (funext fun s => hf230 8 s rfl) (funext fun s => hf230 3 s rfl) (funext fun s => hf230 4 s rfl) (funext fun s => hf230 5 s rfl) (funext fun s => hf230 6 s rfl) (hf230 1 7 rfl) (hf230 1 8 rfl) hRV202
                have hRP2237 : fz_RP2 H225 := fz_RP2_eq (funext fun s => hf230 11 s rfl) (hf230 9 5 rfl) (hf230 1 7 rfl) hRP2203
                have hN238 : st_N tw H225 := st_N_eq (hf230 53 0 rfl) (hf230 53 1 rfl) (hf230 53 2 rfl) (hf230 1 7 rfl) (hf230 1 8 rfl) (hf230 9 5 rfl) (hf230 35 4 rfl) (hf230 20 2 rfl) hN204
                have hL1239 : st_L1 H225 := st_L1_eq (funext fun s => hf230 3 s rfl) (hf230 1 8 rfl) hL1205
                have hZ240 : st_Z H225 := st_Z_eq (hf230 40 1 rfl) (hf230 40 2 rfl) (hf230 40 3 rfl) (hf230 40 4 rfl) (hf230 40 5 rfl) (funext fun s => hf230 41 s rfl) hZ206
                have hIm241 : st_Im H225 := st_Im_eq (hf230 40 6 rfl) (funext fun s => hf230 43 s rfl) (funext fun s => hf230 42 s rfl) hIm207
                have hX242 : fz_Xc H225 := fz_Xc_fr hf230 rfl hX208
                have t243 : H225 9 5 = H191 9 5 := hf230 9 5 rfl
                have t244 : H225 1 7 = H191 1 7 := hf230 1 7 rfl
                have t245 : H225 1 8 = H191 1 8 := hf230 1 8 rfl
                have t246 : H225 48 0 = H191 48 0 := hf230 48 0 rfl
                have t247 : H225 50 0 = H191 50 0 := hf230 50 0 rfl
                have t248 : H225 51 0 = H191 51 0 := hf230 51 0 rfl
                have hW249 := st_W_fr rfl hf230 hW215
                have nm250 : fz_nm H225 = fz_nm H := (fz_nm_fr rfl hf230).trans nm216
                have hS251 : st_S sm H225 := st_S_fr rfl hf230 hS217
                have k252 := f232
                refine fz_iload kL_law rfl rfl ?_
                refine fz_ishr kL_law rfl ?_
                have b254 : -2147483648 ≤ (fz_shr y233 t) ∧ (fz_shr y233 t) < 2147483648 := fz_b32 _
                refine fz_iconst ⟨by decide, by decide⟩ kL_law rfl ?_
                refine fz_iand kL_law rfl ?_
                have b256 : -2147483648 ≤ (fz_and (fz_shr y233 t) 1) ∧ (fz_and (fz_shr y233 t) 1) < 2147483648 := fz_b32 _
                have b257 : 0 ≤ (fz_and (fz_shr y233 t) 1) ∧ (fz_and (fz_shr y233 t) 1) ≤ 1 := fz_and_m (by omega) (by omega)
                refine fz_aload_n kL_law rfl rfl ?_
                refine fz_iload kL_law rfl rfl ?_
                refine fz_iload kL_law rfl rfl ?_
                refine fz_iconst ⟨by decide, by decide⟩ kL_law rfl ?_
                refine fz_callV (d' := 5) (M' := mX10_received) (As := [fz_i p, fz_i th, fz_i 1]) (st := [fz_i (fz_and (fz_shr y233 t) 1)]) kL_law rfl rfl vX10_received rfl rfl rfl rfl (Nat.le_of_ble_eq_true rfl) (Nat.le_of_ble_eq_true rfl) (by decide) (sX10_received H225 hI229 p th 1 ) (fun H258 r259 q260 o261 => ?_)
                obtain ⟨hI262, hf263, y266, rfl, f264, f265⟩ := q260
                clear o261
                have hf267 := fz_fr_tr hf234 hf263 (show fz_su [(18, 99999), (19, 99999), (29, 99999)] [(1, 7), (1, 8), (2, 99999), (3, 99999), (4, 99999), (5, 99999), (6, 99999), (7, 99999), (8, 99999), (9, 5), (10, 99999), (11, 99999), (12, 99999), (13, 99999), (14, 99999), (15, 4), (16, 99999), (17, 99999), (18, 99999), (19, 99999), (20, 2), (20, 3), (20, 4), (21, 4), (22, 99999), (23, 99999), (26, 99999), (27, 8), (27, 9), (28, 99999), (29, 99999), (30, 99999), (31, 99999), (32, 99999), (33, 3), (33, 4), (33, 5), (33, 6), (33, 7), (34, 99999), (35, 4), (35, 5), (36, 99999), (37, 99999), (38, 99999), (39, 99999), (40, 1), (40, 2), (40, 3), (40, 4), (40, 5), (40, 6), (41, 99999), (42, 99999), (43, 99999), (44, 2), (45, 99999), (48, 99999), (50, 99999), (51, 99999), (52, 99999), (53, 99999)] = true from rfl)
                have hRE268 : fz_RE H258 := fz_RE_eq (funext fun s => hf263 5 s rfl) (funext fun s => hf263 6 s rfl) (hf263 1 8 rfl) (hf263 1 7 rfl) hRE235
                have hRV269 : fz_RV H258 := fz_RV_eq (funext fun s => hf263 7 s rfl) (funext fun s => hf263 8 s rfl) (funext fun s => hf263 3 s rfl) (funext fun s => hf263 4 s rfl) (funext fun s => hf263 5 s rfl) (funext fun s => hf263 6 s rfl) (hf263 1 7 rfl) (hf263 1 8 rfl) hRV236
                have hRP2270 : fz_RP2 H258 := fz_RP2_eq (funext fun s => hf263 11 s rfl) (hf263 9 5 rfl) (hf263 1 7 rfl) hRP2237
                have hN271 : st_N tw H258 := st_N_eq (hf263 53 0 rfl) (hf263 53 1 rfl) (hf263 53 2 rfl) (hf263 1 7 rfl) (hf263 1 8 rfl) (hf263 9 5 rfl) (hf263 35 4 rfl) (hf263 20 2 rfl) hN238
                have hL1272 : st_L1 H258 := st_L1_eq (funext fun s => hf263 3 s rfl) (hf263 1 8 rfl) hL1239
                have hZ273 : st_Z H258 := st_Z_eq (hf263 40 1 rfl) (hf263 40 2 rfl) (hf263 40 3 rfl) (hf263 40 4 rfl) (hf263 40 5 rfl) (funext fun s => hf263 41 s rfl) hZ240
                have hIm274 : st_Im H258 := st_Im_eq (hf263 40 6 rfl) (funext fun s => hf263 43 s rfl) (funext fun s => hf263 42 s rfl) hIm241
                have hX275 : fz_Xc H258 := fz_Xc_fr hf263 rfl hX242
                have t276 : H258 9 5 = H225 9 5 := hf263 9 5 rfl
                have t277 : H258 1 7 = H225 1 7 := hf263 1 7 rfl
                have t278 : H258 1 8 = H225 1 8 := hf263 1 8 rfl
                have t279 : H258 48 0 = H225 48 0 := hf263 48 0 rfl
                have t280 : H258 50 0 = H225 50 0 := hf263 50 0 rfl
                have t281 : H258 51 0 = H225 51 0 := hf263 51 0 rfl
                have hW282 := st_W_fr rfl hf263 hW249
                have nm283 : fz_nm H258 = fz_nm H := (fz_nm_fr rfl hf263).trans nm250
                have hS284 : st_S sm H258 := st_S_fr rfl hf263 hS251
                have k285 := st_W_5 (nm250.trans nm216.symm) hI195 (t := t) (by omega) (by omega) (by omega) (by omega) (by omega) k252 f265
                refine fz_icmp_eq (tgt := 1208) kL_law rfl (by decide) (fun c286 => ?_) (fun c286 => ?_)
                · exact k H258  hI262 hf267 hX275 hRE268 hRV269 hRP2270 hN271 hS284 hL1272 hZ273 hIm274 hW282
                · exfalso; omega

set_option maxHeartbeats 1000000 in
set_option maxRecDepth 100000 in
theorem sL_l1208 (h H : fz_H) (tw sm p hr t th mk rc : Int) (hI : fz_Iv H) (hf : fz_fr [(1, 7), (1, 8), (2, 99999), (3, 99999), (4, 99999), (5, 99999), (6, 99999), (7, 99999), (8, 99999), (9, 5), (10, 99999), (11, 99999), (12, 99999), (13, 99999), (14, 99999), (15, 4), (16, 99999), (17, 99999), (18, 99999), (19, 99999), (20, 2), (20, 3), (20, 4), (21, 4), (22, 99999), (23, 99999), (26, 99999), (27, 8), (27, 9), (28, 99999), (29, 99999), (30, 99999), (31, 99999), (32, 99999), (33, 3), (33, 4), (33, 5), (33, 6), (33, 7), (34, 99999), (35, 4), (35, 5), (36, 99999), (37, 99999), (38, 99999), (39, 99999), (40, 1), (40, 2), (40, 3), (40, 4), (40, 5), (40, 6), (41, 99999), (42, 99999), (43, 99999), (44, 2), (45, 99999), (48, 99999), (50, 99999), (51, 99999), (52, 99999), (53, 99999)] h H) (hX : fz_Xc H) (hRE : fz_RE H) (hRV : fz_RV H) (hRP2 : fz_RP2 H) (hN : st_N tw H) (hS : st_S sm H) (hL1 : st_L1 H) (hZ : st_Z H) (hIm : st_Im H) (hW : st_W p t hr mk rc H) (hp0 : 0 ≤ h 200 100000 ∧ h 200 100000 ≤ 3072) (hq0 : 0 ≤ tw ∧ tw ≤ 8) (hq1 : 0 ≤ p ∧ p ≤ 3) (hq2 : 0 ≤ hr ∧ hr ≤ 299) (hq3 : 0 ≤ t ∧ t < tw) (hq4 : th = 1000 * t + hr) (hq5 : 0 ≤ mk ∧ mk ≤ 5) (k : ∀ (G : fz_H), fz_Iv G → fz_fr [(1, 7), (1, 8), (2, 99999), (3, 99999), (4, 99999), (5, 99999), (6, 99999), (7, 99999), (8, 99999), (9, 5), (10, 99999), (11, 99999), (12, 99999), (13, 99999), (14, 99999), (15, 4), (16, 99999), (17, 99999), (18, 99999), (19, 99999), (20, 2), (20, 3), (20, 4), (21, 4), (22, 99999), (23, 99999), (26, 99999), (27, 8), (27, 9), (28, 99999), (29, 99999), (30, 99999), (31, 99999), (32, 99999), (33, 3), (33, 4), (33, 5), (33, 6), (33, 7), (34, 99999), (35, 4), (35, 5), (36, 99999), (37, 99999), (38, 99999), (39, 99999), (40, 1), (40, 2), (40, 3), (40, 4), (40, 5), (40, 6), (41, 99999), (42, 99999), (43, 99999), (44, 2), (45, 99999), (48, 99999), (50, 99999), (51, 99999), (52, 99999), (53, 99999)] h G → fz_Xc G → fz_RE G → fz_RV G → fz_RP2 G → st_N tw G → st_S sm G → st_L1 G → st_Z G → st_Im G → st_W p t hr mk rc G → fz_R 48 mL_law 1272 [(0, fz_r 200), (1, fz_r 0), (2, fz_r 53), (3, fz_i tw), (4, fz_l sm), (6, fz_i p), (7, fz_i hr), (8, fz_i t), (9, fz_i th), (10, fz_i mk), (11, fz_i rc)] [] G (qL_law h)) : fz_R 48 mL_law 1208 [(0, fz_r 200), (1, fz_r 0), (2, fz_r 53), (3, fz_i tw), (4, fz_l sm), (6, fz_i p), (7, fz_i hr), (8, fz_i t), (9, fz_i th), (10, fz_i mk), (11, fz_i rc)] [] H (qL_law h) := by
  have k1 := st_N_e hI hN
  refine fz_aload_n kL_law rfl rfl ?_
  refine fz_iconst ⟨by decide, by decide⟩ kL_law rfl ?_
  refine fz_iload kL_law rfl rfl ?_
  refine fz_iload kL_law rfl rfl ?_
  refine fz_callV (d' := 5) (M' := mX10_judge) (As := [fz_i 0, fz_i p, fz_i th]) (st := []) kL_law rfl rfl vX10_judge rfl rfl rfl rfl (Nat.le_of_ble_eq_true rfl) (Nat.le_of_ble_eq_true rfl) (by decide) (sX10_judge H hI 0 p th ) (fun H2 r3 q4 o5 => ?_)
  obtain ⟨hI6, hf7, y10, rfl, f8, f9⟩ := q4
  clear o5
  have hf11 := fz_fr_tr hf hf7 (show fz_su [(18, 99999), (19, 99999), (29, 99999)] [(1, 7), (1, 8), (2, 99999), (3, 99999), (4, 99999), (5, 99999), (6, 99999), (7, 99999), (8, 99999), (9, 5), (10, 99999), (11, 99999), (12, 99999), (13, 99999), (14, 99999), (15, 4), (16, 99999), (17, 99999), (18, 99999), (19, 99999), (20, 2), (20, 3), (20, 4), (21, 4), (22, 99999), (23, 99999), (26, 99999), (27, 8), (27, 9), (28, 99999), (29, 99999), (30, 99999), (31, 99999), (32, 99999), (33, 3), (33, 4), (33, 5), (33, 6), (33, 7), (34, 99999), (35, 4), (35, 5), (36, 99999), (37, 99999), (38, 99999), (39, 99999), (40, 1), (40, 2), (40, 3), (40, 4), (40, 5), (40, 6), (41, 99999), (42, 99999), (43, 99999), (44, 2), (45, 99999), (48, 99999), (50, 99999), (51, 99999), (52, 99999), (53, 99999)] = true from rfl)
  have hRE12 : fz_RE H2 := fz_RE_eq (funext fun s => hf7 5 s rfl) (funext fun s => hf7 6 s rfl) (hf7 1 8 rfl) (hf7 1 7 rfl) hRE
  have hRV13 : fz_RV H2 := fz_RV_eq (funext fun s => hf7 7 s rfl) (funext fun s => hf7 8 s rfl) (funext fun s => hf7 3 s rfl) (funext fun s => hf7 4 s rfl) (funext fun s => hf7 5 s rfl) (funext fun s => hf7 6 s rfl) (hf7 1 7 rfl) (hf7 1 8 rfl) hRV
  have hRP214 : fz_RP2 H2 := fz_RP2_eq (funext fun s => hf7 11 s rfl) (hf7 9 5 rfl) (hf7 1 7 rfl) hRP2
  have hN15 : st_N tw H2 := st_N_eq (hf7 53 0 rfl) (hf7 53 1 rfl) (hf7 53 2 rfl) (hf7 1 7 rfl) (hf7 1 8 rfl) (hf7 9 5 rfl) (hf7 35 4 rfl) (hf7 20 2 rfl) hN
  have hL116 : st_L1 H2 := st_L1_eq (funext fun s => hf7 3 s rfl) (hf7 1 8 rfl) hL1
  have hZ17 : st_Z H2 := st_Z_eq (hf7 40 1 rfl) (hf7 40 2 rfl) (hf7 40 3 rfl) (hf7 40 4 rfl) (hf7 40 5 rfl) (funext fun s => hf7 41 s rfl) hZ
  have hIm18 : st_Im H2 := st_Im_eq (hf7 40 6 rfl) (funext fun s => hf7 43 s rfl) (funext fun s => hf7 42 s rfl) hIm
  have hX19 : fz_Xc H2 := fz_Xc_fr hf7 rfl hX
  have t20 : H2 9 5 = H 9 5 := hf7 9 5 rfl
  have t21 : H2 1 7 = H 1 7 := hf7 1 7 rfl
  have t22 : H2 1 8 = H 1 8 := hf7 1 8 rfl
  have t23 : H2 48 0 = H 48 0 := hf7 48 0 rfl
  have t24 : H2 50 0 = H 50 0 := hf7 50 0 rfl
  have t25 : H2 51 0 = H 51 0 := hf7 51 0 rfl
  have hW26 := st_W_fr rfl hf7 hW
  have nm27 : fz_nm H2 = fz_nm H := (fz_nm_fr rfl hf7).trans rfl
  have hS28 : st_S sm H2 := st_S_fr rfl hf7 hS
  have k29 := st_W_j hW (by omega) (by omega) (by omega) (by omega) f9
  refine fz_bipush ⟨by decide, by decide⟩ kL_law rfl ?_
  refine fz_icmp_ne (tgt := 1270) kL_law rfl (by decide) (fun c30 => ?_) (fun c30 => ?_)
  · exfalso; omega
  · refine fz_aload_n kL_law rfl rfl ?_
    refine fz_iconst ⟨by decide, by decide⟩ kL_law rfl ?_
    refine fz_iload kL_law rfl rfl ?_
    refine fz_iload kL_law rfl rfl ?_
    refine fz_iconst ⟨by decide, by decide⟩ kL_law rfl ?_
    refine fz_callV (d' := 5) (M' := mX10_which) (As := [fz_i 0, fz_i p, fz_i th, fz_i 0]) (st := []) kL_law rfl rfl vX10_which rfl rfl rfl rfl (Nat.le_of_ble_eq_true rfl) (Nat.le_of_ble_eq_true rfl) (by decide) (sX10_which H2 hI6 0 p th 0 ) (fun H31 r32 q33 o34 => ?_)
    obtain ⟨hI35, hf36, y39, rfl, f37, f38⟩ := q33
    clear o34
    have hf40 := fz_fr_tr hf11 hf36 (show fz_su [(18, 99999), (19, 99999), (29, 99999), (31, 99999)] [(1, 7), (1, 8), (2, 99999), (3, 99999), (4, 99999), (5, 99999), (6, 99999), (7, 99999), (8, 99999), (9, 5), (10, 99999), (11, 99999), (12, 99999), (13, 99999), (14, 99999), (15, 4), (16, 99999), (17, 99999), (18, 99999), (19, 99999), (20, 2), (20, 3), (20, 4), (21, 4), (22, 99999), (23, 99999), (26, 99999), (27, 8), (27, 9), (28, 99999), (29, 99999), (30, 99999), (31, 99999), (32, 99999), (33, 3), (33, 4), (33, 5), (33, 6), (33, 7), (34, 99999), (35, 4), (35, 5), (36, 99999), (37, 99999), (38, 99999), (39, 99999), (40, 1), (40, 2), (40, 3), (40, 4), (40, 5), (40, 6), (41, 99999), (42, 99999), (43, 99999), (44, 2), (45, 99999), (48, 99999), (50, 99999), (51, 99999), (52, 99999), (53, 99999)] = true from rfl)
    have hRE41 : fz_RE H31 := fz_RE_eq (funext fun s => hf36 5 s rfl) (funext fun s => hf36 6 s rfl) (hf36 1 8 rfl) (hf36 1 7 rfl) hRE12
    have hRV42 : fz_RV H31 := fz_RV_eq (funext fun s => hf36 7 s rfl) (funext fun s => hf36 8 s rfl) (funext fun s => hf36 3 s rfl) (funext fun s => hf36 4 s rfl) (funext fun s => hf36 5 s rfl) (funext fun s => hf36 6 s rfl) (hf36 1 7 rfl) (hf36 1 8 rfl) hRV13
    have hRP243 : fz_RP2 H31 := fz_RP2_eq (funext fun s => hf36 11 s rfl) (hf36 9 5 rfl) (hf36 1 7 rfl) hRP214
    have hN44 : st_N tw H31 := st_N_eq (hf36 53 0 rfl) (hf36 53 1 rfl) (hf36 53 2 rfl) (hf36 1 7 rfl) (hf36 1 8 rfl) (hf36 9 5 rfl) (hf36 35 4 rfl) (hf36 20 2 rfl) hN15
    have hL145 : st_L1 H31 := st_L1_eq (funext fun s => hf36 3 s rfl) (hf36 1 8 rfl) hL116
    have hZ46 : st_Z H31 := st_Z_eq (hf36 40 1 rfl) (hf36 40 2 rfl) (hf36 40 3 rfl) (hf36 40 4 rfl) (hf36 40 5 rfl) (funext fun s => hf36 41 s rfl) hZ17
    have hIm47 : st_Im H31 := st_Im_eq (hf36 40 6 rfl) (funext fun s => hf36 43 s rfl) (funext fun s => hf36 42 s rfl) hIm18
    have hX48 : fz_Xc H31 := fz_Xc_fr hf36 rfl hX19
    have t49 : H31 9 5 = H2 9 5 := hf36 9 5 rfl
    have t50 : H31 1 7 = H2 1 7 := hf36 1 7 rfl
    have t51 : H31 1 8 = H2 1 8 := hf36 1 8 rfl
    have t52 : H31 48 0 = H2 48 0 := hf36 48 0 rfl
    have t53 : H31 50 0 = H2 50 0 := hf36 50 0 rfl
    have t54 : H31 51 0 = H2 51 0 := hf36 51 0 rfl
    have hW55 := st_W_fr rfl hf36 hW26
    have nm56 : fz_nm H31 = fz_nm H := (fz_nm_fr rfl hf36).trans nm27
    have hS57 : st_S sm H31 := st_S_fr rfl hf36 hS28
    have k58 := st_W_w0 hW26 hI6 (by omega) (by omega) (by omega) (by omega) f38
    refine fz_iconst ⟨by decide, by decide⟩ kL_law rfl ?_
    refine fz_icmp_lt (tgt := 1270) kL_law rfl (by decide) (fun c59 => ?_) (fun c59 => ?_)
    · exfalso; omega
    · refine fz_aload_n kL_law rfl rfl ?_
      refine fz_iconst ⟨by decide, by decide⟩ kL_law rfl ?_
      refine fz_iload kL_law rfl rfl ?_
      refine fz_iload kL_law rfl rfl ?_
      refine fz_iconst ⟨by decide, by decide⟩ kL_law rfl ?_
      refine fz_callV (d' := 5) (M' := mX10_which) (As := [fz_i 0, fz_i p, fz_i th, fz_i 1]) (st := []) kL_law rfl rfl vX10_which rfl rfl rfl rfl (Nat.le_of_ble_eq_true rfl) (Nat.le_of_ble_eq_true rfl) (by decide) (sX10_which H31 hI35 0 p th 1 ) (fun H60 r61 q62 o63 => ?_)
      obtain ⟨hI64, hf65, y68, rfl, f66, f67⟩ := q62
      clear o63
      have hf69 := fz_fr_tr hf40 hf65 (show fz_su [(18, 99999), (19, 99999), (29, 99999), (31, 99999)] [(1, 7), (1, 8), (2, 99999), (3, 99999), (4, 99999), (5, 99999), (6, 99999), (7, 99999), (8, 99999), (9, 5), (10, 99999), (11, 99999), (12, 99999), (13, 99999), (14, 99999), (15, 4), (16, 99999), (17, 99999), (18, 99999), (19, 99999), (20, 2), (20, 3), (20, 4), (21, 4), (22, 99999), (23, 99999), (26, 99999), (27, 8), (27, 9), (28, 99999), (29, 99999), (30, 99999), (31, 99999), (32, 99999), (33, 3), (33, 4), (33, 5), (33, 6), (33, 7), (34, 99999), (35, 4), (35, 5), (36, 99999), (37, 99999), (38, 99999), (39, 99999), (40, 1), (40, 2), (40, 3), (40, 4), (40, 5), (40, 6), (41, 99999), (42, 99999), (43, 99999), (44, 2), (45, 99999), (48, 99999), (50, 99999), (51, 99999), (52, 99999), (53, 99999)] = true from rfl)
      have hRE70 : fz_RE H60 := fz_RE_eq (funext fun s => hf65 5 s rfl) (funext fun s => hf65 6 s rfl) (hf65 1 8 rfl) (hf65 1 7 rfl) hRE41
      have hRV71 : fz_RV H60 := fz_RV_eq (funext fun s => hf65 7 s rfl) (funext fun s => hf65 8 s rfl) (funext fun s => hf65 3 s rfl) (funext fun s => hf65 4 s rfl) (funext fun s => hf65 5 s rfl) (funext fun s => hf65 6 s rfl) (hf65 1 7 rfl) (hf65 1 8 rfl) hRV42
      have hRP272 : fz_RP2 H60 := fz_RP2_eq (funext fun s => hf65 11 s rfl) (hf65 9 5 rfl) (hf65 1 7 rfl) hRP243
      have hN73 : st_N tw H60 := st_N_eq (hf65 53 0 rfl) (hf65 53 1 rfl) (hf65 53 2 rfl) (hf65 1 7 rfl) (hf65 1 8 rfl) (hf65 9 5 rfl) (hf65 35 4 rfl) (hf65 20 2 rfl) hN44
      have hL174 : st_L1 H60 := st_L1_eq (funext fun s => hf65 3 s rfl) (hf65 1 8 rfl) hL145
      have hZ75 : st_Z H60 := st_Z_eq (hf65 40 1 rfl) (hf65 40 2 rfl) (hf65 40 3 rfl) (hf65 40 4 rfl) (hf65 40 5 rfl) (funext fun s => hf65 41 s rfl) hZ46
      have hIm76 : st_Im H60 := st_Im_eq (hf65 40 6 rfl) (funext fun s => hf65 43 s rfl) (funext fun s => hf65 42 s rfl) hIm47
      have hX77 : fz_Xc H60 := fz_Xc_fr hf65 rfl hX48
      have t78 : H60 9 5 = H31 9 5 := hf65 9 5 rfl
      have t79 : H60 1 7 = H31 1 7 := hf65 1 7 rfl
      have t80 : H60 1 8 = H31 1 8 := hf65 1 8 rfl
      have t81 : H60 48 0 = H31 48 0 := hf65 48 0 rfl
      have t82 : H60 50 0 = H31 50 0 := hf65 50 0 rfl
      have t83 : H60 51 0 = H31 51 0 := hf65 51 0 rfl
      have hW84 := st_W_fr rfl hf65 hW55
      have nm85 : fz_nm H60 = fz_nm H := (fz_nm_fr rfl hf65).trans nm56
      have hS86 : st_S sm H60 := st_S_fr rfl hf65 hS57
      have k87 := f67
      refine fz_aload_n kL_law rfl rfl ?_
      refine fz_iconst ⟨by decide, by decide⟩ kL_law rfl ?_
      refine fz_iload kL_law rfl rfl ?_
      refine fz_iload kL_law rfl rfl ?_
      refine fz_iconst ⟨by decide, by decide⟩ kL_law rfl ?_
      refine fz_callV (d' := 5) (M' := mX10_which) (As := [fz_i 0, fz_i p, fz_i th, fz_i 2]) (st := [fz_i y68]) kL_law rfl rfl vX10_which rfl rfl rfl rfl (Nat.le_of_ble_eq_true rfl) (Nat.le_of_ble_eq_true rfl) (by decide) (sX10_which H60 hI64 0 p th 2 ) (fun H89 r90 q91 o92 => ?_)
      obtain ⟨hI93, hf94, y97, rfl, f95, f96⟩ := q91
      clear o92
      have hf98 := fz_fr_tr hf69 hf94 (show fz_su [(18, 99999), (19, 99999), (29, 99999), (31, 99999)] [(1, 7), (1, 8), (2, 99999), (3, 99999), (4, 99999), (5, 99999), (6, 99999), (7, 99999), (8, 99999), (9, 5), (10, 99999), (11, 99999), (12, 99999), (13, 99999), (14, 99999), (15, 4), (16, 99999), (17, 99999), (18, 99999), (19, 99999), (20, 2), (20, 3), (20, 4), (21, 4), (22, 99999), (23, 99999), (26, 99999), (27, 8), (27, 9), (28, 99999), (29, 99999), (30, 99999), (31, 99999), (32, 99999), (33, 3), (33, 4), (33, 5), (33, 6), (33, 7), (34, 99999), (35, 4), (35, 5), (36, 99999), (37, 99999), (38, 99999), (39, 99999), (40, 1), (40, 2), (40, 3), (40, 4), (40, 5), (40, 6), (41, 99999), (42, 99999), (43, 99999), (44, 2), (45, 99999), (48, 99999), (50, 99999), (51, 99999), (52, 99999), (53, 99999)] = true from rfl)
      have hRE99 : fz_RE H89 := fz_RE_eq (funext fun s => hf94 5 s rfl) (funext fun s => hf94 6 s rfl) (hf94 1 8 rfl) (hf94 1 7 rfl) hRE70
      have hRV100 : fz_RV H89 := fz_RV_eq (funext fun s => hf94 7 s rfl) (funext fun s => hf94 8 s rfl) (funext fun s => hf94 3 s rfl) (funext fun s => hf94 4 s rfl) (funext fun s => hf94 5 s rfl) (funext fun s => hf94 6 s rfl) (hf94 1 7 rfl) (hf94 1 8 rfl) hRV71
      have hRP2101 : fz_RP2 H89 := fz_RP2_eq (funext fun s => hf94 11 s rfl) (hf94 9 5 rfl) (hf94 1 7 rfl) hRP272
      have hN102 : st_N tw H89 := st_N_eq (hf94 53 0 rfl) (hf94 53 1 rfl) (hf94 53 2 rfl) (hf94 1 7 rfl) (hf94 1 8 rfl) (hf94 9 5 rfl) (hf94 35 4 rfl) (hf94 20 2 rfl) hN73
      have hL1103 : st_L1 H89 := st_L1_eq (funext fun s => hf94 3 s rfl) (hf94 1 8 rfl) hL174
      have hZ104 : st_Z H89 := st_Z_eq (hf94 40 1 rfl) (hf94 40 2 rfl) (hf94 40 3 rfl) (hf94 40 4 rfl) (hf94 40 5 rfl) (funext fun s => hf94 41 s rfl) hZ75
      have hIm105 : st_Im H89 := st_Im_eq (hf94 40 6 rfl) (funext fun s => hf94 43 s rfl) (funext fun s => hf94 42 s rfl) hIm76
      have hX106 : fz_Xc H89 := fz_Xc_fr hf94 rfl hX77
      have t107 : H89 9 5 = H60 9 5 := hf94 9 5 rfl
      have t108 : H89 1 7 = H60 1 7 := hf94 1 7 rfl
      have t109 : H89 1 8 = H60 1 8 := hf94 1 8 rfl
      have t110 : H89 48 0 = H60 48 0 := hf94 48 0 rfl
      have t111 : H89 50 0 = H60 50 0 := hf94 50 0 rfl
      have t112 : H89 51 0 = H60 51 0 := hf94 51 0 rfl
      have hW113 := st_W_fr rfl hf94 hW84
      have nm114 : fz_nm H89 = fz_nm H := (fz_nm_fr rfl hf94).trans nm85
      have hS115 : st_S sm H89 := st_S_fr rfl hf94 hS86
      have k116 := f96
      refine fz_iand kL_law rfl ?_
      have b118 : -2147483648 ≤ (fz_and y68 y97) ∧ (fz_and y68 y97) < 2147483648 := fz_b32 _
      refine fz_aload_n kL_law rfl rfl ?_
      refine fz_iconst ⟨by decide, by decide⟩ kL_law rfl ?_
      refine fz_iload kL_law rfl rfl ?_
      refine fz_iload kL_law rfl rfl ?_
      refine fz_iconst ⟨by decide, by decide⟩ kL_law rfl ?_
      refine fz_callV (d' := 5) (M' := mX10_which) (As := [fz_i 0, fz_i p, fz_i th, fz_i 2]) (st := [fz_i (fz_and y68 y97)]) kL_law rfl rfl vX10_which rfl rfl rfl rfl (Nat.le_of_ble_eq_true rfl) (Nat.le_of_ble_eq_true rfl) (by decide) (sX10_which H89 hI93 0 p th 2 ) (fun H120 r121 q122 o123 => ?_)
      obtain ⟨hI124, hf125, y128, rfl, f126, f127⟩ := q122
      clear o123
      have hf129 := fz_fr_tr hf98 hf125 (show fz_su [(18, 99999), (19, 99999), (29, 99999), (31, 99999)] [(1, 7), (1, 8), (2, 99999), (3, 99999), (4, 99999), (5, 99999), (6, 99999), (7, 99999), (8, 99999), (9, 5), (10, 99999), (11, 99999), (12, 99999), (13, 99999), (14, 99999), (15, 4), (16, 99999), (17, 99999), (18, 99999), (19, 99999), (20, 2), (20, 3), (20, 4), (21, 4), (22, 99999), (23, 99999), (26, 99999), (27, 8), (27, 9), (28, 99999), (29, 99999), (30, 99999), (31, 99999), (32, 99999), (33, 3), (33, 4), (33, 5), (33, 6), (33, 7), (34, 99999), (35, 4), (35, 5), (36, 99999), (37, 99999), (38, 99999), (39, 99999), (40, 1), (40, 2), (40, 3), (40, 4), (40, 5), (40, 6), (41, 99999), (42, 99999), (43, 99999), (44, 2), (45, 99999), (48, 99999), (50, 99999), (51, 99999), (52, 99999), (53, 99999)] = true from rfl)
      have hRE130 : fz_RE H120 := fz_RE_eq (funext fun s => hf125 5 s rfl) (funext fun s => hf125 6 s rfl) (hf125 1 8 rfl) (hf125 1 7 rfl) hRE99
      have hRV131 : fz_RV H120 := fz_RV_eq (funext fun s => hf125 7 s rfl) (funext fun s => hf125 8 s rfl) (funext fun s => hf125 3 s rfl) (funext fun s => hf125 4 s rfl) (funext fun s => hf125 5 s rfl) (funext fun s => hf125 6 s rfl) (hf125 1 7 rfl) (hf125 1 8 rfl) hRV100
      have hRP2132 : fz_RP2 H120 := fz_RP2_eq (funext fun s => hf125 11 s rfl) (hf125 9 5 rfl) (hf125 1 7 rfl) hRP2101
      have hN133 : st_N tw H120 := st_N_eq (hf125 53 0 rfl) (hf125 53 1 rfl) (hf125 53 2 rfl) (hf125 1 7 rfl) (hf125 1 8 rfl) (hf125 9 5 rfl) (hf125 35 4 rfl) (hf125 20 2 rfl) hN102
      have hL1134 : st_L1 H120 := st_L1_eq (funext fun s => hf125 3 s rfl) (hf125 1 8 rfl) hL1103
      have hZ135 : st_Z H120 := st_Z_eq (hf125 40 1 rfl) (hf125 40 2 rfl) (hf125 40 3 rfl) (hf125 40 4 rfl) (hf125 40 5 rfl) (funext fun s => hf125 41 s rfl) hZ104
      have hIm136 : st_Im H120 := st_Im_eq (hf125 40 6 rfl) (funext fun s => hf125 43 s rfl) (funext fun s => hf125 42 s rfl) hIm105
      have hX137 : fz_Xc H120 := fz_Xc_fr hf125 rfl hX106
      have t138 : H120 9 5 = H89 9 5 := hf125 9 5 rfl
      have t139 : H120 1 7 = H89 1 7 := hf125 1 7 rfl
      have t140 : H120 1 8 = H89 1 8 := hf125 1 8 rfl
      have t141 : H120 48 0 = H89 48 0 := hf125 48 0 rfl
      have t142 : H120 50 0 = H89 50 0 := hf125 50 0 rfl
      have t143 : H120 51 0 = H89 51 0 := hf125 51 0 rfl
      have hW144 := st_W_fr rfl hf125 hW113
      have nm145 : fz_nm H120 = fz_nm H := (fz_nm_fr rfl hf125).trans nm114
      have hS146 : st_S sm H120 := st_S_fr rfl hf125 hS115
      have k147 : (fz_and y68 y97) = y128 := st_W_w12 (nm56) (nm85) (nm114) hW55 hW84 hW113 hI35 (by omega) (by omega) (by omega) (by omega) k87 k116 f127
      refine fz_icmp_eq (tgt := 1272) kL_law rfl (by decide) (fun c148 => ?_) (fun c148 => ?_)
      · exact k H120  hI124 hf129 hX137 hRE130 hRV131 hRP2132 hN133 hS146 hL1134 hZ135 hIm136 hW144
      · exfalso; omega

set_option maxHeartbeats 1000000 in
set_option maxRecDepth 100000 in
theorem sL_l1272 (h H : fz_H) (tw sm p hr t th mk rc : Int) (hI : fz_Iv H) (hf : fz_fr [(1, 7), (1, 8), (2, 99999), (3, 99999), (4, 99999), (5, 99999), (6, 99999), (7, 99999), (8, 99999), (9, 5), (10, 99999), (11, 99999), (12, 99999), (13, 99999), (14, 99999), (15, 4), (16, 99999), (17, 99999), (18, 99999), (19, 99999), (20, 2), (20, 3), (20, 4), (21, 4), (22, 99999), (23, 99999), (26, 99999), (27, 8), (27, 9), (28, 99999), (29, 99999), (30, 99999), (31, 99999), (32, 99999), (33, 3), (33, 4), (33, 5), (33, 6), (33, 7), (34, 99999), (35, 4), (35, 5), (36, 99999), (37, 99999), (38, 99999), (39, 99999), (40, 1), (40, 2), (40, 3), (40, 4), (40, 5), (40, 6), (41, 99999), (42, 99999), (43, 99999), (44, 2), (45, 99999), (48, 99999), (50, 99999), (51, 99999), (52, 99999), (53, 99999)] h H) (hX : fz_Xc H) (hRE : fz_RE H) (hRV : fz_RV H) (hRP2 : fz_RP2 H) (hN : st_N tw H) (hS : st_S sm H) (hL1 : st_L1 H) (hZ : st_Z H) (hIm : st_Im H) (hW : st_W p t hr mk rc H) (hp0 : 0 ≤ h 200 100000 ∧ h 200 100000 ≤ 3072) (hq0 : 0 ≤ tw ∧ tw ≤ 8) (hq1 : 0 ≤ p ∧ p ≤ 3) (hq2 : 0 ≤ hr ∧ hr ≤ 299) (hq3 : 0 ≤ t ∧ t < tw) (hq4 : th = 1000 * t + hr) (hq5 : 0 ≤ mk ∧ mk ≤ 5) (k : ∀ (G : fz_H), fz_Iv G → fz_fr [(1, 7), (1, 8), (2, 99999), (3, 99999), (4, 99999), (5, 99999), (6, 99999), (7, 99999), (8, 99999), (9, 5), (10, 99999), (11, 99999), (12, 99999), (13, 99999), (14, 99999), (15, 4), (16, 99999), (17, 99999), (18, 99999), (19, 99999), (20, 2), (20, 3), (20, 4), (21, 4), (22, 99999), (23, 99999), (26, 99999), (27, 8), (27, 9), (28, 99999), (29, 99999), (30, 99999), (31, 99999), (32, 99999), (33, 3), (33, 4), (33, 5), (33, 6), (33, 7), (34, 99999), (35, 4), (35, 5), (36, 99999), (37, 99999), (38, 99999), (39, 99999), (40, 1), (40, 2), (40, 3), (40, 4), (40, 5), (40, 6), (41, 99999), (42, 99999), (43, 99999), (44, 2), (45, 99999), (48, 99999), (50, 99999), (51, 99999), (52, 99999), (53, 99999)] h G → fz_Xc G → fz_RE G → fz_RV G → fz_RP2 G → st_N tw G → st_S sm G → st_L1 G → st_Z G → st_Im G → st_W p t hr mk rc G → fz_R 48 mL_law 1356 [(0, fz_r 200), (1, fz_r 0), (2, fz_r 53), (3, fz_i tw), (4, fz_l sm), (6, fz_i p), (7, fz_i hr), (8, fz_i t), (9, fz_i th), (10, fz_i mk), (11, fz_i rc)] [] G (qL_law h)) : fz_R 48 mL_law 1272 [(0, fz_r 200), (1, fz_r 0), (2, fz_r 53), (3, fz_i tw), (4, fz_l sm), (6, fz_i p), (7, fz_i hr), (8, fz_i t), (9, fz_i th), (10, fz_i mk), (11, fz_i rc)] [] H (qL_law h) := by
  have k1 := st_N_e hI hN
  refine fz_aload_n kL_law rfl rfl ?_
  refine fz_iload kL_law rfl rfl ?_
  refine fz_iload kL_law rfl rfl ?_
  refine fz_iconst ⟨by decide, by decide⟩ kL_law rfl ?_
  refine fz_callV (d' := 6) (M' := mX10_home) (As := [fz_i p, fz_i th, fz_i 1]) (st := []) kL_law rfl rfl vX10_home rfl rfl rfl rfl (Nat.le_of_ble_eq_true rfl) (Nat.le_of_ble_eq_true rfl) (by decide) (sX10_home H hI p th 1 ) (fun H2 r3 q4 o5 => ?_)
  obtain ⟨hI6, hf7, y10, rfl, f8, f9⟩ := q4
  clear o5
  have hf11 := fz_fr_tr hf hf7 (show fz_su [(18, 99999), (19, 99999), (29, 99999)] [(1, 7), (1, 8), (2, 99999), (3, 99999), (4, 99999), (5, 99999), (6, 99999), (7, 99999), (8, 99999), (9, 5), (10, 99999), (11, 99999), (12, 99999), (13, 99999), (14, 99999), (15, 4), (16, 99999), (17, 99999), (18, 99999), (19, 99999), (20, 2), (20, 3), (20, 4), (21, 4), (22, 99999), (23, 99999), (26, 99999), (27, 8), (27, 9), (28, 99999), (29, 99999), (30, 99999), (31, 99999), (32, 99999), (33, 3), (33, 4), (33, 5), (33, 6), (33, 7), (34, 99999), (35, 4), (35, 5), (36, 99999), (37, 99999), (38, 99999), (39, 99999), (40, 1), (40, 2), (40, 3), (40, 4), (40, 5), (40, 6), (41, 99999), (42, 99999), (43, 99999), (44, 2), (45, 99999), (48, 99999), (50, 99999), (51, 99999), (52, 99999), (53, 99999)] = true from rfl)
  have hRE12 : fz_RE H2 := fz_RE_eq (funext fun s => hf7 5 s rfl) (funext fun s => hf7 6 s rfl) (hf7 1 8 rfl) (hf7 1 7 rfl) hRE
  have hRV13 : fz_RV H2 := fz_RV_eq (funext fun s => hf7 7 s rfl) (funext fun s => hf7 8 s rfl) (funext fun s => hf7 3 s rfl) (funext fun s => hf7 4 s rfl) (funext fun s => hf7 5 s rfl) (funext fun s => hf7 6 s rfl) (hf7 1 7 rfl) (hf7 1 8 rfl) hRV
  have hRP214 : fz_RP2 H2 := fz_RP2_eq (funext fun s => hf7 11 s rfl) (hf7 9 5 rfl) (hf7 1 7 rfl) hRP2
  have hN15 : st_N tw H2 := st_N_eq (hf7 53 0 rfl) (hf7 53 1 rfl) (hf7 53 2 rfl) (hf7 1 7 rfl) (hf7 1 8 rfl) (hf7 9 5 rfl) (hf7 35 4 rfl) (hf7 20 2 rfl) hN
  have hL116 : st_L1 H2 := st_L1_eq (funext fun s => hf7 3 s rfl) (hf7 1 8 rfl) hL1
  have hZ17 : st_Z H2 := st_Z_eq (hf7 40 1 rfl) (hf7 40 2 rfl) (hf7 40 3 rfl) (hf7 40 4 rfl) (hf7 40 5 rfl) (funext fun s => hf7 41 s rfl) hZ
  have hIm18 : st_Im H2 := st_Im_eq (hf7 40 6 rfl) (funext fun s => hf7 43 s rfl) (funext fun s => hf7 42 s rfl) hIm
  have hX19 : fz_Xc H2 := fz_Xc_fr hf7 rfl hX
  have t20 : H2 9 5 = H 9 5 := hf7 9 5 rfl
  have t21 : H2 1 7 = H 1 7 := hf7 1 7 rfl
  have t22 : H2 1 8 = H 1 8 := hf7 1 8 rfl
  have t23 : H2 48 0 = H 48 0 := hf7 48 0 rfl
  have t24 : H2 50 0 = H 50 0 := hf7 50 0 rfl
  have t25 : H2 51 0 = H 51 0 := hf7 51 0 rfl
  have hW26 := st_W_fr rfl hf7 hW
  have nm27 : fz_nm H2 = fz_nm H := (fz_nm_fr rfl hf7).trans rfl
  have hS28 : st_S sm H2 := st_S_fr rfl hf7 hS
  have k29 := ho_in (by omega) (by omega) (by omega) (show th = 1000 * t + hr by omega) (by decide) f9
  have k31 := ho_1 k29
  have k34 : -2 ≤ y10 ∧ y10 ≤ 7 := by omega
  have k35 := ho_mk hI hRV hL1 (by omega) (by omega) k29 hW.1
  refine fz_istore (ls' := [(12, fz_i y10), (0, fz_r 200), (1, fz_r 0), (2, fz_r 53), (3, fz_i tw), (4, fz_l sm), (6, fz_i p), (7, fz_i hr), (8, fz_i t), (9, fz_i th), (10, fz_i mk), (11, fz_i rc)]) kL_law rfl (by decide) rfl ?_
  refine fz_iload kL_law rfl rfl ?_
  refine fz_if_lt (tgt := 1342) kL_law rfl (by decide) (fun c37 => ?_) (fun c37 => ?_)
  · refine fz_iload kL_law rfl rfl ?_
    refine fz_if_ne (tgt := 1356) kL_law rfl (by decide) (fun c38 => ?_) (fun c38 => ?_)
    · refine fz_sub (fz_pk_sub (ls' := [(0, fz_r 200), (1, fz_r 0), (2, fz_r 53), (3, fz_i tw), (4, fz_l sm), (6, fz_i p), (7, fz_i hr), (8, fz_i t), (9, fz_i th), (10, fz_i mk), (11, fz_i rc)]) [1, 2, 3, 4, 5, 6, 7, 8, 9, 10, 11] rfl) ?_
      exact k H2  hI6 hf11 hX19 hRE12 hRV13 hRP214 hN15 hS28 hL116 hZ17 hIm18 hW26 
    · have k39 := k35 (by omega)
      refine fz_iload kL_law rfl rfl ?_
      refine fz_iload kL_law rfl rfl ?_
      refine fz_icmp_eq (tgt := 1356) kL_law rfl (by decide) (fun c40 => ?_) (fun c40 => ?_)
      · exfalso; omega
      · exfalso; omega
  · refine fz_aload_n kL_law rfl rfl ?_
    refine fz_iload kL_law rfl rfl ?_
    refine fz_iload kL_law rfl rfl ?_
    refine fz_iconst ⟨by decide, by decide⟩ kL_law rfl ?_
    refine fz_callV (d' := 6) (M' := mX10_home) (As := [fz_i p, fz_i th, fz_i 0]) (st := []) kL_law rfl rfl vX10_home rfl rfl rfl rfl (Nat.le_of_ble_eq_true rfl) (Nat.le_of_ble_eq_true rfl) (by decide) (sX10_home H2 hI6 p th 0 ) (fun H41 r42 q43 o44 => ?_)
    obtain ⟨hI45, hf46, y49, rfl, f47, f48⟩ := q43
    clear o44
    have hf50 := fz_fr_tr hf11 hf46 (show fz_su [(18, 99999), (19, 99999), (29, 99999)] [(1, 7), (1, 8), (2, 99999), (3, 99999), (4, 99999), (5, 99999), (6, 99999), (7, 99999), (8, 99999), (9, 5), (10, 99999), (11, 99999), (12, 99999), (13, 99999), (14, 99999), (15, 4), (16, 99999), (17, 99999), (18, 99999), (19, 99999), (20, 2), (20, 3), (20, 4), (21, 4), (22, 99999), (23, 99999), (26, 99999), (27, 8), (27, 9), (28, 99999), (29, 99999), (30, 99999), (31, 99999), (32, 99999), (33, 3), (33, 4), (33, 5), (33, 6), (33, 7), (34, 99999), (35, 4), (35, 5), (36, 99999), (37, 99999), (38, 99999), (39, 99999), (40, 1), (40, 2), (40, 3), (40, 4), (40, 5), (40, 6), (41, 99999), (42, 99999), (43, 99999), (44, 2), (45, 99999), (48, 99999), (50, 99999), (51, 99999), (52, 99999), (53, 99999)] = true from rfl)
    have hRE51 : fz_RE H41 := fz_RE_eq (funext fun s => hf46 5 s rfl) (funext fun s => hf46 6 s rfl) (hf46 1 8 rfl) (hf46 1 7 rfl) hRE12
    have hRV52 : fz_RV H41 := fz_RV_eq (funext fun s => hf46 7 s rfl) (funext fun s => hf46 8 s rfl) (funext fun s => hf46 3 s rfl) (funext fun s => hf46 4 s rfl) (funext fun s => hf46 5 s rfl) (funext fun s => hf46 6 s rfl) (hf46 1 7 rfl) (hf46 1 8 rfl) hRV13
    have hRP253 : fz_RP2 H41 := fz_RP2_eq (funext fun s => hf46 11 s rfl) (hf46 9 5 rfl) (hf46 1 7 rfl) hRP214
    have hN54 : st_N tw H41 := st_N_eq (hf46 53 0 rfl) (hf46 53 1 rfl) (hf46 53 2 rfl) (hf46 1 7 rfl) (hf46 1 8 rfl) (hf46 9 5 rfl) (hf46 35 4 rfl) (hf46 20 2 rfl) hN15
    have hL155 : st_L1 H41 := st_L1_eq (funext fun s => hf46 3 s rfl) (hf46 1 8 rfl) hL116
    have hZ56 : st_Z H41 := st_Z_eq (hf46 40 1 rfl) (hf46 40 2 rfl) (hf46 40 3 rfl) (hf46 40 4 rfl) (hf46 40 5 rfl) (funext fun s => hf46 41 s rfl) hZ17
    have hIm57 : st_Im H41 := st_Im_eq (hf46 40 6 rfl) (funext fun s => hf46 43 s rfl) (funext fun s => hf46 42 s rfl) hIm18
    have hX58 : fz_Xc H41 := fz_Xc_fr hf46 rfl hX19
    have t59 : H41 9 5 = H2 9 5 := hf46 9 5 rfl
    have t60 : H41 1 7 = H2 1 7 := hf46 1 7 rfl
    have t61 : H41 1 8 = H2 1 8 := hf46 1 8 rfl
    have t62 : H41 48 0 = H2 48 0 := hf46 48 0 rfl
    have t63 : H41 50 0 = H2 50 0 := hf46 50 0 rfl
    have t64 : H41 51 0 = H2 51 0 := hf46 51 0 rfl
    have hW65 := st_W_fr rfl hf46 hW26
    have nm66 : fz_nm H41 = fz_nm H := (fz_nm_fr rfl hf46).trans nm27
    have hS67 : st_S sm H41 := st_S_fr rfl hf46 hS28
    have k68 := ho_0 k29 ((ho_in (by omega) (by omega) (by omega) (show th = 1000 * t + hr by omega) (by decide) f48).trans (congrArg (fun q => fl_hx q 0) (st_HM_nm (nm27.trans rfl.symm)))) (by omega)
    have k71 : 0 ≤ y49 ∧ y49 ≤ 999 := by omega
    refine fz_iload kL_law rfl rfl ?_
    refine fz_aload_n kL_law rfl rfl ?_
    refine fz_bipush ⟨by decide, by decide⟩ kL_law rfl ?_
    refine fz_iload kL_law rfl rfl ?_
    refine fz_imulN kL_law rfl (by omega) ?_
    refine fz_iload kL_law rfl rfl ?_
    refine fz_iaddN kL_law rfl (by omega) ?_
    refine fz_iconst ⟨by decide, by decide⟩ kL_law rfl ?_
    refine fz_callV (d' := 2) (M' := mX10_way) (As := [fz_i ((10 * t) + y10), fz_i 0]) (st := [fz_i hr, fz_i y49]) kL_law rfl rfl vX10_way rfl rfl rfl rfl (Nat.le_of_ble_eq_true rfl) (Nat.le_of_ble_eq_true rfl) (by decide) (sX10_way H41 hI45 ((10 * t) + y10) 0 ) (fun H72 r73 q74 o75 => ?_)
    obtain ⟨e76, y79, rfl, f77, f78⟩ := q74
    subst H72
    clear o75
    have k80 := (wf_wy0 (x := t) (y := y10) (by omega) (by omega) (by omega) f78).trans (hr7_nm (nm66.trans rfl.symm))
    have k81 : fl_ftC H t y10 = fz_hr (H 7 (8 * t + y10).toNat) := rfl
    have k83 : -2 ≤ y79 ∧ y79 ≤ 1000 := by omega
    refine fz_iaddN kL_law rfl (by omega) ?_
    refine fz_icmp_ne (tgt := 1354) kL_law rfl (by decide) (fun c84 => ?_) (fun c84 => ?_)
    · exfalso; omega
    · refine fz_aload_n kL_law rfl rfl ?_
      refine fz_iload kL_law rfl rfl ?_
      refine fz_sipush ⟨by decide, by decide⟩ kL_law rfl ?_
      refine fz_iload kL_law rfl rfl ?_
      refine fz_imulN kL_law rfl (by omega) ?_
      refine fz_aload_n kL_law rfl rfl ?_
      refine fz_iload kL_law rfl rfl ?_
      refine fz_iload kL_law rfl rfl ?_
      refine fz_iconst ⟨by decide, by decide⟩ kL_law rfl ?_
      refine fz_callV (d' := 6) (M' := mX10_home) (As := [fz_i p, fz_i th, fz_i 0]) (st := [fz_i (1000 * y10), fz_i p, fz_r 0]) kL_law rfl rfl vX10_home rfl rfl rfl rfl (Nat.le_of_ble_eq_true rfl) (Nat.le_of_ble_eq_true rfl) (by decide) (sX10_home H41 hI45 p th 0 ) (fun H85 r86 q87 o88 => ?_)
      obtain ⟨hI89, hf90, y93, rfl, f91, f92⟩ := q87
      clear o88
      have hf94 := fz_fr_tr hf50 hf90 (show fz_su [(18, 99999), (19, 99999), (29, 99999)] [(1, 7), (1, 8), (2, 99999), (3, 99999), (4, 99999), (5, 99999), (6, 99999), (7, 99999), (8, 99999), (9, 5), (10, 99999), (11, 99999), (12, 99999), (13, 99999), (14, 99999), (15, 4), (16, 99999), (17, 99999), (18, 99999), (19, 99999), (20, 2), (20, 3), (20, 4), (21, 4), (22, 99999), (23, 99999), (26, 99999), (27, 8), (27, 9), (28, 99999), (29, 99999), (30, 99999), (31, 99999), (32, 99999), (33, 3), (33, 4), (33, 5), (33, 6), (33, 7), (34, 99999), (35, 4), (35, 5), (36, 99999), (37, 99999), (38, 99999), (39, 99999), (40, 1), (40, 2), (40, 3), (40, 4), (40, 5), (40, 6), (41, 99999), (42, 99999), (43, 99999), (44, 2), (45, 99999), (48, 99999), (50, 99999), (51, 99999), (52, 99999), (53, 99999)] = true from rfl)
      have hRE95 : fz_RE H85 := fz_RE_eq (funext fun s => hf90 5 s rfl) (funext fun s => hf90 6 s rfl) (hf90 1 8 rfl) (hf90 1 7 rfl) hRE51
      have hRV96 : fz_RV H85 := fz_RV_eq (funext fun s => hf90 7 s rfl) (funext fun s => hf90 8 s rfl) (funext fun s => hf90 3 s rfl) (funext fun s => hf90 4 s rfl) (funext fun s => hf90 5 s rfl) (funext fun s => hf90 6 s rfl) (hf90 1 7 rfl) (hf90 1 8 rfl) hRV52
      have hRP297 : fz_RP2 H85 := fz_RP2_eq (funext fun s => hf90 11 s rfl) (hf90 9 5 rfl) (hf90 1 7 rfl) hRP253
      have hN98 : st_N tw H85 := st_N_eq (hf90 53 0 rfl) (hf90 53 1 rfl) (hf90 53 2 rfl) (hf90 1 7 rfl) (hf90 1 8 rfl) (hf90 9 5 rfl) (hf90 35 4 rfl) (hf90 20 2 rfl) hN54
      have hL199 : st_L1 H85 := st_L1_eq (funext fun s => hf90 3 s rfl) (hf90 1 8 rfl) hL155
      have hZ100 : st_Z H85 := st_Z_eq (hf90 40 1 rfl) (hf90 40 2 rfl) (hf90 40 3 rfl) (hf90 40 4 rfl) (hf90 40 5 rfl) (funext fun s => hf90 41 s rfl) hZ56
      have hIm101 : st_Im H85 := st_Im_eq (hf90 40 6 rfl) (funext fun s => hf90 43 s rfl) (funext fun s => hf90 42 s rfl) hIm57
      have hX102 : fz_Xc H85 := fz_Xc_fr hf90 rfl hX58
      have t103 : H85 9 5 = H41 9 5 := hf90 9 5 rfl
      have t104 : H85 1 7 = H41 1 7 := hf90 1 7 rfl
      have t105 : H85 1 8 = H41 1 8 := hf90 1 8 rfl
      have t106 : H85 48 0 = H41 48 0 := hf90 48 0 rfl
      have t107 : H85 50 0 = H41 50 0 := hf90 50 0 rfl
      have t108 : H85 51 0 = H41 51 0 := hf90 51 0 rfl
      have hW109 := st_W_fr rfl hf90 hW65
      have nm110 : fz_nm H85 = fz_nm H := (fz_nm_fr rfl hf90).trans nm66
      have hS111 : st_S sm H85 := st_S_fr rfl hf90 hS67
      have k112 := ho_0 k29 ((ho_in (by omega) (by omega) (by omega) (show th = 1000 * t + hr by omega) (by decide) f92).trans (congrArg (fun q => fl_hx q 0) (st_HM_nm (nm66.trans rfl.symm)))) (by omega)
      have k115 : 0 ≤ y93 ∧ y93 ≤ 999 := by omega
      refine fz_iaddN kL_law rfl (by omega) ?_
      refine fz_iconst ⟨by decide, by decide⟩ kL_law rfl ?_
      refine fz_callV (d' := 5) (M' := mX10_received) (As := [fz_i p, fz_i ((1000 * y10) + y93), fz_i 2]) (st := []) kL_law rfl rfl vX10_received rfl rfl rfl rfl (Nat.le_of_ble_eq_true rfl) (Nat.le_of_ble_eq_true rfl) (by decide) (sX10_received H85 hI89 p ((1000 * y10) + y93) 2 ) (fun H116 r117 q118 o119 => ?_)
      obtain ⟨hI120, hf121, y124, rfl, f122, f123⟩ := q118
      clear o119
      have hf125 := fz_fr_tr hf94 hf121 (show fz_su [(18, 99999), (19, 99999), (29, 99999)] [(1, 7), (1, 8), (2, 99999), (3, 99999), (4, 99999), (5, 99999), (6, 99999), (7, 99999), (8, 99999), (9, 5), (10, 99999), (11, 99999), (12, 99999), (13, 99999), (14, 99999), (15, 4), (16, 99999), (17, 99999), (18, 99999), (19, 99999), (20, 2), (20, 3), (20, 4), (21, 4), (22, 99999), (23, 99999), (26, 99999), (27, 8), (27, 9), (28, 99999), (29, 99999), (30, 99999), (31, 99999), (32, 99999), (33, 3), (33, 4), (33, 5), (33, 6), (33, 7), (34, 99999), (35, 4), (35, 5), (36, 99999), (37, 99999), (38, 99999), (39, 99999), (40, 1), (40, 2), (40, 3), (40, 4), (40, 5), (40, 6), (41, 99999), (42, 99999), (43, 99999), (44, 2), (45, 99999), (48, 99999), (50, 99999), (51, 99999), (52, 99999), (53, 99999)] = true from rfl)
      have hRE126 : fz_RE H116 := fz_RE_eq (funext fun s => hf121 5 s rfl) (funext fun s => hf121 6 s rfl) (hf121 1 8 rfl) (hf121 1 7 rfl) hRE95
      have hRV127 : fz_RV H116 := fz_RV_eq (funext fun s => hf121 7 s rfl) (funext fun s => hf121 8 s rfl) (funext fun s => hf121 3 s rfl) (funext fun s => hf121 4 s rfl) (funext fun s => hf121 5 s rfl) (funext fun s => hf121 6 s rfl) (hf121 1 7 rfl) (hf121 1 8 rfl) hRV96
      have hRP2128 : fz_RP2 H116 := fz_RP2_eq (funext fun s => hf121 11 s rfl) (hf121 9 5 rfl) (hf121 1 7 rfl) hRP297
      have hN129 : st_N tw H116 := st_N_eq (hf121 53 0 rfl) (hf121 53 1 rfl) (hf121 53 2 rfl) (hf121 1 7 rfl) (hf121 1 8 rfl) (hf121 9 5 rfl) (hf121 35 4 rfl) (hf121 20 2 rfl) hN98
      have hL1130 : st_L1 H116 := st_L1_eq (funext fun s => hf121 3 s rfl) (hf121 1 8 rfl) hL199
      have hZ131 : st_Z H116 := st_Z_eq (hf121 40 1 rfl) (hf121 40 2 rfl) (hf121 40 3 rfl) (hf121 40 4 rfl) (hf121 40 5 rfl) (funext fun s => hf121 41 s rfl) hZ100
      have hIm132 : st_Im H116 := st_Im_eq (hf121 40 6 rfl) (funext fun s => hf121 43 s rfl) (funext fun s => hf121 42 s rfl) hIm101
      have hX133 : fz_Xc H116 := fz_Xc_fr hf121 rfl hX102
      have t134 : H116 9 5 = H85 9 5 := hf121 9 5 rfl
      have t135 : H116 1 7 = H85 1 7 := hf121 1 7 rfl
      have t136 : H116 1 8 = H85 1 8 := hf121 1 8 rfl
      have t137 : H116 48 0 = H85 48 0 := hf121 48 0 rfl
      have t138 : H116 50 0 = H85 50 0 := hf121 50 0 rfl
      have t139 : H116 51 0 = H85 51 0 := hf121 51 0 rfl
      have hW140 := st_W_fr rfl hf121 hW109
      have nm141 : fz_nm H116 = fz_nm H := (fz_nm_fr rfl hf121).trans nm110
      have hS142 : st_S sm H116 := st_S_fr rfl hf121 hS111
      have k143 := ho_u k31 (by omega) (nm110.trans rfl.symm) k112 (by omega) (by omega) (by omega) (by omega) f123
      refine fz_if_ne (tgt := 1354) kL_law rfl (by decide) (fun c144 => ?_) (fun c144 => ?_)
      · exfalso; omega
      · refine fz_iload kL_law rfl rfl ?_
        refine fz_if_ne (tgt := 1356) kL_law rfl (by decide) (fun c145 => ?_) (fun c145 => ?_)
        · refine fz_sub (fz_pk_sub (ls' := [(0, fz_r 200), (1, fz_r 0), (2, fz_r 53), (3, fz_i tw), (4, fz_l sm), (6, fz_i p), (7, fz_i hr), (8, fz_i t), (9, fz_i th), (10, fz_i mk), (11, fz_i rc)]) [1, 2, 3, 4, 5, 6, 7, 8, 9, 10, 11] rfl) ?_
          exact k H116  hI120 hf125 hX133 hRE126 hRV127 hRP2128 hN129 hS142 hL1130 hZ131 hIm132 hW140 
        · have k146 := k35 (by omega)
          refine fz_iload kL_law rfl rfl ?_
          refine fz_iload kL_law rfl rfl ?_
          refine fz_icmp_eq (tgt := 1356) kL_law rfl (by decide) (fun c147 => ?_) (fun c147 => ?_)
          · refine fz_sub (fz_pk_sub (ls' := [(0, fz_r 200), (1, fz_r 0), (2, fz_r 53), (3, fz_i tw), (4, fz_l sm), (6, fz_i p), (7, fz_i hr), (8, fz_i t), (9, fz_i th), (10, fz_i mk), (11, fz_i rc)]) [1, 2, 3, 4, 5, 6, 7, 8, 9, 10, 11] rfl) ?_
            exact k H116  hI120 hf125 hX133 hRE126 hRV127 hRP2128 hN129 hS142 hL1130 hZ131 hIm132 hW140 
          · exfalso; omega

set_option maxHeartbeats 1000000 in
set_option maxRecDepth 100000 in
theorem sL_l1356 (h H : fz_H) (tw sm p hr t th mk rc : Int) (hI : fz_Iv H) (hf : fz_fr [(1, 7), (1, 8), (2, 99999), (3, 99999), (4, 99999), (5, 99999), (6, 99999), (7, 99999), (8, 99999), (9, 5), (10, 99999), (11, 99999), (12, 99999), (13, 99999), (14, 99999), (15, 4), (16, 99999), (17, 99999), (18, 99999), (19, 99999), (20, 2), (20, 3), (20, 4), (21, 4), (22, 99999), (23, 99999), (26, 99999), (27, 8), (27, 9), (28, 99999), (29, 99999), (30, 99999), (31, 99999), (32, 99999), (33, 3), (33, 4), (33, 5), (33, 6), (33, 7), (34, 99999), (35, 4), (35, 5), (36, 99999), (37, 99999), (38, 99999), (39, 99999), (40, 1), (40, 2), (40, 3), (40, 4), (40, 5), (40, 6), (41, 99999), (42, 99999), (43, 99999), (44, 2), (45, 99999), (48, 99999), (50, 99999), (51, 99999), (52, 99999), (53, 99999)] h H) (hX : fz_Xc H) (hRE : fz_RE H) (hRV : fz_RV H) (hRP2 : fz_RP2 H) (hN : st_N tw H) (hS : st_S sm H) (hL1 : st_L1 H) (hZ : st_Z H) (hIm : st_Im H) (hW : st_W p t hr mk rc H) (hp0 : 0 ≤ h 200 100000 ∧ h 200 100000 ≤ 3072) (hq0 : 0 ≤ tw ∧ tw ≤ 8) (hq1 : 0 ≤ p ∧ p ≤ 3) (hq2 : 0 ≤ hr ∧ hr ≤ 299) (hq3 : 0 ≤ t ∧ t < tw) (hq4 : th = 1000 * t + hr) (hq5 : 0 ≤ mk ∧ mk ≤ 5) (k : ∀ (G : fz_H), fz_Iv G → fz_fr [(1, 7), (1, 8), (2, 99999), (3, 99999), (4, 99999), (5, 99999), (6, 99999), (7, 99999), (8, 99999), (9, 5), (10, 99999), (11, 99999), (12, 99999), (13, 99999), (14, 99999), (15, 4), (16, 99999), (17, 99999), (18, 99999), (19, 99999), (20, 2), (20, 3), (20, 4), (21, 4), (22, 99999), (23, 99999), (26, 99999), (27, 8), (27, 9), (28, 99999), (29, 99999), (30, 99999), (31, 99999), (32, 99999), (33, 3), (33, 4), (33, 5), (33, 6), (33, 7), (34, 99999), (35, 4), (35, 5), (36, 99999), (37, 99999), (38, 99999), (39, 99999), (40, 1), (40, 2), (40, 3), (40, 4), (40, 5), (40, 6), (41, 99999), (42, 99999), (43, 99999), (44, 2), (45, 99999), (48, 99999), (50, 99999), (51, 99999), (52, 99999), (53, 99999)] h G → fz_Xc G → fz_RE G → fz_RV G → fz_RP2 G → st_N tw G → st_S sm G → st_L1 G → st_Z G → st_Im G → st_W p t hr mk rc G → fz_R 48 mL_law 1416 [(0, fz_r 200), (1, fz_r 0), (2, fz_r 53), (3, fz_i tw), (4, fz_l sm), (6, fz_i p), (7, fz_i hr), (8, fz_i t), (9, fz_i th), (10, fz_i mk), (11, fz_i rc)] [] G (qL_law h)) : fz_R 48 mL_law 1356 [(0, fz_r 200), (1, fz_r 0), (2, fz_r 53), (3, fz_i tw), (4, fz_l sm), (6, fz_i p), (7, fz_i hr), (8, fz_i t), (9, fz_i th), (10, fz_i mk), (11, fz_i rc)] [] H (qL_law h) := by
  have k1 := st_N_e hI hN
  refine fz_aload_n kL_law rfl rfl ?_
  refine fz_iload kL_law rfl rfl ?_
  refine fz_iload kL_law rfl rfl ?_
  refine fz_iconst ⟨by decide, by decide⟩ kL_law rfl ?_
  refine fz_callV (d' := 5) (M' := mX10_free) (As := [fz_i p, fz_i hr, fz_i 1]) (st := []) kL_law rfl rfl vX10_free rfl rfl rfl rfl (Nat.le_of_ble_eq_true rfl) (Nat.le_of_ble_eq_true rfl) (by decide) (sX10_free H hI p hr 1 ) (fun H2 r3 q4 o5 => ?_)
  obtain ⟨hI6, hf7, y10, rfl, f8, f9⟩ := q4
  clear o5
  have hf11 := fz_fr_tr hf hf7 (show fz_su [(18, 99999), (19, 99999)] [(1, 7), (1, 8), (2, 99999), (3, 99999), (4, 99999), (5, 99999), (6, 99999), (7, 99999), (8, 99999), (9, 5), (10, 99999), (11, 99999), (12, 99999), (13, 99999), (14, 99999), (15, 4), (16, 99999), (17, 99999), (18, 99999), (19, 99999), (20, 2), (20, 3), (20, 4), (21, 4), (22, 99999), (23, 99999), (26, 99999), (27, 8), (27, 9), (28, 99999), (29, 99999), (30, 99999), (31, 99999), (32, 99999), (33, 3), (33, 4), (33, 5), (33, 6), (33, 7), (34, 99999), (35, 4), (35, 5), (36, 99999), (37, 99999), (38, 99999), (39, 99999), (40, 1), (40, 2), (40, 3), (40, 4), (40, 5), (40, 6), (41, 99999), (42, 99999), (43, 99999), (44, 2), (45, 99999), (48, 99999), (50, 99999), (51, 99999), (52, 99999), (53, 99999)] = true from rfl)
  have hRE12 : fz_RE H2 := fz_RE_eq (funext fun s => hf7 5 s rfl) (funext fun s => hf7 6 s rfl) (hf7 1 8 rfl) (hf7 1 7 rfl) hRE
  have hRV13 : fz_RV H2 := fz_RV_eq (funext fun s => hf7 7 s rfl) (funext fun s => hf7 8 s rfl) (funext fun s => hf7 3 s rfl) (funext fun s => hf7 4 s rfl) (funext fun s => hf7 5 s rfl) (funext fun s => hf7 6 s rfl) (hf7 1 7 rfl) (hf7 1 8 rfl) hRV
  have hRP214 : fz_RP2 H2 := fz_RP2_eq (funext fun s => hf7 11 s rfl) (hf7 9 5 rfl) (hf7 1 7 rfl) hRP2
  have hN15 : st_N tw H2 := st_N_eq (hf7 53 0 rfl) (hf7 53 1 rfl) (hf7 53 2 rfl) (hf7 1 7 rfl) (hf7 1 8 rfl) (hf7 9 5 rfl) (hf7 35 4 rfl) (hf7 20 2 rfl) hN
  have hL116 : st_L1 H2 := st_L1_eq (funext fun s => hf7 3 s rfl) (hf7 1 8 rfl) hL1
  have hZ17 : st_Z H2 := st_Z_eq (hf7 40 1 rfl) (hf7 40 2 rfl) (hf7 40 3 rfl) (hf7 40 4 rfl) (hf7 40 5 rfl) (funext fun s => hf7 41 s rfl) hZ
  have hIm18 : st_Im H2 := st_Im_eq (hf7 40 6 rfl) (funext fun s => hf7 43 s rfl) (funext fun s => hf7 42 s rfl) hIm
  have hX19 : fz_Xc H2 := fz_Xc_fr hf7 rfl hX
  have t20 : H2 9 5 = H 9 5 := hf7 9 5 rfl
  have t21 : H2 1 7 = H 1 7 := hf7 1 7 rfl
  have t22 : H2 1 8 = H 1 8 := hf7 1 8 rfl
  have t23 : H2 48 0 = H 48 0 := hf7 48 0 rfl
  have t24 : H2 50 0 = H 50 0 := hf7 50 0 rfl
  have t25 : H2 51 0 = H 51 0 := hf7 51 0 rfl
  have hW26 := st_W_fr rfl hf7 hW
  have nm27 : fz_nm H2 = fz_nm H := (fz_nm_fr rfl hf7).trans rfl
  have hS28 : st_S sm H2 := st_S_fr rfl hf7 hS
  have k29 := f9
  refine fz_istore (ls' := [(13, fz_i y10), (0, fz_r 200), (1, fz_r 0), (2, fz_r 53), (3, fz_i tw), (4, fz_l sm), (6, fz_i p), (7, fz_i hr), (8, fz_i t), (9, fz_i th), (10, fz_i mk), (11, fz_i rc)]) kL_law rfl (by decide) rfl ?_
  refine fz_iload kL_law rfl rfl ?_
  refine fz_if_ne (tgt := 1376) kL_law rfl (by decide) (fun c31 => ?_) (fun c31 => ?_)
  · refine fz_iconst ⟨by decide, by decide⟩ kL_law rfl ?_
    refine fz_aload_n kL_law rfl rfl ?_
    refine fz_iload kL_law rfl rfl ?_
    refine fz_iload kL_law rfl rfl ?_
    refine fz_iconst ⟨by decide, by decide⟩ kL_law rfl ?_
    refine fz_callV (d' := 6) (M' := mX10_atHour) (As := [fz_i p, fz_i hr, fz_i 1]) (st := [fz_i 0]) kL_law rfl rfl vX10_atHour rfl rfl rfl rfl (Nat.le_of_ble_eq_true rfl) (Nat.le_of_ble_eq_true rfl) (by decide) (sX10_atHour H2 hI6 p hr 1 ) (fun H32 r33 q34 o35 => ?_)
    obtain ⟨hI36, hf37, y40, rfl, f38, f39⟩ := q34
    clear o35
    have hf41 := fz_fr_tr hf11 hf37 (show fz_su [(18, 99999), (19, 99999), (29, 99999)] [(1, 7), (1, 8), (2, 99999), (3, 99999), (4, 99999), (5, 99999), (6, 99999), (7, 99999), (8, 99999), (9, 5), (10, 99999), (11, 99999), (12, 99999), (13, 99999), (14, 99999), (15, 4), (16, 99999), (17, 99999), (18, 99999), (19, 99999), (20, 2), (20, 3), (20, 4), (21, 4), (22, 99999), (23, 99999), (26, 99999), (27, 8), (27, 9), (28, 99999), (29, 99999), (30, 99999), (31, 99999), (32, 99999), (33, 3), (33, 4), (33, 5), (33, 6), (33, 7), (34, 99999), (35, 4), (35, 5), (36, 99999), (37, 99999), (38, 99999), (39, 99999), (40, 1), (40, 2), (40, 3), (40, 4), (40, 5), (40, 6), (41, 99999), (42, 99999), (43, 99999), (44, 2), (45, 99999), (48, 99999), (50, 99999), (51, 99999), (52, 99999), (53, 99999)] = true from rfl)
    have hRE42 : fz_RE H32 := fz_RE_eq (funext fun s => hf37 5 s rfl) (funext fun s => hf37 6 s rfl) (hf37 1 8 rfl) (hf37 1 7 rfl) hRE12
    have hRV43 : fz_RV H32 := fz_RV_eq (funext fun s => hf37 7 s rfl) (funext fun s => hf37 8 s rfl) (funext fun s => hf37 3 s rfl) (funext fun s => hf37 4 s rfl) (funext fun s => hf37 5 s rfl) (funext fun s => hf37 6 s rfl) (hf37 1 7 rfl) (hf37 1 8 rfl) hRV13
    have hRP244 : fz_RP2 H32 := fz_RP2_eq (funext fun s => hf37 11 s rfl) (hf37 9 5 rfl) (hf37 1 7 rfl) hRP214
    have hN45 : st_N tw H32 := st_N_eq (hf37 53 0 rfl) (hf37 53 1 rfl) (hf37 53 2 rfl) (hf37 1 7 rfl) (hf37 1 8 rfl) (hf37 9 5 rfl) (hf37 35 4 rfl) (hf37 20 2 rfl) hN15
    have hL146 : st_L1 H32 := st_L1_eq (funext fun s => hf37 3 s rfl) (hf37 1 8 rfl) hL116
    have hZ47 : st_Z H32 := st_Z_eq (hf37 40 1 rfl) (hf37 40 2 rfl) (hf37 40 3 rfl) (hf37 40 4 rfl) (hf37 40 5 rfl) (funext fun s => hf37 41 s rfl) hZ17
    have hIm48 : st_Im H32 := st_Im_eq (hf37 40 6 rfl) (funext fun s => hf37 43 s rfl) (funext fun s => hf37 42 s rfl) hIm18
    have hX49 : fz_Xc H32 := fz_Xc_fr hf37 rfl hX19
    have t50 : H32 9 5 = H2 9 5 := hf37 9 5 rfl
    have t51 : H32 1 7 = H2 1 7 := hf37 1 7 rfl
    have t52 : H32 1 8 = H2 1 8 := hf37 1 8 rfl
    have t53 : H32 48 0 = H2 48 0 := hf37 48 0 rfl
    have t54 : H32 50 0 = H2 50 0 := hf37 50 0 rfl
    have t55 : H32 51 0 = H2 51 0 := hf37 51 0 rfl
    have hW56 := st_W_fr rfl hf37 hW26
    have nm57 : fz_nm H32 = fz_nm H := (fz_nm_fr rfl hf37).trans nm27
    have hS58 : st_S sm H32 := st_S_fr rfl hf37 hS28
    have k59 := fr_0 hI (by omega) (by omega) (fr_nm rfl k29) (ah_nm nm27 f39)
    refine fz_if_ne (tgt := 1393) kL_law rfl (by decide) (fun c60 => ?_) (fun c60 => ?_)
    · refine fz_iconst ⟨by decide, by decide⟩ kL_law rfl ?_
      refine fz_icmp_ne (tgt := 1414) kL_law rfl (by decide) (fun c61 => ?_) (fun c61 => ?_)
      · exfalso; omega
      · refine fz_iload kL_law rfl rfl ?_
        refine fz_callS (d' := 0) (M' := mJ6_bitCount_0f7a4) (As := [fz_i y10]) (st := []) kL_law rfl rfl vJ6_bitCount_0f7a4 rfl rfl (Nat.le_of_ble_eq_true rfl) (Nat.le_of_ble_eq_true rfl) (by decide) (sJ6_bitCount_0f7a4 H32 hI36 y10 ) (fun H62 r63 q64 o65 => ?_)
        obtain ⟨e66, y69, rfl, f67, f68⟩ := q64
        subst H62
        clear o65
        have k70 := f68
        refine fz_aload_n kL_law rfl rfl ?_
        refine fz_iload kL_law rfl rfl ?_
        refine fz_iload kL_law rfl rfl ?_
        refine fz_iconst ⟨by decide, by decide⟩ kL_law rfl ?_
        refine fz_callV (d' := 5) (M' := mX10_free) (As := [fz_i p, fz_i hr, fz_i 0]) (st := [fz_i y69]) kL_law rfl rfl vX10_free rfl rfl rfl rfl (Nat.le_of_ble_eq_true rfl) (Nat.le_of_ble_eq_true rfl) (by decide) (sX10_free H32 hI36 p hr 0 ) (fun H72 r73 q74 o75 => ?_)
        obtain ⟨hI76, hf77, y80, rfl, f78, f79⟩ := q74
        clear o75
        have hf81 := fz_fr_tr hf41 hf77 (show fz_su [(18, 99999), (19, 99999)] [(1, 7), (1, 8), (2, 99999), (3, 99999), (4, 99999), (5, 99999), (6, 99999), (7, 99999), (8, 99999), (9, 5), (10, 99999), (11, 99999), (12, 99999), (13, 99999), (14, 99999), (15, 4), (16, 99999), (17, 99999), (18, 99999), (19, 99999), (20, 2), (20, 3), (20, 4), (21, 4), (22, 99999), (23, 99999), (26, 99999), (27, 8), (27, 9), (28, 99999), (29, 99999), (30, 99999), (31, 99999), (32, 99999), (33, 3), (33, 4), (33, 5), (33, 6), (33, 7), (34, 99999), (35, 4), (35, 5), (36, 99999), (37, 99999), (38, 99999), (39, 99999), (40, 1), (40, 2), (40, 3), (40, 4), (40, 5), (40, 6), (41, 99999), (42, 99999), (43, 99999), (44, 2), (45, 99999), (48, 99999), (50, 99999), (51, 99999), (52, 99999), (53, 99999)] = true from rfl)
        have hRE82 : fz_RE H72 := fz_RE_eq (funext fun s => hf77 5 s rfl) (funext fun s => hf77 6 s rfl) (hf77 1 8 rfl) (hf77 1 7 rfl) hRE42
        have hRV83 : fz_RV H72 := fz_RV_eq (funext fun s => hf77 7 s rfl) (funext fun s => hf77 8 s rfl) (funext fun s => hf77 3 s rfl) (funext fun s => hf77 4 s rfl) (funext fun s => hf77 5 s rfl) (funext fun s => hf77 6 s rfl) (hf77 1 7 rfl) (hf77 1 8 rfl) hRV43
        have hRP284 : fz_RP2 H72 := fz_RP2_eq (funext fun s => hf77 11 s rfl) (hf77 9 5 rfl) (hf77 1 7 rfl) hRP244
        have hN85 : st_N tw H72 := st_N_eq (hf77 53 0 rfl) (hf77 53 1 rfl) (hf77 53 2 rfl) (hf77 1 7 rfl) (hf77 1 8 rfl) (hf77 9 5 rfl) (hf77 35 4 rfl) (hf77 20 2 rfl) hN45
        have hL186 : st_L1 H72 := st_L1_eq (funext fun s => hf77 3 s rfl) (hf77 1 8 rfl) hL146
        have hZ87 : st_Z H72 := st_Z_eq (hf77 40 1 rfl) (hf77 40 2 rfl) (hf77 40 3 rfl) (hf77 40 4 rfl) (hf77 40 5 rfl) (funext fun s => hf77 41 s rfl) hZ47
        have hIm88 : st_Im H72 := st_Im_eq (hf77 40 6 rfl) (funext fun s => hf77 43 s rfl) (funext fun s => hf77 42 s rfl) hIm48
        have hX89 : fz_Xc H72 := fz_Xc_fr hf77 rfl hX49
        have t90 : H72 9 5 = H32 9 5 := hf77 9 5 rfl
        have t91 : H72 1 7 = H32 1 7 := hf77 1 7 rfl
        have t92 : H72 1 8 = H32 1 8 := hf77 1 8 rfl
        have t93 : H72 48 0 = H32 48 0 := hf77 48 0 rfl
        have t94 : H72 50 0 = H32 50 0 := hf77 50 0 rfl
        have t95 : H72 51 0 = H32 51 0 := hf77 51 0 rfl
        have hW96 := st_W_fr rfl hf77 hW56
        have nm97 : fz_nm H72 = fz_nm H := (fz_nm_fr rfl hf77).trans nm57
        have hS98 : st_S sm H72 := st_S_fr rfl hf77 hS58
        have k99 := fr_bc (by omega) (by omega) (fr_nm rfl k29) (fr_nm nm57 f79)
        refine fz_icmp_eq (tgt := 1416) kL_law rfl (by decide) (fun c100 => ?_) (fun c100 => ?_)
        · refine fz_sub (fz_pk_sub (ls' := [(0, fz_r 200), (1, fz_r 0), (2, fz_r 53), (3, fz_i tw), (4, fz_l sm), (6, fz_i p), (7, fz_i hr), (8, fz_i t), (9, fz_i th), (10, fz_i mk), (11, fz_i rc)]) [1, 2, 3, 4, 5, 6, 7, 8, 9, 10, 11] rfl) ?_
          exact k H72  hI76 hf81 hX89 hRE82 hRV83 hRP284 hN85 hS98 hL186 hZ87 hIm88 hW96 
        · exfalso; omega
    · refine fz_iconst ⟨by decide, by decide⟩ kL_law rfl ?_
      refine fz_goto (tgt := 1394) kL_law rfl (by decide) ?_
      refine fz_icmp_ne (tgt := 1414) kL_law rfl (by decide) (fun c101 => ?_) (fun c101 => ?_)
      · exfalso; omega
      · exfalso; omega
  · refine fz_iconst ⟨by decide, by decide⟩ kL_law rfl ?_
    refine fz_goto (tgt := 1377) kL_law rfl (by decide) ?_
    refine fz_aload_n kL_law rfl rfl ?_
    refine fz_iload kL_law rfl rfl ?_
    refine fz_iload kL_law rfl rfl ?_
    refine fz_iconst ⟨by decide, by decide⟩ kL_law rfl ?_
    refine fz_callV (d' := 6) (M' := mX10_atHour) (As := [fz_i p, fz_i hr, fz_i 1]) (st := [fz_i 1]) kL_law rfl rfl vX10_atHour rfl rfl rfl rfl (Nat.le_of_ble_eq_true rfl) (Nat.le_of_ble_eq_true rfl) (by decide) (sX10_atHour H2 hI6 p hr 1 ) (fun H102 r103 q104 o105 => ?_)
    obtain ⟨hI106, hf107, y110, rfl, f108, f109⟩ := q104
    clear o105
    have hf111 := fz_fr_tr hf11 hf107 (show fz_su [(18, 99999), (19, 99999), (29, 99999)] [(1, 7), (1, 8), (2, 99999), (3, 99999), (4, 99999), (5, 99999), (6, 99999), (7, 99999), (8, 99999), (9, 5), (10, 99999), (11, 99999), (12, 99999), (13, 99999), (14, 99999), (15, 4), (16, 99999), (17, 99999), (18, 99999), (19, 99999), (20, 2), (20, 3), (20, 4), (21, 4), (22, 99999), (23, 99999), (26, 99999), (27, 8), (27, 9), (28, 99999), (29, 99999), (30, 99999), (31, 99999), (32, 99999), (33, 3), (33, 4), (33, 5), (33, 6), (33, 7), (34, 99999), (35, 4), (35, 5), (36, 99999), (37, 99999), (38, 99999), (39, 99999), (40, 1), (40, 2), (40, 3), (40, 4), (40, 5), (40, 6), (41, 99999), (42, 99999), (43, 99999), (44, 2), (45, 99999), (48, 99999), (50, 99999), (51, 99999), (52, 99999), (53, 99999)] = true from rfl)
    have hRE112 : fz_RE H102 := fz_RE_eq (funext fun s => hf107 5 s rfl) (funext fun s => hf107 6 s rfl) (hf107 1 8 rfl) (hf107 1 7 rfl) hRE12
    have hRV113 : fz_RV H102 := fz_RV_eq (funext fun s => hf107 7 s rfl) (funext fun s => hf107 8 s rfl) (funext fun s => hf107 3 s rfl) (funext fun s => hf107 4 s rfl) (funext fun s => hf107 5 s rfl) (funext fun s => hf107 6 s rfl) (hf107 1 7 rfl) (hf107 1 8 rfl) hRV13
    have hRP2114 : fz_RP2 H102 := fz_RP2_eq (funext fun s => hf107 11 s rfl) (hf107 9 5 rfl) (hf107 1 7 rfl) hRP214
    have hN115 : st_N tw H102 := st_N_eq (hf107 53 0 rfl) (hf107 53 1 rfl) (hf107 53 2 rfl) (hf107 1 7 rfl) (hf107 1 8 rfl) (hf107 9 5 rfl) (hf107 35 4 rfl) (hf107 20 2 rfl) hN15
    have hL1116 : st_L1 H102 := st_L1_eq (funext fun s => hf107 3 s rfl) (hf107 1 8 rfl) hL116
    have hZ117 : st_Z H102 := st_Z_eq (hf107 40 1 rfl) (hf107 40 2 rfl) (hf107 40 3 rfl) (hf107 40 4 rfl) (hf107 40 5 rfl) (funext fun s => hf107 41 s rfl) hZ17
    have hIm118 : st_Im H102 := st_Im_eq (hf107 40 6 rfl) (funext fun s => hf107 43 s rfl) (funext fun s => hf107 42 s rfl) hIm18
    have hX119 : fz_Xc H102 := fz_Xc_fr hf107 rfl hX19
    have t120 : H102 9 5 = H2 9 5 := hf107 9 5 rfl
    have t121 : H102 1 7 = H2 1 7 := hf107 1 7 rfl
    have t122 : H102 1 8 = H2 1 8 := hf107 1 8 rfl
    have t123 : H102 48 0 = H2 48 0 := hf107 48 0 rfl
    have t124 : H102 50 0 = H2 50 0 := hf107 50 0 rfl
    have t125 : H102 51 0 = H2 51 0 := hf107 51 0 rfl
    have hW126 := st_W_fr rfl hf107 hW26
    have nm127 : fz_nm H102 = fz_nm H := (fz_nm_fr rfl hf107).trans nm27
    have hS128 : st_S sm H102 := st_S_fr rfl hf107 hS28
    have k129 := fr_0 hI (by omega) (by omega) (fr_nm rfl k29) (ah_nm nm27 f109)
    refine fz_if_ne (tgt := 1393) kL_law rfl (by decide) (fun c130 => ?_) (fun c130 => ?_)
    · refine fz_iconst ⟨by decide, by decide⟩ kL_law rfl ?_
      refine fz_icmp_ne (tgt := 1414) kL_law rfl (by decide) (fun c131 => ?_) (fun c131 => ?_)
      · exfalso; omega
      · exfalso; omega
    · refine fz_iconst ⟨by decide, by decide⟩ kL_law rfl ?_
      refine fz_goto (tgt := 1394) kL_law rfl (by decide) ?_
      refine fz_icmp_ne (tgt := 1414) kL_law rfl (by decide) (fun c132 => ?_) (fun c132 => ?_)
      · exfalso; omega
      · refine fz_iload kL_law rfl rfl ?_
        refine fz_callS (d' := 0) (M' := mJ6_bitCount_0f7a4) (As := [fz_i y10]) (st := []) kL_law rfl rfl vJ6_bitCount_0f7a4 rfl rfl (Nat.le_of_ble_eq_true rfl) (Nat.le_of_ble_eq_true rfl) (by decide) (sJ6_bitCount_0f7a4 H102 hI106 y10 ) (fun H133 r134 q135 o136 => ?_)
        obtain ⟨e137, y140, rfl, f138, f139⟩ := q135
        subst H133
        clear o136
        have k141 := f139
        refine fz_aload_n kL_law rfl rfl ?_
        refine fz_iload kL_law rfl rfl ?_
        refine fz_iload kL_law rfl rfl ?_
        refine fz_iconst ⟨by decide, by decide⟩ kL_law rfl ?_
        refine fz_callV (d' := 5) (M' := mX10_free) (As := [fz_i p, fz_i hr, fz_i 0]) (st := [fz_i y140]) kL_law rfl rfl vX10_free rfl rfl rfl rfl (Nat.le_of_ble_eq_true rfl) (Nat.le_of_ble_eq_true rfl) (by decide) (sX10_free H102 hI106 p hr 0 ) (fun H143 r144 q145 o146 => ?_)
        obtain ⟨hI147, hf148, y151, rfl, f149, f150⟩ := q145
        clear o146
        have hf152 := fz_fr_tr hf111 hf148 (show fz_su [(18, 99999), (19, 99999)] [(1, 7), (1, 8), (2, 99999), (3, 99999), (4, 99999), (5, 99999), (6, 99999), (7, 99999), (8, 99999), (9, 5), (10, 99999), (11, 99999), (12, 99999), (13, 99999), (14, 99999), (15, 4), (16, 99999), (17, 99999), (18, 99999), (19, 99999), (20, 2), (20, 3), (20, 4), (21, 4), (22, 99999), (23, 99999), (26, 99999), (27, 8), (27, 9), (28, 99999), (29, 99999), (30, 99999), (31, 99999), (32, 99999), (33, 3), (33, 4), (33, 5), (33, 6), (33, 7), (34, 99999), (35, 4), (35, 5), (36, 99999), (37, 99999), (38, 99999), (39, 99999), (40, 1), (40, 2), (40, 3), (40, 4), (40, 5), (40, 6), (41, 99999), (42, 99999), (43, 99999), (44, 2), (45, 99999), (48, 99999), (50, 99999), (51, 99999), (52, 99999), (53, 99999)] = true from rfl)
        have hRE153 : fz_RE H143 := fz_RE_eq (funext fun s => hf148 5 s rfl) (funext fun s => hf148 6 s rfl) (hf148 1 8 rfl) (hf148 1 7 rfl) hRE112
        have hRV154 : fz_RV H143 := fz_RV_eq (funext fun s => hf148 7 s rfl) (funext fun s => hf148 8 s rfl) (funext fun s => hf148 3 s rfl) (funext fun s => hf148 4 s rfl) (funext fun s => hf148 5 s rfl) (funext fun s => hf148 6 s rfl) (hf148 1 7 rfl) (hf148 1 8 rfl) hRV113
        have hRP2155 : fz_RP2 H143 := fz_RP2_eq (funext fun s => hf148 11 s rfl) (hf148 9 5 rfl) (hf148 1 7 rfl) hRP2114
        have hN156 : st_N tw H143 := st_N_eq (hf148 53 0 rfl) (hf148 53 1 rfl) (hf148 53 2 rfl) (hf148 1 7 rfl) (hf148 1 8 rfl) (hf148 9 5 rfl) (hf148 35 4 rfl) (hf148 20 2 rfl) hN115
        have hL1157 : st_L1 H143 := st_L1_eq (funext fun s => hf148 3 s rfl) (hf148 1 8 rfl) hL1116
        have hZ158 : st_Z H143 := st_Z_eq (hf148 40 1 rfl) (hf148 40 2 rfl) (hf148 40 3 rfl) (hf148 40 4 rfl) (hf148 40 5 rfl) (funext fun s => hf148 41 s rfl) hZ117
        have hIm159 : st_Im H143 := st_Im_eq (hf148 40 6 rfl) (funext fun s => hf148 43 s rfl) (funext fun s => hf148 42 s rfl) hIm118
        have hX160 : fz_Xc H143 := fz_Xc_fr hf148 rfl hX119
        have t161 : H143 9 5 = H102 9 5 := hf148 9 5 rfl
        have t162 : H143 1 7 = H102 1 7 := hf148 1 7 rfl
        have t163 : H143 1 8 = H102 1 8 := hf148 1 8 rfl
        have t164 : H143 48 0 = H102 48 0 := hf148 48 0 rfl
        have t165 : H143 50 0 = H102 50 0 := hf148 50 0 rfl
        have t166 : H143 51 0 = H102 51 0 := hf148 51 0 rfl
        have hW167 := st_W_fr rfl hf148 hW126
        have nm168 : fz_nm H143 = fz_nm H := (fz_nm_fr rfl hf148).trans nm127
        have hS169 : st_S sm H143 := st_S_fr rfl hf148 hS128
        have k170 := fr_bc (by omega) (by omega) (fr_nm rfl k29) (fr_nm nm127 f150)
        refine fz_icmp_eq (tgt := 1416) kL_law rfl (by decide) (fun c171 => ?_) (fun c171 => ?_)
        · refine fz_sub (fz_pk_sub (ls' := [(0, fz_r 200), (1, fz_r 0), (2, fz_r 53), (3, fz_i tw), (4, fz_l sm), (6, fz_i p), (7, fz_i hr), (8, fz_i t), (9, fz_i th), (10, fz_i mk), (11, fz_i rc)]) [1, 2, 3, 4, 5, 6, 7, 8, 9, 10, 11] rfl) ?_
          exact k H143  hI147 hf152 hX160 hRE153 hRV154 hRP2155 hN156 hS169 hL1157 hZ158 hIm159 hW167 
        · exfalso; omega

set_option maxHeartbeats 1000000 in
set_option maxRecDepth 100000 in
theorem sL_l1416 (h H : fz_H) (tw sm p hr t th mk rc : Int) (hI : fz_Iv H) (hf : fz_fr [(1, 7), (1, 8), (2, 99999), (3, 99999), (4, 99999), (5, 99999), (6, 99999), (7, 99999), (8, 99999), (9, 5), (10, 99999), (11, 99999), (12, 99999), (13, 99999), (14, 99999), (15, 4), (16, 99999), (17, 99999), (18, 99999), (19, 99999), (20, 2), (20, 3), (20, 4), (21, 4), (22, 99999), (23, 99999), (26, 99999), (27, 8), (27, 9), (28, 99999), (29, 99999), (30, 99999), (31, 99999), (32, 99999), (33, 3), (33, 4), (33, 5), (33, 6), (33, 7), (34, 99999), (35, 4), (35, 5), (36, 99999), (37, 99999), (38, 99999), (39, 99999), (40, 1), (40, 2), (40, 3), (40, 4), (40, 5), (40, 6), (41, 99999), (42, 99999), (43, 99999), (44, 2), (45, 99999), (48, 99999), (50, 99999), (51, 99999), (52, 99999), (53, 99999)] h H) (hX : fz_Xc H) (hRE : fz_RE H) (hRV : fz_RV H) (hRP2 : fz_RP2 H) (hN : st_N tw H) (hS : st_S sm H) (hL1 : st_L1 H) (hZ : st_Z H) (hIm : st_Im H) (hW : st_W p t hr mk rc H) (hp0 : 0 ≤ h 200 100000 ∧ h 200 100000 ≤ 3072) (hq0 : 0 ≤ tw ∧ tw ≤ 8) (hq1 : 0 ≤ p ∧ p ≤ 3) (hq2 : 0 ≤ hr ∧ hr ≤ 299) (hq3 : 0 ≤ t ∧ t < tw) (hq4 : th = 1000 * t + hr) (hq5 : 0 ≤ mk ∧ mk ≤ 5) (k : ∀ (G : fz_H), fz_Iv G → fz_fr [(1, 7), (1, 8), (2, 99999), (3, 99999), (4, 99999), (5, 99999), (6, 99999), (7, 99999), (8, 99999), (9, 5), (10, 99999), (11, 99999), (12, 99999), (13, 99999), (14, 99999), (15, 4), (16, 99999), (17, 99999), (18, 99999), (19, 99999), (20, 2), (20, 3), (20, 4), (21, 4), (22, 99999), (23, 99999), (26, 99999), (27, 8), (27, 9), (28, 99999), (29, 99999), (30, 99999), (31, 99999), (32, 99999), (33, 3), (33, 4), (33, 5), (33, 6), (33, 7), (34, 99999), (35, 4), (35, 5), (36, 99999), (37, 99999), (38, 99999), (39, 99999), (40, 1), (40, 2), (40, 3), (40, 4), (40, 5), (40, 6), (41, 99999), (42, 99999), (43, 99999), (44, 2), (45, 99999), (48, 99999), (50, 99999), (51, 99999), (52, 99999), (53, 99999)] h G → fz_Xc G → fz_RE G → fz_RV G → fz_RP2 G → st_N tw G → st_S sm G → st_L1 G → st_Z G → st_Im G → st_W p t hr mk rc G → fz_R 48 mL_law 1466 [(0, fz_r 200), (1, fz_r 0), (2, fz_r 53), (3, fz_i tw), (4, fz_l sm), (6, fz_i p), (7, fz_i hr), (8, fz_i t), (9, fz_i th), (10, fz_i mk), (11, fz_i rc)] [] G (qL_law h)) : fz_R 48 mL_law 1416 [(0, fz_r 200), (1, fz_r 0), (2, fz_r 53), (3, fz_i tw), (4, fz_l sm), (6, fz_i p), (7, fz_i hr), (8, fz_i t), (9, fz_i th), (10, fz_i mk), (11, fz_i rc)] [] H (qL_law h) := by
  have k1 := st_N_e hI hN
  refine fz_aload_n kL_law rfl rfl ?_
  refine fz_iload kL_law rfl rfl ?_
  refine fz_iload kL_law rfl rfl ?_
  refine fz_iconst ⟨by decide, by decide⟩ kL_law rfl ?_
  refine fz_callV (d' := 10) (M' := mX10_route) (As := [fz_i p, fz_i th, fz_i (-1)]) (st := []) kL_law rfl rfl vX10_route rfl rfl rfl rfl (Nat.le_of_ble_eq_true rfl) (Nat.le_of_ble_eq_true rfl) (by decide) (sX10_route H hI p th (-1) ) (fun H2 r3 q4 o5 => ?_)
  obtain ⟨hI6, hf7, y10, rfl, f8, f9⟩ := q4
  clear o5
  have hf11 := fz_fr_tr hf hf7 (show fz_su [(18, 99999), (19, 99999), (29, 99999), (33, 3), (33, 4), (33, 5), (33, 6), (33, 7), (34, 99999)] [(1, 7), (1, 8), (2, 99999), (3, 99999), (4, 99999), (5, 99999), (6, 99999), (7, 99999), (8, 99999), (9, 5), (10, 99999), (11, 99999), (12, 99999), (13, 99999), (14, 99999), (15, 4), (16, 99999), (17, 99999), (18, 99999), (19, 99999), (20, 2), (20, 3), (20, 4), (21, 4), (22, 99999), (23, 99999), (26, 99999), (27, 8), (27, 9), (28, 99999), (29, 99999), (30, 99999), (31, 99999), (32, 99999), (33, 3), (33, 4), (33, 5), (33, 6), (33, 7), (34, 99999), (35, 4), (35, 5), (36, 99999), (37, 99999), (38, 99999), (39, 99999), (40, 1), (40, 2), (40, 3), (40, 4), (40, 5), (40, 6), (41, 99999), (42, 99999), (43, 99999), (44, 2), (45, 99999), (48, 99999), (50, 99999), (51, 99999), (52, 99999), (53, 99999)] = true from rfl)
  have hRE12 : fz_RE H2 := fz_RE_eq (funext fun s => hf7 5 s rfl) (funext fun s => hf7 6 s rfl) (hf7 1 8 rfl) (hf7 1 7 rfl) hRE
  have hRV13 : fz_RV H2 := fz_RV_eq (funext fun s => hf7 7 s rfl) (funext fun s => hf7 8 s rfl) (funext fun s => hf7 3 s rfl) (funext fun s => hf7 4 s rfl) (funext fun s => hf7 5 s rfl) (funext fun s => hf7 6 s rfl) (hf7 1 7 rfl) (hf7 1 8 rfl) hRV
  have hRP214 : fz_RP2 H2 := fz_RP2_eq (funext fun s => hf7 11 s rfl) (hf7 9 5 rfl) (hf7 1 7 rfl) hRP2
  have hN15 : st_N tw H2 := st_N_eq (hf7 53 0 rfl) (hf7 53 1 rfl) (hf7 53 2 rfl) (hf7 1 7 rfl) (hf7 1 8 rfl) (hf7 9 5 rfl) (hf7 35 4 rfl) (hf7 20 2 rfl) hN
  have hL116 : st_L1 H2 := st_L1_eq (funext fun s => hf7 3 s rfl) (hf7 1 8 rfl) hL1
  have hZ17 : st_Z H2 := st_Z_eq (hf7 40 1 rfl) (hf7 40 2 rfl) (hf7 40 3 rfl) (hf7 40 4 rfl) (hf7 40 5 rfl) (funext fun s => hf7 41 s rfl) hZ
  have hIm18 : st_Im H2 := st_Im_eq (hf7 40 6 rfl) (funext fun s => hf7 43 s rfl) (funext fun s => hf7 42 s rfl) hIm
  have hX19 : fz_Xc H2 := fz_Xc_fr hf7 rfl hX
  have t20 : H2 9 5 = H 9 5 := hf7 9 5 rfl
  have t21 : H2 1 7 = H 1 7 := hf7 1 7 rfl
  have t22 : H2 1 8 = H 1 8 := hf7 1 8 rfl
  have t23 : H2 48 0 = H 48 0 := hf7 48 0 rfl
  have t24 : H2 50 0 = H 50 0 := hf7 50 0 rfl
  have t25 : H2 51 0 = H 51 0 := hf7 51 0 rfl
  have hW26 := st_W_fr rfl hf7 hW
  have nm27 : fz_nm H2 = fz_nm H := (fz_nm_fr rfl hf7).trans rfl
  have hS28 : st_S sm H2 := st_S_fr rfl hf7 hS
  have k29 := (rt_in (by omega) (by omega) (by omega) (show th = 1000 * t + hr by omega) (by decide) f9).trans (congrArg (fun q => fl_rox q (-1)) (st_SE_nm rfl))
  have k31 := rt_1 k29
  refine fz_istore (ls' := [(14, fz_i y10), (0, fz_r 200), (1, fz_r 0), (2, fz_r 53), (3, fz_i tw), (4, fz_l sm), (6, fz_i p), (7, fz_i hr), (8, fz_i t), (9, fz_i th), (10, fz_i mk), (11, fz_i rc)]) kL_law rfl (by decide) rfl ?_
  refine fz_iload kL_law rfl rfl ?_
  refine fz_if_lt (tgt := 1464) kL_law rfl (by decide) (fun c32 => ?_) (fun c32 => ?_)
  · exfalso; omega
  · refine fz_iload kL_law rfl rfl ?_
    refine fz_if_ne (tgt := 1441) kL_law rfl (by decide) (fun c33 => ?_) (fun c33 => ?_)
    · refine fz_iconst ⟨by decide, by decide⟩ kL_law rfl ?_
      refine fz_aload_n kL_law rfl rfl ?_
      refine fz_iload kL_law rfl rfl ?_
      refine fz_iload kL_law rfl rfl ?_
      refine fz_iconst ⟨by decide, by decide⟩ kL_law rfl ?_
      refine fz_callV (d' := 10) (M' := mX10_route) (As := [fz_i p, fz_i th, fz_i 0]) (st := [fz_i 0]) kL_law rfl rfl vX10_route rfl rfl rfl rfl (Nat.le_of_ble_eq_true rfl) (Nat.le_of_ble_eq_true rfl) (by decide) (sX10_route H2 hI6 p th 0 ) (fun H34 r35 q36 o37 => ?_)
      obtain ⟨hI38, hf39, y42, rfl, f40, f41⟩ := q36
      clear o37
      have hf43 := fz_fr_tr hf11 hf39 (show fz_su [(18, 99999), (19, 99999), (29, 99999), (33, 3), (33, 4), (33, 5), (33, 6), (33, 7), (34, 99999)] [(1, 7), (1, 8), (2, 99999), (3, 99999), (4, 99999), (5, 99999), (6, 99999), (7, 99999), (8, 99999), (9, 5), (10, 99999), (11, 99999), (12, 99999), (13, 99999), (14, 99999), (15, 4), (16, 99999), (17, 99999), (18, 99999), (19, 99999), (20, 2), (20, 3), (20, 4), (21, 4), (22, 99999), (23, 99999), (26, 99999), (27, 8), (27, 9), (28, 99999), (29, 99999), (30, 99999), (31, 99999), (32, 99999), (33, 3), (33, 4), (33, 5), (33, 6), (33, 7), (34, 99999), (35, 4), (35, 5), (36, 99999), (37, 99999), (38, 99999), (39, 99999), (40, 1), (40, 2), (40, 3), (40, 4), (40, 5), (40, 6), (41, 99999), (42, 99999), (43, 99999), (44, 2), (45, 99999), (48, 99999), (50, 99999), (51, 99999), (52, 99999), (53, 99999)] = true from rfl)
      have hRE44 : fz_RE H34 := fz_RE_eq (funext fun s => hf39 5 s rfl) (funext fun s => hf39 6 s rfl) (hf39 1 8 rfl) (hf39 1 7 rfl) hRE12
      have hRV45 : fz_RV H34 := fz_RV_eq (funext fun s => hf39 7 s rfl) (funext fun s => hf39 8 s rfl) (funext fun s => hf39 3 s rfl) (funext fun s => hf39 4 s rfl) (funext fun s => hf39 5 s rfl) (funext fun s => hf39 6 s rfl) (hf39 1 7 rfl) (hf39 1 8 rfl) hRV13
      have hRP246 : fz_RP2 H34 := fz_RP2_eq (funext fun s => hf39 11 s rfl) (hf39 9 5 rfl) (hf39 1 7 rfl) hRP214
      have hN47 : st_N tw H34 := st_N_eq (hf39 53 0 rfl) (hf39 53 1 rfl) (hf39 53 2 rfl) (hf39 1 7 rfl) (hf39 1 8 rfl) (hf39 9 5 rfl) (hf39 35 4 rfl) (hf39 20 2 rfl) hN15
      have hL148 : st_L1 H34 := st_L1_eq (funext fun s => hf39 3 s rfl) (hf39 1 8 rfl) hL116
      have hZ49 : st_Z H34 := st_Z_eq (hf39 40 1 rfl) (hf39 40 2 rfl) (hf39 40 3 rfl) (hf39 40 4 rfl) (hf39 40 5 rfl) (funext fun s => hf39 41 s rfl) hZ17
      have hIm50 : st_Im H34 := st_Im_eq (hf39 40 6 rfl) (funext fun s => hf39 43 s rfl) (funext fun s => hf39 42 s rfl) hIm18
      have hX51 : fz_Xc H34 := fz_Xc_fr hf39 rfl hX19
      have t52 : H34 9 5 = H2 9 5 := hf39 9 5 rfl
      have t53 : H34 1 7 = H2 1 7 := hf39 1 7 rfl
      have t54 : H34 1 8 = H2 1 8 := hf39 1 8 rfl
      have t55 : H34 48 0 = H2 48 0 := hf39 48 0 rfl
      have t56 : H34 50 0 = H2 50 0 := hf39 50 0 rfl
      have t57 : H34 51 0 = H2 51 0 := hf39 51 0 rfl
      have hW58 := st_W_fr rfl hf39 hW26
      have nm59 : fz_nm H34 = fz_nm H := (fz_nm_fr rfl hf39).trans nm27
      have hS60 : st_S sm H34 := st_S_fr rfl hf39 hS28
      have k61 := rt_0 k29 ((rt_in (by omega) (by omega) (by omega) (show th = 1000 * t + hr by omega) (by decide) f41).trans (congrArg (fun q => fl_rox q 0) (st_SE_nm nm27)))
      refine fz_bipush ⟨by decide, by decide⟩ kL_law rfl ?_
      refine fz_icmp_ne (tgt := 1460) kL_law rfl (by decide) (fun c62 => ?_) (fun c62 => ?_)
      · refine fz_iconst ⟨by decide, by decide⟩ kL_law rfl ?_
        refine fz_icmp_eq (tgt := 1466) kL_law rfl (by decide) (fun c63 => ?_) (fun c63 => ?_)
        · refine fz_sub (fz_pk_sub (ls' := [(0, fz_r 200), (1, fz_r 0), (2, fz_r 53), (3, fz_i tw), (4, fz_l sm), (6, fz_i p), (7, fz_i hr), (8, fz_i t), (9, fz_i th), (10, fz_i mk), (11, fz_i rc)]) [1, 2, 3, 4, 5, 6, 7, 8, 9, 10, 11] rfl) ?_
          exact k H34  hI38 hf43 hX51 hRE44 hRV45 hRP246 hN47 hS60 hL148 hZ49 hIm50 hW58 
        · exfalso; omega
      · refine fz_iconst ⟨by decide, by decide⟩ kL_law rfl ?_
        refine fz_goto (tgt := 1461) kL_law rfl (by decide) ?_
        refine fz_icmp_eq (tgt := 1466) kL_law rfl (by decide) (fun c64 => ?_) (fun c64 => ?_)
        · exfalso; omega
        · exfalso; omega
    · refine fz_iconst ⟨by decide, by decide⟩ kL_law rfl ?_
      refine fz_goto (tgt := 1442) kL_law rfl (by decide) ?_
      refine fz_aload_n kL_law rfl rfl ?_
      refine fz_iload kL_law rfl rfl ?_
      refine fz_iload kL_law rfl rfl ?_
      refine fz_iconst ⟨by decide, by decide⟩ kL_law rfl ?_
      refine fz_callV (d' := 10) (M' := mX10_route) (As := [fz_i p, fz_i th, fz_i 0]) (st := [fz_i 1]) kL_law rfl rfl vX10_route rfl rfl rfl rfl (Nat.le_of_ble_eq_true rfl) (Nat.le_of_ble_eq_true rfl) (by decide) (sX10_route H2 hI6 p th 0 ) (fun H65 r66 q67 o68 => ?_)
      obtain ⟨hI69, hf70, y73, rfl, f71, f72⟩ := q67
      clear o68
      have hf74 := fz_fr_tr hf11 hf70 (show fz_su [(18, 99999), (19, 99999), (29, 99999), (33, 3), (33, 4), (33, 5), (33, 6), (33, 7), (34, 99999)] [(1, 7), (1, 8), (2, 99999), (3, 99999), (4, 99999), (5, 99999), (6, 99999), (7, 99999), (8, 99999), (9, 5), (10, 99999), (11, 99999), (12, 99999), (13, 99999), (14, 99999), (15, 4), (16, 99999), (17, 99999), (18, 99999), (19, 99999), (20, 2), (20, 3), (20, 4), (21, 4), (22, 99999), (23, 99999), (26, 99999), (27, 8), (27, 9), (28, 99999), (29, 99999), (30, 99999), (31, 99999), (32, 99999), (33, 3), (33, 4), (33, 5), (33, 6), (33, 7), (34, 99999), (35, 4), (35, 5), (36, 99999), (37, 99999), (38, 99999), (39, 99999), (40, 1), (40, 2), (40, 3), (40, 4), (40, 5), (40, 6), (41, 99999), (42, 99999), (43, 99999), (44, 2), (45, 99999), (48, 99999), (50, 99999), (51, 99999), (52, 99999), (53, 99999)] = true from rfl)
      have hRE75 : fz_RE H65 := fz_RE_eq (funext fun s => hf70 5 s rfl) (funext fun s => hf70 6 s rfl) (hf70 1 8 rfl) (hf70 1 7 rfl) hRE12
      have hRV76 : fz_RV H65 := fz_RV_eq (funext fun s => hf70 7 s rfl) (funext fun s => hf70 8 s rfl) (funext fun s => hf70 3 s rfl) (funext fun s => hf70 4 s rfl) (funext fun s => hf70 5 s rfl) (funext fun s => hf70 6 s rfl) (hf70 1 7 rfl) (hf70 1 8 rfl) hRV13
      have hRP277 : fz_RP2 H65 := fz_RP2_eq (funext fun s => hf70 11 s rfl) (hf70 9 5 rfl) (hf70 1 7 rfl) hRP214
      have hN78 : st_N tw H65 := st_N_eq (hf70 53 0 rfl) (hf70 53 1 rfl) (hf70 53 2 rfl) (hf70 1 7 rfl) (hf70 1 8 rfl) (hf70 9 5 rfl) (hf70 35 4 rfl) (hf70 20 2 rfl) hN15
      have hL179 : st_L1 H65 := st_L1_eq (funext fun s => hf70 3 s rfl) (hf70 1 8 rfl) hL116
      have hZ80 : st_Z H65 := st_Z_eq (hf70 40 1 rfl) (hf70 40 2 rfl) (hf70 40 3 rfl) (hf70 40 4 rfl) (hf70 40 5 rfl) (funext fun s => hf70 41 s rfl) hZ17
      have hIm81 : st_Im H65 := st_Im_eq (hf70 40 6 rfl) (funext fun s => hf70 43 s rfl) (funext fun s => hf70 42 s rfl) hIm18
      have hX82 : fz_Xc H65 := fz_Xc_fr hf70 rfl hX19
      have t83 : H65 9 5 = H2 9 5 := hf70 9 5 rfl
      have t84 : H65 1 7 = H2 1 7 := hf70 1 7 rfl
      have t85 : H65 1 8 = H2 1 8 := hf70 1 8 rfl
      have t86 : H65 48 0 = H2 48 0 := hf70 48 0 rfl
      have t87 : H65 50 0 = H2 50 0 := hf70 50 0 rfl
      have t88 : H65 51 0 = H2 51 0 := hf70 51 0 rfl
      have hW89 := st_W_fr rfl hf70 hW26
      have nm90 : fz_nm H65 = fz_nm H := (fz_nm_fr rfl hf70).trans nm27
      have hS91 : st_S sm H65 := st_S_fr rfl hf70 hS28
      have k92 := rt_0 k29 ((rt_in (by omega) (by omega) (by omega) (show th = 1000 * t + hr by omega) (by decide) f72).trans (congrArg (fun q => fl_rox q 0) (st_SE_nm nm27)))
      refine fz_bipush ⟨by decide, by decide⟩ kL_law rfl ?_
      refine fz_icmp_ne (tgt := 1460) kL_law rfl (by decide) (fun c93 => ?_) (fun c93 => ?_)
      · refine fz_iconst ⟨by decide, by decide⟩ kL_law rfl ?_
        refine fz_icmp_eq (tgt := 1466) kL_law rfl (by decide) (fun c94 => ?_) (fun c94 => ?_)
        · exfalso; omega
        · exfalso; omega
      · refine fz_iconst ⟨by decide, by decide⟩ kL_law rfl ?_
        refine fz_goto (tgt := 1461) kL_law rfl (by decide) ?_
        refine fz_icmp_eq (tgt := 1466) kL_law rfl (by decide) (fun c95 => ?_) (fun c95 => ?_)
        · refine fz_sub (fz_pk_sub (ls' := [(0, fz_r 200), (1, fz_r 0), (2, fz_r 53), (3, fz_i tw), (4, fz_l sm), (6, fz_i p), (7, fz_i hr), (8, fz_i t), (9, fz_i th), (10, fz_i mk), (11, fz_i rc)]) [1, 2, 3, 4, 5, 6, 7, 8, 9, 10, 11] rfl) ?_
          exact k H65  hI69 hf74 hX82 hRE75 hRV76 hRP277 hN78 hS91 hL179 hZ80 hIm81 hW89 
        · exfalso; omega

set_option maxHeartbeats 1000000 in
set_option maxRecDepth 100000 in
theorem sL_l1466 (h H : fz_H) (tw sm p hr t th mk rc : Int) (hI : fz_Iv H) (hf : fz_fr [(1, 7), (1, 8), (2, 99999), (3, 99999), (4, 99999), (5, 99999), (6, 99999), (7, 99999), (8, 99999), (9, 5), (10, 99999), (11, 99999), (12, 99999), (13, 99999), (14, 99999), (15, 4), (16, 99999), (17, 99999), (18, 99999), (19, 99999), (20, 2), (20, 3), (20, 4), (21, 4), (22, 99999), (23, 99999), (26, 99999), (27, 8), (27, 9), (28, 99999), (29, 99999), (30, 99999), (31, 99999), (32, 99999), (33, 3), (33, 4), (33, 5), (33, 6), (33, 7), (34, 99999), (35, 4), (35, 5), (36, 99999), (37, 99999), (38, 99999), (39, 99999), (40, 1), (40, 2), (40, 3), (40, 4), (40, 5), (40, 6), (41, 99999), (42, 99999), (43, 99999), (44, 2), (45, 99999), (48, 99999), (50, 99999), (51, 99999), (52, 99999), (53, 99999)] h H) (hX : fz_Xc H) (hRE : fz_RE H) (hRV : fz_RV H) (hRP2 : fz_RP2 H) (hN : st_N tw H) (hS : st_S sm H) (hL1 : st_L1 H) (hZ : st_Z H) (hIm : st_Im H) (hW : st_W p t hr mk rc H) (hp0 : 0 ≤ h 200 100000 ∧ h 200 100000 ≤ 3072) (hq0 : 0 ≤ tw ∧ tw ≤ 8) (hq1 : 0 ≤ p ∧ p ≤ 3) (hq2 : 0 ≤ hr ∧ hr ≤ 299) (hq3 : 0 ≤ t ∧ t < tw) (hq4 : th = 1000 * t + hr) (hq5 : 0 ≤ mk ∧ mk ≤ 5) (k : ∀ (G : fz_H), fz_Iv G → fz_fr [(1, 7), (1, 8), (2, 99999), (3, 99999), (4, 99999), (5, 99999), (6, 99999), (7, 99999), (8, 99999), (9, 5), (10, 99999), (11, 99999), (12, 99999), (13, 99999), (14, 99999), (15, 4), (16, 99999), (17, 99999), (18, 99999), (19, 99999), (20, 2), (20, 3), (20, 4), (21, 4), (22, 99999), (23, 99999), (26, 99999), (27, 8), (27, 9), (28, 99999), (29, 99999), (30, 99999), (31, 99999), (32, 99999), (33, 3), (33, 4), (33, 5), (33, 6), (33, 7), (34, 99999), (35, 4), (35, 5), (36, 99999), (37, 99999), (38, 99999), (39, 99999), (40, 1), (40, 2), (40, 3), (40, 4), (40, 5), (40, 6), (41, 99999), (42, 99999), (43, 99999), (44, 2), (45, 99999), (48, 99999), (50, 99999), (51, 99999), (52, 99999), (53, 99999)] h G → fz_Xc G → fz_RE G → fz_RV G → fz_RP2 G → st_N tw G → st_S sm G → st_L1 G → st_Z G → st_Im G → fz_R 48 mL_law 1542 [(0, fz_r 200), (1, fz_r 0), (2, fz_r 53), (3, fz_i tw), (4, fz_l sm), (6, fz_i p)] [] G (qL_law h)) : fz_R 48 mL_law 1466 [(0, fz_r 200), (1, fz_r 0), (2, fz_r 53), (3, fz_i tw), (4, fz_l sm), (6, fz_i p), (7, fz_i hr), (8, fz_i t), (9, fz_i th), (10, fz_i mk), (11, fz_i rc)] [] H (qL_law h) := by
  have k1 := st_N_e hI hN
  refine fz_iload kL_law rfl rfl ?_
  refine fz_iconst ⟨by decide, by decide⟩ kL_law rfl ?_
  refine fz_iaddN kL_law rfl (by omega) ?_
  refine fz_iconst ⟨by decide, by decide⟩ kL_law rfl ?_
  refine fz_iremN kL_law rfl (by omega) (by omega) (by omega) ?_
  refine fz_istore (ls' := [(15, fz_i ((p + 1) % 4)), (0, fz_r 200), (1, fz_r 0), (2, fz_r 53), (3, fz_i tw), (4, fz_l sm), (6, fz_i p), (7, fz_i hr), (8, fz_i t), (9, fz_i th), (10, fz_i mk), (11, fz_i rc)]) kL_law rfl (by decide) rfl ?_
  refine fz_aload_n kL_law rfl rfl ?_
  refine fz_bipush ⟨by decide, by decide⟩ kL_law rfl ?_
  refine fz_iload kL_law rfl rfl ?_
  refine fz_imulN kL_law rfl (by omega) ?_
  refine fz_iload kL_law rfl rfl ?_
  refine fz_iaddN kL_law rfl (by omega) ?_
  refine fz_iload kL_law rfl rfl ?_
  refine fz_iconst ⟨by decide, by decide⟩ kL_law rfl ?_
  refine fz_callV (d' := 6) (M' := mX10_alike) (As := [fz_i ((10 * p) + ((p + 1) % 4)), fz_i th, fz_i 0]) (st := []) kL_law rfl rfl vX10_alike rfl rfl rfl rfl (Nat.le_of_ble_eq_true rfl) (Nat.le_of_ble_eq_true rfl) (by decide) (sX10_alike H hI ((10 * p) + ((p + 1) % 4)) th 0 ) (fun H2 r3 q4 o5 => ?_)
  obtain ⟨hI6, hf7, y10, rfl, f8, f9⟩ := q4
  clear o5
  have hf11 := fz_fr_tr hf hf7 (show fz_su [(18, 99999), (19, 99999), (29, 99999), (30, 99999)] [(1, 7), (1, 8), (2, 99999), (3, 99999), (4, 99999), (5, 99999), (6, 99999), (7, 99999), (8, 99999), (9, 5), (10, 99999), (11, 99999), (12, 99999), (13, 99999), (14, 99999), (15, 4), (16, 99999), (17, 99999), (18, 99999), (19, 99999), (20, 2), (20, 3), (20, 4), (21, 4), (22, 99999), (23, 99999), (26, 99999), (27, 8), (27, 9), (28, 99999), (29, 99999), (30, 99999), (31, 99999), (32, 99999), (33, 3), (33, 4), (33, 5), (33, 6), (33, 7), (34, 99999), (35, 4), (35, 5), (36, 99999), (37, 99999), (38, 99999), (39, 99999), (40, 1), (40, 2), (40, 3), (40, 4), (40, 5), (40, 6), (41, 99999), (42, 99999), (43, 99999), (44, 2), (45, 99999), (48, 99999), (50, 99999), (51, 99999), (52, 99999), (53, 99999)] = true from rfl)
  have hRE12 : fz_RE H2 := fz_RE_eq (funext fun s => hf7 5 s rfl) (funext fun s => hf7 6 s rfl) (hf7 1 8 rfl) (hf7 1 7 rfl) hRE
  have hRV13 : fz_RV H2 := fz_RV_eq (funext fun s => hf7 7 s rfl) (funext fun s => hf7 8 s rfl) (funext fun s => hf7 3 s rfl) (funext fun s => hf7 4 s rfl) (funext fun s => hf7 5 s rfl) (funext fun s => hf7 6 s rfl) (hf7 1 7 rfl) (hf7 1 8 rfl) hRV
  have hRP214 : fz_RP2 H2 := fz_RP2_eq (funext fun s => hf7 11 s rfl) (hf7 9 5 rfl) (hf7 1 7 rfl) hRP2
  have hN15 : st_N tw H2 := st_N_eq (hf7 53 0 rfl) (hf7 53 1 rfl) (hf7 53 2 rfl) (hf7 1 7 rfl) (hf7 1 8 rfl) (hf7 9 5 rfl) (hf7 35 4 rfl) (hf7 20 2 rfl) hN
  have hL116 : st_L1 H2 := st_L1_eq (funext fun s => hf7 3 s rfl) (hf7 1 8 rfl) hL1
  have hZ17 : st_Z H2 := st_Z_eq (hf7 40 1 rfl) (hf7 40 2 rfl) (hf7 40 3 rfl) (hf7 40 4 rfl) (hf7 40 5 rfl) (funext fun s => hf7 41 s rfl) hZ
  have hIm18 : st_Im H2 := st_Im_eq (hf7 40 6 rfl) (funext fun s => hf7 43 s rfl) (funext fun s => hf7 42 s rfl) hIm
  have hX19 : fz_Xc H2 := fz_Xc_fr hf7 rfl hX
  have t20 : H2 9 5 = H 9 5 := hf7 9 5 rfl
  have t21 : H2 1 7 = H 1 7 := hf7 1 7 rfl
  have t22 : H2 1 8 = H 1 8 := hf7 1 8 rfl
  have t23 : H2 48 0 = H 48 0 := hf7 48 0 rfl
  have t24 : H2 50 0 = H 50 0 := hf7 50 0 rfl
  have t25 : H2 51 0 = H 51 0 := hf7 51 0 rfl
  have hW26 := st_W_fr rfl hf7 hW
  have nm27 : fz_nm H2 = fz_nm H := (fz_nm_fr rfl hf7).trans rfl
  have hS28 : st_S sm H2 := st_S_fr rfl hf7 hS
  have k29 := ak_nm rfl f9
  refine fz_aload_n kL_law rfl rfl ?_
  refine fz_bipush ⟨by decide, by decide⟩ kL_law rfl ?_
  refine fz_iload kL_law rfl rfl ?_
  refine fz_imulN kL_law rfl (by omega) ?_
  refine fz_iload kL_law rfl rfl ?_
  refine fz_iaddN kL_law rfl (by omega) ?_
  refine fz_iload kL_law rfl rfl ?_
  refine fz_iconst ⟨by decide, by decide⟩ kL_law rfl ?_
  refine fz_callV (d' := 6) (M' := mX10_alike) (As := [fz_i ((10 * ((p + 1) % 4)) + p), fz_i th, fz_i 0]) (st := [fz_i y10]) kL_law rfl rfl vX10_alike rfl rfl rfl rfl (Nat.le_of_ble_eq_true rfl) (Nat.le_of_ble_eq_true rfl) (by decide) (sX10_alike H2 hI6 ((10 * ((p + 1) % 4)) + p) th 0 ) (fun H31 r32 q33 o34 => ?_)
  obtain ⟨hI35, hf36, y39, rfl, f37, f38⟩ := q33
  clear o34
  have hf40 := fz_fr_tr hf11 hf36 (show fz_su [(18, 99999), (19, 99999), (29, 99999), (30, 99999)] [(1, 7), (1, 8), (2, 99999), (3, 99999), (4, 99999), (5, 99999), (6, 99999), (7, 99999), (8, 99999), (9, 5), (10, 99999), (11, 99999), (12, 99999), (13, 99999), (14, 99999), (15, 4), (16, 99999), (17, 99999), (18, 99999), (19, 99999), (20, 2), (20, 3), (20, 4), (21, 4), (22, 99999), (23, 99999), (26, 99999), (27, 8), (27, 9), (28, 99999), (29, 99999), (30, 99999), (31, 99999), (32, 99999), (33, 3), (33, 4), (33, 5), (33, 6), (33, 7), (34, 99999), (35, 4), (35, 5), (36, 99999), (37, 99999), (38, 99999), (39, 99999), (40, 1), (40, 2), (40, 3), (40, 4), (40, 5), (40, 6), (41, 99999), (42, 99999), (43, 99999), (44, 2), (45, 99999), (48, 99999), (50, 99999), (51, 99999), (52, 99999), (53, 99999)] = true from rfl)
  have hRE41 : fz_RE H31 := fz_RE_eq (funext fun s => hf36 5 s rfl) (funext fun s => hf36 6 s rfl) (hf36 1 8 rfl) (hf36 1 7 rfl) hRE12
  have hRV42 : fz_RV H31 := fz_RV_eq (funext fun s => hf36 7 s rfl) (funext fun s => hf36 8 s rfl) (funext fun s => hf36 3 s rfl) (funext fun s => hf36 4 s rfl) (funext fun s => hf36 5 s rfl) (funext fun s => hf36 6 s rfl) (hf36 1 7 rfl) (hf36 1 8 rfl) hRV13
  have hRP243 : fz_RP2 H31 := fz_RP2_eq (funext fun s => hf36 11 s rfl) (hf36 9 5 rfl) (hf36 1 7 rfl) hRP214
  have hN44 : st_N tw H31 := st_N_eq (hf36 53 0 rfl) (hf36 53 1 rfl) (hf36 53 2 rfl) (hf36 1 7 rfl) (hf36 1 8 rfl) (hf36 9 5 rfl) (hf36 35 4 rfl) (hf36 20 2 rfl) hN15
  have hL145 : st_L1 H31 := st_L1_eq (funext fun s => hf36 3 s rfl) (hf36 1 8 rfl) hL116
  have hZ46 : st_Z H31 := st_Z_eq (hf36 40 1 rfl) (hf36 40 2 rfl) (hf36 40 3 rfl) (hf36 40 4 rfl) (hf36 40 5 rfl) (funext fun s => hf36 41 s rfl) hZ17
  have hIm47 : st_Im H31 := st_Im_eq (hf36 40 6 rfl) (funext fun s => hf36 43 s rfl) (funext fun s => hf36 42 s rfl) hIm18
  have hX48 : fz_Xc H31 := fz_Xc_fr hf36 rfl hX19
  have t49 : H31 9 5 = H2 9 5 := hf36 9 5 rfl
  have t50 : H31 1 7 = H2 1 7 := hf36 1 7 rfl
  have t51 : H31 1 8 = H2 1 8 := hf36 1 8 rfl
  have t52 : H31 48 0 = H2 48 0 := hf36 48 0 rfl
  have t53 : H31 50 0 = H2 50 0 := hf36 50 0 rfl
  have t54 : H31 51 0 = H2 51 0 := hf36 51 0 rfl
  have hW55 := st_W_fr rfl hf36 hW26
  have nm56 : fz_nm H31 = fz_nm H := (fz_nm_fr rfl hf36).trans nm27
  have hS57 : st_S sm H31 := st_S_fr rfl hf36 hS28
  have k58 : y10 = y39 := ak_sy (by omega) (by omega) (by omega) (show 0 ≤ t ∧ t < H 1 7 by omega) (by omega) (show th = 1000 * t + hr by omega) (Or.inl rfl) k29 (ak_nm nm27 f38)
  refine fz_icmp_ne (tgt := 1540) kL_law rfl (by decide) (fun c59 => ?_) (fun c59 => ?_)
  · exfalso; omega
  · refine fz_aload_n kL_law rfl rfl ?_
    refine fz_bipush ⟨by decide, by decide⟩ kL_law rfl ?_
    refine fz_iload kL_law rfl rfl ?_
    refine fz_imulN kL_law rfl (by omega) ?_
    refine fz_iload kL_law rfl rfl ?_
    refine fz_iaddN kL_law rfl (by omega) ?_
    refine fz_iload kL_law rfl rfl ?_
    refine fz_iconst ⟨by decide, by decide⟩ kL_law rfl ?_
    refine fz_callV (d' := 6) (M' := mX10_alike) (As := [fz_i ((10 * p) + ((p + 1) % 4)), fz_i th, fz_i 1]) (st := []) kL_law rfl rfl vX10_alike rfl rfl rfl rfl (Nat.le_of_ble_eq_true rfl) (Nat.le_of_ble_eq_true rfl) (by decide) (sX10_alike H31 hI35 ((10 * p) + ((p + 1) % 4)) th 1 ) (fun H60 r61 q62 o63 => ?_)
    obtain ⟨hI64, hf65, y68, rfl, f66, f67⟩ := q62
    clear o63
    have hf69 := fz_fr_tr hf40 hf65 (show fz_su [(18, 99999), (19, 99999), (29, 99999), (30, 99999)] [(1, 7), (1, 8), (2, 99999), (3, 99999), (4, 99999), (5, 99999), (6, 99999), (7, 99999), (8, 99999), (9, 5), (10, 99999), (11, 99999), (12, 99999), (13, 99999), (14, 99999), (15, 4), (16, 99999), (17, 99999), (18, 99999), (19, 99999), (20, 2), (20, 3), (20, 4), (21, 4), (22, 99999), (23, 99999), (26, 99999), (27, 8), (27, 9), (28, 99999), (29, 99999), (30, 99999), (31, 99999), (32, 99999), (33, 3), (33, 4), (33, 5), (33, 6), (33, 7), (34, 99999), (35, 4), (35, 5), (36, 99999), (37, 99999), (38, 99999), (39, 99999), (40, 1), (40, 2), (40, 3), (40, 4), (40, 5), (40, 6), (41, 99999), (42, 99999), (43, 99999), (44, 2), (45, 99999), (48, 99999), (50, 99999), (51, 99999), (52, 99999), (53, 99999)] = true from rfl)
    have hRE70 : fz_RE H60 := fz_RE_eq (funext fun s => hf65 5 s rfl) (funext fun s => hf65 6 s rfl) (hf65 1 8 rfl) (hf65 1 7 rfl) hRE41
    have hRV71 : fz_RV H60 := fz_RV_eq (funext fun s => hf65 7 s rfl) (funext fun s => hf65 8 s rfl) (funext fun s => hf65 3 s rfl) (funext fun s => hf65 4 s rfl) (funext fun s => hf65 5 s rfl) (funext fun s => hf65 6 s rfl) (hf65 1 7 rfl) (hf65 1 8 rfl) hRV42
    have hRP272 : fz_RP2 H60 := fz_RP2_eq (funext fun s => hf65 11 s rfl) (hf65 9 5 rfl) (hf65 1 7 rfl) hRP243
    have hN73 : st_N tw H60 := st_N_eq (hf65 53 0 rfl) (hf65 53 1 rfl) (hf65 53 2 rfl) (hf65 1 7 rfl) (hf65 1 8 rfl) (hf65 9 5 rfl) (hf65 35 4 rfl) (hf65 20 2 rfl) hN44
    have hL174 : st_L1 H60 := st_L1_eq (funext fun s => hf65 3 s rfl) (hf65 1 8 rfl) hL145
    have hZ75 : st_Z H60 := st_Z_eq (hf65 40 1 rfl) (hf65 40 2 rfl) (hf65 40 3 rfl) (hf65 40 4 rfl) (hf65 40 5 rfl) (funext fun s => hf65 41 s rfl) hZ46
    have hIm76 : st_Im H60 := st_Im_eq (hf65 40 6 rfl) (funext fun s => hf65 43 s rfl) (funext fun s => hf65 42 s rfl) hIm47
    have hX77 : fz_Xc H60 := fz_Xc_fr hf65 rfl hX48
    have t78 : H60 9 5 = H31 9 5 := hf65 9 5 rfl
    have t79 : H60 1 7 = H31 1 7 := hf65 1 7 rfl
    have t80 : H60 1 8 = H31 1 8 := hf65 1 8 rfl
    have t81 : H60 48 0 = H31 48 0 := hf65 48 0 rfl
    have t82 : H60 50 0 = H31 50 0 := hf65 50 0 rfl
    have t83 : H60 51 0 = H31 51 0 := hf65 51 0 rfl
    have hW84 := st_W_fr rfl hf65 hW55
    have nm85 : fz_nm H60 = fz_nm H := (fz_nm_fr rfl hf65).trans nm56
    have hS86 : st_S sm H60 := st_S_fr rfl hf65 hS57
    have k87 := ak_nm nm56 f67
    refine fz_aload_n kL_law rfl rfl ?_
    refine fz_bipush ⟨by decide, by decide⟩ kL_law rfl ?_
    refine fz_iload kL_law rfl rfl ?_
    refine fz_imulN kL_law rfl (by omega) ?_
    refine fz_iload kL_law rfl rfl ?_
    refine fz_iaddN kL_law rfl (by omega) ?_
    refine fz_iload kL_law rfl rfl ?_
    refine fz_iconst ⟨by decide, by decide⟩ kL_law rfl ?_
    refine fz_callV (d' := 6) (M' := mX10_alike) (As := [fz_i ((10 * ((p + 1) % 4)) + p), fz_i th, fz_i 1]) (st := [fz_i y68]) kL_law rfl rfl vX10_alike rfl rfl rfl rfl (Nat.le_of_ble_eq_true rfl) (Nat.le_of_ble_eq_true rfl) (by decide) (sX10_alike H60 hI64 ((10 * ((p + 1) % 4)) + p) th 1 ) (fun H89 r90 q91 o92 => ?_)
    obtain ⟨hI93, hf94, y97, rfl, f95, f96⟩ := q91
    clear o92
    have hf98 := fz_fr_tr hf69 hf94 (show fz_su [(18, 99999), (19, 99999), (29, 99999), (30, 99999)] [(1, 7), (1, 8), (2, 99999), (3, 99999), (4, 99999), (5, 99999), (6, 99999), (7, 99999), (8, 99999), (9, 5), (10, 99999), (11, 99999), (12, 99999), (13, 99999), (14, 99999), (15, 4), (16, 99999), (17, 99999), (18, 99999), (19, 99999), (20, 2), (20, 3), (20, 4), (21, 4), (22, 99999), (23, 99999), (26, 99999), (27, 8), (27, 9), (28, 99999), (29, 99999), (30, 99999), (31, 99999), (32, 99999), (33, 3), (33, 4), (33, 5), (33, 6), (33, 7), (34, 99999), (35, 4), (35, 5), (36, 99999), (37, 99999), (38, 99999), (39, 99999), (40, 1), (40, 2), (40, 3), (40, 4), (40, 5), (40, 6), (41, 99999), (42, 99999), (43, 99999), (44, 2), (45, 99999), (48, 99999), (50, 99999), (51, 99999), (52, 99999), (53, 99999)] = true from rfl)
    have hRE99 : fz_RE H89 := fz_RE_eq (funext fun s => hf94 5 s rfl) (funext fun s => hf94 6 s rfl) (hf94 1 8 rfl) (hf94 1 7 rfl) hRE70
    have hRV100 : fz_RV H89 := fz_RV_eq (funext fun s => hf94 7 s rfl) (funext fun s => hf94 8 s rfl) (funext fun s => hf94 3 s rfl) (funext fun s => hf94 4 s rfl) (funext fun s => hf94 5 s rfl) (funext fun s => hf94 6 s rfl) (hf94 1 7 rfl) (hf94 1 8 rfl) hRV71
    have hRP2101 : fz_RP2 H89 := fz_RP2_eq (funext fun s => hf94 11 s rfl) (hf94 9 5 rfl) (hf94 1 7 rfl) hRP272
    have hN102 : st_N tw H89 := st_N_eq (hf94 53 0 rfl) (hf94 53 1 rfl) (hf94 53 2 rfl) (hf94 1 7 rfl) (hf94 1 8 rfl) (hf94 9 5 rfl) (hf94 35 4 rfl) (hf94 20 2 rfl) hN73
    have hL1103 : st_L1 H89 := st_L1_eq (funext fun s => hf94 3 s rfl) (hf94 1 8 rfl) hL174
    have hZ104 : st_Z H89 := st_Z_eq (hf94 40 1 rfl) (hf94 40 2 rfl) (hf94 40 3 rfl) (hf94 40 4 rfl) (hf94 40 5 rfl) (funext fun s => hf94 41 s rfl) hZ75
    have hIm105 : st_Im H89 := st_Im_eq (hf94 40 6 rfl) (funext fun s => hf94 43 s rfl) (funext fun s => hf94 42 s rfl) hIm76
    have hX106 : fz_Xc H89 := fz_Xc_fr hf94 rfl hX77
    have t107 : H89 9 5 = H60 9 5 := hf94 9 5 rfl
    have t108 : H89 1 7 = H60 1 7 := hf94 1 7 rfl
    have t109 : H89 1 8 = H60 1 8 := hf94 1 8 rfl
    have t110 : H89 48 0 = H60 48 0 := hf94 48 0 rfl
    have t111 : H89 50 0 = H60 50 0 := hf94 50 0 rfl
    have t112 : H89 51 0 = H60 51 0 := hf94 51 0 rfl
    have hW113 := st_W_fr rfl hf94 hW84
    have nm114 : fz_nm H89 = fz_nm H := (fz_nm_fr rfl hf94).trans nm85
    have hS115 : st_S sm H89 := st_S_fr rfl hf94 hS86
    have k116 : y68 = y97 := ak_sy (by omega) (by omega) (by omega) (show 0 ≤ t ∧ t < H 1 7 by omega) (by omega) (show th = 1000 * t + hr by omega) (Or.inr rfl) k87 (ak_nm nm85 f96)
    refine fz_icmp_eq (tgt := 1542) kL_law rfl (by decide) (fun c117 => ?_) (fun c117 => ?_)
    · refine fz_sub (fz_pk_sub (ls' := [(0, fz_r 200), (1, fz_r 0), (2, fz_r 53), (3, fz_i tw), (4, fz_l sm), (6, fz_i p)]) [1, 2, 3, 4, 5, 6] rfl) ?_
      exact k H89  hI93 hf98 hX106 hRE99 hRV100 hRP2101 hN102 hS115 hL1103 hZ104 hIm105 
    · exfalso; omega

set_option maxHeartbeats 1000000 in
set_option maxRecDepth 100000 in
theorem sL_l946 (h H : fz_H) (tw sm : Int) (hI : fz_Iv H) (hf : fz_fr [(1, 7), (1, 8), (2, 99999), (3, 99999), (4, 99999), (5, 99999), (6, 99999), (7, 99999), (8, 99999), (9, 5), (10, 99999), (11, 99999), (12, 99999), (13, 99999), (14, 99999), (15, 4), (16, 99999), (17, 99999), (18, 99999), (19, 99999), (20, 2), (20, 3), (20, 4), (21, 4), (22, 99999), (23, 99999), (26, 99999), (27, 8), (27, 9), (28, 99999), (29, 99999), (30, 99999), (31, 99999), (32, 99999), (33, 3), (33, 4), (33, 5), (33, 6), (33, 7), (34, 99999), (35, 4), (35, 5), (36, 99999), (37, 99999), (38, 99999), (39, 99999), (40, 1), (40, 2), (40, 3), (40, 4), (40, 5), (40, 6), (41, 99999), (42, 99999), (43, 99999), (44, 2), (45, 99999), (48, 99999), (50, 99999), (51, 99999), (52, 99999), (53, 99999)] h H) (hX : fz_Xc H) (hRE : fz_RE H) (hRV : fz_RV H) (hRP2 : fz_RP2 H) (hN : st_N tw H) (hS : st_S sm H) (hL1 : st_L1 H) (hZ : st_Z H) (hIm : st_Im H) (hp0 : 0 ≤ h 200 100000 ∧ h 200 100000 ≤ 3072) (hq0 : 0 ≤ tw ∧ tw ≤ 8) : fz_R 48 mL_law 946 [(0, fz_r 200), (1, fz_r 0), (2, fz_r 53), (3, fz_i tw), (4, fz_l sm)] [] H (qL_law h) := by
  refine fz_iconst ⟨by decide, by decide⟩ kL_law rfl ?_
  refine fz_istore (ls' := [(6, fz_i 0), (0, fz_r 200), (1, fz_r 0), (2, fz_r 53), (3, fz_i tw), (4, fz_l sm)]) kL_law rfl (by decide) rfl ?_
  have lp15 : ∀ (n14 : Nat) (x1 : Int) (H11 : fz_H), fz_Iv H11 → fz_fr [(1, 7), (1, 8), (2, 99999), (3, 99999), (4, 99999), (5, 99999), (6, 99999), (7, 99999), (8, 99999), (9, 5), (10, 99999), (11, 99999), (12, 99999), (13, 99999), (14, 99999), (15, 4), (16, 99999), (17, 99999), (18, 99999), (19, 99999), (20, 2), (20, 3), (20, 4), (21, 4), (22, 99999), (23, 99999), (26, 99999), (27, 8), (27, 9), (28, 99999), (29, 99999), (30, 99999), (31, 99999), (32, 99999), (33, 3), (33, 4), (33, 5), (33, 6), (33, 7), (34, 99999), (35, 4), (35, 5), (36, 99999), (37, 99999), (38, 99999), (39, 99999), (40, 1), (40, 2), (40, 3), (40, 4), (40, 5), (40, 6), (41, 99999), (42, 99999), (43, 99999), (44, 2), (45, 99999), (48, 99999), (50, 99999), (51, 99999), (52, 99999), (53, 99999)] h H11 → fz_RE H11 → fz_RV H11 → fz_RP2 H11 → fz_Xc H11 → st_N tw H11 → st_S sm H11 → st_L1 H11 → st_Z H11 → st_Im H11 → (0 ≤ x1 ∧ x1 ≤ 4) → (4 - x1).toNat < n14 → fz_R 48 mL_law 949 [(6, fz_i x1), (0, fz_r 200), (1, fz_r 0), (2, fz_r 53), (3, fz_i tw), (4, fz_l sm)] [] H11 (qL_law h) := by
    intro n14
    induction n14 with
    | zero => intro x1 H11 hI12 hf13 hRE2 hRV3 hRP24 hXq5 hN6 hS7 hL18 hZ9 hIm10 hv18 hm17; exact absurd hm17 (by omega)
    | succ n14 ih16 =>
      intro x1 H11 hI12 hf13 hRE2 hRV3 hRP24 hXq5 hN6 hS7 hL18 hZ9 hIm10 hv18 hm17
      refine fz_iload kL_law rfl rfl ?_
      refine fz_iconst ⟨by decide, by decide⟩ kL_law rfl ?_
      have k19 := st_N_e hI12 hN6
      refine fz_icmp_ge (tgt := 1548) kL_law rfl (by decide) (fun c20 => ?_) (fun c20 => ?_)
      · refine fz_sub (fz_pk_sub (ls' := [(0, fz_r 200), (1, fz_r 0), (2, fz_r 53), (3, fz_i tw), (4, fz_l sm)]) [1, 2, 3, 4, 5] rfl) ?_
        exact sL_l1548 h H11 tw sm hI12 hf13 hXq5 hRE2 hRV3 hRP24 hN6 hS7 hL18 hZ9 hIm10 hp0 (by omega)
      · refine fz_iload_n kL_law rfl rfl ?_
        refine fz_if_le (tgt := 1548) kL_law rfl (by decide) (fun c21 => ?_) (fun c21 => ?_)
        · refine fz_sub (fz_pk_sub (ls' := [(0, fz_r 200), (1, fz_r 0), (2, fz_r 53), (3, fz_i tw), (4, fz_l sm)]) [1, 2, 3, 4, 5] rfl) ?_
          exact sL_l1548 h H11 tw sm hI12 hf13 hXq5 hRE2 hRV3 hRP24 hN6 hS7 hL18 hZ9 hIm10 hp0 (by omega)
        · refine fz_sub (fz_pk_sub (ls' := [(0, fz_r 200), (1, fz_r 0), (2, fz_r 53), (3, fz_i tw), (4, fz_l sm), (6, fz_i x1)]) [1, 2, 3, 4, 5, 0] rfl) ?_
          refine sL_l959 h H11 tw sm x1 hI12 hf13 hXq5 hRE2 hRV3 hRP24 hN6 hS7 hL18 hZ9 hIm10 hp0 (by omega) (by omega) (by omega) (fun H22 x35 x36 x37 x38 x39 hI23 hf24 hX25 hRE26 hRV27 hRP228 hN29 hS30 hL131 hZ32 hIm33 hW34 f40 f41 f42 f43 f44 => ?_)
          refine sL_l1095 h H22 tw sm x1 x35 x36 x37 x38 x39 hI23 hf24 hX25 hRE26 hRV27 hRP228 hN29 hS30 hL131 hZ32 hIm33 hW34 hp0 (by omega) (by omega) (by omega) (by omega) (by omega) (by omega) (fun H45 hI46 hf47 hX48 hRE49 hRV50 hRP251 hN52 hS53 hL154 hZ55 hIm56 hW57 => ?_)
          refine sL_l1208 h H45 tw sm x1 x35 x36 x37 x38 x39 hI46 hf47 hX48 hRE49 hRV50 hRP251 hN52 hS53 hL154 hZ55 hIm56 hW57 hp0 (by omega) (by omega) (by omega) (by omega) (by omega) (by omega) (fun H58 hI59 hf60 hX61 hRE62 hRV63 hRP264 hN65 hS66 hL167 hZ68 hIm69 hW70 => ?_)
          refine sL_l1272 h H58 tw sm x1 x35 x36 x37 x38 x39 hI59 hf60 hX61 hRE62 hRV63 hRP264 hN65 hS66 hL167 hZ68 hIm69 hW70 hp0 (by omega) (by omega) (by omega) (by omega) (by omega) (by omega) (fun H71 hI72 hf73 hX74 hRE75 hRV76 hRP277 hN78 hS79 hL180 hZ81 hIm82 hW83 => ?_)
          refine sL_l1356 h H71 tw sm x1 x35 x36 x37 x38 x39 hI72 hf73 hX74 hRE75 hRV76 hRP277 hN78 hS79 hL180 hZ81 hIm82 hW83 hp0 (by omega) (by omega) (by omega) (by omega) (by omega) (by omega) (fun H84 hI85 hf86 hX87 hRE88 hRV89 hRP290 hN91 hS92 hL193 hZ94 hIm95 hW96 => ?_)
          refine sL_l1416 h H84 tw sm x1 x35 x36 x37 x38 x39 hI85 hf86 hX87 hRE88 hRV89 hRP290 hN91 hS92 hL193 hZ94 hIm95 hW96 hp0 (by omega) (by omega) (by omega) (by omega) (by omega) (by omega) (fun H97 hI98 hf99 hX100 hRE101 hRV102 hRP2103 hN104 hS105 hL1106 hZ107 hIm108 hW109 => ?_)
          refine sL_l1466 h H97 tw sm x1 x35 x36 x37 x38 x39 hI98 hf99 hX100 hRE101 hRV102 hRP2103 hN104 hS105 hL1106 hZ107 hIm108 hW109 hp0 (by omega) (by omega) (by omega) (by omega) (by omega) (by omega) (fun H110 hI111 hf112 hX113 hRE114 hRV115 hRP2116 hN117 hS118 hL1119 hZ120 hIm121 => ?_)
          refine fz_iincN (ls' := [(6, fz_i (x1 + 1)), (0, fz_r 200), (1, fz_r 0), (2, fz_r 53), (3, fz_i tw), (4, fz_l sm)]) kL_law rfl (by decide) rfl (by omega) rfl ?_
          refine fz_goto (tgt := 949) kL_law rfl (by decide) ?_
          exact ih16 (x1 + 1) H110 hI111 hf112 hRE114 hRV115 hRP2116 hX113 hN117 hS118 hL1119 hZ120 hIm121 (by omega) (by omega)
  exact lp15 _ 0 H hI hf hRE hRV hRP2 hX hN hS hL1 hZ hIm (by omega) (Nat.lt_succ_self _)

set_option maxHeartbeats 1000000 in
set_option maxRecDepth 100000 in
theorem sL_l808 (h H : fz_H) (tw sm e a t x f : Int) (hI : fz_Iv H) (hf : fz_fr [(1, 7), (1, 8), (2, 99999), (3, 99999), (4, 99999), (5, 99999), (6, 99999), (7, 99999), (8, 99999), (9, 5), (10, 99999), (11, 99999), (12, 99999), (13, 99999), (14, 99999), (15, 4), (16, 99999), (17, 99999), (18, 99999), (19, 99999), (20, 2), (20, 3), (20, 4), (21, 4), (22, 99999), (23, 99999), (26, 99999), (27, 8), (27, 9), (28, 99999), (29, 99999), (30, 99999), (31, 99999), (32, 99999), (33, 3), (33, 4), (33, 5), (33, 6), (33, 7), (34, 99999), (35, 4), (35, 5), (36, 99999), (37, 99999), (38, 99999), (39, 99999), (40, 1), (40, 2), (40, 3), (40, 4), (40, 5), (40, 6), (41, 99999), (42, 99999), (43, 99999), (44, 2), (45, 99999), (48, 99999), (50, 99999), (51, 99999), (52, 99999), (53, 99999)] h H) (hX : fz_Xc H) (hRE : fz_RE H) (hRV : fz_RV H) (hRP2 : fz_RP2 H) (hN : st_N tw H) (hS : st_S sm H) (hL1 : st_L1 H) (hZ : st_Z H) (hIm : st_Im H) (hp0 : 0 ≤ h 200 100000 ∧ h 200 100000 ≤ 3072) (hq0 : 0 ≤ tw ∧ tw ≤ 8) (hq1 : 0 ≤ e ∧ e ≤ 7) (hq2 : e < H 9 5) (hq3 : 0 ≤ a ∧ a < tw) (hq4 : 0 ≤ t ∧ t < tw) (hq5 : x = fz_haC H e t) (hq6 : 1 ≤ f) (hq7 : a = H 11 e.toNat) (hq8 : st_cI H e t f) (k : ∀ (G : fz_H), fz_Iv G → fz_fr [(1, 7), (1, 8), (2, 99999), (3, 99999), (4, 99999), (5, 99999), (6, 99999), (7, 99999), (8, 99999), (9, 5), (10, 99999), (11, 99999), (12, 99999), (13, 99999), (14, 99999), (15, 4), (16, 99999), (17, 99999), (18, 99999), (19, 99999), (20, 2), (20, 3), (20, 4), (21, 4), (22, 99999), (23, 99999), (26, 99999), (27, 8), (27, 9), (28, 99999), (29, 99999), (30, 99999), (31, 99999), (32, 99999), (33, 3), (33, 4), (33, 5), (33, 6), (33, 7), (34, 99999), (35, 4), (35, 5), (36, 99999), (37, 99999), (38, 99999), (39, 99999), (40, 1), (40, 2), (40, 3), (40, 4), (40, 5), (40, 6), (41, 99999), (42, 99999), (43, 99999), (44, 2), (45, 99999), (48, 99999), (50, 99999), (51, 99999), (52, 99999), (53, 99999)] h G → fz_Xc G → fz_RE G → fz_RV G → fz_RP2 G → st_N tw G → st_S sm G → st_L1 G → st_Z G → st_Im G → (e < G 9 5) → (a = G 11 e.toNat) → fz_R 48 mL_law 934 [(0, fz_r 200), (1, fz_r 0), (2, fz_r 53), (3, fz_i tw), (4, fz_l sm), (6, fz_i e), (7, fz_i a), (9, fz_i t)] [] G (qL_law h)) : fz_R 48 mL_law 808 [(0, fz_r 200), (1, fz_r 0), (2, fz_r 53), (3, fz_i tw), (4, fz_l sm), (6, fz_i e), (7, fz_i a), (9, fz_i t), (10, fz_i x), (11, fz_i f)] [] H (qL_law h) := by
  have k1 := st_N_e hI hN
  have k2 : 0 ≤ H 1 8 ∧ H 1 8 ≤ 12 := hI.1 1 8
  refine fz_iconst ⟨by decide, by decide⟩ kL_law rfl ?_
  refine fz_istore (ls' := [(12, fz_i 0), (0, fz_r 200), (1, fz_r 0), (2, fz_r 53), (3, fz_i tw), (4, fz_l sm), (6, fz_i e), (7, fz_i a), (9, fz_i t), (10, fz_i x), (11, fz_i f)]) kL_law rfl (by decide) rfl ?_
  refine fz_iconst ⟨by decide, by decide⟩ kL_law rfl ?_
  refine fz_istore (ls' := [(13, fz_i 0), (12, fz_i 0), (0, fz_r 200), (1, fz_r 0), (2, fz_r 53), (3, fz_i tw), (4, fz_l sm), (6, fz_i e), (7, fz_i a), (9, fz_i t), (10, fz_i x), (11, fz_i f)]) kL_law rfl (by decide) rfl ?_
  have lp16 : ∀ (n15 : Nat) (x4 : Int) (x5 : Int) (H12 : fz_H), fz_Iv H12 → fz_fr [(1, 7), (1, 8), (2, 99999), (3, 99999), (4, 99999), (5, 99999), (6, 99999), (7, 99999), (8, 99999), (9, 5), (10, 99999), (11, 99999), (12, 99999), (13, 99999), (14, 99999), (15, 4), (16, 99999), (17, 99999), (18, 99999), (19, 99999), (20, 2), (20, 3), (20, 4), (21, 4), (22, 99999), (23, 99999), (26, 99999), (27, 8), (27, 9), (28, 99999), (29, 99999), (30, 99999), (31, 99999), (32, 99999), (33, 3), (33, 4), (33, 5), (33, 6), (33, 7), (34, 99999), (35, 4), (35, 5), (36, 99999), (37, 99999), (38, 99999), (39, 99999), (40, 1), (40, 2), (40, 3), (40, 4), (40, 5), (40, 6), (41, 99999), (42, 99999), (43, 99999), (44, 2), (45, 99999), (48, 99999), (50, 99999), (51, 99999), (52, 99999), (53, 99999)] h H12 → fz_RE H12 → fz_RV H12 → fz_RP2 H12 → fz_Xc H12 → st_Z H12 → st_Im H12 → (0 ≤ x4 ∧ x4 ≤ 12) → (0 ≤ x5 ∧ x5 ≤ 12) → (x5 ≤ x4) → (st_un H H12 f x5 x4) → (12 - x4).toNat < n15 → fz_R 48 mL_law 814 [(13, fz_i x4), (12, fz_i x5), (0, fz_r 200), (1, fz_r 0), (2, fz_r 53), (3, fz_i tw), (4, fz_l sm), (6, fz_i e), (7, fz_i a), (9, fz_i t), (10, fz_i x), (11, fz_i f)] [] H12 (qL_law h) := by
    intro n15
    induction n15 with
    | zero => intro x4 x5 H12 hI13 hf14 hRE6 hRV7 hRP28 hXq9 hZ10 hIm11 hv19 hv20 hv21 hv22 hm18; exact absurd hm18 (by omega)
    | succ n15 ih17 =>
      intro x4 x5 H12 hI13 hf14 hRE6 hRV7 hRP28 hXq9 hZ10 hIm11 hv19 hv20 hv21 hv22 hm18
      refine fz_iload kL_law rfl rfl ?_
      refine fz_aload_n kL_law rfl rfl ?_
      refine fz_iconst ⟨by decide, by decide⟩ kL_law rfl ?_
      obtain ⟨v23, e24⟩ : ∃ z, H12 53 (1) = z := ⟨_, rfl⟩
      refine fz_ialdV (n := 40) (v := v23) kL_law rfl rfl (by omega) (by omega) e24 ?_
      have b25 : (-2147483648) ≤ v23 ∧ v23 ≤ 2147483647 := by rw [← e24]; exact hI13.1 53 _
      have k26 := st_un_N hv22 hN hI
      refine fz_icmp_ge (tgt := 867) kL_law rfl (by decide) (fun c27 => ?_) (fun c27 => ?_)
      · have k28 := st_un_N hv22 hN hI
        refine fz_aload_n kL_law rfl rfl ?_
        refine fz_iload kL_law rfl rfl ?_
        refine fz_iload kL_law rfl rfl ?_
        have b29 : 0 ≤ H12 9 5 ∧ H12 9 5 ≤ 10 := hI13.1 9 _
        have b30 : 0 ≤ H12 1 7 ∧ H12 1 7 ≤ 8 := hI13.1 1 _
        refine fz_callV (d' := 2) (M' := mX10_heard) (As := [fz_i e, fz_i t]) (st := []) kL_law rfl rfl vX10_heard rfl rfl rfl rfl (Nat.le_of_ble_eq_true rfl) (Nat.le_of_ble_eq_true rfl) (by decide) (sX10_heard H12 hI13 e t ) (fun H31 r32 q33 o34 => ?_)
        obtain ⟨e35, y38, rfl, f36, f37⟩ := q33
        subst H31
        clear o34
        have k39 := he_C f37 (by omega)
        have k40 := st_gone hI hI13 hRV7 hv22 hq8 (t := t) (by omega) (by omega) (by omega) (by omega)
        refine fz_bipush ⟨by decide, by decide⟩ kL_law rfl ?_
        refine fz_icmp_ne (tgt := 892) kL_law rfl (by decide) (fun c42 => ?_) (fun c42 => ?_)
        · exfalso; omega
        · refine fz_aload_n kL_law rfl rfl ?_
          refine fz_iload kL_law rfl rfl ?_
          refine fz_iload kL_law rfl rfl ?_
          refine fz_iconst ⟨by decide, by decide⟩ kL_law rfl ?_
          refine fz_callV (d' := 1) (M' := mX10_cut) (As := [fz_i e, fz_i t, fz_i 0]) (st := []) kL_law rfl rfl vX10_cut rfl rfl rfl rfl (Nat.le_of_ble_eq_true rfl) (Nat.le_of_ble_eq_true rfl) (by decide) (sX10_cut H12 hI13 e t 0 hRE6 hRP28) (fun H43 r44 q45 o46 => ?_)
          obtain ⟨e47, y50, rfl, f48, f49⟩ := q45
          subst H43
          clear o46
          have k51 := cf_1 hI13 hRV7 hRP28 (by omega) (by omega) (by decide) f49 (by omega)
          refine fz_if_eq (tgt := 894) kL_law rfl (by decide) (fun c52 => ?_) (fun c52 => ?_)
          · refine fz_iconst ⟨by decide, by decide⟩ kL_law rfl ?_
            refine fz_istore (ls' := [(13, fz_i 0), (12, fz_i x5), (0, fz_r 200), (1, fz_r 0), (2, fz_r 53), (3, fz_i tw), (4, fz_l sm), (6, fz_i e), (7, fz_i a), (9, fz_i t), (10, fz_i x), (11, fz_i f)]) kL_law rfl (by decide) rfl ?_
            have lp64 : ∀ (n63 : Nat) (x53 : Int) (H60 : fz_H), fz_Iv H60 → fz_fr [(1, 7), (1, 8), (2, 99999), (3, 99999), (4, 99999), (5, 99999), (6, 99999), (7, 99999), (8, 99999), (9, 5), (10, 99999), (11, 99999), (12, 99999), (13, 99999), (14, 99999), (15, 4), (16, 99999), (17, 99999), (18, 99999), (19, 99999), (20, 2), (20, 3), (20, 4), (21, 4), (22, 99999), (23, 99999), (26, 99999), (27, 8), (27, 9), (28, 99999), (29, 99999), (30, 99999), (31, 99999), (32, 99999), (33, 3), (33, 4), (33, 5), (33, 6), (33, 7), (34, 99999), (35, 4), (35, 5), (36, 99999), (37, 99999), (38, 99999), (39, 99999), (40, 1), (40, 2), (40, 3), (40, 4), (40, 5), (40, 6), (41, 99999), (42, 99999), (43, 99999), (44, 2), (45, 99999), (48, 99999), (50, 99999), (51, 99999), (52, 99999), (53, 99999)] h H60 → fz_RE H60 → fz_RV H60 → fz_RP2 H60 → fz_Xc H60 → st_Z H60 → st_Im H60 → (0 ≤ x53 ∧ x53 ≤ 12) → (x53 ≤ x5) → (st_uo H H60 (x5 - x53)) → (x5 - x53).toNat < n63 → fz_R 48 mL_law 897 [(13, fz_i x53), (12, fz_i x5), (0, fz_r 200), (1, fz_r 0), (2, fz_r 53), (3, fz_i tw), (4, fz_l sm), (6, fz_i e), (7, fz_i a), (9, fz_i t), (10, fz_i x), (11, fz_i f)] [] H60 (qL_law h) := by
              intro n63
              induction n63 with
              | zero => intro x53 H60 hI61 hf62 hRE54 hRV55 hRP256 hXq57 hZ58 hIm59 hv67 hv68 hv69 hm66; exact absurd hm66 (by omega)
              | succ n63 ih65 =>
                intro x53 H60 hI61 hf62 hRE54 hRV55 hRP256 hXq57 hZ58 hIm59 hv67 hv68 hv69 hm66
                refine fz_iload kL_law rfl rfl ?_
                refine fz_iload kL_law rfl rfl ?_
                refine fz_icmp_ge (tgt := 919) kL_law rfl (by decide) (fun c70 => ?_) (fun c70 => ?_)
                · have k71 := st_uo_1 hv69 hN hI
                  refine fz_aload_n kL_law rfl rfl ?_
                  refine fz_iload kL_law rfl rfl ?_
                  refine fz_iload kL_law rfl rfl ?_
                  have b72 : 0 ≤ H60 9 5 ∧ H60 9 5 ≤ 10 := hI61.1 9 _
                  have b73 : 0 ≤ H60 1 7 ∧ H60 1 7 ≤ 8 := hI61.1 1 _
                  refine fz_callV (d' := 2) (M' := mX10_heard) (As := [fz_i e, fz_i t]) (st := []) kL_law rfl rfl vX10_heard rfl rfl rfl rfl (Nat.le_of_ble_eq_true rfl) (Nat.le_of_ble_eq_true rfl) (by decide) (sX10_heard H60 hI61 e t ) (fun H74 r75 q76 o77 => ?_)
                  obtain ⟨e78, y81, rfl, f79, f80⟩ := q76
                  subst H74
                  clear o77
                  have k82 := he_C f80 (by omega)
                  have k83 := st_uo_h hv69 (by omega) hRV hRV55 hI (e := e) (t := t) (by omega) (by omega)
                  have hN84 : st_N tw H60 := st_uo_N hv69 (by omega) hN
                  have hL186 : st_L1 H60 := st_uo_L1 hv69 hL1
                  have hS88 : st_S sm H60 := st_uo_S hv69 (by omega) hRV hRV55 hRP2 hI hS
                  have k90 : a = H60 11 (e).toNat := st_uo_a hv69 hq7
                  refine fz_iload kL_law rfl rfl ?_
                  refine fz_icmp_eq (tgt := 934) kL_law rfl (by decide) (fun c92 => ?_) (fun c92 => ?_)
                  · refine fz_sub (fz_pk_sub (ls' := [(0, fz_r 200), (1, fz_r 0), (2, fz_r 53), (3, fz_i tw), (4, fz_l sm), (6, fz_i e), (7, fz_i a), (9, fz_i t)]) [2, 3, 4, 5, 6, 7, 8, 9] rfl) ?_
                    exact k H60  hI61 hf62 hXq57 hRE54 hRV55 hRP256 hN84 hS88 hL186 hZ58 hIm59 (by omega) (k90)
                  · exfalso; omega
                · refine fz_aload_n kL_law rfl rfl ?_
                  refine fz_callV (d' := 4) (M' := mX10_undo) (As := []) (st := []) kL_law rfl rfl vX10_undo rfl rfl rfl rfl (Nat.le_of_ble_eq_true rfl) (Nat.le_of_ble_eq_true rfl) (by decide) (sX10_undo H60 hI61  (hXq57) hRE54 hRV55) (fun H94 r95 q96 o97 => ?_)
                  obtain ⟨hI98, hf99, hX100, hRE101, hRV102, y105, rfl, f103, f104⟩ := q96
                  clear o97
                  have hf106 := fz_fr_tr hf62 hf99 (show fz_su [(2, 99999), (3, 99999), (4, 99999), (7, 99999), (8, 99999), (12, 99999), (13, 99999), (14, 99999), (27, 8), (27, 9), (28, 99999), (35, 4)] [(1, 7), (1, 8), (2, 99999), (3, 99999), (4, 99999), (5, 99999), (6, 99999), (7, 99999), (8, 99999), (9, 5), (10, 99999), (11, 99999), (12, 99999), (13, 99999), (14, 99999), (15, 4), (16, 99999), (17, 99999), (18, 99999), (19, 99999), (20, 2), (20, 3), (20, 4), (21, 4), (22, 99999), (23, 99999), (26, 99999), (27, 8), (27, 9), (28, 99999), (29, 99999), (30, 99999), (31, 99999), (32, 99999), (33, 3), (33, 4), (33, 5), (33, 6), (33, 7), (34, 99999), (35, 4), (35, 5), (36, 99999), (37, 99999), (38, 99999), (39, 99999), (40, 1), (40, 2), (40, 3), (40, 4), (40, 5), (40, 6), (41, 99999), (42, 99999), (43, 99999), (44, 2), (45, 99999), (48, 99999), (50, 99999), (51, 99999), (52, 99999), (53, 99999)] = true from rfl)
                  have hRP2107 : fz_RP2 H94 := fz_RP2_eq (funext fun s => hf99 11 s rfl) (hf99 9 5 rfl) (hf99 1 7 rfl) hRP256
                  have hZ108 : st_Z H94 := st_Z_eq (hf99 40 1 rfl) (hf99 40 2 rfl) (hf99 40 3 rfl) (hf99 40 4 rfl) (hf99 40 5 rfl) (funext fun s => hf99 41 s rfl) hZ58
                  have hIm109 : st_Im H94 := st_Im_eq (hf99 40 6 rfl) (funext fun s => hf99 43 s rfl) (funext fun s => hf99 42 s rfl) hIm59
                  have t110 : H94 9 5 = H60 9 5 := hf99 9 5 rfl
                  have t111 : H94 1 7 = H60 1 7 := hf99 1 7 rfl
                  have t112 : H94 1 8 = H60 1 8 := hf99 1 8 rfl
                  have t113 : H94 48 0 = H60 48 0 := hf99 48 0 rfl
                  have t114 : H94 50 0 = H60 50 0 := hf99 50 0 rfl
                  have t115 : H94 51 0 = H60 51 0 := hf99 51 0 rfl
                  have k116 := st_uo_u hv69 (by omega) (by omega) f104
                  have k118 := k116.1
                  refine fz_if_ge (tgt := 913) kL_law rfl (by decide) (fun c119 => ?_) (fun c119 => ?_)
                  · refine fz_iincN (ls' := [(13, fz_i (x53 + 1)), (12, fz_i x5), (0, fz_r 200), (1, fz_r 0), (2, fz_r 53), (3, fz_i tw), (4, fz_l sm), (6, fz_i e), (7, fz_i a), (9, fz_i t), (10, fz_i x), (11, fz_i f)]) kL_law rfl (by decide) rfl (by omega) rfl ?_
                    refine fz_goto (tgt := 897) kL_law rfl (by decide) ?_
                    exact ih65 (x53 + 1) H94 hI98 hf106 hRE101 hRV102 hRP2107 hX100 hZ108 hIm109 (by omega) (by omega) ((st_uo_e k116.2 (by omega))) (by omega)
                  · exfalso; omega
            exact lp64 _ 0 H12 hI13 hf14 hRE6 hRV7 hRP28 hXq9 hZ10 hIm11 (by omega) (by omega) ((st_uo_e hv22.1 (by omega))) (Nat.lt_succ_self _)
          · exfalso; omega
      · refine fz_iload kL_law rfl rfl ?_
        refine fz_iload kL_law rfl rfl ?_
        refine fz_ishr kL_law rfl ?_
        have b122 : -2147483648 ≤ (fz_shr f x4) ∧ (fz_shr f x4) < 2147483648 := fz_b32 _
        refine fz_iconst ⟨by decide, by decide⟩ kL_law rfl ?_
        refine fz_iand kL_law rfl ?_
        have b124 : -2147483648 ≤ (fz_and (fz_shr f x4) 1) ∧ (fz_and (fz_shr f x4) 1) < 2147483648 := fz_b32 _
        have b125 : 0 ≤ (fz_and (fz_shr f x4) 1) ∧ (fz_and (fz_shr f x4) 1) ≤ 1 := fz_and_m (by omega) (by omega)
        refine fz_iconst ⟨by decide, by decide⟩ kL_law rfl ?_
        refine fz_icmp_ne (tgt := 861) kL_law rfl (by decide) (fun c126 => ?_) (fun c126 => ?_)
        · refine fz_iincN (ls' := [(13, fz_i (x4 + 1)), (12, fz_i x5), (0, fz_r 200), (1, fz_r 0), (2, fz_r 53), (3, fz_i tw), (4, fz_l sm), (6, fz_i e), (7, fz_i a), (9, fz_i t), (10, fz_i x), (11, fz_i f)]) kL_law rfl (by decide) rfl (by omega) rfl ?_
          refine fz_goto (tgt := 814) kL_law rfl (by decide) ?_
          exact ih17 (x4 + 1) x5 H12 hI13 hf14 hRE6 hRV7 hRP28 hXq9 hZ10 hIm11 (by omega) (by omega) (by omega) (by first | exact lost.2 | exact st_un_n hv22 (by omega) (by omega)) (by omega)
        · refine fz_aload_n kL_law rfl rfl ?_
          refine fz_iload kL_law rfl rfl ?_
          refine fz_iconst ⟨by decide, by decide⟩ kL_law rfl ?_
          refine fz_callV (d' := 3) (M' := mX10_of) (As := [fz_i x4, fz_i 2]) (st := []) kL_law rfl rfl vX10_of rfl rfl rfl rfl (Nat.le_of_ble_eq_true rfl) (Nat.le_of_ble_eq_true rfl) (by decide) (sX10_of H12 hI13 x4 2 ) (fun H128 r129 q130 o131 => ?_)
          obtain ⟨e132, y135, rfl, f133, f134⟩ := q130
          subst H128
          clear o131
          have k136 := st_un_1 hI hv22 hq8 (by omega) (by omega) (by omega) (of_2 f134 (by omega))
          refine fz_iconst ⟨by decide, by decide⟩ kL_law rfl ?_
          refine fz_icmp_ne (tgt := 856) kL_law rfl (by decide) (fun c137 => ?_) (fun c137 => ?_)
          · exfalso; omega
          · refine fz_aload_n kL_law rfl rfl ?_
            refine fz_iload kL_law rfl rfl ?_
            refine fz_iconst ⟨by decide, by decide⟩ kL_law rfl ?_
            refine fz_iconst ⟨by decide, by decide⟩ kL_law rfl ?_
            refine fz_callV (d' := 4) (M' := mX10_mend) (As := [fz_i x4, fz_i 2, fz_i 0]) (st := []) kL_law rfl rfl vX10_mend rfl rfl rfl rfl (Nat.le_of_ble_eq_true rfl) (Nat.le_of_ble_eq_true rfl) (by decide) (sX10_mend H12 hI13 x4 2 0 (hXq9) hRE6 hRV7) (fun H138 r139 q140 o141 => ?_)
            obtain ⟨hI142, hf143, hX144, hRE145, hRV146, y149, rfl, f147, f148⟩ := q140
            clear o141
            have hf150 := fz_fr_tr hf14 hf143 (show fz_su [(2, 99999), (3, 99999), (4, 99999), (7, 99999), (8, 99999), (12, 99999), (13, 99999), (14, 99999), (27, 8), (27, 9), (28, 99999), (35, 4), (35, 5), (36, 99999), (37, 99999), (38, 99999), (39, 99999)] [(1, 7), (1, 8), (2, 99999), (3, 99999), (4, 99999), (5, 99999), (6, 99999), (7, 99999), (8, 99999), (9, 5), (10, 99999), (11, 99999), (12, 99999), (13, 99999), (14, 99999), (15, 4), (16, 99999), (17, 99999), (18, 99999), (19, 99999), (20, 2), (20, 3), (20, 4), (21, 4), (22, 99999), (23, 99999), (26, 99999), (27, 8), (27, 9), (28, 99999), (29, 99999), (30, 99999), (31, 99999), (32, 99999), (33, 3), (33, 4), (33, 5), (33, 6), (33, 7), (34, 99999), (35, 4), (35, 5), (36, 99999), (37, 99999), (38, 99999), (39, 99999), (40, 1), (40, 2), (40, 3), (40, 4), (40, 5), (40, 6), (41, 99999), (42, 99999), (43, 99999), (44, 2), (45, 99999), (48, 99999), (50, 99999), (51, 99999), (52, 99999), (53, 99999)] = true from rfl)
            have hRP2151 : fz_RP2 H138 := fz_RP2_eq (funext fun s => hf143 11 s rfl) (hf143 9 5 rfl) (hf143 1 7 rfl) hRP28
            have hZ152 : st_Z H138 := st_Z_eq (hf143 40 1 rfl) (hf143 40 2 rfl) (hf143 40 3 rfl) (hf143 40 4 rfl) (hf143 40 5 rfl) (funext fun s => hf143 41 s rfl) hZ10
            have hIm153 : st_Im H138 := st_Im_eq (hf143 40 6 rfl) (funext fun s => hf143 43 s rfl) (funext fun s => hf143 42 s rfl) hIm11
            have t154 : H138 9 5 = H12 9 5 := hf143 9 5 rfl
            have t155 : H138 1 7 = H12 1 7 := hf143 1 7 rfl
            have t156 : H138 1 8 = H12 1 8 := hf143 1 8 rfl
            have t157 : H138 48 0 = H12 48 0 := hf143 48 0 rfl
            have t158 : H138 50 0 = H12 50 0 := hf143 50 0 rfl
            have t159 : H138 51 0 = H12 51 0 := hf143 51 0 rfl
            have k160 := st_un_m hI hI13 hv22 hq8 (by omega) (by omega) (by omega) (by omega) f148
            have k162 := k160.1
            refine fz_iconst ⟨by decide, by decide⟩ kL_law rfl ?_
            refine fz_icmp_eq (tgt := 858) kL_law rfl (by decide) (fun c163 => ?_) (fun c163 => ?_)
            · refine fz_iincN (ls' := [(12, fz_i (x5 + 1)), (13, fz_i x4), (0, fz_r 200), (1, fz_r 0), (2, fz_r 53), (3, fz_i tw), (4, fz_l sm), (6, fz_i e), (7, fz_i a), (9, fz_i t), (10, fz_i x), (11, fz_i f)]) kL_law rfl (by decide) rfl (by omega) rfl ?_
              refine fz_iincN (ls' := [(13, fz_i (x4 + 1)), (12, fz_i (x5 + 1)), (0, fz_r 200), (1, fz_r 0), (2, fz_r 53), (3, fz_i tw), (4, fz_l sm), (6, fz_i e), (7, fz_i a), (9, fz_i t), (10, fz_i x), (11, fz_i f)]) kL_law rfl (by decide) rfl (by omega) rfl ?_
              refine fz_goto (tgt := 814) kL_law rfl (by decide) ?_
              exact ih17 (x4 + 1) (x5 + 1) H138 hI142 hf150 hRE145 hRV146 hRP2151 hX144 hZ152 hIm153 (by omega) (by omega) (by omega) (by first | exact k160.2 | exact st_un_n hv22 (by omega) (by omega)) (by omega)
            · exfalso; omega
  exact lp16 _ 0 0 H hI hf hRE hRV hRP2 hX hZ hIm (by omega) (by omega) (by omega) (st_un_0) (Nat.lt_succ_self _)

set_option maxHeartbeats 1000000 in
set_option maxRecDepth 100000 in
theorem sL_l687 (h H : fz_H) (tw sm e a t : Int) (hI : fz_Iv H) (hf : fz_fr [(1, 7), (1, 8), (2, 99999), (3, 99999), (4, 99999), (5, 99999), (6, 99999), (7, 99999), (8, 99999), (9, 5), (10, 99999), (11, 99999), (12, 99999), (13, 99999), (14, 99999), (15, 4), (16, 99999), (17, 99999), (18, 99999), (19, 99999), (20, 2), (20, 3), (20, 4), (21, 4), (22, 99999), (23, 99999), (26, 99999), (27, 8), (27, 9), (28, 99999), (29, 99999), (30, 99999), (31, 99999), (32, 99999), (33, 3), (33, 4), (33, 5), (33, 6), (33, 7), (34, 99999), (35, 4), (35, 5), (36, 99999), (37, 99999), (38, 99999), (39, 99999), (40, 1), (40, 2), (40, 3), (40, 4), (40, 5), (40, 6), (41, 99999), (42, 99999), (43, 99999), (44, 2), (45, 99999), (48, 99999), (50, 99999), (51, 99999), (52, 99999), (53, 99999)] h H) (hX : fz_Xc H) (hRE : fz_RE H) (hRV : fz_RV H) (hRP2 : fz_RP2 H) (hN : st_N tw H) (hS : st_S sm H) (hL1 : st_L1 H) (hZ : st_Z H) (hIm : st_Im H) (hp0 : 0 ≤ h 200 100000 ∧ h 200 100000 ≤ 3072) (hq0 : 0 ≤ tw ∧ tw ≤ 8) (hq1 : 0 ≤ e ∧ e ≤ 7) (hq2 : e < H 9 5) (hq3 : 0 ≤ a ∧ a < tw) (hq4 : 0 ≤ t ∧ t < tw) (hq5 : a = H 11 e.toNat) (k : ∀ (G : fz_H), fz_Iv G → fz_fr [(1, 7), (1, 8), (2, 99999), (3, 99999), (4, 99999), (5, 99999), (6, 99999), (7, 99999), (8, 99999), (9, 5), (10, 99999), (11, 99999), (12, 99999), (13, 99999), (14, 99999), (15, 4), (16, 99999), (17, 99999), (18, 99999), (19, 99999), (20, 2), (20, 3), (20, 4), (21, 4), (22, 99999), (23, 99999), (26, 99999), (27, 8), (27, 9), (28, 99999), (29, 99999), (30, 99999), (31, 99999), (32, 99999), (33, 3), (33, 4), (33, 5), (33, 6), (33, 7), (34, 99999), (35, 4), (35, 5), (36, 99999), (37, 99999), (38, 99999), (39, 99999), (40, 1), (40, 2), (40, 3), (40, 4), (40, 5), (40, 6), (41, 99999), (42, 99999), (43, 99999), (44, 2), (45, 99999), (48, 99999), (50, 99999), (51, 99999), (52, 99999), (53, 99999)] h G → fz_Xc G → fz_RE G → fz_RV G → fz_RP2 G → st_N tw G → st_S sm G → st_L1 G → st_Z G → st_Im G → (e < G 9 5) → (a = G 11 e.toNat) → fz_R 48 mL_law 934 [(0, fz_r 200), (1, fz_r 0), (2, fz_r 53), (3, fz_i tw), (4, fz_l sm), (6, fz_i e), (7, fz_i a), (9, fz_i t)] [] G (qL_law h)) : fz_R 48 mL_law 687 [(0, fz_r 200), (1, fz_r 0), (2, fz_r 53), (3, fz_i tw), (4, fz_l sm), (6, fz_i e), (7, fz_i a), (9, fz_i t)] [] H (qL_law h) := by
  have k1 := st_N_e hI hN
  refine fz_aload_n kL_law rfl rfl ?_
  refine fz_iload kL_law rfl rfl ?_
  refine fz_iload kL_law rfl rfl ?_
  have b2 : 0 ≤ H 9 5 ∧ H 9 5 ≤ 10 := hI.1 9 _
  have b3 : 0 ≤ H 1 7 ∧ H 1 7 ≤ 8 := hI.1 1 _
  refine fz_callV (d' := 2) (M' := mX10_heard) (As := [fz_i e, fz_i t]) (st := []) kL_law rfl rfl vX10_heard rfl rfl rfl rfl (Nat.le_of_ble_eq_true rfl) (Nat.le_of_ble_eq_true rfl) (by decide) (sX10_heard H hI e t ) (fun H4 r5 q6 o7 => ?_)
  obtain ⟨e8, y11, rfl, f9, f10⟩ := q6
  subst H4
  clear o7
  have k12 := he_C f10 (by omega)
  have k14 := df_sga hI (t := t) hq5
  refine fz_istore (ls' := [(10, fz_i y11), (0, fz_r 200), (1, fz_r 0), (2, fz_r 53), (3, fz_i tw), (4, fz_l sm), (6, fz_i e), (7, fz_i a), (9, fz_i t)]) kL_law rfl (by decide) rfl ?_
  refine fz_iload kL_law rfl rfl ?_
  refine fz_if_ge (tgt := 706) kL_law rfl (by decide) (fun c15 => ?_) (fun c15 => ?_)
  · refine fz_iconst ⟨by decide, by decide⟩ kL_law rfl ?_
    refine fz_aload_n kL_law rfl rfl ?_
    refine fz_bipush ⟨by decide, by decide⟩ kL_law rfl ?_
    refine fz_iload kL_law rfl rfl ?_
    refine fz_imulN kL_law rfl (by omega) ?_
    refine fz_iload kL_law rfl rfl ?_
    refine fz_iaddN kL_law rfl (by omega) ?_
    refine fz_iconst ⟨by decide, by decide⟩ kL_law rfl ?_
    refine fz_callV (d' := 2) (M' := mX10_way) (As := [fz_i ((10 * a) + t), fz_i 1]) (st := [fz_i 0]) kL_law rfl rfl vX10_way rfl rfl rfl rfl (Nat.le_of_ble_eq_true rfl) (Nat.le_of_ble_eq_true rfl) (by decide) (sX10_way H hI ((10 * a) + t) 1 ) (fun H16 r17 q18 o19 => ?_)
    obtain ⟨e20, y23, rfl, f21, f22⟩ := q18
    subst H16
    clear o19
    have k24 := wf_wy1 (x := a) (y := t) (by omega) (by omega) (by omega) f22
    refine fz_if_ge (tgt := 727) kL_law rfl (by decide) (fun c25 => ?_) (fun c25 => ?_)
    · refine fz_iconst ⟨by decide, by decide⟩ kL_law rfl ?_
      refine fz_icmp_ne (tgt := 764) kL_law rfl (by decide) (fun c26 => ?_) (fun c26 => ?_)
      · exfalso; omega
      · refine fz_iload kL_law rfl rfl ?_
        refine fz_if_le (tgt := 766) kL_law rfl (by decide) (fun c27 => ?_) (fun c27 => ?_)
        · have k28 : a = H 11 (e).toNat := by first | exact lost | exact hq5
          refine fz_aload_n kL_law rfl rfl ?_
          refine fz_iload kL_law rfl rfl ?_
          refine fz_iload kL_law rfl rfl ?_
          refine fz_iconst ⟨by decide, by decide⟩ kL_law rfl ?_
          refine fz_callV (d' := 1) (M' := mX10_cut) (As := [fz_i e, fz_i t, fz_i 1]) (st := []) kL_law rfl rfl vX10_cut rfl rfl rfl rfl (Nat.le_of_ble_eq_true rfl) (Nat.le_of_ble_eq_true rfl) (by decide) (sX10_cut H hI e t 1 hRE hRP2) (fun H30 r31 q32 o33 => ?_)
          obtain ⟨e34, y37, rfl, f35, f36⟩ := q32
          subst H30
          clear o33
          have k38 := df_cutb hI hRV hRP2 (by omega) (show 0 ≤ t ∧ t < H 1 7 by omega) f36
          have k40 := k38.1
          have k41 := k38.2.1
          refine fz_istore (ls' := [(11, fz_i y37), (10, fz_i y11), (0, fz_r 200), (1, fz_r 0), (2, fz_r 53), (3, fz_i tw), (4, fz_l sm), (6, fz_i e), (7, fz_i a), (9, fz_i t)]) kL_law rfl (by decide) rfl ?_
          refine fz_iload kL_law rfl rfl ?_
          refine fz_if_ge (tgt := 787) kL_law rfl (by decide) (fun c42 => ?_) (fun c42 => ?_)
          · refine fz_iload kL_law rfl rfl ?_
            refine fz_if_lt (tgt := 799) kL_law rfl (by decide) (fun c43 => ?_) (fun c43 => ?_)
            · exfalso; omega
            · refine fz_iload kL_law rfl rfl ?_
              refine fz_if_ne (tgt := 799) kL_law rfl (by decide) (fun c44 => ?_) (fun c44 => ?_)
              · refine fz_iload kL_law rfl rfl ?_
                refine fz_iconst ⟨by decide, by decide⟩ kL_law rfl ?_
                refine fz_icmp_ge (tgt := 808) kL_law rfl (by decide) (fun c45 => ?_) (fun c45 => ?_)
                · refine fz_sub (fz_pk_sub (ls' := [(0, fz_r 200), (1, fz_r 0), (2, fz_r 53), (3, fz_i tw), (4, fz_l sm), (6, fz_i e), (7, fz_i a), (9, fz_i t), (10, fz_i y11), (11, fz_i y37)]) [2, 3, 4, 5, 6, 7, 8, 9, 1, 0] rfl) ?_
                  refine sL_l808 h H tw sm e a t y11 y37 hI hf hX hRE hRV hRP2 hN hS hL1 hZ hIm hp0 (by omega) (by omega) (by omega) (by omega) (by omega) (by omega) (by omega) (k28) (k38.2.2 (by omega)) (fun H48 hI49 hf50 hX51 hRE52 hRV53 hRP254 hN55 hS56 hL157 hZ58 hIm59 f60 f61 => ?_)
                  exact k H48  hI49 hf50 hX51 hRE52 hRV53 hRP254 hN55 hS56 hL157 hZ58 hIm59 (by omega) (f61)
                · refine fz_goto (tgt := 934) kL_law rfl (by decide) ?_
                  refine fz_sub (fz_pk_sub (ls' := [(0, fz_r 200), (1, fz_r 0), (2, fz_r 53), (3, fz_i tw), (4, fz_l sm), (6, fz_i e), (7, fz_i a), (9, fz_i t)]) [2, 3, 4, 5, 6, 7, 8, 9] rfl) ?_
                  exact k H  hI hf hX hRE hRV hRP2 hN hS hL1 hZ hIm (by omega) (k28)
              · exfalso; omega
          · exfalso; omega
        · refine fz_iload kL_law rfl rfl ?_
          refine fz_sipush ⟨by decide, by decide⟩ kL_law rfl ?_
          refine fz_icmp_gt (tgt := 766) kL_law rfl (by decide) (fun c64 => ?_) (fun c64 => ?_)
          · have k65 : a = H 11 (e).toNat := by first | exact lost | exact hq5
            refine fz_aload_n kL_law rfl rfl ?_
            refine fz_iload kL_law rfl rfl ?_
            refine fz_iload kL_law rfl rfl ?_
            refine fz_iconst ⟨by decide, by decide⟩ kL_law rfl ?_
            refine fz_callV (d' := 1) (M' := mX10_cut) (As := [fz_i e, fz_i t, fz_i 1]) (st := []) kL_law rfl rfl vX10_cut rfl rfl rfl rfl (Nat.le_of_ble_eq_true rfl) (Nat.le_of_ble_eq_true rfl) (by decide) (sX10_cut H hI e t 1 hRE hRP2) (fun H67 r68 q69 o70 => ?_)
            obtain ⟨e71, y74, rfl, f72, f73⟩ := q69
            subst H67
            clear o70
            have k75 := df_cutb hI hRV hRP2 (by omega) (show 0 ≤ t ∧ t < H 1 7 by omega) f73
            have k77 := k75.1
            have k78 := k75.2.1
            refine fz_istore (ls' := [(11, fz_i y74), (10, fz_i y11), (0, fz_r 200), (1, fz_r 0), (2, fz_r 53), (3, fz_i tw), (4, fz_l sm), (6, fz_i e), (7, fz_i a), (9, fz_i t)]) kL_law rfl (by decide) rfl ?_
            refine fz_iload kL_law rfl rfl ?_
            refine fz_if_ge (tgt := 787) kL_law rfl (by decide) (fun c79 => ?_) (fun c79 => ?_)
            · refine fz_iload kL_law rfl rfl ?_
              refine fz_if_lt (tgt := 799) kL_law rfl (by decide) (fun c80 => ?_) (fun c80 => ?_)
              · exfalso; omega
              · refine fz_iload kL_law rfl rfl ?_
                refine fz_if_ne (tgt := 799) kL_law rfl (by decide) (fun c81 => ?_) (fun c81 => ?_)
                · refine fz_iload kL_law rfl rfl ?_
                  refine fz_iconst ⟨by decide, by decide⟩ kL_law rfl ?_
                  refine fz_icmp_ge (tgt := 808) kL_law rfl (by decide) (fun c82 => ?_) (fun c82 => ?_)
                  · refine fz_sub (fz_pk_sub (ls' := [(0, fz_r 200), (1, fz_r 0), (2, fz_r 53), (3, fz_i tw), (4, fz_l sm), (6, fz_i e), (7, fz_i a), (9, fz_i t), (10, fz_i y11), (11, fz_i y74)]) [2, 3, 4, 5, 6, 7, 8, 9, 1, 0] rfl) ?_
                    refine sL_l808 h H tw sm e a t y11 y74 hI hf hX hRE hRV hRP2 hN hS hL1 hZ hIm hp0 (by omega) (by omega) (by omega) (by omega) (by omega) (by omega) (by omega) (k65) (k75.2.2 (by omega)) (fun H85 hI86 hf87 hX88 hRE89 hRV90 hRP291 hN92 hS93 hL194 hZ95 hIm96 f97 f98 => ?_)
                    exact k H85  hI86 hf87 hX88 hRE89 hRV90 hRP291 hN92 hS93 hL194 hZ95 hIm96 (by omega) (f98)
                  · refine fz_goto (tgt := 934) kL_law rfl (by decide) ?_
                    refine fz_sub (fz_pk_sub (ls' := [(0, fz_r 200), (1, fz_r 0), (2, fz_r 53), (3, fz_i tw), (4, fz_l sm), (6, fz_i e), (7, fz_i a), (9, fz_i t)]) [2, 3, 4, 5, 6, 7, 8, 9] rfl) ?_
                    exact k H  hI hf hX hRE hRV hRP2 hN hS hL1 hZ hIm (by omega) (k65)
                · exfalso; omega
            · exfalso; omega
          · refine fz_aload_n kL_law rfl rfl ?_
            refine fz_iload kL_law rfl rfl ?_
            refine fz_sipush ⟨by decide, by decide⟩ kL_law rfl ?_
            refine fz_iload kL_law rfl rfl ?_
            refine fz_imulN kL_law rfl (by omega) ?_
            refine fz_iload kL_law rfl rfl ?_
            refine fz_iaddN kL_law rfl (by omega) ?_
            refine fz_iconst ⟨by decide, by decide⟩ kL_law rfl ?_
            refine fz_isubN kL_law rfl (by omega) ?_
            refine fz_callV (d' := 4) (M' := mX10_loud) (As := [fz_i e, fz_i (((1000 * t) + y11) - 1)]) (st := []) kL_law rfl rfl vX10_loud rfl rfl rfl rfl (Nat.le_of_ble_eq_true rfl) (Nat.le_of_ble_eq_true rfl) (by decide) (sX10_loud H hI e (((1000 * t) + y11) - 1) ) (fun H101 r102 q103 o104 => ?_)
            obtain ⟨hI105, hf106, y109, rfl, f107, f108⟩ := q103
            clear o104
            have hf110 := fz_fr_tr hf hf106 (show fz_su [(18, 99999), (19, 99999)] [(1, 7), (1, 8), (2, 99999), (3, 99999), (4, 99999), (5, 99999), (6, 99999), (7, 99999), (8, 99999), (9, 5), (10, 99999), (11, 99999), (12, 99999), (13, 99999), (14, 99999), (15, 4), (16, 99999), (17, 99999), (18, 99999), (19, 99999), (20, 2), (20, 3), (20, 4), (21, 4), (22, 99999), (23, 99999), (26, 99999), (27, 8), (27, 9), (28, 99999), (29, 99999), (30, 99999), (31, 99999), (32, 99999), (33, 3), (33, 4), (33, 5), (33, 6), (33, 7), (34, 99999), (35, 4), (35, 5), (36, 99999), (37, 99999), (38, 99999), (39, 99999), (40, 1), (40, 2), (40, 3), (40, 4), (40, 5), (40, 6), (41, 99999), (42, 99999), (43, 99999), (44, 2), (45, 99999), (48, 99999), (50, 99999), (51, 99999), (52, 99999), (53, 99999)] = true from rfl)
            have hRE111 : fz_RE H101 := fz_RE_eq (funext fun s => hf106 5 s rfl) (funext fun s => hf106 6 s rfl) (hf106 1 8 rfl) (hf106 1 7 rfl) hRE
            have hRV112 : fz_RV H101 := fz_RV_eq (funext fun s => hf106 7 s rfl) (funext fun s => hf106 8 s rfl) (funext fun s => hf106 3 s rfl) (funext fun s => hf106 4 s rfl) (funext fun s => hf106 5 s rfl) (funext fun s => hf106 6 s rfl) (hf106 1 7 rfl) (hf106 1 8 rfl) hRV
            have hRP2113 : fz_RP2 H101 := fz_RP2_eq (funext fun s => hf106 11 s rfl) (hf106 9 5 rfl) (hf106 1 7 rfl) hRP2
            have hN114 : st_N tw H101 := st_N_eq (hf106 53 0 rfl) (hf106 53 1 rfl) (hf106 53 2 rfl) (hf106 1 7 rfl) (hf106 1 8 rfl) (hf106 9 5 rfl) (hf106 35 4 rfl) (hf106 20 2 rfl) hN
            have hL1115 : st_L1 H101 := st_L1_eq (funext fun s => hf106 3 s rfl) (hf106 1 8 rfl) hL1
            have hZ116 : st_Z H101 := st_Z_eq (hf106 40 1 rfl) (hf106 40 2 rfl) (hf106 40 3 rfl) (hf106 40 4 rfl) (hf106 40 5 rfl) (funext fun s => hf106 41 s rfl) hZ
            have hIm117 : st_Im H101 := st_Im_eq (hf106 40 6 rfl) (funext fun s => hf106 43 s rfl) (funext fun s => hf106 42 s rfl) hIm
            have hX118 : fz_Xc H101 := fz_Xc_fr hf106 rfl hX
            have t119 : H101 9 5 = H 9 5 := hf106 9 5 rfl
            have t120 : H101 1 7 = H 1 7 := hf106 1 7 rfl
            have t121 : H101 1 8 = H 1 8 := hf106 1 8 rfl
            have t122 : H101 48 0 = H 48 0 := hf106 48 0 rfl
            have t123 : H101 50 0 = H 50 0 := hf106 50 0 rfl
            have t124 : H101 51 0 = H 51 0 := hf106 51 0 rfl
            have nm125 : fz_nm H101 = fz_nm H := (fz_nm_fr rfl hf106).trans rfl
            have hS126 : st_S sm H101 := st_S_fr rfl hf106 hS
            have k127 := df_loud (by omega) (by omega) k12 (by omega) f108
            have k128 : a = H101 11 (e).toNat := hq5.trans (hf106 11 _ rfl).symm
            have k130 : fz_haC H101 e t = fz_haC H e t := congrFun (congrFun (ha_nm (fz_nm_fr rfl hf106)) _) _
            refine fz_if_eq (tgt := 766) kL_law rfl (by decide) (fun c131 => ?_) (fun c131 => ?_)
            · have k132 : a = H101 11 (e).toNat := by first | exact k128 | exact hq5
              refine fz_aload_n kL_law rfl rfl ?_
              refine fz_iload kL_law rfl rfl ?_
              refine fz_iload kL_law rfl rfl ?_
              refine fz_iconst ⟨by decide, by decide⟩ kL_law rfl ?_
              refine fz_callV (d' := 1) (M' := mX10_cut) (As := [fz_i e, fz_i t, fz_i 1]) (st := []) kL_law rfl rfl vX10_cut rfl rfl rfl rfl (Nat.le_of_ble_eq_true rfl) (Nat.le_of_ble_eq_true rfl) (by decide) (sX10_cut H101 hI105 e t 1 hRE111 hRP2113) (fun H134 r135 q136 o137 => ?_)
              obtain ⟨e138, y141, rfl, f139, f140⟩ := q136
              subst H134
              clear o137
              have k142 := df_cutb hI105 hRV112 hRP2113 (by omega) (show 0 ≤ t ∧ t < H101 1 7 by omega) f140
              have k144 := k142.1
              have k145 := k142.2.1
              refine fz_istore (ls' := [(11, fz_i y141), (10, fz_i y11), (0, fz_r 200), (1, fz_r 0), (2, fz_r 53), (3, fz_i tw), (4, fz_l sm), (6, fz_i e), (7, fz_i a), (9, fz_i t)]) kL_law rfl (by decide) rfl ?_
              refine fz_iload kL_law rfl rfl ?_
              refine fz_if_ge (tgt := 787) kL_law rfl (by decide) (fun c146 => ?_) (fun c146 => ?_)
              · refine fz_iload kL_law rfl rfl ?_
                refine fz_if_lt (tgt := 799) kL_law rfl (by decide) (fun c147 => ?_) (fun c147 => ?_)
                · exfalso; omega
                · refine fz_iload kL_law rfl rfl ?_
                  refine fz_if_ne (tgt := 799) kL_law rfl (by decide) (fun c148 => ?_) (fun c148 => ?_)
                  · refine fz_iload kL_law rfl rfl ?_
                    refine fz_iconst ⟨by decide, by decide⟩ kL_law rfl ?_
                    refine fz_icmp_ge (tgt := 808) kL_law rfl (by decide) (fun c149 => ?_) (fun c149 => ?_)
                    · refine fz_sub (fz_pk_sub (ls' := [(0, fz_r 200), (1, fz_r 0), (2, fz_r 53), (3, fz_i tw), (4, fz_l sm), (6, fz_i e), (7, fz_i a), (9, fz_i t), (10, fz_i y11), (11, fz_i y141)]) [2, 3, 4, 5, 6, 7, 8, 9, 1, 0] rfl) ?_
                      refine sL_l808 h H101 tw sm e a t y11 y141 hI105 hf110 hX118 hRE111 hRV112 hRP2113 hN114 hS126 hL1115 hZ116 hIm117 hp0 (by omega) (by omega) (by omega) (by omega) (by omega) (by omega) (by omega) (k132) (k142.2.2 (by omega)) (fun H152 hI153 hf154 hX155 hRE156 hRV157 hRP2158 hN159 hS160 hL1161 hZ162 hIm163 f164 f165 => ?_)
                      exact k H152  hI153 hf154 hX155 hRE156 hRV157 hRP2158 hN159 hS160 hL1161 hZ162 hIm163 (by omega) (f165)
                    · refine fz_goto (tgt := 934) kL_law rfl (by decide) ?_
                      refine fz_sub (fz_pk_sub (ls' := [(0, fz_r 200), (1, fz_r 0), (2, fz_r 53), (3, fz_i tw), (4, fz_l sm), (6, fz_i e), (7, fz_i a), (9, fz_i t)]) [2, 3, 4, 5, 6, 7, 8, 9] rfl) ?_
                      exact k H101  hI105 hf110 hX118 hRE111 hRV112 hRP2113 hN114 hS126 hL1115 hZ116 hIm117 (by omega) (k132)
                  · exfalso; omega
              · exfalso; omega
            · exfalso; omega
    · refine fz_iconst ⟨by decide, by decide⟩ kL_law rfl ?_
      refine fz_goto (tgt := 728) kL_law rfl (by decide) ?_
      refine fz_icmp_ne (tgt := 764) kL_law rfl (by decide) (fun c168 => ?_) (fun c168 => ?_)
      · exfalso; omega
      · exfalso; omega
  · refine fz_iconst ⟨by decide, by decide⟩ kL_law rfl ?_
    refine fz_goto (tgt := 707) kL_law rfl (by decide) ?_
    refine fz_aload_n kL_law rfl rfl ?_
    refine fz_bipush ⟨by decide, by decide⟩ kL_law rfl ?_
    refine fz_iload kL_law rfl rfl ?_
    refine fz_imulN kL_law rfl (by omega) ?_
    refine fz_iload kL_law rfl rfl ?_
    refine fz_iaddN kL_law rfl (by omega) ?_
    refine fz_iconst ⟨by decide, by decide⟩ kL_law rfl ?_
    refine fz_callV (d' := 2) (M' := mX10_way) (As := [fz_i ((10 * a) + t), fz_i 1]) (st := [fz_i 1]) kL_law rfl rfl vX10_way rfl rfl rfl rfl (Nat.le_of_ble_eq_true rfl) (Nat.le_of_ble_eq_true rfl) (by decide) (sX10_way H hI ((10 * a) + t) 1 ) (fun H169 r170 q171 o172 => ?_)
    obtain ⟨e173, y176, rfl, f174, f175⟩ := q171
    subst H169
    clear o172
    have k177 := wf_wy1 (x := a) (y := t) (by omega) (by omega) (by omega) f175
    refine fz_if_ge (tgt := 727) kL_law rfl (by decide) (fun c178 => ?_) (fun c178 => ?_)
    · refine fz_iconst ⟨by decide, by decide⟩ kL_law rfl ?_
      refine fz_icmp_ne (tgt := 764) kL_law rfl (by decide) (fun c179 => ?_) (fun c179 => ?_)
      · exfalso; omega
      · exfalso; omega
    · refine fz_iconst ⟨by decide, by decide⟩ kL_law rfl ?_
      refine fz_goto (tgt := 728) kL_law rfl (by decide) ?_
      refine fz_icmp_ne (tgt := 764) kL_law rfl (by decide) (fun c180 => ?_) (fun c180 => ?_)
      · exfalso; omega
      · refine fz_iload kL_law rfl rfl ?_
        refine fz_if_le (tgt := 766) kL_law rfl (by decide) (fun c181 => ?_) (fun c181 => ?_)
        · have k182 : a = H 11 (e).toNat := by first | exact lost | exact hq5
          refine fz_aload_n kL_law rfl rfl ?_
          refine fz_iload kL_law rfl rfl ?_
          refine fz_iload kL_law rfl rfl ?_
          refine fz_iconst ⟨by decide, by decide⟩ kL_law rfl ?_
          refine fz_callV (d' := 1) (M' := mX10_cut) (As := [fz_i e, fz_i t, fz_i 1]) (st := []) kL_law rfl rfl vX10_cut rfl rfl rfl rfl (Nat.le_of_ble_eq_true rfl) (Nat.le_of_ble_eq_true rfl) (by decide) (sX10_cut H hI e t 1 hRE hRP2) (fun H184 r185 q186 o187 => ?_)
          obtain ⟨e188, y191, rfl, f189, f190⟩ := q186
          subst H184
          clear o187
          have k192 := df_cutb hI hRV hRP2 (by omega) (show 0 ≤ t ∧ t < H 1 7 by omega) f190
          have k194 := k192.1
          have k195 := k192.2.1
          refine fz_istore (ls' := [(11, fz_i y191), (10, fz_i y11), (0, fz_r 200), (1, fz_r 0), (2, fz_r 53), (3, fz_i tw), (4, fz_l sm), (6, fz_i e), (7, fz_i a), (9, fz_i t)]) kL_law rfl (by decide) rfl ?_
          refine fz_iload kL_law rfl rfl ?_
          refine fz_if_ge (tgt := 787) kL_law rfl (by decide) (fun c196 => ?_) (fun c196 => ?_)
          · exfalso; omega
          · refine fz_iload kL_law rfl rfl ?_
            refine fz_if_ne (tgt := 797) kL_law rfl (by decide) (fun c197 => ?_) (fun c197 => ?_)
            · exfalso; omega
            · refine fz_iload kL_law rfl rfl ?_
              refine fz_if_lt (tgt := 799) kL_law rfl (by decide) (fun c198 => ?_) (fun c198 => ?_)
              · refine fz_iload kL_law rfl rfl ?_
                refine fz_iconst ⟨by decide, by decide⟩ kL_law rfl ?_
                refine fz_icmp_ge (tgt := 808) kL_law rfl (by decide) (fun c199 => ?_) (fun c199 => ?_)
                · exfalso; omega
                · refine fz_goto (tgt := 934) kL_law rfl (by decide) ?_
                  refine fz_sub (fz_pk_sub (ls' := [(0, fz_r 200), (1, fz_r 0), (2, fz_r 53), (3, fz_i tw), (4, fz_l sm), (6, fz_i e), (7, fz_i a), (9, fz_i t)]) [2, 3, 4, 5, 6, 7, 8, 9] rfl) ?_
                  exact k H  hI hf hX hRE hRV hRP2 hN hS hL1 hZ hIm (by omega) (k182)
              · exfalso; omega
        · exfalso; omega

set_option maxHeartbeats 1000000 in
set_option maxRecDepth 100000 in
theorem sL_l543 (h H : fz_H) (tw sm e : Int) (hI : fz_Iv H) (hf : fz_fr [(1, 7), (1, 8), (2, 99999), (3, 99999), (4, 99999), (5, 99999), (6, 99999), (7, 99999), (8, 99999), (9, 5), (10, 99999), (11, 99999), (12, 99999), (13, 99999), (14, 99999), (15, 4), (16, 99999), (17, 99999), (18, 99999), (19, 99999), (20, 2), (20, 3), (20, 4), (21, 4), (22, 99999), (23, 99999), (26, 99999), (27, 8), (27, 9), (28, 99999), (29, 99999), (30, 99999), (31, 99999), (32, 99999), (33, 3), (33, 4), (33, 5), (33, 6), (33, 7), (34, 99999), (35, 4), (35, 5), (36, 99999), (37, 99999), (38, 99999), (39, 99999), (40, 1), (40, 2), (40, 3), (40, 4), (40, 5), (40, 6), (41, 99999), (42, 99999), (43, 99999), (44, 2), (45, 99999), (48, 99999), (50, 99999), (51, 99999), (52, 99999), (53, 99999)] h H) (hX : fz_Xc H) (hRE : fz_RE H) (hRV : fz_RV H) (hRP2 : fz_RP2 H) (hN : st_N tw H) (hS : st_S sm H) (hL1 : st_L1 H) (hZ : st_Z H) (hIm : st_Im H) (hp0 : 0 ≤ h 200 100000 ∧ h 200 100000 ≤ 3072) (hq0 : 0 ≤ tw ∧ tw ≤ 8) (hq1 : 0 ≤ e ∧ e ≤ 7) (hq2 : e < H 9 5) (k : ∀ (G : fz_H) (a : Int), fz_Iv G → fz_fr [(1, 7), (1, 8), (2, 99999), (3, 99999), (4, 99999), (5, 99999), (6, 99999), (7, 99999), (8, 99999), (9, 5), (10, 99999), (11, 99999), (12, 99999), (13, 99999), (14, 99999), (15, 4), (16, 99999), (17, 99999), (18, 99999), (19, 99999), (20, 2), (20, 3), (20, 4), (21, 4), (22, 99999), (23, 99999), (26, 99999), (27, 8), (27, 9), (28, 99999), (29, 99999), (30, 99999), (31, 99999), (32, 99999), (33, 3), (33, 4), (33, 5), (33, 6), (33, 7), (34, 99999), (35, 4), (35, 5), (36, 99999), (37, 99999), (38, 99999), (39, 99999), (40, 1), (40, 2), (40, 3), (40, 4), (40, 5), (40, 6), (41, 99999), (42, 99999), (43, 99999), (44, 2), (45, 99999), (48, 99999), (50, 99999), (51, 99999), (52, 99999), (53, 99999)] h G → fz_Xc G → fz_RE G → fz_RV G → fz_RP2 G → st_N tw G → st_S sm G → st_L1 G → st_Z G → st_Im G → (e < G 9 5) → (0 ≤ a ∧ a < tw) → (a = G 11 e.toNat) → fz_R 48 mL_law 681 [(0, fz_r 200), (1, fz_r 0), (2, fz_r 53), (3, fz_i tw), (4, fz_l sm), (6, fz_i e), (7, fz_i a), (9, fz_i 0)] [] G (qL_law h)) : fz_R 48 mL_law 543 [(0, fz_r 200), (1, fz_r 0), (2, fz_r 53), (3, fz_i tw), (4, fz_l sm), (6, fz_i e)] [] H (qL_law h) := by
  have k1 := st_N_e hI hN
  have k2 : 0 ≤ H 11 (e).toNat ∧ H 11 (e).toNat ≤ 7 := hI.1 11 _
  have k3 : 0 ≤ H 12 (e).toNat ∧ H 12 (e).toNat ≤ 999 := hI.1 12 _
  have k4 := hRP2 (e).toNat (by omega)
  refine fz_aload_n kL_law rfl rfl ?_
  refine fz_iload kL_law rfl rfl ?_
  refine fz_bipush ⟨by decide, by decide⟩ kL_law rfl ?_
  refine fz_callV (d' := 3) (M' := mX10_of) (As := [fz_i e, fz_i 10]) (st := []) kL_law rfl rfl vX10_of rfl rfl rfl rfl (Nat.le_of_ble_eq_true rfl) (Nat.le_of_ble_eq_true rfl) (by decide) (sX10_of H hI e 10 ) (fun H5 r6 q7 o8 => ?_)
  obtain ⟨e9, y12, rfl, f10, f11⟩ := q7
  subst H5
  clear o8
  have k13 := of_10 f11 (by omega)
  have k16 : 0 ≤ y12 ∧ y12 ≤ 7 := by omega
  refine fz_istore (ls' := [(7, fz_i y12), (0, fz_r 200), (1, fz_r 0), (2, fz_r 53), (3, fz_i tw), (4, fz_l sm), (6, fz_i e)]) kL_law rfl (by decide) rfl ?_
  refine fz_aload_n kL_law rfl rfl ?_
  refine fz_iload kL_law rfl rfl ?_
  refine fz_iconst ⟨by decide, by decide⟩ kL_law rfl ?_
  refine fz_callV (d' := 3) (M' := mX10_of) (As := [fz_i e, fz_i 3]) (st := []) kL_law rfl rfl vX10_of rfl rfl rfl rfl (Nat.le_of_ble_eq_true rfl) (Nat.le_of_ble_eq_true rfl) (by decide) (sX10_of H hI e 3 ) (fun H17 r18 q19 o20 => ?_)
  obtain ⟨e21, y24, rfl, f22, f23⟩ := q19
  subst H17
  clear o20
  have k25 := of_3 f23 (by omega)
  have k28 : 0 ≤ y24 ∧ y24 ≤ 999 := by omega
  refine fz_istore (ls' := [(8, fz_i y24), (7, fz_i y12), (0, fz_r 200), (1, fz_r 0), (2, fz_r 53), (3, fz_i tw), (4, fz_l sm), (6, fz_i e)]) kL_law rfl (by decide) rfl ?_
  refine fz_aload_n kL_law rfl rfl ?_
  refine fz_iload kL_law rfl rfl ?_
  refine fz_iload kL_law rfl rfl ?_
  have b29 : 0 ≤ H 9 5 ∧ H 9 5 ≤ 10 := hI.1 9 _
  have b30 : 0 ≤ H 1 7 ∧ H 1 7 ≤ 8 := hI.1 1 _
  refine fz_callV (d' := 2) (M' := mX10_heard) (As := [fz_i e, fz_i y12]) (st := []) kL_law rfl rfl vX10_heard rfl rfl rfl rfl (Nat.le_of_ble_eq_true rfl) (Nat.le_of_ble_eq_true rfl) (by decide) (sX10_heard H hI e y12 ) (fun H31 r32 q33 o34 => ?_)
  obtain ⟨e35, y38, rfl, f36, f37⟩ := q33
  subst H31
  clear o34
  have k39 := he_C f37 (by omega)
  refine fz_iload kL_law rfl rfl ?_
  refine fz_aload_n kL_law rfl rfl ?_
  refine fz_iload kL_law rfl rfl ?_
  refine fz_iconst ⟨by decide, by decide⟩ kL_law rfl ?_
  refine fz_callV (d' := 3) (M' := mX10_of) (As := [fz_i y12, fz_i 0]) (st := [fz_i y24, fz_i y38]) kL_law rfl rfl vX10_of rfl rfl rfl rfl (Nat.le_of_ble_eq_true rfl) (Nat.le_of_ble_eq_true rfl) (by decide) (sX10_of H hI y12 0 ) (fun H41 r42 q43 o44 => ?_)
  obtain ⟨e45, y48, rfl, f46, f47⟩ := q43
  subst H41
  clear o44
  have k49 := of_0 f47 (by omega)
  have k51 : 0 ≤ H 2 (y12).toNat ∧ H 2 (y12).toNat ≤ 9 := hI.1 2 _
  have k53 : 0 ≤ y48 ∧ y48 ≤ 9 := by omega
  refine fz_iaddN kL_law rfl (by omega) ?_
  have k54 := df_ha0 hI hRV hRP2 (e := e) (at_ := y12) (by omega) k13
  refine fz_icmp_ne (tgt := 676) kL_law rfl (by decide) (fun c56 => ?_) (fun c56 => ?_)
  · exfalso; omega
  · refine fz_aload_n kL_law rfl rfl ?_
    refine fz_iload kL_law rfl rfl ?_
    refine fz_iconst ⟨by decide, by decide⟩ kL_law rfl ?_
    refine fz_callV (d' := 2) (M' := mX10_news) (As := [fz_i e, fz_i (-1)]) (st := []) kL_law rfl rfl vX10_news rfl rfl rfl rfl (Nat.le_of_ble_eq_true rfl) (Nat.le_of_ble_eq_true rfl) (by decide) (sX10_news H hI e (-1) ) (fun H57 r58 q59 o60 => ?_)
    obtain ⟨e61, y64, rfl, f62, f63⟩ := q59
    subst H57
    clear o60
    have k65 := df_new1 (Or.inl rfl) (by omega) (show 0 ≤ y12 ∧ y12 < H 1 7 by omega) f63 (by omega)
    refine fz_if_lt (tgt := 676) kL_law rfl (by decide) (fun c66 => ?_) (fun c66 => ?_)
    · exfalso; omega
    · refine fz_aload_n kL_law rfl rfl ?_
      refine fz_iload kL_law rfl rfl ?_
      refine fz_bipush ⟨by decide, by decide⟩ kL_law rfl ?_
      refine fz_callV (d' := 2) (M' := mX10_news) (As := [fz_i e, fz_i (-2)]) (st := []) kL_law rfl rfl vX10_news rfl rfl rfl rfl (Nat.le_of_ble_eq_true rfl) (Nat.le_of_ble_eq_true rfl) (by decide) (sX10_news H hI e (-2) ) (fun H67 r68 q69 o70 => ?_)
      obtain ⟨e71, y74, rfl, f72, f73⟩ := q69
      subst H67
      clear o70
      have k75 := df_new1 (Or.inr rfl) (by omega) (show 0 ≤ y12 ∧ y12 < H 1 7 by omega) f73 (by omega)
      refine fz_if_lt (tgt := 676) kL_law rfl (by decide) (fun c76 => ?_) (fun c76 => ?_)
      · exfalso; omega
      · refine fz_aload_n kL_law rfl rfl ?_
        refine fz_iload kL_law rfl rfl ?_
        refine fz_aload_n kL_law rfl rfl ?_
        refine fz_iload kL_law rfl rfl ?_
        refine fz_bipush ⟨by decide, by decide⟩ kL_law rfl ?_
        refine fz_callV (d' := 2) (M' := mX10_news) (As := [fz_i e, fz_i (-2)]) (st := [fz_i e, fz_r 0]) kL_law rfl rfl vX10_news rfl rfl rfl rfl (Nat.le_of_ble_eq_true rfl) (Nat.le_of_ble_eq_true rfl) (by decide) (sX10_news H hI e (-2) ) (fun H77 r78 q79 o80 => ?_)
        obtain ⟨e81, y84, rfl, f82, f83⟩ := q79
        subst H77
        clear o80
        have k85 := f83
        have k87 := df_new1 (Or.inr rfl) (by omega) (show 0 ≤ y12 ∧ y12 < H 1 7 by omega) f83 (by omega)
        have k89 : 0 ≤ y84 ∧ y84 ≤ 7 := by omega
        refine fz_callV (d' := 2) (M' := mX10_heard) (As := [fz_i e, fz_i y84]) (st := []) kL_law rfl rfl vX10_heard rfl rfl rfl rfl (Nat.le_of_ble_eq_true rfl) (Nat.le_of_ble_eq_true rfl) (by decide) (sX10_heard H hI e y84 ) (fun H90 r91 q92 o93 => ?_)
        obtain ⟨e94, y97, rfl, f95, f96⟩ := q92
        subst H90
        clear o93
        have k98 := he_C f96 (by omega)
        refine fz_aload_n kL_law rfl rfl ?_
        refine fz_iload kL_law rfl rfl ?_
        refine fz_aload_n kL_law rfl rfl ?_
        refine fz_iload kL_law rfl rfl ?_
        refine fz_iconst ⟨by decide, by decide⟩ kL_law rfl ?_
        refine fz_callV (d' := 2) (M' := mX10_news) (As := [fz_i e, fz_i (-1)]) (st := [fz_i e, fz_r 0, fz_i y97]) kL_law rfl rfl vX10_news rfl rfl rfl rfl (Nat.le_of_ble_eq_true rfl) (Nat.le_of_ble_eq_true rfl) (by decide) (sX10_news H hI e (-1) ) (fun H99 r100 q101 o102 => ?_)
        obtain ⟨e103, y106, rfl, f104, f105⟩ := q101
        subst H99
        clear o102
        have k107 := f105
        have k109 := df_new1 (Or.inl rfl) (by omega) (show 0 ≤ y12 ∧ y12 < H 1 7 by omega) f105 (by omega)
        have k111 : 0 ≤ y106 ∧ y106 ≤ 7 := by omega
        refine fz_callV (d' := 2) (M' := mX10_heard) (As := [fz_i e, fz_i y106]) (st := [fz_i y97]) kL_law rfl rfl vX10_heard rfl rfl rfl rfl (Nat.le_of_ble_eq_true rfl) (Nat.le_of_ble_eq_true rfl) (by decide) (sX10_heard H hI e y106 ) (fun H112 r113 q114 o115 => ?_)
        obtain ⟨e116, y119, rfl, f117, f118⟩ := q114
        subst H112
        clear o115
        have k120 := he_C f118 (by omega)
        have k121 := df_news (by omega) (show 0 ≤ y12 ∧ y12 < H 1 7 by omega) k107 k85 (by omega)
        refine fz_icmp_gt (tgt := 676) kL_law rfl (by decide) (fun c122 => ?_) (fun c122 => ?_)
        · exfalso; omega
        · refine fz_aload_n kL_law rfl rfl ?_
          refine fz_iload kL_law rfl rfl ?_
          refine fz_iload kL_law rfl rfl ?_
          refine fz_iconst ⟨by decide, by decide⟩ kL_law rfl ?_
          refine fz_callV (d' := 2) (M' := mX10_garbled) (As := [fz_i e, fz_i y12, fz_i 0]) (st := []) kL_law rfl rfl vX10_garbled rfl rfl rfl rfl (Nat.le_of_ble_eq_true rfl) (Nat.le_of_ble_eq_true rfl) (by decide) (sX10_garbled H hI e y12 0 ) (fun H123 r124 q125 o126 => ?_)
          obtain ⟨hI127, hf128, y131, rfl, f129, f130⟩ := q125
          clear o126
          have hf132 := fz_fr_tr hf hf128 (show fz_su [(32, 99999)] [(1, 7), (1, 8), (2, 99999), (3, 99999), (4, 99999), (5, 99999), (6, 99999), (7, 99999), (8, 99999), (9, 5), (10, 99999), (11, 99999), (12, 99999), (13, 99999), (14, 99999), (15, 4), (16, 99999), (17, 99999), (18, 99999), (19, 99999), (20, 2), (20, 3), (20, 4), (21, 4), (22, 99999), (23, 99999), (26, 99999), (27, 8), (27, 9), (28, 99999), (29, 99999), (30, 99999), (31, 99999), (32, 99999), (33, 3), (33, 4), (33, 5), (33, 6), (33, 7), (34, 99999), (35, 4), (35, 5), (36, 99999), (37, 99999), (38, 99999), (39, 99999), (40, 1), (40, 2), (40, 3), (40, 4), (40, 5), (40, 6), (41, 99999), (42, 99999), (43, 99999), (44, 2), (45, 99999), (48, 99999), (50, 99999), (51, 99999), (52, 99999), (53, 99999)] = true from rfl)
          have hRE133 : fz_RE H123 := fz_RE_eq (funext fun s => hf128 5 s rfl) (funext fun s => hf128 6 s rfl) (hf128 1 8 rfl) (hf128 1 7 rfl) hRE
          have hRV134 : fz_RV H123 := fz_RV_eq (funext fun s => hf128 7 s rfl) (funext fun s => hf128 8 s rfl) (funext fun s => hf128 3 s rfl) (funext fun s => hf128 4 s rfl) (funext fun s => hf128 5 s rfl) (funext fun s => hf128 6 s rfl) (hf128 1 7 rfl) (hf128 1 8 rfl) hRV
          have hRP2135 : fz_RP2 H123 := fz_RP2_eq (funext fun s => hf128 11 s rfl) (hf128 9 5 rfl) (hf128 1 7 rfl) hRP2
          have hN136 : st_N tw H123 := st_N_eq (hf128 53 0 rfl) (hf128 53 1 rfl) (hf128 53 2 rfl) (hf128 1 7 rfl) (hf128 1 8 rfl) (hf128 9 5 rfl) (hf128 35 4 rfl) (hf128 20 2 rfl) hN
          have hL1137 : st_L1 H123 := st_L1_eq (funext fun s => hf128 3 s rfl) (hf128 1 8 rfl) hL1
          have hZ138 : st_Z H123 := st_Z_eq (hf128 40 1 rfl) (hf128 40 2 rfl) (hf128 40 3 rfl) (hf128 40 4 rfl) (hf128 40 5 rfl) (funext fun s => hf128 41 s rfl) hZ
          have hIm139 : st_Im H123 := st_Im_eq (hf128 40 6 rfl) (funext fun s => hf128 43 s rfl) (funext fun s => hf128 42 s rfl) hIm
          have hX140 : fz_Xc H123 := fz_Xc_fr hf128 rfl hX
          have t141 : H123 9 5 = H 9 5 := hf128 9 5 rfl
          have t142 : H123 1 7 = H 1 7 := hf128 1 7 rfl
          have t143 : H123 1 8 = H 1 8 := hf128 1 8 rfl
          have t144 : H123 48 0 = H 48 0 := hf128 48 0 rfl
          have t145 : H123 50 0 = H 50 0 := hf128 50 0 rfl
          have t146 : H123 51 0 = H 51 0 := hf128 51 0 rfl
          have nm147 : fz_nm H123 = fz_nm H := (fz_nm_fr rfl hf128).trans rfl
          have hS148 : st_S sm H123 := st_S_fr rfl hf128 hS
          have k149 := df_gb hI hRV hRP2 (by omega) k13 (Or.inl rfl) f130
          have k150 : y12 = H123 11 (e).toNat := k13.trans (hf128 11 _ rfl).symm
          refine fz_lconst (x := 1) ⟨by decide, by decide⟩ rfl kL_law rfl ?_
          refine fz_lcmp kL_law rfl ?_
          have b152 := fz_cmp_c y131 1
          refine fz_if_ne (tgt := 676) kL_law rfl (by decide) (fun c153 => ?_) (fun c153 => ?_)
          · exfalso; omega
          · refine fz_aload_n kL_law rfl rfl ?_
            refine fz_iload kL_law rfl rfl ?_
            refine fz_iload kL_law rfl rfl ?_
            refine fz_iconst ⟨by decide, by decide⟩ kL_law rfl ?_
            refine fz_callV (d' := 2) (M' := mX10_garbled) (As := [fz_i e, fz_i y12, fz_i 1]) (st := []) kL_law rfl rfl vX10_garbled rfl rfl rfl rfl (Nat.le_of_ble_eq_true rfl) (Nat.le_of_ble_eq_true rfl) (by decide) (sX10_garbled H123 hI127 e y12 1 ) (fun H154 r155 q156 o157 => ?_)
            obtain ⟨hI158, hf159, y162, rfl, f160, f161⟩ := q156
            clear o157
            have hf163 := fz_fr_tr hf132 hf159 (show fz_su [(32, 99999)] [(1, 7), (1, 8), (2, 99999), (3, 99999), (4, 99999), (5, 99999), (6, 99999), (7, 99999), (8, 99999), (9, 5), (10, 99999), (11, 99999), (12, 99999), (13, 99999), (14, 99999), (15, 4), (16, 99999), (17, 99999), (18, 99999), (19, 99999), (20, 2), (20, 3), (20, 4), (21, 4), (22, 99999), (23, 99999), (26, 99999), (27, 8), (27, 9), (28, 99999), (29, 99999), (30, 99999), (31, 99999), (32, 99999), (33, 3), (33, 4), (33, 5), (33, 6), (33, 7), (34, 99999), (35, 4), (35, 5), (36, 99999), (37, 99999), (38, 99999), (39, 99999), (40, 1), (40, 2), (40, 3), (40, 4), (40, 5), (40, 6), (41, 99999), (42, 99999), (43, 99999), (44, 2), (45, 99999), (48, 99999), (50, 99999), (51, 99999), (52, 99999), (53, 99999)] = true from rfl)
            have hRE164 : fz_RE H154 := fz_RE_eq (funext fun s => hf159 5 s rfl) (funext fun s => hf159 6 s rfl) (hf159 1 8 rfl) (hf159 1 7 rfl) hRE133
            have hRV165 : fz_RV H154 := fz_RV_eq (funext fun s => hf159 7 s rfl) (funext fun s => hf159 8 s rfl) (funext fun s => hf159 3 s rfl) (funext fun s => hf159 4 s rfl) (funext fun s => hf159 5 s rfl) (funext fun s => hf159 6 s rfl) (hf159 1 7 rfl) (hf159 1 8 rfl) hRV134
            have hRP2166 : fz_RP2 H154 := fz_RP2_eq (funext fun s => hf159 11 s rfl) (hf159 9 5 rfl) (hf159 1 7 rfl) hRP2135
            have hN167 : st_N tw H154 := st_N_eq (hf159 53 0 rfl) (hf159 53 1 rfl) (hf159 53 2 rfl) (hf159 1 7 rfl) (hf159 1 8 rfl) (hf159 9 5 rfl) (hf159 35 4 rfl) (hf159 20 2 rfl) hN136
            have hL1168 : st_L1 H154 := st_L1_eq (funext fun s => hf159 3 s rfl) (hf159 1 8 rfl) hL1137
            have hZ169 : st_Z H154 := st_Z_eq (hf159 40 1 rfl) (hf159 40 2 rfl) (hf159 40 3 rfl) (hf159 40 4 rfl) (hf159 40 5 rfl) (funext fun s => hf159 41 s rfl) hZ138
            have hIm170 : st_Im H154 := st_Im_eq (hf159 40 6 rfl) (funext fun s => hf159 43 s rfl) (funext fun s => hf159 42 s rfl) hIm139
            have hX171 : fz_Xc H154 := fz_Xc_fr hf159 rfl hX140
            have t172 : H154 9 5 = H123 9 5 := hf159 9 5 rfl
            have t173 : H154 1 7 = H123 1 7 := hf159 1 7 rfl
            have t174 : H154 1 8 = H123 1 8 := hf159 1 8 rfl
            have t175 : H154 48 0 = H123 48 0 := hf159 48 0 rfl
            have t176 : H154 50 0 = H123 50 0 := hf159 50 0 rfl
            have t177 : H154 51 0 = H123 51 0 := hf159 51 0 rfl
            have nm178 : fz_nm H154 = fz_nm H := (fz_nm_fr rfl hf159).trans nm147
            have hS179 : st_S sm H154 := st_S_fr rfl hf159 hS148
            have k180 := df_gb hI127 hRV134 hRP2135 (by omega) k150 (Or.inr rfl) f161
            have k181 : y12 = H154 11 (e).toNat := k150.trans (hf159 11 _ rfl).symm
            refine fz_lconst (x := 1) ⟨by decide, by decide⟩ rfl kL_law rfl ?_
            refine fz_lcmp kL_law rfl ?_
            have b183 := fz_cmp_c y162 1
            refine fz_if_ne (tgt := 676) kL_law rfl (by decide) (fun c184 => ?_) (fun c184 => ?_)
            · exfalso; omega
            · refine fz_aload_n kL_law rfl rfl ?_
              refine fz_iload kL_law rfl rfl ?_
              refine fz_iload kL_law rfl rfl ?_
              refine fz_iconst ⟨by decide, by decide⟩ kL_law rfl ?_
              refine fz_callV (d' := 1) (M' := mX10_cut) (As := [fz_i e, fz_i y12, fz_i 0]) (st := []) kL_law rfl rfl vX10_cut rfl rfl rfl rfl (Nat.le_of_ble_eq_true rfl) (Nat.le_of_ble_eq_true rfl) (by decide) (sX10_cut H154 hI158 e y12 0 hRE164 hRP2166) (fun H185 r186 q187 o188 => ?_)
              obtain ⟨e189, y192, rfl, f190, f191⟩ := q187
              subst H185
              clear o188
              have k193 := df_cut0 (by omega) (show 0 ≤ y12 ∧ y12 < H154 1 7 by omega) k181 f191
              refine fz_bipush ⟨by decide, by decide⟩ kL_law rfl ?_
              refine fz_icmp_eq (tgt := 678) kL_law rfl (by decide) (fun c194 => ?_) (fun c194 => ?_)
              · refine fz_iconst ⟨by decide, by decide⟩ kL_law rfl ?_
                refine fz_istore (ls' := [(9, fz_i 0), (8, fz_i y24), (7, fz_i y12), (0, fz_r 200), (1, fz_r 0), (2, fz_r 53), (3, fz_i tw), (4, fz_l sm), (6, fz_i e)]) kL_law rfl (by decide) rfl ?_
                refine fz_sub (fz_pk_sub (ls' := [(0, fz_r 200), (1, fz_r 0), (2, fz_r 53), (3, fz_i tw), (4, fz_l sm), (6, fz_i e), (7, fz_i y12), (9, fz_i 0)]) [3, 4, 5, 6, 7, 8, 2, 0] rfl) ?_
                exact k H154 y12 hI158 hf163 hX171 hRE164 hRV165 hRP2166 hN167 hS179 hL1168 hZ169 hIm170 (by omega) (by omega) (k181)
              · exfalso; omega

set_option maxHeartbeats 1000000 in
set_option maxRecDepth 100000 in
theorem sL_l532 (h H : fz_H) (tw sm : Int) (hI : fz_Iv H) (hf : fz_fr [(1, 7), (1, 8), (2, 99999), (3, 99999), (4, 99999), (5, 99999), (6, 99999), (7, 99999), (8, 99999), (9, 5), (10, 99999), (11, 99999), (12, 99999), (13, 99999), (14, 99999), (15, 4), (16, 99999), (17, 99999), (18, 99999), (19, 99999), (20, 2), (20, 3), (20, 4), (21, 4), (22, 99999), (23, 99999), (26, 99999), (27, 8), (27, 9), (28, 99999), (29, 99999), (30, 99999), (31, 99999), (32, 99999), (33, 3), (33, 4), (33, 5), (33, 6), (33, 7), (34, 99999), (35, 4), (35, 5), (36, 99999), (37, 99999), (38, 99999), (39, 99999), (40, 1), (40, 2), (40, 3), (40, 4), (40, 5), (40, 6), (41, 99999), (42, 99999), (43, 99999), (44, 2), (45, 99999), (48, 99999), (50, 99999), (51, 99999), (52, 99999), (53, 99999)] h H) (hX : fz_Xc H) (hRE : fz_RE H) (hRV : fz_RV H) (hRP2 : fz_RP2 H) (hN : st_N tw H) (hS : st_S sm H) (hL1 : st_L1 H) (hZ : st_Z H) (hIm : st_Im H) (hp0 : 0 ≤ h 200 100000 ∧ h 200 100000 ≤ 3072) (hq0 : 0 ≤ tw ∧ tw ≤ 8) : fz_R 48 mL_law 532 [(0, fz_r 200), (1, fz_r 0), (2, fz_r 53), (3, fz_i tw), (4, fz_l sm)] [] H (qL_law h) := by
  refine fz_iconst ⟨by decide, by decide⟩ kL_law rfl ?_
  refine fz_istore (ls' := [(6, fz_i 0), (0, fz_r 200), (1, fz_r 0), (2, fz_r 53), (3, fz_i tw), (4, fz_l sm)]) kL_law rfl (by decide) rfl ?_
  have lp15 : ∀ (n14 : Nat) (x1 : Int) (H11 : fz_H), fz_Iv H11 → fz_fr [(1, 7), (1, 8), (2, 99999), (3, 99999), (4, 99999), (5, 99999), (6, 99999), (7, 99999), (8, 99999), (9, 5), (10, 99999), (11, 99999), (12, 99999), (13, 99999), (14, 99999), (15, 4), (16, 99999), (17, 99999), (18, 99999), (19, 99999), (20, 2), (20, 3), (20, 4), (21, 4), (22, 99999), (23, 99999), (26, 99999), (27, 8), (27, 9), (28, 99999), (29, 99999), (30, 99999), (31, 99999), (32, 99999), (33, 3), (33, 4), (33, 5), (33, 6), (33, 7), (34, 99999), (35, 4), (35, 5), (36, 99999), (37, 99999), (38, 99999), (39, 99999), (40, 1), (40, 2), (40, 3), (40, 4), (40, 5), (40, 6), (41, 99999), (42, 99999), (43, 99999), (44, 2), (45, 99999), (48, 99999), (50, 99999), (51, 99999), (52, 99999), (53, 99999)] h H11 → fz_RE H11 → fz_RV H11 → fz_RP2 H11 → fz_Xc H11 → st_N tw H11 → st_S sm H11 → st_L1 H11 → st_Z H11 → st_Im H11 → (0 ≤ x1 ∧ x1 ≤ 8) → (8 - x1).toNat < n14 → fz_R 48 mL_law 535 [(6, fz_i x1), (0, fz_r 200), (1, fz_r 0), (2, fz_r 53), (3, fz_i tw), (4, fz_l sm)] [] H11 (qL_law h) := by
    intro n14
    induction n14 with
    | zero => intro x1 H11 hI12 hf13 hRE2 hRV3 hRP24 hXq5 hN6 hS7 hL18 hZ9 hIm10 hv18 hm17; exact absurd hm17 (by omega)
    | succ n14 ih16 =>
      intro x1 H11 hI12 hf13 hRE2 hRV3 hRP24 hXq5 hN6 hS7 hL18 hZ9 hIm10 hv18 hm17
      refine fz_iload kL_law rfl rfl ?_
      refine fz_aload_n kL_law rfl rfl ?_
      refine fz_iconst ⟨by decide, by decide⟩ kL_law rfl ?_
      obtain ⟨v19, e20⟩ : ∃ z, H11 53 (2) = z := ⟨_, rfl⟩
      refine fz_ialdV (n := 40) (v := v19) kL_law rfl rfl (by omega) (by omega) e20 ?_
      have b21 : (-2147483648) ≤ v19 ∧ v19 ≤ 2147483647 := by rw [← e20]; exact hI12.1 53 _
      have k22 := st_N_e hI12 hN6
      refine fz_icmp_ge (tgt := 946) kL_law rfl (by decide) (fun c23 => ?_) (fun c23 => ?_)
      · refine fz_sub (fz_pk_sub (ls' := [(0, fz_r 200), (1, fz_r 0), (2, fz_r 53), (3, fz_i tw), (4, fz_l sm)]) [1, 2, 3, 4, 5] rfl) ?_
        exact sL_l946 h H11 tw sm hI12 hf13 hXq5 hRE2 hRV3 hRP24 hN6 hS7 hL18 hZ9 hIm10 hp0 (by omega)
      · refine fz_sub (fz_pk_sub (ls' := [(0, fz_r 200), (1, fz_r 0), (2, fz_r 53), (3, fz_i tw), (4, fz_l sm), (6, fz_i x1)]) [1, 2, 3, 4, 5, 0] rfl) ?_
        refine sL_l543 h H11 tw sm x1 hI12 hf13 hXq5 hRE2 hRV3 hRP24 hN6 hS7 hL18 hZ9 hIm10 hp0 (by omega) (by omega) (by omega) (fun H24 x36 hI25 hf26 hX27 hRE28 hRV29 hRP230 hN31 hS32 hL133 hZ34 hIm35 f37 f38 f39 => ?_)
        have lp54 : ∀ (n53 : Nat) (x40 : Int) (H50 : fz_H), fz_Iv H50 → fz_fr [(1, 7), (1, 8), (2, 99999), (3, 99999), (4, 99999), (5, 99999), (6, 99999), (7, 99999), (8, 99999), (9, 5), (10, 99999), (11, 99999), (12, 99999), (13, 99999), (14, 99999), (15, 4), (16, 99999), (17, 99999), (18, 99999), (19, 99999), (20, 2), (20, 3), (20, 4), (21, 4), (22, 99999), (23, 99999), (26, 99999), (27, 8), (27, 9), (28, 99999), (29, 99999), (30, 99999), (31, 99999), (32, 99999), (33, 3), (33, 4), (33, 5), (33, 6), (33, 7), (34, 99999), (35, 4), (35, 5), (36, 99999), (37, 99999), (38, 99999), (39, 99999), (40, 1), (40, 2), (40, 3), (40, 4), (40, 5), (40, 6), (41, 99999), (42, 99999), (43, 99999), (44, 2), (45, 99999), (48, 99999), (50, 99999), (51, 99999), (52, 99999), (53, 99999)] h H50 → fz_RE H50 → fz_RV H50 → fz_RP2 H50 → fz_Xc H50 → st_N tw H50 → st_S sm H50 → st_L1 H50 → st_Z H50 → st_Im H50 → (0 ≤ x40 ∧ x40 ≤ 8) → (x1 < H50 9 5) → (0 ≤ x36 ∧ x36 < tw) → (x36 = H50 11 (x1).toNat) → (tw - x40).toNat < n53 → fz_R 48 mL_law 681 [(0, fz_r 200), (1, fz_r 0), (2, fz_r 53), (3, fz_i tw), (4, fz_l sm), (6, fz_i x1), (7, fz_i x36), (9, fz_i x40)] [] H50 (qL_law h) := by
          intro n53
          induction n53 with
          | zero => intro x40 H50 hI51 hf52 hRE41 hRV42 hRP243 hXq44 hN45 hS46 hL147 hZ48 hIm49 hv57 hv58 hv59 hv60 hm56; exact absurd hm56 (by omega)
          | succ n53 ih55 =>
            intro x40 H50 hI51 hf52 hRE41 hRV42 hRP243 hXq44 hN45 hS46 hL147 hZ48 hIm49 hv57 hv58 hv59 hv60 hm56
            refine fz_iload kL_law rfl rfl ?_
            refine fz_iload_n kL_law rfl rfl ?_
            refine fz_icmp_ge (tgt := 940) kL_law rfl (by decide) (fun c61 => ?_) (fun c61 => ?_)
            · refine fz_iincN (ls' := [(6, fz_i (x1 + 1)), (0, fz_r 200), (1, fz_r 0), (2, fz_r 53), (3, fz_i tw), (4, fz_l sm), (7, fz_i x36), (9, fz_i x40)]) kL_law rfl (by decide) rfl (by omega) rfl ?_
              refine fz_goto (tgt := 535) kL_law rfl (by decide) ?_
              refine fz_sub (fz_pk_sub (ls' := [(6, fz_i (x1 + 1)), (0, fz_r 200), (1, fz_r 0), (2, fz_r 53), (3, fz_i tw), (4, fz_l sm)]) [0, 1, 2, 3, 4, 5] rfl) ?_
              exact ih16 (x1 + 1) H50 hI51 hf52 hRE41 hRV42 hRP243 hXq44 hN45 hS46 hL147 hZ48 hIm49 (by omega) (by omega)
            · refine sL_l687 h H50 tw sm x1 x36 x40 hI51 hf52 hXq44 hRE41 hRV42 hRP243 hN45 hS46 hL147 hZ48 hIm49 hp0 (by omega) (by omega) (by omega) (by omega) (by omega) (hv60) (fun H63 hI64 hf65 hX66 hRE67 hRV68 hRP269 hN70 hS71 hL172 hZ73 hIm74 f75 f76 => ?_)
              refine fz_iincN (ls' := [(9, fz_i (x40 + 1)), (0, fz_r 200), (1, fz_r 0), (2, fz_r 53), (3, fz_i tw), (4, fz_l sm), (6, fz_i x1), (7, fz_i x36)]) kL_law rfl (by decide) rfl (by omega) rfl ?_
              refine fz_goto (tgt := 681) kL_law rfl (by decide) ?_
              refine fz_sub (fz_pk_sub (ls' := [(0, fz_r 200), (1, fz_r 0), (2, fz_r 53), (3, fz_i tw), (4, fz_l sm), (6, fz_i x1), (7, fz_i x36), (9, fz_i (x40 + 1))]) [1, 2, 3, 4, 5, 6, 7, 0] rfl) ?_
              exact ih55 (x40 + 1) H63 hI64 hf65 hRE67 hRV68 hRP269 hX66 hN70 hS71 hL172 hZ73 hIm74 (by omega) (by omega) (by omega) (f76) (by omega)
        exact lp54 _ 0 H24 hI25 hf26 hRE28 hRV29 hRP230 hX27 hN31 hS32 hL133 hZ34 hIm35 (by omega) (by omega) (by omega) (f39) (Nat.lt_succ_self _)
  exact lp15 _ 0 H hI hf hRE hRV hRP2 hX hN hS hL1 hZ hIm (by omega) (Nat.lt_succ_self _)

set_option maxHeartbeats 1000000 in
set_option maxRecDepth 100000 in
theorem sL_l450 (h H : fz_H) (tw sm x y f c : Int) (hI : fz_Iv H) (hf : fz_fr [(1, 7), (1, 8), (2, 99999), (3, 99999), (4, 99999), (5, 99999), (6, 99999), (7, 99999), (8, 99999), (9, 5), (10, 99999), (11, 99999), (12, 99999), (13, 99999), (14, 99999), (15, 4), (16, 99999), (17, 99999), (18, 99999), (19, 99999), (20, 2), (20, 3), (20, 4), (21, 4), (22, 99999), (23, 99999), (26, 99999), (27, 8), (27, 9), (28, 99999), (29, 99999), (30, 99999), (31, 99999), (32, 99999), (33, 3), (33, 4), (33, 5), (33, 6), (33, 7), (34, 99999), (35, 4), (35, 5), (36, 99999), (37, 99999), (38, 99999), (39, 99999), (40, 1), (40, 2), (40, 3), (40, 4), (40, 5), (40, 6), (41, 99999), (42, 99999), (43, 99999), (44, 2), (45, 99999), (48, 99999), (50, 99999), (51, 99999), (52, 99999), (53, 99999)] h H) (hX : fz_Xc H) (hRE : fz_RE H) (hRV : fz_RV H) (hp0 : 0 ≤ h 200 100000 ∧ h 200 100000 ≤ 3072) (hq0 : 0 ≤ tw ∧ tw ≤ 8) (hq1 : H 1 7 = tw) (hq2 : 0 ≤ x ∧ x < tw) (hq3 : 0 ≤ y ∧ y < tw) (hq4 : -2 ≤ f ∧ f ≤ 10000) (hq5 : f = fz_hr (H 7 (8 * x + y).toNat)) (k : fz_R 48 mL_law 520 [(0, fz_r 200), (1, fz_r 0), (2, fz_r 53), (3, fz_i tw), (4, fz_l sm), (6, fz_i x), (7, fz_i y), (8, fz_i f), (9, fz_i c)] [] H (qL_law h)) : fz_R 48 mL_law 450 [(0, fz_r 200), (1, fz_r 0), (2, fz_r 53), (3, fz_i tw), (4, fz_l sm), (6, fz_i x), (7, fz_i y), (8, fz_i f), (9, fz_i c)] [] H (qL_law h) := by
  refine fz_iconst ⟨by decide, by decide⟩ kL_law rfl ?_
  refine fz_istore (ls' := [(10, fz_i 0), (0, fz_r 200), (1, fz_r 0), (2, fz_r 53), (3, fz_i tw), (4, fz_l sm), (6, fz_i x), (7, fz_i y), (8, fz_i f), (9, fz_i c)]) kL_law rfl (by decide) rfl ?_
  have lp3 : ∀ (n2 : Nat) (x1 : Int), (0 ≤ x1 ∧ x1 ≤ 8) → (tw - x1).toNat < n2 → fz_R 48 mL_law 453 [(10, fz_i x1), (0, fz_r 200), (1, fz_r 0), (2, fz_r 53), (3, fz_i tw), (4, fz_l sm), (6, fz_i x), (7, fz_i y), (8, fz_i f), (9, fz_i c)] [] H (qL_law h) := by
    intro n2
    induction n2 with
    | zero => intro x1 hv6 hm5; exact absurd hm5 (by omega)
    | succ n2 ih4 =>
      intro x1 hv6 hm5
      refine fz_iload kL_law rfl rfl ?_
      refine fz_iload_n kL_law rfl rfl ?_
      refine fz_icmp_ge (tgt := 520) kL_law rfl (by decide) (fun c7 => ?_) (fun c7 => ?_)
      · refine fz_sub (fz_pk_sub (ls' := [(0, fz_r 200), (1, fz_r 0), (2, fz_r 53), (3, fz_i tw), (4, fz_l sm), (6, fz_i x), (7, fz_i y), (8, fz_i f), (9, fz_i c)]) [1, 2, 3, 4, 5, 6, 7, 8, 9] rfl) ?_
        exact k  
      · refine fz_iload kL_law rfl rfl ?_
        refine fz_if_lt (tgt := 514) kL_law rfl (by decide) (fun c8 => ?_) (fun c8 => ?_)
        · refine fz_iincN (ls' := [(10, fz_i (x1 + 1)), (0, fz_r 200), (1, fz_r 0), (2, fz_r 53), (3, fz_i tw), (4, fz_l sm), (6, fz_i x), (7, fz_i y), (8, fz_i f), (9, fz_i c)]) kL_law rfl (by decide) rfl (by omega) rfl ?_
          refine fz_goto (tgt := 453) kL_law rfl (by decide) ?_
          exact ih4 (x1 + 1) (by omega) (by omega)
        · refine fz_aload_n kL_law rfl rfl ?_
          refine fz_bipush ⟨by decide, by decide⟩ kL_law rfl ?_
          refine fz_iload kL_law rfl rfl ?_
          refine fz_imulN kL_law rfl (by omega) ?_
          refine fz_iload kL_law rfl rfl ?_
          refine fz_iaddN kL_law rfl (by omega) ?_
          refine fz_iconst ⟨by decide, by decide⟩ kL_law rfl ?_
          refine fz_callV (d' := 2) (M' := mX10_way) (As := [fz_i ((10 * y) + x1), fz_i 0]) (st := []) kL_law rfl rfl vX10_way rfl rfl rfl rfl (Nat.le_of_ble_eq_true rfl) (Nat.le_of_ble_eq_true rfl) (by decide) (sX10_way H hI ((10 * y) + x1) 0 ) (fun H9 r10 q11 o12 => ?_)
          obtain ⟨e13, y16, rfl, f14, f15⟩ := q11
          subst H9
          clear o12
          have k17 := wf_wy0 (x := y) (y := x1) (by omega) (by omega) (by omega) f15
          refine fz_if_lt (tgt := 514) kL_law rfl (by decide) (fun c19 => ?_) (fun c19 => ?_)
          · refine fz_iincN (ls' := [(10, fz_i (x1 + 1)), (0, fz_r 200), (1, fz_r 0), (2, fz_r 53), (3, fz_i tw), (4, fz_l sm), (6, fz_i x), (7, fz_i y), (8, fz_i f), (9, fz_i c)]) kL_law rfl (by decide) rfl (by omega) rfl ?_
            refine fz_goto (tgt := 453) kL_law rfl (by decide) ?_
            exact ih4 (x1 + 1) (by omega) (by omega)
          · refine fz_aload_n kL_law rfl rfl ?_
            refine fz_bipush ⟨by decide, by decide⟩ kL_law rfl ?_
            refine fz_iload kL_law rfl rfl ?_
            refine fz_imulN kL_law rfl (by omega) ?_
            refine fz_iload kL_law rfl rfl ?_
            refine fz_iaddN kL_law rfl (by omega) ?_
            refine fz_iconst ⟨by decide, by decide⟩ kL_law rfl ?_
            refine fz_callV (d' := 2) (M' := mX10_way) (As := [fz_i ((10 * x) + x1), fz_i 0]) (st := []) kL_law rfl rfl vX10_way rfl rfl rfl rfl (Nat.le_of_ble_eq_true rfl) (Nat.le_of_ble_eq_true rfl) (by decide) (sX10_way H hI ((10 * x) + x1) 0 ) (fun H20 r21 q22 o23 => ?_)
            obtain ⟨e24, y27, rfl, f25, f26⟩ := q22
            subst H20
            clear o23
            have k28 := wf_wy0 (x := x) (y := x1) (by omega) (by omega) (by omega) f26
            refine fz_iload kL_law rfl rfl ?_
            refine fz_aload_n kL_law rfl rfl ?_
            refine fz_bipush ⟨by decide, by decide⟩ kL_law rfl ?_
            refine fz_iload kL_law rfl rfl ?_
            refine fz_imulN kL_law rfl (by omega) ?_
            refine fz_iload kL_law rfl rfl ?_
            refine fz_iaddN kL_law rfl (by omega) ?_
            refine fz_iconst ⟨by decide, by decide⟩ kL_law rfl ?_
            refine fz_callV (d' := 2) (M' := mX10_way) (As := [fz_i ((10 * y) + x1), fz_i 0]) (st := [fz_i f, fz_i y27]) kL_law rfl rfl vX10_way rfl rfl rfl rfl (Nat.le_of_ble_eq_true rfl) (Nat.le_of_ble_eq_true rfl) (by decide) (sX10_way H hI ((10 * y) + x1) 0 ) (fun H30 r31 q32 o33 => ?_)
            obtain ⟨e34, y37, rfl, f35, f36⟩ := q32
            subst H30
            clear o33
            have k38 := wf_wy0 (x := y) (y := x1) (by omega) (by omega) (by omega) f36
            refine fz_iaddN kL_law rfl (by omega) ?_
            have k40 := wf_t0 hI hRV (x := x) (y := y) (z := x1) (by omega) (by omega) (by omega) (by omega) (by omega)
            refine fz_icmp_le (tgt := 514) kL_law rfl (by decide) (fun c41 => ?_) (fun c41 => ?_)
            · refine fz_iincN (ls' := [(10, fz_i (x1 + 1)), (0, fz_r 200), (1, fz_r 0), (2, fz_r 53), (3, fz_i tw), (4, fz_l sm), (6, fz_i x), (7, fz_i y), (8, fz_i f), (9, fz_i c)]) kL_law rfl (by decide) rfl (by omega) rfl ?_
              refine fz_goto (tgt := 453) kL_law rfl (by decide) ?_
              exact ih4 (x1 + 1) (by omega) (by omega)
            · exfalso; omega
  exact lp3 _ 0 (by omega) (Nat.lt_succ_self _)

set_option maxHeartbeats 1000000 in
set_option maxRecDepth 100000 in
theorem sL_l337 (h H : fz_H) (tw sm : Int) (hI : fz_Iv H) (hf : fz_fr [(1, 7), (1, 8), (2, 99999), (3, 99999), (4, 99999), (5, 99999), (6, 99999), (7, 99999), (8, 99999), (9, 5), (10, 99999), (11, 99999), (12, 99999), (13, 99999), (14, 99999), (15, 4), (16, 99999), (17, 99999), (18, 99999), (19, 99999), (20, 2), (20, 3), (20, 4), (21, 4), (22, 99999), (23, 99999), (26, 99999), (27, 8), (27, 9), (28, 99999), (29, 99999), (30, 99999), (31, 99999), (32, 99999), (33, 3), (33, 4), (33, 5), (33, 6), (33, 7), (34, 99999), (35, 4), (35, 5), (36, 99999), (37, 99999), (38, 99999), (39, 99999), (40, 1), (40, 2), (40, 3), (40, 4), (40, 5), (40, 6), (41, 99999), (42, 99999), (43, 99999), (44, 2), (45, 99999), (48, 99999), (50, 99999), (51, 99999), (52, 99999), (53, 99999)] h H) (hX : fz_Xc H) (hRE : fz_RE H) (hRV : fz_RV H) (hRP2 : fz_RP2 H) (hN : st_N tw H) (hS : st_S sm H) (hL1 : st_L1 H) (hZ : st_Z H) (hIm : st_Im H) (hp0 : 0 ≤ h 200 100000 ∧ h 200 100000 ≤ 3072) (hq0 : 0 ≤ tw ∧ tw ≤ 8) : fz_R 48 mL_law 337 [(0, fz_r 200), (1, fz_r 0), (2, fz_r 53), (3, fz_i tw), (4, fz_l sm)] [] H (qL_law h) := by
  have k1 := st_N_e hI hN
  refine fz_iconst ⟨by decide, by decide⟩ kL_law rfl ?_
  refine fz_istore (ls' := [(6, fz_i 0), (0, fz_r 200), (1, fz_r 0), (2, fz_r 53), (3, fz_i tw), (4, fz_l sm)]) kL_law rfl (by decide) rfl ?_
  have lp4 : ∀ (n3 : Nat) (x2 : Int), (0 ≤ x2 ∧ x2 ≤ 8) → (tw - x2).toNat < n3 → fz_R 48 mL_law 340 [(6, fz_i x2), (0, fz_r 200), (1, fz_r 0), (2, fz_r 53), (3, fz_i tw), (4, fz_l sm)] [] H (qL_law h) := by
    intro n3
    induction n3 with
    | zero => intro x2 hv7 hm6; exact absurd hm6 (by omega)
    | succ n3 ih5 =>
      intro x2 hv7 hm6
      refine fz_iload kL_law rfl rfl ?_
      refine fz_iload_n kL_law rfl rfl ?_
      refine fz_icmp_ge (tgt := 532) kL_law rfl (by decide) (fun c8 => ?_) (fun c8 => ?_)
      · refine fz_sub (fz_pk_sub (ls' := [(0, fz_r 200), (1, fz_r 0), (2, fz_r 53), (3, fz_i tw), (4, fz_l sm)]) [1, 2, 3, 4, 5] rfl) ?_
        exact sL_l532 h H tw sm hI hf hX hRE hRV hRP2 hN hS hL1 hZ hIm hp0 (by omega)
      · refine fz_iconst ⟨by decide, by decide⟩ kL_law rfl ?_
        refine fz_istore (ls' := [(7, fz_i 0), (6, fz_i x2), (0, fz_r 200), (1, fz_r 0), (2, fz_r 53), (3, fz_i tw), (4, fz_l sm)]) kL_law rfl (by decide) rfl ?_
        have lp11 : ∀ (n10 : Nat) (x9 : Int), (0 ≤ x9 ∧ x9 ≤ 8) → (tw - x9).toNat < n10 → fz_R 48 mL_law 349 [(7, fz_i x9), (6, fz_i x2), (0, fz_r 200), (1, fz_r 0), (2, fz_r 53), (3, fz_i tw), (4, fz_l sm)] [] H (qL_law h) := by
          intro n10
          induction n10 with
          | zero => intro x9 hv14 hm13; exact absurd hm13 (by omega)
          | succ n10 ih12 =>
            intro x9 hv14 hm13
            refine fz_iload kL_law rfl rfl ?_
            refine fz_iload_n kL_law rfl rfl ?_
            refine fz_icmp_ge (tgt := 526) kL_law rfl (by decide) (fun c15 => ?_) (fun c15 => ?_)
            · refine fz_iincN (ls' := [(6, fz_i (x2 + 1)), (7, fz_i x9), (0, fz_r 200), (1, fz_r 0), (2, fz_r 53), (3, fz_i tw), (4, fz_l sm)]) kL_law rfl (by decide) rfl (by omega) rfl ?_
              refine fz_goto (tgt := 340) kL_law rfl (by decide) ?_
              refine fz_sub (fz_pk_sub (ls' := [(6, fz_i (x2 + 1)), (0, fz_r 200), (1, fz_r 0), (2, fz_r 53), (3, fz_i tw), (4, fz_l sm)]) [0, 2, 3, 4, 5, 6] rfl) ?_
              exact ih5 (x2 + 1) (by omega) (by omega)
            · refine fz_aload_n kL_law rfl rfl ?_
              refine fz_bipush ⟨by decide, by decide⟩ kL_law rfl ?_
              refine fz_iload kL_law rfl rfl ?_
              refine fz_imulN kL_law rfl (by omega) ?_
              refine fz_iload kL_law rfl rfl ?_
              refine fz_iaddN kL_law rfl (by omega) ?_
              refine fz_iconst ⟨by decide, by decide⟩ kL_law rfl ?_
              refine fz_callV (d' := 2) (M' := mX10_way) (As := [fz_i ((10 * x2) + x9), fz_i 0]) (st := []) kL_law rfl rfl vX10_way rfl rfl rfl rfl (Nat.le_of_ble_eq_true rfl) (Nat.le_of_ble_eq_true rfl) (by decide) (sX10_way H hI ((10 * x2) + x9) 0 ) (fun H16 r17 q18 o19 => ?_)
              obtain ⟨e20, y23, rfl, f21, f22⟩ := q18
              subst H16
              clear o19
              have k24 := wf_wy0 (x := x2) (y := x9) (by omega) (by omega) (by omega) f22
              refine fz_istore (ls' := [(8, fz_i y23), (7, fz_i x9), (6, fz_i x2), (0, fz_r 200), (1, fz_r 0), (2, fz_r 53), (3, fz_i tw), (4, fz_l sm)]) kL_law rfl (by decide) rfl ?_
              refine fz_aload_n kL_law rfl rfl ?_
              refine fz_bipush ⟨by decide, by decide⟩ kL_law rfl ?_
              refine fz_iload kL_law rfl rfl ?_
              refine fz_imulN kL_law rfl (by omega) ?_
              refine fz_iload kL_law rfl rfl ?_
              refine fz_iaddN kL_law rfl (by omega) ?_
              refine fz_iconst ⟨by decide, by decide⟩ kL_law rfl ?_
              refine fz_callV (d' := 2) (M' := mX10_way) (As := [fz_i ((10 * x2) + x9), fz_i 1]) (st := []) kL_law rfl rfl vX10_way rfl rfl rfl rfl (Nat.le_of_ble_eq_true rfl) (Nat.le_of_ble_eq_true rfl) (by decide) (sX10_way H hI ((10 * x2) + x9) 1 ) (fun H26 r27 q28 o29 => ?_)
              obtain ⟨e30, y33, rfl, f31, f32⟩ := q28
              subst H26
              clear o29
              have k34 := wf_wy1 (x := x2) (y := x9) (by omega) (by omega) (by omega) f32
              refine fz_istore (ls' := [(9, fz_i y33), (8, fz_i y23), (7, fz_i x9), (6, fz_i x2), (0, fz_r 200), (1, fz_r 0), (2, fz_r 53), (3, fz_i tw), (4, fz_l sm)]) kL_law rfl (by decide) rfl ?_
              refine fz_iload kL_law rfl rfl ?_
              refine fz_aload_n kL_law rfl rfl ?_
              refine fz_bipush ⟨by decide, by decide⟩ kL_law rfl ?_
              refine fz_iload kL_law rfl rfl ?_
              refine fz_imulN kL_law rfl (by omega) ?_
              refine fz_iload kL_law rfl rfl ?_
              refine fz_iaddN kL_law rfl (by omega) ?_
              refine fz_iconst ⟨by decide, by decide⟩ kL_law rfl ?_
              refine fz_callV (d' := 2) (M' := mX10_way) (As := [fz_i ((10 * x9) + x2), fz_i 0]) (st := [fz_i y23]) kL_law rfl rfl vX10_way rfl rfl rfl rfl (Nat.le_of_ble_eq_true rfl) (Nat.le_of_ble_eq_true rfl) (by decide) (sX10_way H hI ((10 * x9) + x2) 0 ) (fun H36 r37 q38 o39 => ?_)
              obtain ⟨e40, y43, rfl, f41, f42⟩ := q38
              subst H36
              clear o39
              have k44 := wf_wy0 (x := x9) (y := x2) (by omega) (by omega) (by omega) f42
              have k46 : y23 = y43 := k24.trans ((congrArg fz_hr (wf_sy0 hRV (x := x2) (y := x9) (by omega) (by omega))).trans k44.symm)
              refine fz_icmp_ne (tgt := 448) kL_law rfl (by decide) (fun c47 => ?_) (fun c47 => ?_)
              · exfalso; omega
              · refine fz_iload kL_law rfl rfl ?_
                refine fz_aload_n kL_law rfl rfl ?_
                refine fz_bipush ⟨by decide, by decide⟩ kL_law rfl ?_
                refine fz_iload kL_law rfl rfl ?_
                refine fz_imulN kL_law rfl (by omega) ?_
                refine fz_iload kL_law rfl rfl ?_
                refine fz_iaddN kL_law rfl (by omega) ?_
                refine fz_iconst ⟨by decide, by decide⟩ kL_law rfl ?_
                refine fz_callV (d' := 2) (M' := mX10_way) (As := [fz_i ((10 * x9) + x2), fz_i 1]) (st := [fz_i y33]) kL_law rfl rfl vX10_way rfl rfl rfl rfl (Nat.le_of_ble_eq_true rfl) (Nat.le_of_ble_eq_true rfl) (by decide) (sX10_way H hI ((10 * x9) + x2) 1 ) (fun H48 r49 q50 o51 => ?_)
                obtain ⟨e52, y55, rfl, f53, f54⟩ := q50
                subst H48
                clear o51
                have k56 := wf_wy1 (x := x9) (y := x2) (by omega) (by omega) (by omega) f54
                have k58 : y33 = y55 := k34.trans ((congrArg fz_hr (wf_sy1 hRV (x := x2) (y := x9) (by omega) (by omega))).trans k56.symm)
                refine fz_icmp_ne (tgt := 448) kL_law rfl (by decide) (fun c59 => ?_) (fun c59 => ?_)
                · exfalso; omega
                · refine fz_iload kL_law rfl rfl ?_
                  refine fz_iload kL_law rfl rfl ?_
                  refine fz_icmp_ne (tgt := 438) kL_law rfl (by decide) (fun c60 => ?_) (fun c60 => ?_)
                  · refine fz_iload kL_law rfl rfl ?_
                    refine fz_if_lt (tgt := 450) kL_law rfl (by decide) (fun c61 => ?_) (fun c61 => ?_)
                    · refine fz_sub (fz_pk_sub (ls' := [(0, fz_r 200), (1, fz_r 0), (2, fz_r 53), (3, fz_i tw), (4, fz_l sm), (6, fz_i x2), (7, fz_i x9), (8, fz_i y23), (9, fz_i y33)]) [4, 5, 6, 7, 8, 3, 2, 1, 0] rfl) ?_
                      refine sL_l450 h H tw sm x2 x9 y23 y33 hI hf hX hRE hRV hp0 (by omega) (by omega) (by omega) (by omega) (by omega) (k24) ?_
                      refine fz_iincN (ls' := [(7, fz_i (x9 + 1)), (0, fz_r 200), (1, fz_r 0), (2, fz_r 53), (3, fz_i tw), (4, fz_l sm), (6, fz_i x2), (8, fz_i y23), (9, fz_i y33)]) kL_law rfl (by decide) rfl (by omega) rfl ?_
                      refine fz_goto (tgt := 349) kL_law rfl (by decide) ?_
                      refine fz_sub (fz_pk_sub (ls' := [(7, fz_i (x9 + 1)), (6, fz_i x2), (0, fz_r 200), (1, fz_r 0), (2, fz_r 53), (3, fz_i tw), (4, fz_l sm)]) [0, 6, 1, 2, 3, 4, 5] rfl) ?_
                      exact ih12 (x9 + 1) (by omega) (by omega)
                    · have k69 := wf_feet hI hRV (a := x2) (b := x9) (by omega) (by omega) (by omega)
                      refine fz_iload kL_law rfl rfl ?_
                      refine fz_if_ge (tgt := 450) kL_law rfl (by decide) (fun c70 => ?_) (fun c70 => ?_)
                      · refine fz_sub (fz_pk_sub (ls' := [(0, fz_r 200), (1, fz_r 0), (2, fz_r 53), (3, fz_i tw), (4, fz_l sm), (6, fz_i x2), (7, fz_i x9), (8, fz_i y23), (9, fz_i y33)]) [4, 5, 6, 7, 8, 3, 2, 1, 0] rfl) ?_
                        refine sL_l450 h H tw sm x2 x9 y23 y33 hI hf hX hRE hRV hp0 (by omega) (by omega) (by omega) (by omega) (by omega) (k24) ?_
                        refine fz_iincN (ls' := [(7, fz_i (x9 + 1)), (0, fz_r 200), (1, fz_r 0), (2, fz_r 53), (3, fz_i tw), (4, fz_l sm), (6, fz_i x2), (8, fz_i y23), (9, fz_i y33)]) kL_law rfl (by decide) rfl (by omega) rfl ?_
                        refine fz_goto (tgt := 349) kL_law rfl (by decide) ?_
                        refine fz_sub (fz_pk_sub (ls' := [(7, fz_i (x9 + 1)), (6, fz_i x2), (0, fz_r 200), (1, fz_r 0), (2, fz_r 53), (3, fz_i tw), (4, fz_l sm)]) [0, 6, 1, 2, 3, 4, 5] rfl) ?_
                        exact ih12 (x9 + 1) (by omega) (by omega)
                      · exfalso; omega
                  · have k78 := wf_di0 hRV (x := x2) (y := x9) (by omega) (by omega)
                    have k79 := wf_di1 hRV (x := x2) (y := x9) (by omega) (by omega)
                    refine fz_iload kL_law rfl rfl ?_
                    refine fz_if_ne (tgt := 448) kL_law rfl (by decide) (fun c80 => ?_) (fun c80 => ?_)
                    · exfalso; omega
                    · refine fz_iload kL_law rfl rfl ?_
                      refine fz_if_ne (tgt := 448) kL_law rfl (by decide) (fun c81 => ?_) (fun c81 => ?_)
                      · exfalso; omega
                      · refine fz_iload kL_law rfl rfl ?_
                        refine fz_if_lt (tgt := 450) kL_law rfl (by decide) (fun c82 => ?_) (fun c82 => ?_)
                        · exfalso; omega
                        · have k83 := wf_feet hI hRV (a := x2) (b := x9) (by omega) (by omega) (by omega)
                          refine fz_iload kL_law rfl rfl ?_
                          refine fz_if_ge (tgt := 450) kL_law rfl (by decide) (fun c84 => ?_) (fun c84 => ?_)
                          · refine fz_sub (fz_pk_sub (ls' := [(0, fz_r 200), (1, fz_r 0), (2, fz_r 53), (3, fz_i tw), (4, fz_l sm), (6, fz_i x2), (7, fz_i x9), (8, fz_i y23), (9, fz_i y33)]) [4, 5, 6, 7, 8, 3, 2, 1, 0] rfl) ?_
                            refine sL_l450 h H tw sm x2 x9 y23 y33 hI hf hX hRE hRV hp0 (by omega) (by omega) (by omega) (by omega) (by omega) (k24) ?_
                            refine fz_iincN (ls' := [(7, fz_i (x9 + 1)), (0, fz_r 200), (1, fz_r 0), (2, fz_r 53), (3, fz_i tw), (4, fz_l sm), (6, fz_i x2), (8, fz_i y23), (9, fz_i y33)]) kL_law rfl (by decide) rfl (by omega) rfl ?_
                            refine fz_goto (tgt := 349) kL_law rfl (by decide) ?_
                            refine fz_sub (fz_pk_sub (ls' := [(7, fz_i (x9 + 1)), (6, fz_i x2), (0, fz_r 200), (1, fz_r 0), (2, fz_r 53), (3, fz_i tw), (4, fz_l sm)]) [0, 6, 1, 2, 3, 4, 5] rfl) ?_
                            exact ih12 (x9 + 1) (by omega) (by omega)
                          · exfalso; omega
        exact lp11 _ 0 (by omega) (Nat.lt_succ_self _)
  exact lp4 _ 0 (by omega) (Nat.lt_succ_self _)

set_option maxHeartbeats 1000000 in
set_option maxRecDepth 100000 in
theorem sL_l306 (h H : fz_H) (tw sm : Int) (hI : fz_Iv H) (hf : fz_fr [(1, 7), (1, 8), (2, 99999), (3, 99999), (4, 99999), (5, 99999), (6, 99999), (7, 99999), (8, 99999), (9, 5), (10, 99999), (11, 99999), (12, 99999), (13, 99999), (14, 99999), (15, 4), (16, 99999), (17, 99999), (18, 99999), (19, 99999), (20, 2), (20, 3), (20, 4), (21, 4), (22, 99999), (23, 99999), (26, 99999), (27, 8), (27, 9), (28, 99999), (29, 99999), (30, 99999), (31, 99999), (32, 99999), (33, 3), (33, 4), (33, 5), (33, 6), (33, 7), (34, 99999), (35, 4), (35, 5), (36, 99999), (37, 99999), (38, 99999), (39, 99999), (40, 1), (40, 2), (40, 3), (40, 4), (40, 5), (40, 6), (41, 99999), (42, 99999), (43, 99999), (44, 2), (45, 99999), (48, 99999), (50, 99999), (51, 99999), (52, 99999), (53, 99999)] h H) (hX : fz_Xc H) (hRE : fz_RE H) (hRV : fz_RV H) (hRP2 : fz_RP2 H) (hN : st_N tw H) (hS : st_S sm H) (hL1 : st_L1 H) (hZ : st_Z H) (hIm : st_Im H) (hp0 : 0 ≤ h 200 100000 ∧ h 200 100000 ≤ 3072) (hq0 : 0 ≤ tw ∧ tw ≤ 8) : fz_R 48 mL_law 306 [(0, fz_r 200), (1, fz_r 0), (2, fz_r 53), (3, fz_i tw), (4, fz_l sm)] [] H (qL_law h) := by
  have k1 := st_N_e hI hN
  refine fz_aload_n kL_law rfl rfl ?_
  refine fz_bipush ⟨by decide, by decide⟩ kL_law rfl ?_
  have b2 : 0 ≤ H 20 2 ∧ H 20 2 ≤ 120 := hI.1 20 _
  refine fz_callV (d' := 1) (M' := mX10_feed) (As := [fz_i 40]) (st := []) kL_law rfl rfl vX10_feed rfl rfl rfl rfl (Nat.le_of_ble_eq_true rfl) (Nat.le_of_ble_eq_true rfl) (by decide) (sX10_feed H hI 40 ) (fun H3 r4 q5 o6 => ?_)
  obtain ⟨hI7, hf8, y13, rfl, f9, f10, f11, f12⟩ := q5
  clear o6
  have hf14 := fz_fr_tr hf hf8 (show fz_su [(20, 2), (26, 99999)] [(1, 7), (1, 8), (2, 99999), (3, 99999), (4, 99999), (5, 99999), (6, 99999), (7, 99999), (8, 99999), (9, 5), (10, 99999), (11, 99999), (12, 99999), (13, 99999), (14, 99999), (15, 4), (16, 99999), (17, 99999), (18, 99999), (19, 99999), (20, 2), (20, 3), (20, 4), (21, 4), (22, 99999), (23, 99999), (26, 99999), (27, 8), (27, 9), (28, 99999), (29, 99999), (30, 99999), (31, 99999), (32, 99999), (33, 3), (33, 4), (33, 5), (33, 6), (33, 7), (34, 99999), (35, 4), (35, 5), (36, 99999), (37, 99999), (38, 99999), (39, 99999), (40, 1), (40, 2), (40, 3), (40, 4), (40, 5), (40, 6), (41, 99999), (42, 99999), (43, 99999), (44, 2), (45, 99999), (48, 99999), (50, 99999), (51, 99999), (52, 99999), (53, 99999)] = true from rfl)
  have hRE15 : fz_RE H3 := fz_RE_eq (funext fun s => hf8 5 s rfl) (funext fun s => hf8 6 s rfl) (hf8 1 8 rfl) (hf8 1 7 rfl) hRE
  have hRV16 : fz_RV H3 := fz_RV_eq (funext fun s => hf8 7 s rfl) (funext fun s => hf8 8 s rfl) (funext fun s => hf8 3 s rfl) (funext fun s => hf8 4 s rfl) (funext fun s => hf8 5 s rfl) (funext fun s => hf8 6 s rfl) (hf8 1 7 rfl) (hf8 1 8 rfl) hRV
  have hRP217 : fz_RP2 H3 := fz_RP2_eq (funext fun s => hf8 11 s rfl) (hf8 9 5 rfl) (hf8 1 7 rfl) hRP2
  have hL118 : st_L1 H3 := st_L1_eq (funext fun s => hf8 3 s rfl) (hf8 1 8 rfl) hL1
  have hZ19 : st_Z H3 := st_Z_eq (hf8 40 1 rfl) (hf8 40 2 rfl) (hf8 40 3 rfl) (hf8 40 4 rfl) (hf8 40 5 rfl) (funext fun s => hf8 41 s rfl) hZ
  have hIm20 : st_Im H3 := st_Im_eq (hf8 40 6 rfl) (funext fun s => hf8 43 s rfl) (funext fun s => hf8 42 s rfl) hIm
  have hX21 : fz_Xc H3 := fz_Xc_fr hf8 rfl hX
  have t22 : H3 9 5 = H 9 5 := hf8 9 5 rfl
  have t23 : H3 1 7 = H 1 7 := hf8 1 7 rfl
  have t24 : H3 1 8 = H 1 8 := hf8 1 8 rfl
  have t25 : H3 48 0 = H 48 0 := hf8 48 0 rfl
  have t26 : H3 50 0 = H 50 0 := hf8 50 0 rfl
  have t27 : H3 51 0 = H 51 0 := hf8 51 0 rfl
  have nm28 : fz_nm H3 = fz_nm H := (fz_nm_fr rfl hf8).trans rfl
  have hS29 : st_S sm H3 := st_S_fr rfl hf8 hS
  refine fz_iconst ⟨by decide, by decide⟩ kL_law rfl ?_
  refine fz_icmp_ne (tgt := 335) kL_law rfl (by decide) (fun c30 => ?_) (fun c30 => ?_)
  · exfalso; omega
  · refine fz_aload_n kL_law rfl rfl ?_
    refine fz_callV (d' := 46) (M' := mX10_law) (As := []) (st := []) kL_law rfl rfl vX10_law rfl rfl rfl rfl (Nat.le_of_ble_eq_true rfl) (Nat.le_of_ble_eq_true rfl) (by decide) (sX10_law H3 hI7  ) (fun H31 r32 q33 o34 => ?_)
    obtain ⟨hI35, hf36, y40, rfl, f37, f38, f39⟩ := q33
    clear o34
    have hf41 := fz_fr_tr hf14 hf36 (show fz_su [(15, 4), (16, 99999), (17, 99999), (20, 2), (20, 3), (20, 4), (21, 4), (22, 99999), (23, 99999)] [(1, 7), (1, 8), (2, 99999), (3, 99999), (4, 99999), (5, 99999), (6, 99999), (7, 99999), (8, 99999), (9, 5), (10, 99999), (11, 99999), (12, 99999), (13, 99999), (14, 99999), (15, 4), (16, 99999), (17, 99999), (18, 99999), (19, 99999), (20, 2), (20, 3), (20, 4), (21, 4), (22, 99999), (23, 99999), (26, 99999), (27, 8), (27, 9), (28, 99999), (29, 99999), (30, 99999), (31, 99999), (32, 99999), (33, 3), (33, 4), (33, 5), (33, 6), (33, 7), (34, 99999), (35, 4), (35, 5), (36, 99999), (37, 99999), (38, 99999), (39, 99999), (40, 1), (40, 2), (40, 3), (40, 4), (40, 5), (40, 6), (41, 99999), (42, 99999), (43, 99999), (44, 2), (45, 99999), (48, 99999), (50, 99999), (51, 99999), (52, 99999), (53, 99999)] = true from rfl)
    have hRE42 : fz_RE H31 := fz_RE_eq (funext fun s => hf36 5 s rfl) (funext fun s => hf36 6 s rfl) (hf36 1 8 rfl) (hf36 1 7 rfl) hRE15
    have hRV43 : fz_RV H31 := fz_RV_eq (funext fun s => hf36 7 s rfl) (funext fun s => hf36 8 s rfl) (funext fun s => hf36 3 s rfl) (funext fun s => hf36 4 s rfl) (funext fun s => hf36 5 s rfl) (funext fun s => hf36 6 s rfl) (hf36 1 7 rfl) (hf36 1 8 rfl) hRV16
    have hRP244 : fz_RP2 H31 := fz_RP2_eq (funext fun s => hf36 11 s rfl) (hf36 9 5 rfl) (hf36 1 7 rfl) hRP217
    have hL145 : st_L1 H31 := st_L1_eq (funext fun s => hf36 3 s rfl) (hf36 1 8 rfl) hL118
    have hZ46 : st_Z H31 := st_Z_eq (hf36 40 1 rfl) (hf36 40 2 rfl) (hf36 40 3 rfl) (hf36 40 4 rfl) (hf36 40 5 rfl) (funext fun s => hf36 41 s rfl) hZ19
    have hIm47 : st_Im H31 := st_Im_eq (hf36 40 6 rfl) (funext fun s => hf36 43 s rfl) (funext fun s => hf36 42 s rfl) hIm20
    have hX48 : fz_Xc H31 := fz_Xc_fr hf36 rfl hX21
    have t49 : H31 9 5 = H3 9 5 := hf36 9 5 rfl
    have t50 : H31 1 7 = H3 1 7 := hf36 1 7 rfl
    have t51 : H31 1 8 = H3 1 8 := hf36 1 8 rfl
    have t52 : H31 48 0 = H3 48 0 := hf36 48 0 rfl
    have t53 : H31 50 0 = H3 50 0 := hf36 50 0 rfl
    have t54 : H31 51 0 = H3 51 0 := hf36 51 0 rfl
    have k55 := st_paren f11 (by omega) (by omega) f39
    have k57 := k55.1
    have hS58 : st_S sm H31 := st_S_nm (st_nm_law hf36 k55.2.1 k55.2.2.1 k55.2.2.2) hS29
    have hN60 : st_N tw H31 := st_N_2 hN ((hf36 53 0 rfl).trans (hf8 53 0 rfl)) ((hf36 53 1 rfl).trans (hf8 53 1 rfl)) ((hf36 53 2 rfl).trans (hf8 53 2 rfl)) ((hf36 1 7 rfl).trans (hf8 1 7 rfl)) ((hf36 1 8 rfl).trans (hf8 1 8 rfl)) ((hf36 9 5 rfl).trans (hf8 9 5 rfl)) ((hf36 35 4 rfl).trans (hf8 35 4 rfl)) (by omega)
    refine fz_bipush ⟨by decide, by decide⟩ kL_law rfl ?_
    refine fz_icmp_ne (tgt := 335) kL_law rfl (by decide) (fun c62 => ?_) (fun c62 => ?_)
    · exfalso; omega
    · refine fz_aload_n kL_law rfl rfl ?_
      refine fz_callS (d' := 7) (M' := mL_told) (As := [fz_r 0]) (st := []) kL_law rfl rfl vL_told rfl rfl (Nat.le_of_ble_eq_true rfl) (Nat.le_of_ble_eq_true rfl) (by decide) (sL_told H31 hI35  ) (fun H63 r64 q65 o66 => ?_)
      obtain ⟨hI67, hf68, y71, rfl, f69, f70⟩ := q65
      clear o66
      have hf72 := fz_fr_tr hf41 hf68 (show fz_su [(18, 99999), (19, 99999), (29, 99999), (30, 99999), (32, 99999)] [(1, 7), (1, 8), (2, 99999), (3, 99999), (4, 99999), (5, 99999), (6, 99999), (7, 99999), (8, 99999), (9, 5), (10, 99999), (11, 99999), (12, 99999), (13, 99999), (14, 99999), (15, 4), (16, 99999), (17, 99999), (18, 99999), (19, 99999), (20, 2), (20, 3), (20, 4), (21, 4), (22, 99999), (23, 99999), (26, 99999), (27, 8), (27, 9), (28, 99999), (29, 99999), (30, 99999), (31, 99999), (32, 99999), (33, 3), (33, 4), (33, 5), (33, 6), (33, 7), (34, 99999), (35, 4), (35, 5), (36, 99999), (37, 99999), (38, 99999), (39, 99999), (40, 1), (40, 2), (40, 3), (40, 4), (40, 5), (40, 6), (41, 99999), (42, 99999), (43, 99999), (44, 2), (45, 99999), (48, 99999), (50, 99999), (51, 99999), (52, 99999), (53, 99999)] = true from rfl)
      have k73 : H63 20 2 = 0 := (hf68 20 2 rfl).trans f38
      have hRE74 : fz_RE H63 := fz_RE_eq (funext fun s => hf68 5 s rfl) (funext fun s => hf68 6 s rfl) (hf68 1 8 rfl) (hf68 1 7 rfl) hRE42
      have hRV75 : fz_RV H63 := fz_RV_eq (funext fun s => hf68 7 s rfl) (funext fun s => hf68 8 s rfl) (funext fun s => hf68 3 s rfl) (funext fun s => hf68 4 s rfl) (funext fun s => hf68 5 s rfl) (funext fun s => hf68 6 s rfl) (hf68 1 7 rfl) (hf68 1 8 rfl) hRV43
      have hRP276 : fz_RP2 H63 := fz_RP2_eq (funext fun s => hf68 11 s rfl) (hf68 9 5 rfl) (hf68 1 7 rfl) hRP244
      have hN77 : st_N tw H63 := st_N_eq (hf68 53 0 rfl) (hf68 53 1 rfl) (hf68 53 2 rfl) (hf68 1 7 rfl) (hf68 1 8 rfl) (hf68 9 5 rfl) (hf68 35 4 rfl) (hf68 20 2 rfl) hN60
      have hL178 : st_L1 H63 := st_L1_eq (funext fun s => hf68 3 s rfl) (hf68 1 8 rfl) hL145
      have hZ79 : st_Z H63 := st_Z_eq (hf68 40 1 rfl) (hf68 40 2 rfl) (hf68 40 3 rfl) (hf68 40 4 rfl) (hf68 40 5 rfl) (funext fun s => hf68 41 s rfl) hZ46
      have hIm80 : st_Im H63 := st_Im_eq (hf68 40 6 rfl) (funext fun s => hf68 43 s rfl) (funext fun s => hf68 42 s rfl) hIm47
      have hX81 : fz_Xc H63 := fz_Xc_fr hf68 rfl hX48
      have t82 : H63 9 5 = H31 9 5 := hf68 9 5 rfl
      have t83 : H63 1 7 = H31 1 7 := hf68 1 7 rfl
      have t84 : H63 1 8 = H31 1 8 := hf68 1 8 rfl
      have t85 : H63 48 0 = H31 48 0 := hf68 48 0 rfl
      have t86 : H63 50 0 = H31 50 0 := hf68 50 0 rfl
      have t87 : H63 51 0 = H31 51 0 := hf68 51 0 rfl
      have hS88 : st_S sm H63 := st_S_fr rfl hf68 hS58
      refine fz_lload kL_law rfl rfl ?_
      have k89 : y71 = sm := st_S_t hS58 f70
      refine fz_lcmp kL_law rfl ?_
      have b90 := fz_cmp_c y71 sm
      refine fz_if_eq (tgt := 337) kL_law rfl (by decide) (fun c91 => ?_) (fun c91 => ?_)
      · exact sL_l337 h H63 tw sm hI67 hf72 hX81 hRE74 hRV75 hRP276 hN77 hS88 hL178 hZ79 hIm80 hp0 (by omega)
      · exfalso; omega

set_option maxHeartbeats 1000000 in
set_option maxRecDepth 100000 in
theorem sL_l158 (h H : fz_H) (tw sm : Int) (hI : fz_Iv H) (hf : fz_fr [(1, 7), (1, 8), (2, 99999), (3, 99999), (4, 99999), (5, 99999), (6, 99999), (7, 99999), (8, 99999), (9, 5), (10, 99999), (11, 99999), (12, 99999), (13, 99999), (14, 99999), (15, 4), (16, 99999), (17, 99999), (18, 99999), (19, 99999), (20, 2), (20, 3), (20, 4), (21, 4), (22, 99999), (23, 99999), (26, 99999), (27, 8), (27, 9), (28, 99999), (29, 99999), (30, 99999), (31, 99999), (32, 99999), (33, 3), (33, 4), (33, 5), (33, 6), (33, 7), (34, 99999), (35, 4), (35, 5), (36, 99999), (37, 99999), (38, 99999), (39, 99999), (40, 1), (40, 2), (40, 3), (40, 4), (40, 5), (40, 6), (41, 99999), (42, 99999), (43, 99999), (44, 2), (45, 99999), (48, 99999), (50, 99999), (51, 99999), (52, 99999), (53, 99999)] h H) (hX : fz_Xc H) (hRE : fz_RE H) (hRV : fz_RV H) (hRP2 : fz_RP2 H) (hN : st_N tw H) (hS : st_S sm H) (hL1 : st_L1 H) (hZ : st_Z H) (hIm : st_Im H) (hp0 : 0 ≤ h 200 100000 ∧ h 200 100000 ≤ 3072) (hq0 : 0 ≤ tw ∧ tw ≤ 8) : fz_R 48 mL_law 158 [(0, fz_r 200), (1, fz_r 0), (2, fz_r 53), (3, fz_i tw), (4, fz_l sm)] [] H (qL_law h) := by
  have k1 := st_N_e hI hN
  have hRT2 : fz_RT H := st_Z_RT hZ hIm.2.2
  refine fz_aload_n kL_law rfl rfl ?_
  refine fz_bipush ⟨by decide, by decide⟩ kL_law rfl ?_
  have b4 : 0 ≤ H 1 7 ∧ H 1 7 ≤ 8 := hI.1 1 _
  refine fz_callV (d' := 4) (M' := mX10_town) (As := [fz_i 10]) (st := []) kL_law rfl rfl vX10_town rfl rfl rfl rfl (Nat.le_of_ble_eq_true rfl) (Nat.le_of_ble_eq_true rfl) (by decide) (sX10_town H hI 10 hRE hRV) (fun H5 r6 q7 o8 => ?_)
  obtain ⟨hI9, hf10, hRE11, hRV12, y16, rfl, f13, f14, f15⟩ := q7
  clear o8
  have hf17 := fz_fr_tr hf hf10 (show fz_su [(1, 7), (2, 99999), (7, 99999), (8, 99999)] [(1, 7), (1, 8), (2, 99999), (3, 99999), (4, 99999), (5, 99999), (6, 99999), (7, 99999), (8, 99999), (9, 5), (10, 99999), (11, 99999), (12, 99999), (13, 99999), (14, 99999), (15, 4), (16, 99999), (17, 99999), (18, 99999), (19, 99999), (20, 2), (20, 3), (20, 4), (21, 4), (22, 99999), (23, 99999), (26, 99999), (27, 8), (27, 9), (28, 99999), (29, 99999), (30, 99999), (31, 99999), (32, 99999), (33, 3), (33, 4), (33, 5), (33, 6), (33, 7), (34, 99999), (35, 4), (35, 5), (36, 99999), (37, 99999), (38, 99999), (39, 99999), (40, 1), (40, 2), (40, 3), (40, 4), (40, 5), (40, 6), (41, 99999), (42, 99999), (43, 99999), (44, 2), (45, 99999), (48, 99999), (50, 99999), (51, 99999), (52, 99999), (53, 99999)] = true from rfl)
  have hL118 : st_L1 H5 := st_L1_eq (funext fun s => hf10 3 s rfl) (hf10 1 8 rfl) hL1
  have hZ19 : st_Z H5 := st_Z_eq (hf10 40 1 rfl) (hf10 40 2 rfl) (hf10 40 3 rfl) (hf10 40 4 rfl) (hf10 40 5 rfl) (funext fun s => hf10 41 s rfl) hZ
  have hIm20 : st_Im H5 := st_Im_eq (hf10 40 6 rfl) (funext fun s => hf10 43 s rfl) (funext fun s => hf10 42 s rfl) hIm
  have hX21 : fz_Xc H5 := fz_Xc_fr hf10 rfl hX
  have t22 : H5 9 5 = H 9 5 := hf10 9 5 rfl
  have t23 : H5 1 8 = H 1 8 := hf10 1 8 rfl
  have t24 : H5 48 0 = H 48 0 := hf10 48 0 rfl
  have t25 : H5 50 0 = H 50 0 := hf10 50 0 rfl
  have t26 : H5 51 0 = H 51 0 := hf10 51 0 rfl
  have e27 : H = H5 := (st_same_t f15 (by omega)).symm
  subst e27
  refine fz_iconst ⟨by decide, by decide⟩ kL_law rfl ?_
  refine fz_icmp_ne (tgt := 304) kL_law rfl (by decide) (fun c29 => ?_) (fun c29 => ?_)
  · exfalso; omega
  · refine fz_aload_n kL_law rfl rfl ?_
    refine fz_iconst ⟨by decide, by decide⟩ kL_law rfl ?_
    refine fz_iconst ⟨by decide, by decide⟩ kL_law rfl ?_
    have b30 : 0 ≤ H 1 7 ∧ H 1 7 ≤ 8 := hI.1 1 _
    have b31 : 0 ≤ H 1 8 ∧ H 1 8 ≤ 12 := hI.1 1 _
    refine fz_callV (d' := 4) (M' := mX10_road) (As := [fz_i 0, fz_i 1]) (st := []) kL_law rfl rfl vX10_road rfl rfl rfl rfl (Nat.le_of_ble_eq_true rfl) (Nat.le_of_ble_eq_true rfl) (by decide) (sX10_road H hI 0 1 hRE hRV) (fun H32 r33 q34 o35 => ?_)
    obtain ⟨hI36, hf37, hRE38, hRV39, y43, rfl, f40, f41, f42⟩ := q34
    clear o35
    have hf44 := fz_fr_tr hf hf37 (show fz_su [(1, 8), (3, 99999), (4, 99999), (5, 99999), (6, 99999), (7, 99999), (8, 99999)] [(1, 7), (1, 8), (2, 99999), (3, 99999), (4, 99999), (5, 99999), (6, 99999), (7, 99999), (8, 99999), (9, 5), (10, 99999), (11, 99999), (12, 99999), (13, 99999), (14, 99999), (15, 4), (16, 99999), (17, 99999), (18, 99999), (19, 99999), (20, 2), (20, 3), (20, 4), (21, 4), (22, 99999), (23, 99999), (26, 99999), (27, 8), (27, 9), (28, 99999), (29, 99999), (30, 99999), (31, 99999), (32, 99999), (33, 3), (33, 4), (33, 5), (33, 6), (33, 7), (34, 99999), (35, 4), (35, 5), (36, 99999), (37, 99999), (38, 99999), (39, 99999), (40, 1), (40, 2), (40, 3), (40, 4), (40, 5), (40, 6), (41, 99999), (42, 99999), (43, 99999), (44, 2), (45, 99999), (48, 99999), (50, 99999), (51, 99999), (52, 99999), (53, 99999)] = true from rfl)
    have hRP245 : fz_RP2 H32 := fz_RP2_eq (funext fun s => hf37 11 s rfl) (hf37 9 5 rfl) (hf37 1 7 rfl) hRP2
    have hZ46 : st_Z H32 := st_Z_eq (hf37 40 1 rfl) (hf37 40 2 rfl) (hf37 40 3 rfl) (hf37 40 4 rfl) (hf37 40 5 rfl) (funext fun s => hf37 41 s rfl) hZ
    have hIm47 : st_Im H32 := st_Im_eq (hf37 40 6 rfl) (funext fun s => hf37 43 s rfl) (funext fun s => hf37 42 s rfl) hIm
    have hRT48 : fz_RT H32 := fz_RT_eq (funext fun s => hf37 41 s rfl) (funext fun s => hf37 42 s rfl) (hf37 1 7 rfl) hRT2
    have hX49 : fz_Xc H32 := fz_Xc_fr hf37 rfl hX
    have t50 : H32 9 5 = H 9 5 := hf37 9 5 rfl
    have t51 : H32 1 7 = H 1 7 := hf37 1 7 rfl
    have t52 : H32 48 0 = H 48 0 := hf37 48 0 rfl
    have t53 : H32 50 0 = H 50 0 := hf37 50 0 rfl
    have t54 : H32 51 0 = H 51 0 := hf37 51 0 rfl
    have e55 : H = H32 := (st_same_r f42 (by unfold fz_rdC; omega)).symm
    subst e55
    refine fz_iconst ⟨by decide, by decide⟩ kL_law rfl ?_
    refine fz_icmp_ne (tgt := 304) kL_law rfl (by decide) (fun c57 => ?_) (fun c57 => ?_)
    · exfalso; omega
    · refine fz_aload_n kL_law rfl rfl ?_
      refine fz_bipush ⟨by decide, by decide⟩ kL_law rfl ?_
      refine fz_iconst ⟨by decide, by decide⟩ kL_law rfl ?_
      refine fz_iconst ⟨by decide, by decide⟩ kL_law rfl ?_
      have b58 : 0 ≤ H 1 7 ∧ H 1 7 ≤ 8 := hI.1 1 _
      have b59 : 0 ≤ H 9 5 ∧ H 9 5 ≤ 10 := hI.1 9 _
      refine fz_callV (d' := 2) (M' := mX10_deed) (As := [fz_i 99, fz_i 0, fz_i 1]) (st := []) kL_law rfl rfl vX10_deed rfl rfl rfl rfl (Nat.le_of_ble_eq_true rfl) (Nat.le_of_ble_eq_true rfl) (by decide) (sX10_deed H hI 99 0 1 ) (fun H60 r61 q62 o63 => ?_)
      obtain ⟨hI64, hf65, y70, rfl, f66, f67, f68, f69⟩ := q62
      clear o63
      have hf71 := fz_fr_tr hf hf65 (show fz_su [(9, 5), (10, 99999), (11, 99999), (12, 99999), (13, 99999), (14, 99999)] [(1, 7), (1, 8), (2, 99999), (3, 99999), (4, 99999), (5, 99999), (6, 99999), (7, 99999), (8, 99999), (9, 5), (10, 99999), (11, 99999), (12, 99999), (13, 99999), (14, 99999), (15, 4), (16, 99999), (17, 99999), (18, 99999), (19, 99999), (20, 2), (20, 3), (20, 4), (21, 4), (22, 99999), (23, 99999), (26, 99999), (27, 8), (27, 9), (28, 99999), (29, 99999), (30, 99999), (31, 99999), (32, 99999), (33, 3), (33, 4), (33, 5), (33, 6), (33, 7), (34, 99999), (35, 4), (35, 5), (36, 99999), (37, 99999), (38, 99999), (39, 99999), (40, 1), (40, 2), (40, 3), (40, 4), (40, 5), (40, 6), (41, 99999), (42, 99999), (43, 99999), (44, 2), (45, 99999), (48, 99999), (50, 99999), (51, 99999), (52, 99999), (53, 99999)] = true from rfl)
      have hRE72 : fz_RE H60 := fz_RE_eq (funext fun s => hf65 5 s rfl) (funext fun s => hf65 6 s rfl) (hf65 1 8 rfl) (hf65 1 7 rfl) hRE
      have hRV73 : fz_RV H60 := fz_RV_eq (funext fun s => hf65 7 s rfl) (funext fun s => hf65 8 s rfl) (funext fun s => hf65 3 s rfl) (funext fun s => hf65 4 s rfl) (funext fun s => hf65 5 s rfl) (funext fun s => hf65 6 s rfl) (hf65 1 7 rfl) (hf65 1 8 rfl) hRV
      have hL174 : st_L1 H60 := st_L1_eq (funext fun s => hf65 3 s rfl) (hf65 1 8 rfl) hL1
      have hZ75 : st_Z H60 := st_Z_eq (hf65 40 1 rfl) (hf65 40 2 rfl) (hf65 40 3 rfl) (hf65 40 4 rfl) (hf65 40 5 rfl) (funext fun s => hf65 41 s rfl) hZ
      have hIm76 : st_Im H60 := st_Im_eq (hf65 40 6 rfl) (funext fun s => hf65 43 s rfl) (funext fun s => hf65 42 s rfl) hIm
      have hRT77 : fz_RT H60 := fz_RT_eq (funext fun s => hf65 41 s rfl) (funext fun s => hf65 42 s rfl) (hf65 1 7 rfl) hRT2
      have hX78 : fz_Xc H60 := fz_Xc_fr hf65 rfl hX
      have t79 : H60 1 7 = H 1 7 := hf65 1 7 rfl
      have t80 : H60 1 8 = H 1 8 := hf65 1 8 rfl
      have t81 : H60 48 0 = H 48 0 := hf65 48 0 rfl
      have t82 : H60 50 0 = H 50 0 := hf65 50 0 rfl
      have t83 : H60 51 0 = H 51 0 := hf65 51 0 rfl
      have e84 : H = H60 := (st_or f69 (by omega)).symm
      subst e84
      refine fz_iconst ⟨by decide, by decide⟩ kL_law rfl ?_
      refine fz_icmp_ne (tgt := 304) kL_law rfl (by decide) (fun c86 => ?_) (fun c86 => ?_)
      · exfalso; omega
      · refine fz_aload_n kL_law rfl rfl ?_
        refine fz_iload_n kL_law rfl rfl ?_
        refine fz_iconst ⟨by decide, by decide⟩ kL_law rfl ?_
        refine fz_iconst ⟨by decide, by decide⟩ kL_law rfl ?_
        refine fz_callV (d' := 4) (M' := mX10_mend) (As := [fz_i tw, fz_i 0, fz_i 1]) (st := []) kL_law rfl rfl vX10_mend rfl rfl rfl rfl (Nat.le_of_ble_eq_true rfl) (Nat.le_of_ble_eq_true rfl) (by decide) (sX10_mend H hI tw 0 1 (hX) hRE hRV) (fun H87 r88 q89 o90 => ?_)
        obtain ⟨hI91, hf92, hX93, hRE94, hRV95, y98, rfl, f96, f97⟩ := q89
        clear o90
        have hf99 := fz_fr_tr hf hf92 (show fz_su [(2, 99999), (3, 99999), (4, 99999), (7, 99999), (8, 99999), (12, 99999), (13, 99999), (14, 99999), (27, 8), (27, 9), (28, 99999), (35, 4), (35, 5), (36, 99999), (37, 99999), (38, 99999), (39, 99999)] [(1, 7), (1, 8), (2, 99999), (3, 99999), (4, 99999), (5, 99999), (6, 99999), (7, 99999), (8, 99999), (9, 5), (10, 99999), (11, 99999), (12, 99999), (13, 99999), (14, 99999), (15, 4), (16, 99999), (17, 99999), (18, 99999), (19, 99999), (20, 2), (20, 3), (20, 4), (21, 4), (22, 99999), (23, 99999), (26, 99999), (27, 8), (27, 9), (28, 99999), (29, 99999), (30, 99999), (31, 99999), (32, 99999), (33, 3), (33, 4), (33, 5), (33, 6), (33, 7), (34, 99999), (35, 4), (35, 5), (36, 99999), (37, 99999), (38, 99999), (39, 99999), (40, 1), (40, 2), (40, 3), (40, 4), (40, 5), (40, 6), (41, 99999), (42, 99999), (43, 99999), (44, 2), (45, 99999), (48, 99999), (50, 99999), (51, 99999), (52, 99999), (53, 99999)] = true from rfl)
        have hRP2100 : fz_RP2 H87 := fz_RP2_eq (funext fun s => hf92 11 s rfl) (hf92 9 5 rfl) (hf92 1 7 rfl) hRP2
        have hZ101 : st_Z H87 := st_Z_eq (hf92 40 1 rfl) (hf92 40 2 rfl) (hf92 40 3 rfl) (hf92 40 4 rfl) (hf92 40 5 rfl) (funext fun s => hf92 41 s rfl) hZ
        have hIm102 : st_Im H87 := st_Im_eq (hf92 40 6 rfl) (funext fun s => hf92 43 s rfl) (funext fun s => hf92 42 s rfl) hIm
        have hRT103 : fz_RT H87 := fz_RT_eq (funext fun s => hf92 41 s rfl) (funext fun s => hf92 42 s rfl) (hf92 1 7 rfl) hRT2
        have t104 : H87 9 5 = H 9 5 := hf92 9 5 rfl
        have t105 : H87 1 7 = H 1 7 := hf92 1 7 rfl
        have t106 : H87 1 8 = H 1 8 := hf92 1 8 rfl
        have t107 : H87 48 0 = H 48 0 := hf92 48 0 rfl
        have t108 : H87 50 0 = H 50 0 := hf92 50 0 rfl
        have t109 : H87 51 0 = H 51 0 := hf92 51 0 rfl
        have e110 : H = H87 := ((st_same_m f97 (by unfold fz_okC fz_PC; omega)).1).symm
        subst e110
        have k112 := (st_same_m f97 (by unfold fz_okC fz_PC; omega)).2
        refine fz_ldc (x := (-2000000000)) kL_law rfl rfl rfl ?_
        refine fz_icmp_ne (tgt := 304) kL_law rfl (by decide) (fun c113 => ?_) (fun c113 => ?_)
        · exfalso; omega
        · refine fz_aload_n kL_law rfl rfl ?_
          refine fz_iconst ⟨by decide, by decide⟩ kL_law rfl ?_
          refine fz_bipush ⟨by decide, by decide⟩ kL_law rfl ?_
          refine fz_bipush ⟨by decide, by decide⟩ kL_law rfl ?_
          refine fz_callV (d' := 4) (M' := mX10_mend) (As := [fz_i 0, fz_i 6, fz_i 10]) (st := []) kL_law rfl rfl vX10_mend rfl rfl rfl rfl (Nat.le_of_ble_eq_true rfl) (Nat.le_of_ble_eq_true rfl) (by decide) (sX10_mend H hI 0 6 10 (hX) hRE hRV) (fun H114 r115 q116 o117 => ?_)
          obtain ⟨hI118, hf119, hX120, hRE121, hRV122, y125, rfl, f123, f124⟩ := q116
          clear o117
          have hf126 := fz_fr_tr hf hf119 (show fz_su [(2, 99999), (3, 99999), (4, 99999), (7, 99999), (8, 99999), (12, 99999), (13, 99999), (14, 99999), (27, 8), (27, 9), (28, 99999), (35, 4), (35, 5), (36, 99999), (37, 99999), (38, 99999), (39, 99999)] [(1, 7), (1, 8), (2, 99999), (3, 99999), (4, 99999), (5, 99999), (6, 99999), (7, 99999), (8, 99999), (9, 5), (10, 99999), (11, 99999), (12, 99999), (13, 99999), (14, 99999), (15, 4), (16, 99999), (17, 99999), (18, 99999), (19, 99999), (20, 2), (20, 3), (20, 4), (21, 4), (22, 99999), (23, 99999), (26, 99999), (27, 8), (27, 9), (28, 99999), (29, 99999), (30, 99999), (31, 99999), (32, 99999), (33, 3), (33, 4), (33, 5), (33, 6), (33, 7), (34, 99999), (35, 4), (35, 5), (36, 99999), (37, 99999), (38, 99999), (39, 99999), (40, 1), (40, 2), (40, 3), (40, 4), (40, 5), (40, 6), (41, 99999), (42, 99999), (43, 99999), (44, 2), (45, 99999), (48, 99999), (50, 99999), (51, 99999), (52, 99999), (53, 99999)] = true from rfl)
          have hRP2127 : fz_RP2 H114 := fz_RP2_eq (funext fun s => hf119 11 s rfl) (hf119 9 5 rfl) (hf119 1 7 rfl) hRP2
          have hZ128 : st_Z H114 := st_Z_eq (hf119 40 1 rfl) (hf119 40 2 rfl) (hf119 40 3 rfl) (hf119 40 4 rfl) (hf119 40 5 rfl) (funext fun s => hf119 41 s rfl) hZ
          have hIm129 : st_Im H114 := st_Im_eq (hf119 40 6 rfl) (funext fun s => hf119 43 s rfl) (funext fun s => hf119 42 s rfl) hIm
          have hRT130 : fz_RT H114 := fz_RT_eq (funext fun s => hf119 41 s rfl) (funext fun s => hf119 42 s rfl) (hf119 1 7 rfl) hRT2
          have t131 : H114 9 5 = H 9 5 := hf119 9 5 rfl
          have t132 : H114 1 7 = H 1 7 := hf119 1 7 rfl
          have t133 : H114 1 8 = H 1 8 := hf119 1 8 rfl
          have t134 : H114 48 0 = H 48 0 := hf119 48 0 rfl
          have t135 : H114 50 0 = H 50 0 := hf119 50 0 rfl
          have t136 : H114 51 0 = H 51 0 := hf119 51 0 rfl
          have e137 : H = H114 := ((st_same_m f124 (fun z => by have e : H 202 = _ := hI.2.2.1; have q := z.2.2; rw [e] at q; exact absurd q (by decide))).1).symm
          subst e137
          have k139 := (st_same_m f124 (fun z => by have e : H 202 = _ := hI.2.2.1; have q := z.2.2; rw [e] at q; exact absurd q (by decide))).2
          refine fz_ldc (x := (-2000000000)) kL_law rfl rfl rfl ?_
          refine fz_icmp_ne (tgt := 304) kL_law rfl (by decide) (fun c140 => ?_) (fun c140 => ?_)
          · exfalso; omega
          · refine fz_aload_n kL_law rfl rfl ?_
            refine fz_iconst ⟨by decide, by decide⟩ kL_law rfl ?_
            refine fz_bipush ⟨by decide, by decide⟩ kL_law rfl ?_
            refine fz_iconst ⟨by decide, by decide⟩ kL_law rfl ?_
            refine fz_callV (d' := 4) (M' := mX10_mend) (As := [fz_i 1, fz_i 7, fz_i 5]) (st := []) kL_law rfl rfl vX10_mend rfl rfl rfl rfl (Nat.le_of_ble_eq_true rfl) (Nat.le_of_ble_eq_true rfl) (by decide) (sX10_mend H hI 1 7 5 (hX) hRE hRV) (fun H141 r142 q143 o144 => ?_)
            obtain ⟨hI145, hf146, hX147, hRE148, hRV149, y152, rfl, f150, f151⟩ := q143
            clear o144
            have hf153 := fz_fr_tr hf hf146 (show fz_su [(2, 99999), (3, 99999), (4, 99999), (7, 99999), (8, 99999), (12, 99999), (13, 99999), (14, 99999), (27, 8), (27, 9), (28, 99999), (35, 4), (35, 5), (36, 99999), (37, 99999), (38, 99999), (39, 99999)] [(1, 7), (1, 8), (2, 99999), (3, 99999), (4, 99999), (5, 99999), (6, 99999), (7, 99999), (8, 99999), (9, 5), (10, 99999), (11, 99999), (12, 99999), (13, 99999), (14, 99999), (15, 4), (16, 99999), (17, 99999), (18, 99999), (19, 99999), (20, 2), (20, 3), (20, 4), (21, 4), (22, 99999), (23, 99999), (26, 99999), (27, 8), (27, 9), (28, 99999), (29, 99999), (30, 99999), (31, 99999), (32, 99999), (33, 3), (33, 4), (33, 5), (33, 6), (33, 7), (34, 99999), (35, 4), (35, 5), (36, 99999), (37, 99999), (38, 99999), (39, 99999), (40, 1), (40, 2), (40, 3), (40, 4), (40, 5), (40, 6), (41, 99999), (42, 99999), (43, 99999), (44, 2), (45, 99999), (48, 99999), (50, 99999), (51, 99999), (52, 99999), (53, 99999)] = true from rfl)
            have hRP2154 : fz_RP2 H141 := fz_RP2_eq (funext fun s => hf146 11 s rfl) (hf146 9 5 rfl) (hf146 1 7 rfl) hRP2
            have hZ155 : st_Z H141 := st_Z_eq (hf146 40 1 rfl) (hf146 40 2 rfl) (hf146 40 3 rfl) (hf146 40 4 rfl) (hf146 40 5 rfl) (funext fun s => hf146 41 s rfl) hZ
            have hIm156 : st_Im H141 := st_Im_eq (hf146 40 6 rfl) (funext fun s => hf146 43 s rfl) (funext fun s => hf146 42 s rfl) hIm
            have hRT157 : fz_RT H141 := fz_RT_eq (funext fun s => hf146 41 s rfl) (funext fun s => hf146 42 s rfl) (hf146 1 7 rfl) hRT2
            have t158 : H141 9 5 = H 9 5 := hf146 9 5 rfl
            have t159 : H141 1 7 = H 1 7 := hf146 1 7 rfl
            have t160 : H141 1 8 = H 1 8 := hf146 1 8 rfl
            have t161 : H141 48 0 = H 48 0 := hf146 48 0 rfl
            have t162 : H141 50 0 = H 50 0 := hf146 50 0 rfl
            have t163 : H141 51 0 = H 51 0 := hf146 51 0 rfl
            have e164 : H = H141 := ((st_same_m f151 (by unfold fz_okC fz_PC; omega)).1).symm
            subst e164
            have k166 := (st_same_m f151 (by unfold fz_okC fz_PC; omega)).2
            refine fz_ldc (x := (-2000000000)) kL_law rfl rfl rfl ?_
            refine fz_icmp_ne (tgt := 304) kL_law rfl (by decide) (fun c167 => ?_) (fun c167 => ?_)
            · exfalso; omega
            · refine fz_aload_n kL_law rfl rfl ?_
              refine fz_iconst ⟨by decide, by decide⟩ kL_law rfl ?_
              refine fz_iconst ⟨by decide, by decide⟩ kL_law rfl ?_
              have b168 : 0 ≤ H 1 7 ∧ H 1 7 ≤ 8 := hI.1 1 _
              refine fz_callV (d' := 5) (M' := mX10_walk) (As := [fz_i 4, fz_i 0]) (st := []) kL_law rfl rfl vX10_walk rfl rfl rfl rfl (Nat.le_of_ble_eq_true rfl) (Nat.le_of_ble_eq_true rfl) (by decide) (sX10_walk H hI 4 0 hRT2 hRE) (fun H169 r170 q171 o172 => ?_)
              obtain ⟨hI173, hf174, hRT175, hRE176, y182, rfl, f177, f178, f179, f180, f181⟩ := q171
              clear o172
              have hf183 := fz_fr_tr hf hf174 (show fz_su [(18, 99999), (19, 99999), (29, 99999), (40, 1), (40, 2), (40, 3), (40, 4), (41, 99999)] [(1, 7), (1, 8), (2, 99999), (3, 99999), (4, 99999), (5, 99999), (6, 99999), (7, 99999), (8, 99999), (9, 5), (10, 99999), (11, 99999), (12, 99999), (13, 99999), (14, 99999), (15, 4), (16, 99999), (17, 99999), (18, 99999), (19, 99999), (20, 2), (20, 3), (20, 4), (21, 4), (22, 99999), (23, 99999), (26, 99999), (27, 8), (27, 9), (28, 99999), (29, 99999), (30, 99999), (31, 99999), (32, 99999), (33, 3), (33, 4), (33, 5), (33, 6), (33, 7), (34, 99999), (35, 4), (35, 5), (36, 99999), (37, 99999), (38, 99999), (39, 99999), (40, 1), (40, 2), (40, 3), (40, 4), (40, 5), (40, 6), (41, 99999), (42, 99999), (43, 99999), (44, 2), (45, 99999), (48, 99999), (50, 99999), (51, 99999), (52, 99999), (53, 99999)] = true from rfl)
              have hRV184 : fz_RV H169 := fz_RV_eq (funext fun s => hf174 7 s rfl) (funext fun s => hf174 8 s rfl) (funext fun s => hf174 3 s rfl) (funext fun s => hf174 4 s rfl) (funext fun s => hf174 5 s rfl) (funext fun s => hf174 6 s rfl) (hf174 1 7 rfl) (hf174 1 8 rfl) hRV
              have hRP2185 : fz_RP2 H169 := fz_RP2_eq (funext fun s => hf174 11 s rfl) (hf174 9 5 rfl) (hf174 1 7 rfl) hRP2
              have hN186 : st_N tw H169 := st_N_eq (hf174 53 0 rfl) (hf174 53 1 rfl) (hf174 53 2 rfl) (hf174 1 7 rfl) (hf174 1 8 rfl) (hf174 9 5 rfl) (hf174 35 4 rfl) (hf174 20 2 rfl) hN
              have hL1187 : st_L1 H169 := st_L1_eq (funext fun s => hf174 3 s rfl) (hf174 1 8 rfl) hL1
              have hIm188 : st_Im H169 := st_Im_eq (hf174 40 6 rfl) (funext fun s => hf174 43 s rfl) (funext fun s => hf174 42 s rfl) hIm
              have hX189 : fz_Xc H169 := fz_Xc_fr hf174 rfl hX
              have t190 : H169 9 5 = H 9 5 := hf174 9 5 rfl
              have t191 : H169 1 7 = H 1 7 := hf174 1 7 rfl
              have t192 : H169 1 8 = H 1 8 := hf174 1 8 rfl
              have t193 : H169 48 0 = H 48 0 := hf174 48 0 rfl
              have t194 : H169 50 0 = H 50 0 := hf174 50 0 rfl
              have t195 : H169 51 0 = H 51 0 := hf174 51 0 rfl
              have e196 : H = H169 := (st_or f181 (by unfold fz_wkO; omega)).symm
              subst e196
              have k198 := st_same_w f178 (by unfold fz_wkO; omega)
              refine fz_iconst ⟨by decide, by decide⟩ kL_law rfl ?_
              refine fz_icmp_ne (tgt := 304) kL_law rfl (by decide) (fun c199 => ?_) (fun c199 => ?_)
              · exfalso; omega
              · refine fz_aload_n kL_law rfl rfl ?_
                refine fz_iconst ⟨by decide, by decide⟩ kL_law rfl ?_
                refine fz_aload_n kL_law rfl rfl ?_
                refine fz_iconst ⟨by decide, by decide⟩ kL_law rfl ?_
                obtain ⟨v200, e201⟩ : ∃ z, H 53 (1) = z := ⟨_, rfl⟩
                refine fz_ialdV (n := 40) (v := v200) kL_law rfl rfl (by omega) (by omega) e201 ?_
                have b202 : (-2147483648) ≤ v200 ∧ v200 ≤ 2147483647 := by rw [← e201]; exact hI.1 53 _
                have b203 : 0 ≤ H 1 7 ∧ H 1 7 ≤ 8 := hI.1 1 _
                refine fz_callV (d' := 5) (M' := mX10_walk) (As := [fz_i 0, fz_i v200]) (st := []) kL_law rfl rfl vX10_walk rfl rfl rfl rfl (Nat.le_of_ble_eq_true rfl) (Nat.le_of_ble_eq_true rfl) (by decide) (sX10_walk H hI 0 v200 hRT2 hRE) (fun H204 r205 q206 o207 => ?_)
                obtain ⟨hI208, hf209, hRT210, hRE211, y217, rfl, f212, f213, f214, f215, f216⟩ := q206
                clear o207
                have hf218 := fz_fr_tr hf hf209 (show fz_su [(18, 99999), (19, 99999), (29, 99999), (40, 1), (40, 2), (40, 3), (40, 4), (41, 99999)] [(1, 7), (1, 8), (2, 99999), (3, 99999), (4, 99999), (5, 99999), (6, 99999), (7, 99999), (8, 99999), (9, 5), (10, 99999), (11, 99999), (12, 99999), (13, 99999), (14, 99999), (15, 4), (16, 99999), (17, 99999), (18, 99999), (19, 99999), (20, 2), (20, 3), (20, 4), (21, 4), (22, 99999), (23, 99999), (26, 99999), (27, 8), (27, 9), (28, 99999), (29, 99999), (30, 99999), (31, 99999), (32, 99999), (33, 3), (33, 4), (33, 5), (33, 6), (33, 7), (34, 99999), (35, 4), (35, 5), (36, 99999), (37, 99999), (38, 99999), (39, 99999), (40, 1), (40, 2), (40, 3), (40, 4), (40, 5), (40, 6), (41, 99999), (42, 99999), (43, 99999), (44, 2), (45, 99999), (48, 99999), (50, 99999), (51, 99999), (52, 99999), (53, 99999)] = true from rfl)
                have hRV219 : fz_RV H204 := fz_RV_eq (funext fun s => hf209 7 s rfl) (funext fun s => hf209 8 s rfl) (funext fun s => hf209 3 s rfl) (funext fun s => hf209 4 s rfl) (funext fun s => hf209 5 s rfl) (funext fun s => hf209 6 s rfl) (hf209 1 7 rfl) (hf209 1 8 rfl) hRV
                have hRP2220 : fz_RP2 H204 := fz_RP2_eq (funext fun s => hf209 11 s rfl) (hf209 9 5 rfl) (hf209 1 7 rfl) hRP2
                have hN221 : st_N tw H204 := st_N_eq (hf209 53 0 rfl) (hf209 53 1 rfl) (hf209 53 2 rfl) (hf209 1 7 rfl) (hf209 1 8 rfl) (hf209 9 5 rfl) (hf209 35 4 rfl) (hf209 20 2 rfl) hN
                have hL1222 : st_L1 H204 := st_L1_eq (funext fun s => hf209 3 s rfl) (hf209 1 8 rfl) hL1
                have hIm223 : st_Im H204 := st_Im_eq (hf209 40 6 rfl) (funext fun s => hf209 43 s rfl) (funext fun s => hf209 42 s rfl) hIm
                have hX224 : fz_Xc H204 := fz_Xc_fr hf209 rfl hX
                have t225 : H204 9 5 = H 9 5 := hf209 9 5 rfl
                have t226 : H204 1 7 = H 1 7 := hf209 1 7 rfl
                have t227 : H204 1 8 = H 1 8 := hf209 1 8 rfl
                have t228 : H204 48 0 = H 48 0 := hf209 48 0 rfl
                have t229 : H204 50 0 = H 50 0 := hf209 50 0 rfl
                have t230 : H204 51 0 = H 51 0 := hf209 51 0 rfl
                have e231 : H = H204 := (st_or f216 (by unfold fz_wkO; omega)).symm
                subst e231
                have k233 := st_same_w f213 (by unfold fz_wkO; omega)
                refine fz_iconst ⟨by decide, by decide⟩ kL_law rfl ?_
                refine fz_icmp_ne (tgt := 304) kL_law rfl (by decide) (fun c234 => ?_) (fun c234 => ?_)
                · exfalso; omega
                · refine fz_aload_n kL_law rfl rfl ?_
                  refine fz_iconst ⟨by decide, by decide⟩ kL_law rfl ?_
                  refine fz_bipush ⟨by decide, by decide⟩ kL_law rfl ?_
                  have b235 : 0 ≤ H 1 7 ∧ H 1 7 ≤ 8 := hI.1 1 _
                  have b236 : 0 ≤ H 9 5 ∧ H 9 5 ≤ 10 := hI.1 9 _
                  have b237 : 0 ≤ H 40 1 ∧ H 40 1 ≤ 999 := hI.1 40 _
                  have b238 : (-2147483648) ≤ H 40 5 ∧ H 40 5 ≤ 2147483647 := hI.1 40 _
                  refine fz_callV (d' := 2) (M' := mX10_does) (As := [fz_i 0, fz_i 10]) (st := []) kL_law rfl rfl vX10_does rfl rfl rfl rfl (Nat.le_of_ble_eq_true rfl) (Nat.le_of_ble_eq_true rfl) (by decide) (sX10_does H hI 0 10 ) (fun H239 r240 q241 o242 => ?_)
                  obtain ⟨hI243, hf244, y250, rfl, f245, f246, f247, f248, f249⟩ := q241
                  clear o242
                  have hf251 := fz_fr_tr hf hf244 (show fz_su [(9, 5), (10, 99999), (11, 99999), (12, 99999), (13, 99999), (14, 99999), (40, 5)] [(1, 7), (1, 8), (2, 99999), (3, 99999), (4, 99999), (5, 99999), (6, 99999), (7, 99999), (8, 99999), (9, 5), (10, 99999), (11, 99999), (12, 99999), (13, 99999), (14, 99999), (15, 4), (16, 99999), (17, 99999), (18, 99999), (19, 99999), (20, 2), (20, 3), (20, 4), (21, 4), (22, 99999), (23, 99999), (26, 99999), (27, 8), (27, 9), (28, 99999), (29, 99999), (30, 99999), (31, 99999), (32, 99999), (33, 3), (33, 4), (33, 5), (33, 6), (33, 7), (34, 99999), (35, 4), (35, 5), (36, 99999), (37, 99999), (38, 99999), (39, 99999), (40, 1), (40, 2), (40, 3), (40, 4), (40, 5), (40, 6), (41, 99999), (42, 99999), (43, 99999), (44, 2), (45, 99999), (48, 99999), (50, 99999), (51, 99999), (52, 99999), (53, 99999)] = true from rfl)
                  have hRE252 : fz_RE H239 := fz_RE_eq (funext fun s => hf244 5 s rfl) (funext fun s => hf244 6 s rfl) (hf244 1 8 rfl) (hf244 1 7 rfl) hRE
                  have hRV253 : fz_RV H239 := fz_RV_eq (funext fun s => hf244 7 s rfl) (funext fun s => hf244 8 s rfl) (funext fun s => hf244 3 s rfl) (funext fun s => hf244 4 s rfl) (funext fun s => hf244 5 s rfl) (funext fun s => hf244 6 s rfl) (hf244 1 7 rfl) (hf244 1 8 rfl) hRV
                  have hL1254 : st_L1 H239 := st_L1_eq (funext fun s => hf244 3 s rfl) (hf244 1 8 rfl) hL1
                  have hIm255 : st_Im H239 := st_Im_eq (hf244 40 6 rfl) (funext fun s => hf244 43 s rfl) (funext fun s => hf244 42 s rfl) hIm
                  have hRT256 : fz_RT H239 := fz_RT_eq (funext fun s => hf244 41 s rfl) (funext fun s => hf244 42 s rfl) (hf244 1 7 rfl) hRT2
                  have hX257 : fz_Xc H239 := fz_Xc_fr hf244 rfl hX
                  have t258 : H239 1 7 = H 1 7 := hf244 1 7 rfl
                  have t259 : H239 1 8 = H 1 8 := hf244 1 8 rfl
                  have t260 : H239 48 0 = H 48 0 := hf244 48 0 rfl
                  have t261 : H239 50 0 = H 50 0 := hf244 50 0 rfl
                  have t262 : H239 51 0 = H 51 0 := hf244 51 0 rfl
                  have e263 : H = H239 := (st_or f249 (by omega)).symm
                  subst e263
                  refine fz_iconst ⟨by decide, by decide⟩ kL_law rfl ?_
                  refine fz_icmp_ne (tgt := 304) kL_law rfl (by decide) (fun c265 => ?_) (fun c265 => ?_)
                  · exfalso; omega
                  · refine fz_aload_n kL_law rfl rfl ?_
                    refine fz_sipush ⟨by decide, by decide⟩ kL_law rfl ?_
                    have b266 : 0 ≤ H 20 2 ∧ H 20 2 ≤ 120 := hI.1 20 _
                    refine fz_callV (d' := 1) (M' := mX10_feed) (As := [fz_i 300]) (st := []) kL_law rfl rfl vX10_feed rfl rfl rfl rfl (Nat.le_of_ble_eq_true rfl) (Nat.le_of_ble_eq_true rfl) (by decide) (sX10_feed H hI 300 ) (fun H267 r268 q269 o270 => ?_)
                    obtain ⟨hI271, hf272, y277, rfl, f273, f274, f275, f276⟩ := q269
                    clear o270
                    have hf278 := fz_fr_tr hf hf272 (show fz_su [(20, 2), (26, 99999)] [(1, 7), (1, 8), (2, 99999), (3, 99999), (4, 99999), (5, 99999), (6, 99999), (7, 99999), (8, 99999), (9, 5), (10, 99999), (11, 99999), (12, 99999), (13, 99999), (14, 99999), (15, 4), (16, 99999), (17, 99999), (18, 99999), (19, 99999), (20, 2), (20, 3), (20, 4), (21, 4), (22, 99999), (23, 99999), (26, 99999), (27, 8), (27, 9), (28, 99999), (29, 99999), (30, 99999), (31, 99999), (32, 99999), (33, 3), (33, 4), (33, 5), (33, 6), (33, 7), (34, 99999), (35, 4), (35, 5), (36, 99999), (37, 99999), (38, 99999), (39, 99999), (40, 1), (40, 2), (40, 3), (40, 4), (40, 5), (40, 6), (41, 99999), (42, 99999), (43, 99999), (44, 2), (45, 99999), (48, 99999), (50, 99999), (51, 99999), (52, 99999), (53, 99999)] = true from rfl)
                    have hRE279 : fz_RE H267 := fz_RE_eq (funext fun s => hf272 5 s rfl) (funext fun s => hf272 6 s rfl) (hf272 1 8 rfl) (hf272 1 7 rfl) hRE
                    have hRV280 : fz_RV H267 := fz_RV_eq (funext fun s => hf272 7 s rfl) (funext fun s => hf272 8 s rfl) (funext fun s => hf272 3 s rfl) (funext fun s => hf272 4 s rfl) (funext fun s => hf272 5 s rfl) (funext fun s => hf272 6 s rfl) (hf272 1 7 rfl) (hf272 1 8 rfl) hRV
                    have hRP2281 : fz_RP2 H267 := fz_RP2_eq (funext fun s => hf272 11 s rfl) (hf272 9 5 rfl) (hf272 1 7 rfl) hRP2
                    have hL1282 : st_L1 H267 := st_L1_eq (funext fun s => hf272 3 s rfl) (hf272 1 8 rfl) hL1
                    have hZ283 : st_Z H267 := st_Z_eq (hf272 40 1 rfl) (hf272 40 2 rfl) (hf272 40 3 rfl) (hf272 40 4 rfl) (hf272 40 5 rfl) (funext fun s => hf272 41 s rfl) hZ
                    have hIm284 : st_Im H267 := st_Im_eq (hf272 40 6 rfl) (funext fun s => hf272 43 s rfl) (funext fun s => hf272 42 s rfl) hIm
                    have hRT285 : fz_RT H267 := fz_RT_eq (funext fun s => hf272 41 s rfl) (funext fun s => hf272 42 s rfl) (hf272 1 7 rfl) hRT2
                    have hX286 : fz_Xc H267 := fz_Xc_fr hf272 rfl hX
                    have t287 : H267 9 5 = H 9 5 := hf272 9 5 rfl
                    have t288 : H267 1 7 = H 1 7 := hf272 1 7 rfl
                    have t289 : H267 1 8 = H 1 8 := hf272 1 8 rfl
                    have t290 : H267 48 0 = H 48 0 := hf272 48 0 rfl
                    have t291 : H267 50 0 = H 50 0 := hf272 50 0 rfl
                    have t292 : H267 51 0 = H 51 0 := hf272 51 0 rfl
                    have nm293 : fz_nm H267 = fz_nm H := (fz_nm_fr rfl hf272).trans rfl
                    have hS294 : st_S sm H267 := st_S_fr rfl hf272 hS
                    have e295 : H = H267 := (st_or f276 (by omega)).symm
                    subst e295
                    refine fz_iconst ⟨by decide, by decide⟩ kL_law rfl ?_
                    refine fz_icmp_ne (tgt := 304) kL_law rfl (by decide) (fun c297 => ?_) (fun c297 => ?_)
                    · exfalso; omega
                    · refine fz_aload_n kL_law rfl rfl ?_
                      refine fz_iconst ⟨by decide, by decide⟩ kL_law rfl ?_
                      refine fz_iconst ⟨by decide, by decide⟩ kL_law rfl ?_
                      refine fz_iconst ⟨by decide, by decide⟩ kL_law rfl ?_
                      refine fz_callV (d' := 3) (M' := mX10_row) (As := [fz_i 0, fz_i 5, fz_i 0]) (st := []) kL_law rfl rfl vX10_row rfl rfl rfl rfl (Nat.le_of_ble_eq_true rfl) (Nat.le_of_ble_eq_true rfl) (by decide) (sX10_row H hI 0 5 0 ) (fun H298 r299 q300 o301 => ?_)
                      obtain ⟨hI302, hf303, y307, rfl, f304, f305, f306⟩ := q300
                      clear o301
                      have hf308 := fz_fr_tr hf hf303 (show fz_su [(48, 99999), (50, 99999), (51, 99999), (52, 99999)] [(1, 7), (1, 8), (2, 99999), (3, 99999), (4, 99999), (5, 99999), (6, 99999), (7, 99999), (8, 99999), (9, 5), (10, 99999), (11, 99999), (12, 99999), (13, 99999), (14, 99999), (15, 4), (16, 99999), (17, 99999), (18, 99999), (19, 99999), (20, 2), (20, 3), (20, 4), (21, 4), (22, 99999), (23, 99999), (26, 99999), (27, 8), (27, 9), (28, 99999), (29, 99999), (30, 99999), (31, 99999), (32, 99999), (33, 3), (33, 4), (33, 5), (33, 6), (33, 7), (34, 99999), (35, 4), (35, 5), (36, 99999), (37, 99999), (38, 99999), (39, 99999), (40, 1), (40, 2), (40, 3), (40, 4), (40, 5), (40, 6), (41, 99999), (42, 99999), (43, 99999), (44, 2), (45, 99999), (48, 99999), (50, 99999), (51, 99999), (52, 99999), (53, 99999)] = true from rfl)
                      have hRE309 : fz_RE H298 := fz_RE_eq (funext fun s => hf303 5 s rfl) (funext fun s => hf303 6 s rfl) (hf303 1 8 rfl) (hf303 1 7 rfl) hRE
                      have hRV310 : fz_RV H298 := fz_RV_eq (funext fun s => hf303 7 s rfl) (funext fun s => hf303 8 s rfl) (funext fun s => hf303 3 s rfl) (funext fun s => hf303 4 s rfl) (funext fun s => hf303 5 s rfl) (funext fun s => hf303 6 s rfl) (hf303 1 7 rfl) (hf303 1 8 rfl) hRV
                      have hRP2311 : fz_RP2 H298 := fz_RP2_eq (funext fun s => hf303 11 s rfl) (hf303 9 5 rfl) (hf303 1 7 rfl) hRP2
                      have hN312 : st_N tw H298 := st_N_eq (hf303 53 0 rfl) (hf303 53 1 rfl) (hf303 53 2 rfl) (hf303 1 7 rfl) (hf303 1 8 rfl) (hf303 9 5 rfl) (hf303 35 4 rfl) (hf303 20 2 rfl) hN
                      have hL1313 : st_L1 H298 := st_L1_eq (funext fun s => hf303 3 s rfl) (hf303 1 8 rfl) hL1
                      have hZ314 : st_Z H298 := st_Z_eq (hf303 40 1 rfl) (hf303 40 2 rfl) (hf303 40 3 rfl) (hf303 40 4 rfl) (hf303 40 5 rfl) (funext fun s => hf303 41 s rfl) hZ
                      have hIm315 : st_Im H298 := st_Im_eq (hf303 40 6 rfl) (funext fun s => hf303 43 s rfl) (funext fun s => hf303 42 s rfl) hIm
                      have hRT316 : fz_RT H298 := fz_RT_eq (funext fun s => hf303 41 s rfl) (funext fun s => hf303 42 s rfl) (hf303 1 7 rfl) hRT2
                      have hX317 : fz_Xc H298 := fz_Xc_fr hf303 rfl hX
                      have t318 : H298 9 5 = H 9 5 := hf303 9 5 rfl
                      have t319 : H298 1 7 = H 1 7 := hf303 1 7 rfl
                      have t320 : H298 1 8 = H 1 8 := hf303 1 8 rfl
                      have nm321 : fz_nm H298 = fz_nm H := (fz_nm_fr rfl hf303).trans rfl
                      have hS322 : st_S sm H298 := st_S_fr rfl hf303 hS
                      refine fz_iconst ⟨by decide, by decide⟩ kL_law rfl ?_
                      refine fz_icmp_ne (tgt := 304) kL_law rfl (by decide) (fun c323 => ?_) (fun c323 => ?_)
                      · exfalso; omega
                      · refine fz_aload_n kL_law rfl rfl ?_
                        refine fz_bipush ⟨by decide, by decide⟩ kL_law rfl ?_
                        have b324 : 0 ≤ H298 44 2 ∧ H298 44 2 ≤ 50 := hI302.1 44 _
                        refine fz_callV (d' := 1) (M' := mX10_body) (As := [fz_i 9]) (st := []) kL_law rfl rfl vX10_body rfl rfl rfl rfl (Nat.le_of_ble_eq_true rfl) (Nat.le_of_ble_eq_true rfl) (by decide) (sX10_body H298 hI302 9 ) (fun H325 r326 q327 o328 => ?_)
                        obtain ⟨hI329, hf330, y334, rfl, f331, f332, f333⟩ := q327
                        clear o328
                        have hf335 := fz_fr_tr hf308 hf330 (show fz_su [(44, 2), (45, 99999)] [(1, 7), (1, 8), (2, 99999), (3, 99999), (4, 99999), (5, 99999), (6, 99999), (7, 99999), (8, 99999), (9, 5), (10, 99999), (11, 99999), (12, 99999), (13, 99999), (14, 99999), (15, 4), (16, 99999), (17, 99999), (18, 99999), (19, 99999), (20, 2), (20, 3), (20, 4), (21, 4), (22, 99999), (23, 99999), (26, 99999), (27, 8), (27, 9), (28, 99999), (29, 99999), (30, 99999), (31, 99999), (32, 99999), (33, 3), (33, 4), (33, 5), (33, 6), (33, 7), (34, 99999), (35, 4), (35, 5), (36, 99999), (37, 99999), (38, 99999), (39, 99999), (40, 1), (40, 2), (40, 3), (40, 4), (40, 5), (40, 6), (41, 99999), (42, 99999), (43, 99999), (44, 2), (45, 99999), (48, 99999), (50, 99999), (51, 99999), (52, 99999), (53, 99999)] = true from rfl)
                        have hRE336 : fz_RE H325 := fz_RE_eq (funext fun s => hf330 5 s rfl) (funext fun s => hf330 6 s rfl) (hf330 1 8 rfl) (hf330 1 7 rfl) hRE309
                        have hRV337 : fz_RV H325 := fz_RV_eq (funext fun s => hf330 7 s rfl) (funext fun s => hf330 8 s rfl) (funext fun s => hf330 3 s rfl) (funext fun s => hf330 4 s rfl) (funext fun s => hf330 5 s rfl) (funext fun s => hf330 6 s rfl) (hf330 1 7 rfl) (hf330 1 8 rfl) hRV310
                        have hRP2338 : fz_RP2 H325 := fz_RP2_eq (funext fun s => hf330 11 s rfl) (hf330 9 5 rfl) (hf330 1 7 rfl) hRP2311
                        have hN339 : st_N tw H325 := st_N_eq (hf330 53 0 rfl) (hf330 53 1 rfl) (hf330 53 2 rfl) (hf330 1 7 rfl) (hf330 1 8 rfl) (hf330 9 5 rfl) (hf330 35 4 rfl) (hf330 20 2 rfl) hN312
                        have hL1340 : st_L1 H325 := st_L1_eq (funext fun s => hf330 3 s rfl) (hf330 1 8 rfl) hL1313
                        have hZ341 : st_Z H325 := st_Z_eq (hf330 40 1 rfl) (hf330 40 2 rfl) (hf330 40 3 rfl) (hf330 40 4 rfl) (hf330 40 5 rfl) (funext fun s => hf330 41 s rfl) hZ314
                        have hIm342 : st_Im H325 := st_Im_eq (hf330 40 6 rfl) (funext fun s => hf330 43 s rfl) (funext fun s => hf330 42 s rfl) hIm315
                        have hRT343 : fz_RT H325 := fz_RT_eq (funext fun s => hf330 41 s rfl) (funext fun s => hf330 42 s rfl) (hf330 1 7 rfl) hRT316
                        have hX344 : fz_Xc H325 := fz_Xc_fr hf330 rfl hX317
                        have t345 : H325 9 5 = H298 9 5 := hf330 9 5 rfl
                        have t346 : H325 1 7 = H298 1 7 := hf330 1 7 rfl
                        have t347 : H325 1 8 = H298 1 8 := hf330 1 8 rfl
                        have t348 : H325 48 0 = H298 48 0 := hf330 48 0 rfl
                        have t349 : H325 50 0 = H298 50 0 := hf330 50 0 rfl
                        have t350 : H325 51 0 = H298 51 0 := hf330 51 0 rfl
                        have nm351 : fz_nm H325 = fz_nm H := (fz_nm_fr rfl hf330).trans nm321
                        have hS352 : st_S sm H325 := st_S_fr rfl hf330 hS322
                        refine fz_iconst ⟨by decide, by decide⟩ kL_law rfl ?_
                        refine fz_icmp_ne (tgt := 304) kL_law rfl (by decide) (fun c353 => ?_) (fun c353 => ?_)
                        · exfalso; omega
                        · refine fz_aload_n kL_law rfl rfl ?_
                          refine fz_callS (d' := 7) (M' := mL_told) (As := [fz_r 0]) (st := []) kL_law rfl rfl vL_told rfl rfl (Nat.le_of_ble_eq_true rfl) (Nat.le_of_ble_eq_true rfl) (by decide) (sL_told H325 hI329  ) (fun H354 r355 q356 o357 => ?_)
                          obtain ⟨hI358, hf359, y362, rfl, f360, f361⟩ := q356
                          clear o357
                          have hf363 := fz_fr_tr hf335 hf359 (show fz_su [(18, 99999), (19, 99999), (29, 99999), (30, 99999), (32, 99999)] [(1, 7), (1, 8), (2, 99999), (3, 99999), (4, 99999), (5, 99999), (6, 99999), (7, 99999), (8, 99999), (9, 5), (10, 99999), (11, 99999), (12, 99999), (13, 99999), (14, 99999), (15, 4), (16, 99999), (17, 99999), (18, 99999), (19, 99999), (20, 2), (20, 3), (20, 4), (21, 4), (22, 99999), (23, 99999), (26, 99999), (27, 8), (27, 9), (28, 99999), (29, 99999), (30, 99999), (31, 99999), (32, 99999), (33, 3), (33, 4), (33, 5), (33, 6), (33, 7), (34, 99999), (35, 4), (35, 5), (36, 99999), (37, 99999), (38, 99999), (39, 99999), (40, 1), (40, 2), (40, 3), (40, 4), (40, 5), (40, 6), (41, 99999), (42, 99999), (43, 99999), (44, 2), (45, 99999), (48, 99999), (50, 99999), (51, 99999), (52, 99999), (53, 99999)] = true from rfl)
                          have hRE364 : fz_RE H354 := fz_RE_eq (funext fun s => hf359 5 s rfl) (funext fun s => hf359 6 s rfl) (hf359 1 8 rfl) (hf359 1 7 rfl) hRE336
                          have hRV365 : fz_RV H354 := fz_RV_eq (funext fun s => hf359 7 s rfl) (funext fun s => hf359 8 s rfl) (funext fun s => hf359 3 s rfl) (funext fun s => hf359 4 s rfl) (funext fun s => hf359 5 s rfl) (funext fun s => hf359 6 s rfl) (hf359 1 7 rfl) (hf359 1 8 rfl) hRV337
                          have hRP2366 : fz_RP2 H354 := fz_RP2_eq (funext fun s => hf359 11 s rfl) (hf359 9 5 rfl) (hf359 1 7 rfl) hRP2338
                          have hN367 : st_N tw H354 := st_N_eq (hf359 53 0 rfl) (hf359 53 1 rfl) (hf359 53 2 rfl) (hf359 1 7 rfl) (hf359 1 8 rfl) (hf359 9 5 rfl) (hf359 35 4 rfl) (hf359 20 2 rfl) hN339
                          have hL1368 : st_L1 H354 := st_L1_eq (funext fun s => hf359 3 s rfl) (hf359 1 8 rfl) hL1340
                          have hZ369 : st_Z H354 := st_Z_eq (hf359 40 1 rfl) (hf359 40 2 rfl) (hf359 40 3 rfl) (hf359 40 4 rfl) (hf359 40 5 rfl) (funext fun s => hf359 41 s rfl) hZ341
                          have hIm370 : st_Im H354 := st_Im_eq (hf359 40 6 rfl) (funext fun s => hf359 43 s rfl) (funext fun s => hf359 42 s rfl) hIm342
                          have hRT371 : fz_RT H354 := fz_RT_eq (funext fun s => hf359 41 s rfl) (funext fun s => hf359 42 s rfl) (hf359 1 7 rfl) hRT343
                          have hX372 : fz_Xc H354 := fz_Xc_fr hf359 rfl hX344
                          have t373 : H354 9 5 = H325 9 5 := hf359 9 5 rfl
                          have t374 : H354 1 7 = H325 1 7 := hf359 1 7 rfl
                          have t375 : H354 1 8 = H325 1 8 := hf359 1 8 rfl
                          have t376 : H354 48 0 = H325 48 0 := hf359 48 0 rfl
                          have t377 : H354 50 0 = H325 50 0 := hf359 50 0 rfl
                          have t378 : H354 51 0 = H325 51 0 := hf359 51 0 rfl
                          have nm379 : fz_nm H354 = fz_nm H := (fz_nm_fr rfl hf359).trans nm351
                          have hS380 : st_S sm H354 := st_S_fr rfl hf359 hS352
                          refine fz_lload kL_law rfl rfl ?_
                          have k381 : y362 = sm := st_S_t hS352 f361
                          refine fz_lcmp kL_law rfl ?_
                          have b382 := fz_cmp_c y362 sm
                          refine fz_if_eq (tgt := 306) kL_law rfl (by decide) (fun c383 => ?_) (fun c383 => ?_)
                          · exact sL_l306 h H354 tw sm hI358 hf363 hX372 hRE364 hRV365 hRP2366 hN367 hS380 hL1368 hZ369 hIm370 hp0 (by omega)
                          · exfalso; omega

set_option maxHeartbeats 1000000 in
set_option maxRecDepth 100000 in
theorem sL_l129 (h H : fz_H) (tw sm : Int) (hI : fz_Iv H) (hf : fz_fr [(1, 7), (1, 8), (2, 99999), (3, 99999), (4, 99999), (5, 99999), (6, 99999), (7, 99999), (8, 99999), (9, 5), (10, 99999), (11, 99999), (12, 99999), (13, 99999), (14, 99999), (15, 4), (16, 99999), (17, 99999), (18, 99999), (19, 99999), (20, 2), (20, 3), (20, 4), (21, 4), (22, 99999), (23, 99999), (26, 99999), (27, 8), (27, 9), (28, 99999), (29, 99999), (30, 99999), (31, 99999), (32, 99999), (33, 3), (33, 4), (33, 5), (33, 6), (33, 7), (34, 99999), (35, 4), (35, 5), (36, 99999), (37, 99999), (38, 99999), (39, 99999), (40, 1), (40, 2), (40, 3), (40, 4), (40, 5), (40, 6), (41, 99999), (42, 99999), (43, 99999), (44, 2), (45, 99999), (48, 99999), (50, 99999), (51, 99999), (52, 99999), (53, 99999)] h H) (hX : fz_Xc H) (hRE : fz_RE H) (hRV : fz_RV H) (hRP2 : fz_RP2 H) (hN : st_N tw H) (hS : st_S sm H) (hL1 : st_L1 H) (hZ : st_Z H) (hp0 : 0 ≤ h 200 100000 ∧ h 200 100000 ≤ 3072) (hq0 : 0 ≤ tw ∧ tw ≤ 8) (hq1 : ∀ s : Nat, s < 4 → H 42 s = 0) : fz_R 48 mL_law 129 [(0, fz_r 200), (1, fz_r 0), (2, fz_r 53), (3, fz_i tw), (4, fz_l sm)] [] H (qL_law h) := by
  refine fz_aload_n kL_law rfl rfl ?_
  refine fz_callS (d' := 7) (M' := mL_told) (As := [fz_r 0]) (st := []) kL_law rfl rfl vL_told rfl rfl (Nat.le_of_ble_eq_true rfl) (Nat.le_of_ble_eq_true rfl) (by decide) (sL_told H hI  ) (fun H1 r2 q3 o4 => ?_)
  obtain ⟨hI5, hf6, y9, rfl, f7, f8⟩ := q3
  clear o4
  have hf10 := fz_fr_tr hf hf6 (show fz_su [(18, 99999), (19, 99999), (29, 99999), (30, 99999), (32, 99999)] [(1, 7), (1, 8), (2, 99999), (3, 99999), (4, 99999), (5, 99999), (6, 99999), (7, 99999), (8, 99999), (9, 5), (10, 99999), (11, 99999), (12, 99999), (13, 99999), (14, 99999), (15, 4), (16, 99999), (17, 99999), (18, 99999), (19, 99999), (20, 2), (20, 3), (20, 4), (21, 4), (22, 99999), (23, 99999), (26, 99999), (27, 8), (27, 9), (28, 99999), (29, 99999), (30, 99999), (31, 99999), (32, 99999), (33, 3), (33, 4), (33, 5), (33, 6), (33, 7), (34, 99999), (35, 4), (35, 5), (36, 99999), (37, 99999), (38, 99999), (39, 99999), (40, 1), (40, 2), (40, 3), (40, 4), (40, 5), (40, 6), (41, 99999), (42, 99999), (43, 99999), (44, 2), (45, 99999), (48, 99999), (50, 99999), (51, 99999), (52, 99999), (53, 99999)] = true from rfl)
  have hRE11 : fz_RE H1 := fz_RE_eq (funext fun s => hf6 5 s rfl) (funext fun s => hf6 6 s rfl) (hf6 1 8 rfl) (hf6 1 7 rfl) hRE
  have hRV12 : fz_RV H1 := fz_RV_eq (funext fun s => hf6 7 s rfl) (funext fun s => hf6 8 s rfl) (funext fun s => hf6 3 s rfl) (funext fun s => hf6 4 s rfl) (funext fun s => hf6 5 s rfl) (funext fun s => hf6 6 s rfl) (hf6 1 7 rfl) (hf6 1 8 rfl) hRV
  have hRP213 : fz_RP2 H1 := fz_RP2_eq (funext fun s => hf6 11 s rfl) (hf6 9 5 rfl) (hf6 1 7 rfl) hRP2
  have hN14 : st_N tw H1 := st_N_eq (hf6 53 0 rfl) (hf6 53 1 rfl) (hf6 53 2 rfl) (hf6 1 7 rfl) (hf6 1 8 rfl) (hf6 9 5 rfl) (hf6 35 4 rfl) (hf6 20 2 rfl) hN
  have hL115 : st_L1 H1 := st_L1_eq (funext fun s => hf6 3 s rfl) (hf6 1 8 rfl) hL1
  have hZ16 : st_Z H1 := st_Z_eq (hf6 40 1 rfl) (hf6 40 2 rfl) (hf6 40 3 rfl) (hf6 40 4 rfl) (hf6 40 5 rfl) (funext fun s => hf6 41 s rfl) hZ
  have hX17 : fz_Xc H1 := fz_Xc_fr hf6 rfl hX
  have t18 : H1 9 5 = H 9 5 := hf6 9 5 rfl
  have t19 : H1 1 7 = H 1 7 := hf6 1 7 rfl
  have t20 : H1 1 8 = H 1 8 := hf6 1 8 rfl
  have t21 : H1 48 0 = H 48 0 := hf6 48 0 rfl
  have t22 : H1 50 0 = H 50 0 := hf6 50 0 rfl
  have t23 : H1 51 0 = H 51 0 := hf6 51 0 rfl
  have nm24 : fz_nm H1 = fz_nm H := (fz_nm_fr rfl hf6).trans rfl
  have hS25 : st_S sm H1 := st_S_fr rfl hf6 hS
  refine fz_lload kL_law rfl rfl ?_
  have k26 : y9 = sm := st_S_t hS f8
  refine fz_lcmp kL_law rfl ?_
  have b27 := fz_cmp_c y9 sm
  refine fz_if_ne (tgt := 156) kL_law rfl (by decide) (fun c28 => ?_) (fun c28 => ?_)
  · exfalso; omega
  · have hRT29 : fz_RT H1 := st_Z_RT hZ16 (fun s hs => (hf6 42 s rfl).trans (hq1 s hs))
    refine fz_aload_n kL_law rfl rfl ?_
    have b31 : 0 ≤ H1 40 1 ∧ H1 40 1 ≤ 999 := hI5.1 40 _
    refine fz_callV (d' := 2) (M' := mX10_image) (As := []) (st := []) kL_law rfl rfl vX10_image rfl rfl rfl rfl (Nat.le_of_ble_eq_true rfl) (Nat.le_of_ble_eq_true rfl) (by decide) (sX10_image H1 hI5  hRT29) (fun H32 r33 q34 o35 => ?_)
    obtain ⟨hI36, hf37, hRT38, y43, rfl, f39, f40, f41, f42⟩ := q34
    clear o35
    have hf44 := fz_fr_tr hf10 hf37 (show fz_su [(40, 6), (42, 99999), (43, 99999)] [(1, 7), (1, 8), (2, 99999), (3, 99999), (4, 99999), (5, 99999), (6, 99999), (7, 99999), (8, 99999), (9, 5), (10, 99999), (11, 99999), (12, 99999), (13, 99999), (14, 99999), (15, 4), (16, 99999), (17, 99999), (18, 99999), (19, 99999), (20, 2), (20, 3), (20, 4), (21, 4), (22, 99999), (23, 99999), (26, 99999), (27, 8), (27, 9), (28, 99999), (29, 99999), (30, 99999), (31, 99999), (32, 99999), (33, 3), (33, 4), (33, 5), (33, 6), (33, 7), (34, 99999), (35, 4), (35, 5), (36, 99999), (37, 99999), (38, 99999), (39, 99999), (40, 1), (40, 2), (40, 3), (40, 4), (40, 5), (40, 6), (41, 99999), (42, 99999), (43, 99999), (44, 2), (45, 99999), (48, 99999), (50, 99999), (51, 99999), (52, 99999), (53, 99999)] = true from rfl)
    have hRE45 : fz_RE H32 := fz_RE_eq (funext fun s => hf37 5 s rfl) (funext fun s => hf37 6 s rfl) (hf37 1 8 rfl) (hf37 1 7 rfl) hRE11
    have hRV46 : fz_RV H32 := fz_RV_eq (funext fun s => hf37 7 s rfl) (funext fun s => hf37 8 s rfl) (funext fun s => hf37 3 s rfl) (funext fun s => hf37 4 s rfl) (funext fun s => hf37 5 s rfl) (funext fun s => hf37 6 s rfl) (hf37 1 7 rfl) (hf37 1 8 rfl) hRV12
    have hRP247 : fz_RP2 H32 := fz_RP2_eq (funext fun s => hf37 11 s rfl) (hf37 9 5 rfl) (hf37 1 7 rfl) hRP213
    have hN48 : st_N tw H32 := st_N_eq (hf37 53 0 rfl) (hf37 53 1 rfl) (hf37 53 2 rfl) (hf37 1 7 rfl) (hf37 1 8 rfl) (hf37 9 5 rfl) (hf37 35 4 rfl) (hf37 20 2 rfl) hN14
    have hL149 : st_L1 H32 := st_L1_eq (funext fun s => hf37 3 s rfl) (hf37 1 8 rfl) hL115
    have hZ50 : st_Z H32 := st_Z_eq (hf37 40 1 rfl) (hf37 40 2 rfl) (hf37 40 3 rfl) (hf37 40 4 rfl) (hf37 40 5 rfl) (funext fun s => hf37 41 s rfl) hZ16
    have hX51 : fz_Xc H32 := fz_Xc_fr hf37 rfl hX17
    have t52 : H32 9 5 = H1 9 5 := hf37 9 5 rfl
    have t53 : H32 1 7 = H1 1 7 := hf37 1 7 rfl
    have t54 : H32 1 8 = H1 1 8 := hf37 1 8 rfl
    have t55 : H32 48 0 = H1 48 0 := hf37 48 0 rfl
    have t56 : H32 50 0 = H1 50 0 := hf37 50 0 rfl
    have t57 : H32 51 0 = H1 51 0 := hf37 51 0 rfl
    have nm58 : fz_nm H32 = fz_nm H := (fz_nm_fr rfl hf37).trans nm24
    have hS59 : st_S sm H32 := st_S_fr rfl hf37 hS25
    have k60 := hZ16.1.1
    have hIm61 : st_Im H32 := st_Im_in hZ16 f41 f42
    refine fz_if_ne (tgt := 156) kL_law rfl (by decide) (fun c63 => ?_) (fun c63 => ?_)
    · exfalso; omega
    · refine fz_aload_n kL_law rfl rfl ?_
      refine fz_callS (d' := 7) (M' := mL_told) (As := [fz_r 0]) (st := []) kL_law rfl rfl vL_told rfl rfl (Nat.le_of_ble_eq_true rfl) (Nat.le_of_ble_eq_true rfl) (by decide) (sL_told H32 hI36  ) (fun H64 r65 q66 o67 => ?_)
      obtain ⟨hI68, hf69, y72, rfl, f70, f71⟩ := q66
      clear o67
      have hf73 := fz_fr_tr hf44 hf69 (show fz_su [(18, 99999), (19, 99999), (29, 99999), (30, 99999), (32, 99999)] [(1, 7), (1, 8), (2, 99999), (3, 99999), (4, 99999), (5, 99999), (6, 99999), (7, 99999), (8, 99999), (9, 5), (10, 99999), (11, 99999), (12, 99999), (13, 99999), (14, 99999), (15, 4), (16, 99999), (17, 99999), (18, 99999), (19, 99999), (20, 2), (20, 3), (20, 4), (21, 4), (22, 99999), (23, 99999), (26, 99999), (27, 8), (27, 9), (28, 99999), (29, 99999), (30, 99999), (31, 99999), (32, 99999), (33, 3), (33, 4), (33, 5), (33, 6), (33, 7), (34, 99999), (35, 4), (35, 5), (36, 99999), (37, 99999), (38, 99999), (39, 99999), (40, 1), (40, 2), (40, 3), (40, 4), (40, 5), (40, 6), (41, 99999), (42, 99999), (43, 99999), (44, 2), (45, 99999), (48, 99999), (50, 99999), (51, 99999), (52, 99999), (53, 99999)] = true from rfl)
      have hRE74 : fz_RE H64 := fz_RE_eq (funext fun s => hf69 5 s rfl) (funext fun s => hf69 6 s rfl) (hf69 1 8 rfl) (hf69 1 7 rfl) hRE45
      have hRV75 : fz_RV H64 := fz_RV_eq (funext fun s => hf69 7 s rfl) (funext fun s => hf69 8 s rfl) (funext fun s => hf69 3 s rfl) (funext fun s => hf69 4 s rfl) (funext fun s => hf69 5 s rfl) (funext fun s => hf69 6 s rfl) (hf69 1 7 rfl) (hf69 1 8 rfl) hRV46
      have hRP276 : fz_RP2 H64 := fz_RP2_eq (funext fun s => hf69 11 s rfl) (hf69 9 5 rfl) (hf69 1 7 rfl) hRP247
      have hN77 : st_N tw H64 := st_N_eq (hf69 53 0 rfl) (hf69 53 1 rfl) (hf69 53 2 rfl) (hf69 1 7 rfl) (hf69 1 8 rfl) (hf69 9 5 rfl) (hf69 35 4 rfl) (hf69 20 2 rfl) hN48
      have hL178 : st_L1 H64 := st_L1_eq (funext fun s => hf69 3 s rfl) (hf69 1 8 rfl) hL149
      have hZ79 : st_Z H64 := st_Z_eq (hf69 40 1 rfl) (hf69 40 2 rfl) (hf69 40 3 rfl) (hf69 40 4 rfl) (hf69 40 5 rfl) (funext fun s => hf69 41 s rfl) hZ50
      have hIm80 : st_Im H64 := st_Im_eq (hf69 40 6 rfl) (funext fun s => hf69 43 s rfl) (funext fun s => hf69 42 s rfl) hIm61
      have hRT81 : fz_RT H64 := fz_RT_eq (funext fun s => hf69 41 s rfl) (funext fun s => hf69 42 s rfl) (hf69 1 7 rfl) hRT38
      have hX82 : fz_Xc H64 := fz_Xc_fr hf69 rfl hX51
      have t83 : H64 9 5 = H32 9 5 := hf69 9 5 rfl
      have t84 : H64 1 7 = H32 1 7 := hf69 1 7 rfl
      have t85 : H64 1 8 = H32 1 8 := hf69 1 8 rfl
      have t86 : H64 48 0 = H32 48 0 := hf69 48 0 rfl
      have t87 : H64 50 0 = H32 50 0 := hf69 50 0 rfl
      have t88 : H64 51 0 = H32 51 0 := hf69 51 0 rfl
      have nm89 : fz_nm H64 = fz_nm H := (fz_nm_fr rfl hf69).trans nm58
      have hS90 : st_S sm H64 := st_S_fr rfl hf69 hS59
      refine fz_lload kL_law rfl rfl ?_
      have k91 : y72 = sm := st_S_t hS59 f71
      refine fz_lcmp kL_law rfl ?_
      have b92 := fz_cmp_c y72 sm
      refine fz_if_eq (tgt := 158) kL_law rfl (by decide) (fun c93 => ?_) (fun c93 => ?_)
      · exact sL_l158 h H64 tw sm hI68 hf73 hX82 hRE74 hRV75 hRP276 hN77 hS90 hL178 hZ79 hIm80 hp0 (by omega)
      · exfalso; omega

set_option maxHeartbeats 1000000 in
set_option maxRecDepth 100000 in
theorem sL_l116 (h H : fz_H) (hI : fz_Iv H) (hf : fz_fr [(1, 7), (1, 8), (2, 99999), (3, 99999), (4, 99999), (5, 99999), (6, 99999), (7, 99999), (8, 99999), (9, 5), (10, 99999), (11, 99999), (12, 99999), (13, 99999), (14, 99999), (15, 4), (16, 99999), (17, 99999), (18, 99999), (19, 99999), (20, 2), (20, 3), (20, 4), (21, 4), (22, 99999), (23, 99999), (26, 99999), (27, 8), (27, 9), (28, 99999), (29, 99999), (30, 99999), (31, 99999), (32, 99999), (33, 3), (33, 4), (33, 5), (33, 6), (33, 7), (34, 99999), (35, 4), (35, 5), (36, 99999), (37, 99999), (38, 99999), (39, 99999), (40, 1), (40, 2), (40, 3), (40, 4), (40, 5), (40, 6), (41, 99999), (42, 99999), (43, 99999), (44, 2), (45, 99999), (48, 99999), (50, 99999), (51, 99999), (52, 99999), (53, 99999)] h H) (hX : fz_Xc H) (hRE : fz_RE H) (hRV : fz_RV H) (hZ : st_Z H) (hp0 : 0 ≤ h 200 100000 ∧ h 200 100000 ≤ 3072) (hq0 : 0 ≤ H 200 100000 ∧ H 200 100000 ≤ 3072) (hq1 : 0 ≤ H 205 100000 ∧ H 205 100000 ≤ 120) (hq2 : H 1 7 = 0 ∧ H 1 8 = 0 ∧ H 9 5 = 0 ∧ H 20 2 = 0 ∧ H 35 4 = 0) (hq3 : H 53 1 = 0 ∧ H 53 2 = 0) (hq4 : ∀ s : Nat, s < 4 → H 42 s = 0) : fz_R 48 mL_law 116 [(0, fz_r 200), (1, fz_r 0), (2, fz_r 53)] [fz_r 205, fz_r 53, fz_r 200, fz_r 0] H (qL_law h) := by
  have b1 : 0 ≤ H 1 7 ∧ H 1 7 ≤ 8 := hI.1 1 _
  have b2 : 0 ≤ H 1 8 ∧ H 1 8 ≤ 12 := hI.1 1 _
  have b3 : 0 ≤ H 9 5 ∧ H 9 5 ≤ 10 := hI.1 9 _
  have b4 : 0 ≤ H 20 2 ∧ H 20 2 ≤ 120 := hI.1 20 _
  have b5 : 0 ≤ H 35 4 ∧ H 35 4 ≤ 40 := hI.1 35 _
  have b6 : (-2147483648) ≤ H 53 1 ∧ H 53 1 ≤ 2147483647 := hI.1 53 _
  have b7 : (-2147483648) ≤ H 53 2 ∧ H 53 2 ≤ 2147483647 := hI.1 53 _
  have e8 : H 200 100000 = h 200 100000 := hf 200 100000 rfl
  have e9 : H 205 100000 = h 205 100000 := hf 205 100000 rfl
  refine fz_callS (d' := 47) (M' := mL_world) (As := [fz_r 0, fz_r 200, fz_r 53, fz_r 205]) (st := []) kL_law rfl rfl vL_world rfl rfl (Nat.le_of_ble_eq_true rfl) (Nat.le_of_ble_eq_true rfl) (by decide) (sL_world H hI  (hX) hRE hRV (by omega) (by omega) (by omega) (by omega)) (fun H10 r11 q12 o13 => ?_)
  obtain ⟨hI14, hf15, hX16, hRE17, hRV18, rfl, f19, f20, f21, f22, f23, f24, f25, f26⟩ := q12
  clear o13
  have hf27 := fz_fr_tr hf hf15 (show fz_su [(1, 7), (1, 8), (2, 99999), (3, 99999), (4, 99999), (5, 99999), (6, 99999), (7, 99999), (8, 99999), (9, 5), (10, 99999), (11, 99999), (12, 99999), (13, 99999), (14, 99999), (15, 4), (16, 99999), (17, 99999), (20, 2), (20, 3), (20, 4), (21, 4), (22, 99999), (23, 99999), (26, 99999), (27, 8), (27, 9), (28, 99999), (35, 4), (35, 5), (36, 99999), (37, 99999), (38, 99999), (39, 99999), (53, 99999)] [(1, 7), (1, 8), (2, 99999), (3, 99999), (4, 99999), (5, 99999), (6, 99999), (7, 99999), (8, 99999), (9, 5), (10, 99999), (11, 99999), (12, 99999), (13, 99999), (14, 99999), (15, 4), (16, 99999), (17, 99999), (18, 99999), (19, 99999), (20, 2), (20, 3), (20, 4), (21, 4), (22, 99999), (23, 99999), (26, 99999), (27, 8), (27, 9), (28, 99999), (29, 99999), (30, 99999), (31, 99999), (32, 99999), (33, 3), (33, 4), (33, 5), (33, 6), (33, 7), (34, 99999), (35, 4), (35, 5), (36, 99999), (37, 99999), (38, 99999), (39, 99999), (40, 1), (40, 2), (40, 3), (40, 4), (40, 5), (40, 6), (41, 99999), (42, 99999), (43, 99999), (44, 2), (45, 99999), (48, 99999), (50, 99999), (51, 99999), (52, 99999), (53, 99999)] = true from rfl)
  have hZ28 : st_Z H10 := st_Z_eq (hf15 40 1 rfl) (hf15 40 2 rfl) (hf15 40 3 rfl) (hf15 40 4 rfl) (hf15 40 5 rfl) (funext fun s => hf15 41 s rfl) hZ
  have t29 : H10 48 0 = H 48 0 := hf15 48 0 rfl
  have t30 : H10 50 0 = H 50 0 := hf15 50 0 rfl
  have t31 : H10 51 0 = H 51 0 := hf15 51 0 rfl
  refine fz_aload_n kL_law rfl rfl ?_
  refine fz_iconst ⟨by decide, by decide⟩ kL_law rfl ?_
  obtain ⟨v32, e33⟩ : ∃ z, H10 53 (0) = z := ⟨_, rfl⟩
  refine fz_ialdV (n := 40) (v := v32) kL_law rfl rfl (by omega) (by omega) e33 ?_
  have b34 : (-2147483648) ≤ v32 ∧ v32 ≤ 2147483647 := by rw [← e33]; exact hI14.1 53 _
  have k35 := hI14.1 1 7
  have k36 : 0 ≤ H10 1 7 ∧ H10 1 7 ≤ 8 := hI14.1 1 7
  have k38 : 0 ≤ v32 ∧ v32 ≤ 8 := by omega
  refine fz_istore_n (ls' := [(3, fz_i v32), (0, fz_r 200), (1, fz_r 0), (2, fz_r 53)]) kL_law rfl (by decide) rfl ?_
  refine fz_aload_n kL_law rfl rfl ?_
  refine fz_callS (d' := 7) (M' := mL_told) (As := [fz_r 0]) (st := []) kL_law rfl rfl vL_told rfl rfl (Nat.le_of_ble_eq_true rfl) (Nat.le_of_ble_eq_true rfl) (by decide) (sL_told H10 hI14  ) (fun H39 r40 q41 o42 => ?_)
  obtain ⟨hI43, hf44, y47, rfl, f45, f46⟩ := q41
  clear o42
  have hf48 := fz_fr_tr hf27 hf44 (show fz_su [(18, 99999), (19, 99999), (29, 99999), (30, 99999), (32, 99999)] [(1, 7), (1, 8), (2, 99999), (3, 99999), (4, 99999), (5, 99999), (6, 99999), (7, 99999), (8, 99999), (9, 5), (10, 99999), (11, 99999), (12, 99999), (13, 99999), (14, 99999), (15, 4), (16, 99999), (17, 99999), (18, 99999), (19, 99999), (20, 2), (20, 3), (20, 4), (21, 4), (22, 99999), (23, 99999), (26, 99999), (27, 8), (27, 9), (28, 99999), (29, 99999), (30, 99999), (31, 99999), (32, 99999), (33, 3), (33, 4), (33, 5), (33, 6), (33, 7), (34, 99999), (35, 4), (35, 5), (36, 99999), (37, 99999), (38, 99999), (39, 99999), (40, 1), (40, 2), (40, 3), (40, 4), (40, 5), (40, 6), (41, 99999), (42, 99999), (43, 99999), (44, 2), (45, 99999), (48, 99999), (50, 99999), (51, 99999), (52, 99999), (53, 99999)] = true from rfl)
  have k49 : H39 20 2 = 0 := (hf44 20 2 rfl).trans f23
  have hRE50 : fz_RE H39 := fz_RE_eq (funext fun s => hf44 5 s rfl) (funext fun s => hf44 6 s rfl) (hf44 1 8 rfl) (hf44 1 7 rfl) hRE17
  have hRV51 : fz_RV H39 := fz_RV_eq (funext fun s => hf44 7 s rfl) (funext fun s => hf44 8 s rfl) (funext fun s => hf44 3 s rfl) (funext fun s => hf44 4 s rfl) (funext fun s => hf44 5 s rfl) (funext fun s => hf44 6 s rfl) (hf44 1 7 rfl) (hf44 1 8 rfl) hRV18
  have hZ52 : st_Z H39 := st_Z_eq (hf44 40 1 rfl) (hf44 40 2 rfl) (hf44 40 3 rfl) (hf44 40 4 rfl) (hf44 40 5 rfl) (funext fun s => hf44 41 s rfl) hZ28
  have hX53 : fz_Xc H39 := fz_Xc_fr hf44 rfl hX16
  have t54 : H39 9 5 = H10 9 5 := hf44 9 5 rfl
  have t55 : H39 1 7 = H10 1 7 := hf44 1 7 rfl
  have t56 : H39 1 8 = H10 1 8 := hf44 1 8 rfl
  have t57 : H39 48 0 = H10 48 0 := hf44 48 0 rfl
  have t58 : H39 50 0 = H10 50 0 := hf44 50 0 rfl
  have t59 : H39 51 0 = H10 51 0 := hf44 51 0 rfl
  refine fz_lstore (ls' := [(4, fz_l y47), (3, fz_i v32), (0, fz_r 200), (1, fz_r 0), (2, fz_r 53)]) kL_law rfl (by decide) rfl ?_
  have k60 : H39 53 0 = H10 53 0 := hf44 53 0 rfl
  have k61 : H39 53 1 = H10 53 1 := hf44 53 1 rfl
  have k62 : H39 53 2 = H10 53 2 := hf44 53 2 rfl
  have k63 : H39 35 4 = H10 35 4 := hf44 35 4 rfl
  have k64 : H39 20 2 = H10 20 2 := hf44 20 2 rfl
  have k65 : H39 1 7 = H10 1 7 := hf44 1 7 rfl
  have k66 : H39 1 8 = H10 1 8 := hf44 1 8 rfl
  have k67 : H39 9 5 = H10 9 5 := hf44 9 5 rfl
  have hN : st_N v32 H39 := by unfold st_N; omega
  have hS : st_S y47 H39 := st_S_fr rfl hf44 (show st_S y47 H10 from f46)
  have hL1 : st_L1 H39 := st_L1_eq (funext fun s => hf44 3 s rfl) (hf44 1 8 rfl) f26
  have hRP2 : fz_RP2 H39 := fz_RP2_eq (funext fun s => hf44 11 s rfl) (hf44 9 5 rfl) (hf44 1 7 rfl) f25
  have hz : ∀ s : Nat, s < 4 → H39 42 s = 0 := fun s hs => (hf44 42 s rfl).trans ((hf15 42 s rfl).trans (hq4 s hs))
  refine fz_sub (fz_pk_sub (ls' := [(0, fz_r 200), (1, fz_r 0), (2, fz_r 53), (3, fz_i v32), (4, fz_l y47)]) [2, 3, 4, 1, 0] rfl) ?_
  exact sL_l129 h H39 v32 y47 hI43 hf48 hX53 hRE50 hRV51 hRP2 hN hS hL1 hZ52 hp0 (by omega) hz
