/-! ===== the journey, and back ===== -/
def st_wl (B C : fz_H) : Prop := fz_fr [(18, 99999), (19, 99999), (29, 99999), (40, 1), (40, 2), (40, 3), (40, 4), (41, 99999)] B C ∧ ∀ s : Nat, 4 ≤ s → C 41 s = B 41 s
theorem st_wl_0 {B : fz_H} : st_wl B B := ⟨fz_fr_rf, fun _ _ => rfl⟩
theorem st_wl_s {B C E : fz_H} {on rd r : Int} (w : st_wl B C) (f : fz_fr [(18, 99999), (19, 99999), (29, 99999), (40, 1), (40, 2), (40, 3), (40, 4), (41, 99999)] C E) (k : fz_wkC C E on rd r) : st_wl B E := by
  refine ⟨fz_fr_tr w.1 f rfl, fun s hs => ?_⟩
  rw [← w.2 s hs]
  rcases k with ⟨-, -, -, e⟩ | ⟨-, -, -, -, e⟩ | ⟨-, -, -, -, -, e⟩ | ⟨o, -, -, -, -, e⟩
  · rw [e]
  · rw [e]
  · rw [e]
  · rw [e]
    unfold fz_wkO at o
    exact fz_up_s (by omega)
theorem st_wl5 {B C : fz_H} (w : st_wl B C) (z : st_Z B) : C 40 5 = 0 := (w.1 40 5 rfl).trans z.1.2.2.2.2
theorem st_RT1 {h : fz_H} (R : fz_RT h) (p : 0 < h 1 7) : h 41 (12 / 10 : Int).toNat < h 1 7 := by
  have := (R 1 (by decide)).1
  rw [show (12 / 10 : Int).toNat = 1 from rfl]
  omega
theorem st_le0 {h : fz_H} {r : Int} (c : fl_leC h 0 r) : r = h 40 2 := by
  unfold fl_leC at c
  omega
theorem st_le3 {h : fz_H} {r : Int} (c : fl_leC h 3 r) : r = h 40 5 := by
  unfold fl_leC at c
  omega
theorem st_le4 {h : fz_H} {r : Int} (c : fl_leC h 4 r) : r = h 40 1 := by
  unfold fl_leC at c
  omega
theorem st_d3 {h h' : fz_H} {pm wt o l dn : Int} (a : fz_apC h h' (h' 9 5 - h 9 5) (fun _ => (pm / 10, h 41 (pm / 10).toNat, h 40 1, pm % 10, wt))) (f : h' 40 1 = h 40 1) (o3 : o = h' 12 dn.toNat) (le : fl_leC h' 4 l) (ed : dn = h 9 5) (n : h' 9 5 = h 9 5 + 1) : o = l := by
  have q := (a.2 0 (by decide) (by omega)).2.2.1
  rw [Int.add_zero, ← ed] at q
  have e := st_le4 le
  rw [o3, q, e, f]
theorem st_d10 {h h' : fz_H} {wt o l dn : Int} (a : fz_apC h h' (h' 9 5 - h 9 5) (fun _ => (12 / 10, h 41 (12 / 10 : Int).toNat, h 40 1, 12 % 10, wt))) (f : h' 41 = h 41) (o10 : o = h' 11 dn.toNat) (o11 : l = h' 41 (1 : Int).toNat) (ed : dn = h 9 5) (n : h' 9 5 = h 9 5 + 1) : o = l := by
  have q := (a.2 0 (by decide) (by omega)).2.1
  rw [Int.add_zero, ← ed] at q
  rw [o10, q, o11, f]
  rfl
theorem st_d5 {h h' : fz_H} {r l : Int} (d : fl_dd (h 40 5) (h' 40 5) r) (z : h 40 5 = 0) (le : fl_leC h' 3 l) (hr : 0 ≤ r) : l = 1 := by
  have e := st_le3 le
  rcases d with ⟨-, d⟩ | ⟨d, -⟩
  · rw [e, d, z]
    rfl
  · omega
theorem st_bk {h h' : fz_H} {r : Int} (m : st_Im h) (a : fz_bkC h h' r) (b : fl_bdC h h' r) : r = 0 ∧ h' 40 1 = 0 ∧ h' 40 2 = 0 ∧ h' 40 3 = 0 ∧ h' 40 4 = 0 ∧ h' 40 5 = 0 := by
  obtain ⟨m1, ⟨n0, n1, n2, n3, n4⟩, m3⟩ := m
  rcases a with ⟨a, -⟩ | ⟨-, a1, a2, a3, -⟩
  · omega
  · rcases b with ⟨b, -⟩ | ⟨-, b1, b2, b3, b4⟩
    · omega
    · exact ⟨by omega, by omega, by omega, by omega, by omega, by omega⟩
theorem st_bk41 {h h' : fz_H} {r : Int} (m : st_Im h) (a : fz_bkC h h' r) (s : Nat) (hs : s < 4) : h' 41 s = 0 := by
  obtain ⟨m1, -, m3⟩ := m
  rcases a with ⟨a, -⟩ | ⟨-, a1, a2, -⟩
  · omega
  · rw [a2, st_mx (by omega)]
    exact m3 s hs
/-- all is as it was before the first step -/
theorem st_nm_end {B C E : fz_H} {r : Int} (w : st_wl B C) (z : st_Z B) (m : st_Im C) (a : fz_bkC C E r) (b : fl_bdC C E r) (f : fz_fr [(40, 1), (40, 2), (40, 3), (40, 4), (40, 5), (41, 99999)] C E) : fz_nm E = fz_nm B := by
  have k := st_bk m a b
  obtain ⟨⟨z1, z2, z3, z4, z5⟩, z6⟩ := z
  have e41 : ∀ s, E 41 s = B 41 s := fun s => by
    by_cases c : s < 4
    · rw [st_bk41 m a s c, z6 s c]
    · rw [← w.2 s (by omega)]
      rcases a with ⟨a, -⟩ | ⟨-, -, a2, -⟩
      · have := m.1
        omega
      · rw [a2, st_mx2 (by omega)]
  have e40 : ∀ s, s ≠ 6 → E 40 s = B 40 s := fun s hs => by
    by_cases c1 : s = 1
    · subst c1; omega
    by_cases c2 : s = 2
    · subst c2; omega
    by_cases c3 : s = 3
    · subst c3; omega
    by_cases c4 : s = 4
    · subst c4; omega
    by_cases c5 : s = 5
    · subst c5; omega
    have q : ∀ x, x ≠ s → Nat.beq x s = false := fun x hx => by
      cases hb : Nat.beq x s with
      | false => rfl
      | true => exact absurd (Nat.eq_of_beq_eq_true hb) hx
    have g1 : fz_me [(40, 1), (40, 2), (40, 3), (40, 4), (40, 5), (41, 99999)] 40 s = false := by
      unfold fz_me
      simp [q 1 (Ne.symm c1), q 2 (Ne.symm c2), q 3 (Ne.symm c3), q 4 (Ne.symm c4), q 5 (Ne.symm c5)]
      decide
    have g2 : fz_me [(18, 99999), (19, 99999), (29, 99999), (40, 1), (40, 2), (40, 3), (40, 4), (41, 99999)] 40 s = false := by
      unfold fz_me
      simp [q 1 (Ne.symm c1), q 2 (Ne.symm c2), q 3 (Ne.symm c3), q 4 (Ne.symm c4)]
      decide
    exact (f 40 s g1).trans (w.1 40 s g2)
  funext c i
  show (bif fz_core c i then E c i else 0) = (bif fz_core c i then B c i else 0)
  cases hc : fz_core c i with
  | false => rfl
  | true =>
    show E c i = B c i
    by_cases c41 : c = 41
    · subst c41; exact e41 i
    by_cases c40 : c = 40
    · subst c40
      refine e40 i (fun z => ?_)
      subst z
      cases hc
    have hC := fz_core_C hc
    have q : ∀ x, fz_coreC x = false → Nat.beq x c = false := fun x hx => by
      cases hb : Nat.beq x c with
      | false => rfl
      | true =>
        have := Nat.eq_of_beq_eq_true hb
        subst this
        rw [hx] at hC
        cases hC
    have q2 : ∀ x, x ≠ c → Nat.beq x c = false := fun x hx => by
      cases hb : Nat.beq x c with
      | false => rfl
      | true => exact absurd (Nat.eq_of_beq_eq_true hb) hx
    have g1 : fz_me [(40, 1), (40, 2), (40, 3), (40, 4), (40, 5), (41, 99999)] c i = false := by
      unfold fz_me
      simp [q2 40 (Ne.symm c40), q2 41 (Ne.symm c41)]
    have g2 : fz_me [(18, 99999), (19, 99999), (29, 99999), (40, 1), (40, 2), (40, 3), (40, 4), (41, 99999)] c i = false := by
      unfold fz_me
      simp [q2 40 (Ne.symm c40), q2 41 (Ne.symm c41), q 18 rfl, q 19 rfl, q 29 rfl]
    exact (f c i g1).trans (w.1 c i g2)
abbrev qL_law (h : fz_H) : fz_H → Option fz_V → Prop := fun h' r0 => fz_Iv h' ∧ fz_fr [(1, 7), (1, 8), (2, 99999), (3, 99999), (4, 99999), (5, 99999), (6, 99999), (7, 99999), (8, 99999), (9, 5), (10, 99999), (11, 99999), (12, 99999), (13, 99999), (14, 99999), (15, 4), (16, 99999), (17, 99999), (18, 99999), (19, 99999), (20, 2), (20, 3), (20, 4), (21, 4), (22, 99999), (23, 99999), (26, 99999), (27, 8), (27, 9), (28, 99999), (29, 99999), (30, 99999), (31, 99999), (32, 99999), (33, 3), (33, 4), (33, 5), (33, 6), (33, 7), (34, 99999), (35, 4), (35, 5), (36, 99999), (37, 99999), (38, 99999), (39, 99999), (40, 1), (40, 2), (40, 3), (40, 4), (40, 5), (40, 6), (41, 99999), (42, 99999), (43, 99999), (44, 2), (45, 99999), (48, 99999), (50, 99999), (51, 99999), (52, 99999), (53, 99999)] h h' ∧ fz_Xc h' ∧ fz_RE h' ∧ fz_RV h' ∧ ∃ r : Int, r0 = some (fz_i r) ∧ r = 1
set_option maxHeartbeats 1000000 in
set_option maxRecDepth 100000 in
theorem sL_l1567 (h H : fz_H) (tw sm dd : Int) (hI : fz_Iv H) (hf : fz_fr [(1, 7), (1, 8), (2, 99999), (3, 99999), (4, 99999), (5, 99999), (6, 99999), (7, 99999), (8, 99999), (9, 5), (10, 99999), (11, 99999), (12, 99999), (13, 99999), (14, 99999), (15, 4), (16, 99999), (17, 99999), (18, 99999), (19, 99999), (20, 2), (20, 3), (20, 4), (21, 4), (22, 99999), (23, 99999), (26, 99999), (27, 8), (27, 9), (28, 99999), (29, 99999), (30, 99999), (31, 99999), (32, 99999), (33, 3), (33, 4), (33, 5), (33, 6), (33, 7), (34, 99999), (35, 4), (35, 5), (36, 99999), (37, 99999), (38, 99999), (39, 99999), (40, 1), (40, 2), (40, 3), (40, 4), (40, 5), (40, 6), (41, 99999), (42, 99999), (43, 99999), (44, 2), (45, 99999), (48, 99999), (50, 99999), (51, 99999), (52, 99999), (53, 99999)] h H) (hX : fz_Xc H) (hRE : fz_RE H) (hRV : fz_RV H) (hRP2 : fz_RP2 H) (hN : st_N tw H) (hS : st_S sm H) (hL1 : st_L1 H) (hZ : st_Z H) (hIm : st_Im H) (hp0 : 0 ≤ h 200 100000 ∧ h 200 100000 ≤ 3072) (hq0 : 0 ≤ tw ∧ tw ≤ 8) (hq1 : dd = H 9 5) : fz_R 48 mL_law 1567 [(0, fz_r 200), (1, fz_r 0), (2, fz_r 53), (3, fz_i tw), (4, fz_l sm), (6, fz_i dd)] [] H (qL_law h) := by
  refine fz_iconst ⟨by decide, by decide⟩ kL_law rfl ?_
  refine fz_istore (ls' := [(7, fz_i 0), (0, fz_r 200), (1, fz_r 0), (2, fz_r 53), (3, fz_i tw), (4, fz_l sm), (6, fz_i dd)]) kL_law rfl (by decide) rfl ?_
  have hRT1 : fz_RT H := st_Z_RT hZ hIm.2.2
  have k3 := st_N_e hI hN
  have lp18 : ∀ (n17 : Nat) (x5 : Int) (H14 : fz_H), fz_Iv H14 → fz_fr [(1, 7), (1, 8), (2, 99999), (3, 99999), (4, 99999), (5, 99999), (6, 99999), (7, 99999), (8, 99999), (9, 5), (10, 99999), (11, 99999), (12, 99999), (13, 99999), (14, 99999), (15, 4), (16, 99999), (17, 99999), (18, 99999), (19, 99999), (20, 2), (20, 3), (20, 4), (21, 4), (22, 99999), (23, 99999), (26, 99999), (27, 8), (27, 9), (28, 99999), (29, 99999), (30, 99999), (31, 99999), (32, 99999), (33, 3), (33, 4), (33, 5), (33, 6), (33, 7), (34, 99999), (35, 4), (35, 5), (36, 99999), (37, 99999), (38, 99999), (39, 99999), (40, 1), (40, 2), (40, 3), (40, 4), (40, 5), (40, 6), (41, 99999), (42, 99999), (43, 99999), (44, 2), (45, 99999), (48, 99999), (50, 99999), (51, 99999), (52, 99999), (53, 99999)] h H14 → fz_RE H14 → fz_RV H14 → fz_RP2 H14 → fz_Xc H14 → st_N tw H14 → st_L1 H14 → st_Im H14 → fz_RT H14 → (0 ≤ x5 ∧ x5 ≤ 8) → (H14 9 5 = dd) → (st_wl H H14) → (8 - x5).toNat < n17 → fz_R 48 mL_law 1570 [(7, fz_i x5), (0, fz_r 200), (1, fz_r 0), (2, fz_r 53), (3, fz_i tw), (4, fz_l sm), (6, fz_i dd)] [] H14 (qL_law h) := by
    intro n17
    induction n17 with
    | zero => intro x5 H14 hI15 hf16 hRE6 hRV7 hRP28 hXq9 hN10 hL111 hIm12 hRT13 hv21 hv22 hv23 hm20; exact absurd hm20 (by omega)
    | succ n17 ih19 =>
      intro x5 H14 hI15 hf16 hRE6 hRV7 hRP28 hXq9 hN10 hL111 hIm12 hRT13 hv21 hv22 hv23 hm20
      refine fz_iload kL_law rfl rfl ?_
      refine fz_bipush ⟨by decide, by decide⟩ kL_law rfl ?_
      refine fz_icmp_ge (tgt := 1622) kL_law rfl (by decide) (fun c24 => ?_) (fun c24 => ?_)
      · have k25 := st_N_e hI15 hN10
        refine fz_iload_n kL_law rfl rfl ?_
        refine fz_if_le (tgt := 1643) kL_law rfl (by decide) (fun c27 => ?_) (fun c27 => ?_)
        · refine fz_iconst ⟨by decide, by decide⟩ kL_law rfl ?_
          refine fz_istore (ls' := [(7, fz_i (-1)), (0, fz_r 200), (1, fz_r 0), (2, fz_r 53), (3, fz_i tw), (4, fz_l sm), (6, fz_i dd)]) kL_law rfl (by decide) rfl ?_
          refine fz_iload kL_law rfl rfl ?_
          refine fz_if_lt (tgt := 1702) kL_law rfl (by decide) (fun c28 => ?_) (fun c28 => ?_)
          · refine fz_aload_n kL_law rfl rfl ?_
            refine fz_callV (d' := 2) (M' := mX10_back) (As := []) (st := []) kL_law rfl rfl vX10_back rfl rfl rfl rfl (Nat.le_of_ble_eq_true rfl) (Nat.le_of_ble_eq_true rfl) (by decide) (sX10_back H14 hI15  hRT13) (fun H29 r30 q31 o32 => ?_)
            obtain ⟨hI33, hf34, hRT35, y39, rfl, f36, f37, f38⟩ := q31
            clear o32
            have hf40 := fz_fr_tr hf16 hf34 (show fz_su [(40, 1), (40, 2), (40, 3), (40, 4), (40, 5), (41, 99999)] [(1, 7), (1, 8), (2, 99999), (3, 99999), (4, 99999), (5, 99999), (6, 99999), (7, 99999), (8, 99999), (9, 5), (10, 99999), (11, 99999), (12, 99999), (13, 99999), (14, 99999), (15, 4), (16, 99999), (17, 99999), (18, 99999), (19, 99999), (20, 2), (20, 3), (20, 4), (21, 4), (22, 99999), (23, 99999), (26, 99999), (27, 8), (27, 9), (28, 99999), (29, 99999), (30, 99999), (31, 99999), (32, 99999), (33, 3), (33, 4), (33, 5), (33, 6), (33, 7), (34, 99999), (35, 4), (35, 5), (36, 99999), (37, 99999), (38, 99999), (39, 99999), (40, 1), (40, 2), (40, 3), (40, 4), (40, 5), (40, 6), (41, 99999), (42, 99999), (43, 99999), (44, 2), (45, 99999), (48, 99999), (50, 99999), (51, 99999), (52, 99999), (53, 99999)] = true from rfl)
            have hRE41 : fz_RE H29 := fz_RE_eq (funext fun s => hf34 5 s rfl) (funext fun s => hf34 6 s rfl) (hf34 1 8 rfl) (hf34 1 7 rfl) hRE6
            have hRV42 : fz_RV H29 := fz_RV_eq (funext fun s => hf34 7 s rfl) (funext fun s => hf34 8 s rfl) (funext fun s => hf34 3 s rfl) (funext fun s => hf34 4 s rfl) (funext fun s => hf34 5 s rfl) (funext fun s => hf34 6 s rfl) (hf34 1 7 rfl) (hf34 1 8 rfl) hRV7
            have hRP243 : fz_RP2 H29 := fz_RP2_eq (funext fun s => hf34 11 s rfl) (hf34 9 5 rfl) (hf34 1 7 rfl) hRP28
            have hN44 : st_N tw H29 := st_N_eq (hf34 53 0 rfl) (hf34 53 1 rfl) (hf34 53 2 rfl) (hf34 1 7 rfl) (hf34 1 8 rfl) (hf34 9 5 rfl) (hf34 35 4 rfl) (hf34 20 2 rfl) hN10
            have hL145 : st_L1 H29 := st_L1_eq (funext fun s => hf34 3 s rfl) (hf34 1 8 rfl) hL111
            have hIm46 : st_Im H29 := st_Im_eq (hf34 40 6 rfl) (funext fun s => hf34 43 s rfl) (funext fun s => hf34 42 s rfl) hIm12
            have hX47 : fz_Xc H29 := fz_Xc_fr hf34 rfl hXq9
            have t48 : H29 9 5 = H14 9 5 := hf34 9 5 rfl
            have t49 : H29 1 7 = H14 1 7 := hf34 1 7 rfl
            have t50 : H29 1 8 = H14 1 8 := hf34 1 8 rfl
            have k51 := st_bk hIm12 f37 f38
            refine fz_if_ne (tgt := 1752) kL_law rfl (by decide) (fun c53 => ?_) (fun c53 => ?_)
            · exfalso; omega
            · refine fz_aload_n kL_law rfl rfl ?_
              refine fz_iconst ⟨by decide, by decide⟩ kL_law rfl ?_
              refine fz_callV (d' := 0) (M' := mX10_led) (As := [fz_i 0]) (st := []) kL_law rfl rfl vX10_led rfl rfl rfl rfl (Nat.le_of_ble_eq_true rfl) (Nat.le_of_ble_eq_true rfl) (by decide) (sX10_led H29 hI33 0 ) (fun H54 r55 q56 o57 => ?_)
              obtain ⟨e58, y61, rfl, f59, f60⟩ := q56
              subst H54
              clear o57
              have k62 := st_le0 f60
              refine fz_if_ne (tgt := 1752) kL_law rfl (by decide) (fun c63 => ?_) (fun c63 => ?_)
              · exfalso; omega
              · refine fz_aload_n kL_law rfl rfl ?_
                refine fz_iconst ⟨by decide, by decide⟩ kL_law rfl ?_
                refine fz_callV (d' := 0) (M' := mX10_led) (As := [fz_i 3]) (st := []) kL_law rfl rfl vX10_led rfl rfl rfl rfl (Nat.le_of_ble_eq_true rfl) (Nat.le_of_ble_eq_true rfl) (by decide) (sX10_led H29 hI33 3 ) (fun H64 r65 q66 o67 => ?_)
                obtain ⟨e68, y71, rfl, f69, f70⟩ := q66
                subst H64
                clear o67
                have k72 := st_le3 f70
                refine fz_if_ne (tgt := 1752) kL_law rfl (by decide) (fun c73 => ?_) (fun c73 => ?_)
                · exfalso; omega
                · refine fz_aload_n kL_law rfl rfl ?_
                  refine fz_iconst ⟨by decide, by decide⟩ kL_law rfl ?_
                  refine fz_bipush ⟨by decide, by decide⟩ kL_law rfl ?_
                  refine fz_callV (d' := 3) (M' := mX10_of) (As := [fz_i 0, fz_i 12]) (st := []) kL_law rfl rfl vX10_of rfl rfl rfl rfl (Nat.le_of_ble_eq_true rfl) (Nat.le_of_ble_eq_true rfl) (by decide) (sX10_of H29 hI33 0 12 ) (fun H74 r75 q76 o77 => ?_)
                  obtain ⟨e78, y81, rfl, f79, f80⟩ := q76
                  subst H74
                  clear o77
                  have k82 := of_12 f80
                  refine fz_if_ne (tgt := 1752) kL_law rfl (by decide) (fun c83 => ?_) (fun c83 => ?_)
                  · exfalso; omega
                  · refine fz_iload kL_law rfl rfl ?_
                    refine fz_if_lt (tgt := 1754) kL_law rfl (by decide) (fun c84 => ?_) (fun c84 => ?_)
                    · refine fz_iconst ⟨by decide, by decide⟩ kL_law rfl ?_
                      refine fz_istore (ls' := [(8, fz_i 0), (7, fz_i (-1)), (0, fz_r 200), (1, fz_r 0), (2, fz_r 53), (3, fz_i tw), (4, fz_l sm), (6, fz_i dd)]) kL_law rfl (by decide) rfl ?_
                      have lp87 : ∀ (n86 : Nat) (x85 : Int), (0 ≤ x85 ∧ x85 ≤ 4) → (4 - x85).toNat < n86 → fz_R 48 mL_law 1757 [(8, fz_i x85), (7, fz_i (-1)), (0, fz_r 200), (1, fz_r 0), (2, fz_r 53), (3, fz_i tw), (4, fz_l sm), (6, fz_i dd)] [] H29 (qL_law h) := by
                        intro n86
                        induction n86 with
                        | zero => intro x85 hv90 hm89; exact absurd hm89 (by omega)
                        | succ n86 ih88 =>
                          intro x85 hv90 hm89
                          refine fz_iload kL_law rfl rfl ?_
                          refine fz_iconst ⟨by decide, by decide⟩ kL_law rfl ?_
                          refine fz_icmp_ge (tgt := 1782) kL_law rfl (by decide) (fun c91 => ?_) (fun c91 => ?_)
                          · refine fz_iload kL_law rfl rfl ?_
                            refine fz_if_ge (tgt := 1797) kL_law rfl (by decide) (fun c92 => ?_) (fun c92 => ?_)
                            · exfalso; omega
                            · refine fz_aload_n kL_law rfl rfl ?_
                              refine fz_callS (d' := 7) (M' := mL_told) (As := [fz_r 0]) (st := []) kL_law rfl rfl vL_told rfl rfl (Nat.le_of_ble_eq_true rfl) (Nat.le_of_ble_eq_true rfl) (by decide) (sL_told H29 hI33  ) (fun H93 r94 q95 o96 => ?_)
                              obtain ⟨hI97, hf98, y101, rfl, f99, f100⟩ := q95
                              clear o96
                              have hf102 := fz_fr_tr hf40 hf98 (show fz_su [(18, 99999), (19, 99999), (29, 99999), (30, 99999), (32, 99999)] [(1, 7), (1, 8), (2, 99999), (3, 99999), (4, 99999), (5, 99999), (6, 99999), (7, 99999), (8, 99999), (9, 5), (10, 99999), (11, 99999), (12, 99999), (13, 99999), (14, 99999), (15, 4), (16, 99999), (17, 99999), (18, 99999), (19, 99999), (20, 2), (20, 3), (20, 4), (21, 4), (22, 99999), (23, 99999), (26, 99999), (27, 8), (27, 9), (28, 99999), (29, 99999), (30, 99999), (31, 99999), (32, 99999), (33, 3), (33, 4), (33, 5), (33, 6), (33, 7), (34, 99999), (35, 4), (35, 5), (36, 99999), (37, 99999), (38, 99999), (39, 99999), (40, 1), (40, 2), (40, 3), (40, 4), (40, 5), (40, 6), (41, 99999), (42, 99999), (43, 99999), (44, 2), (45, 99999), (48, 99999), (50, 99999), (51, 99999), (52, 99999), (53, 99999)] = true from rfl)
                              have hRE103 : fz_RE H93 := fz_RE_eq (funext fun s => hf98 5 s rfl) (funext fun s => hf98 6 s rfl) (hf98 1 8 rfl) (hf98 1 7 rfl) hRE41
                              have hRV104 : fz_RV H93 := fz_RV_eq (funext fun s => hf98 7 s rfl) (funext fun s => hf98 8 s rfl) (funext fun s => hf98 3 s rfl) (funext fun s => hf98 4 s rfl) (funext fun s => hf98 5 s rfl) (funext fun s => hf98 6 s rfl) (hf98 1 7 rfl) (hf98 1 8 rfl) hRV42
                              have hRP2105 : fz_RP2 H93 := fz_RP2_eq (funext fun s => hf98 11 s rfl) (hf98 9 5 rfl) (hf98 1 7 rfl) hRP243
                              have hN106 : st_N tw H93 := st_N_eq (hf98 53 0 rfl) (hf98 53 1 rfl) (hf98 53 2 rfl) (hf98 1 7 rfl) (hf98 1 8 rfl) (hf98 9 5 rfl) (hf98 35 4 rfl) (hf98 20 2 rfl) hN44
                              have hL1107 : st_L1 H93 := st_L1_eq (funext fun s => hf98 3 s rfl) (hf98 1 8 rfl) hL145
                              have hIm108 : st_Im H93 := st_Im_eq (hf98 40 6 rfl) (funext fun s => hf98 43 s rfl) (funext fun s => hf98 42 s rfl) hIm46
                              have hRT109 : fz_RT H93 := fz_RT_eq (funext fun s => hf98 41 s rfl) (funext fun s => hf98 42 s rfl) (hf98 1 7 rfl) hRT35
                              have hX110 : fz_Xc H93 := fz_Xc_fr hf98 rfl hX47
                              have t111 : H93 9 5 = H29 9 5 := hf98 9 5 rfl
                              have t112 : H93 1 7 = H29 1 7 := hf98 1 7 rfl
                              have t113 : H93 1 8 = H29 1 8 := hf98 1 8 rfl
                              refine fz_lload kL_law rfl rfl ?_
                              have k114 : y101 = sm := f100.trans ((congrArg st_td (st_nm_end hv23 hZ hIm12 f37 f38 hf34)).trans hS.symm)
                              refine fz_lcmp kL_law rfl ?_
                              have b115 := fz_cmp_c y101 sm
                              refine fz_if_ne (tgt := 1801) kL_law rfl (by decide) (fun c116 => ?_) (fun c116 => ?_)
                              · exfalso; omega
                              · refine fz_iconst ⟨by decide, by decide⟩ kL_law rfl ?_
                                refine fz_goto (tgt := 1802) kL_law rfl (by decide) ?_
                                exact fz_zret kL_law rfl rfl (by omega) ⟨hI97, hf102, hX110, hRE103, hRV104, _, rfl, (by omega)⟩
                          · refine fz_aload_n kL_law rfl rfl ?_
                            refine fz_iload kL_law rfl rfl ?_
                            refine fz_bipush ⟨by decide, by decide⟩ kL_law rfl ?_
                            refine fz_callV (d' := 3) (M' := mX10_of) (As := [fz_i x85, fz_i 11]) (st := []) kL_law rfl rfl vX10_of rfl rfl rfl rfl (Nat.le_of_ble_eq_true rfl) (Nat.le_of_ble_eq_true rfl) (by decide) (sX10_of H29 hI33 x85 11 ) (fun H117 r118 q119 o120 => ?_)
                            obtain ⟨e121, y124, rfl, f122, f123⟩ := q119
                            subst H117
                            clear o120
                            have k125 := of_11 f123 (by omega)
                            have k126 := st_bk41 hIm12 f37 (x85).toNat (by omega)
                            refine fz_if_eq (tgt := 1776) kL_law rfl (by decide) (fun c127 => ?_) (fun c127 => ?_)
                            · refine fz_iincN (ls' := [(8, fz_i (x85 + 1)), (7, fz_i (-1)), (0, fz_r 200), (1, fz_r 0), (2, fz_r 53), (3, fz_i tw), (4, fz_l sm), (6, fz_i dd)]) kL_law rfl (by decide) rfl (by omega) rfl ?_
                              refine fz_goto (tgt := 1757) kL_law rfl (by decide) ?_
                              exact ih88 (x85 + 1) (by omega) (by omega)
                            · exfalso; omega
                      exact lp87 _ 0 (by omega) (Nat.lt_succ_self _)
                    · exfalso; omega
          · exfalso; omega
        · refine fz_iload kL_law rfl rfl ?_
          refine fz_bipush ⟨by decide, by decide⟩ kL_law rfl ?_
          refine fz_icmp_ge (tgt := 1643) kL_law rfl (by decide) (fun c128 => ?_) (fun c128 => ?_)
          · exfalso; omega
          · refine fz_aload_n kL_law rfl rfl ?_
            refine fz_bipush ⟨by decide, by decide⟩ kL_law rfl ?_
            refine fz_iconst ⟨by decide, by decide⟩ kL_law rfl ?_
            have k129 := st_RT1 hRT13 (by omega)
            have b131 : 0 ≤ H14 1 7 ∧ H14 1 7 ≤ 8 := hI15.1 1 _
            have b132 : 0 ≤ H14 9 5 ∧ H14 9 5 ≤ 10 := hI15.1 9 _
            have b133 : 0 ≤ H14 40 1 ∧ H14 40 1 ≤ 999 := hI15.1 40 _
            have b134 : (-2147483648) ≤ H14 40 5 ∧ H14 40 5 ≤ 2147483647 := hI15.1 40 _
            refine fz_callV (d' := 2) (M' := mX10_does) (As := [fz_i 12, fz_i 5]) (st := []) kL_law rfl rfl vX10_does rfl rfl rfl rfl (Nat.le_of_ble_eq_true rfl) (Nat.le_of_ble_eq_true rfl) (by decide) (sX10_does H14 hI15 12 5 ) (fun H135 r136 q137 o138 => ?_)
            obtain ⟨hI139, hf140, y146, rfl, f141, f142, f143, f144, f145⟩ := q137
            clear o138
            have hf147 := fz_fr_tr hf16 hf140 (show fz_su [(9, 5), (10, 99999), (11, 99999), (12, 99999), (13, 99999), (14, 99999), (40, 5)] [(1, 7), (1, 8), (2, 99999), (3, 99999), (4, 99999), (5, 99999), (6, 99999), (7, 99999), (8, 99999), (9, 5), (10, 99999), (11, 99999), (12, 99999), (13, 99999), (14, 99999), (15, 4), (16, 99999), (17, 99999), (18, 99999), (19, 99999), (20, 2), (20, 3), (20, 4), (21, 4), (22, 99999), (23, 99999), (26, 99999), (27, 8), (27, 9), (28, 99999), (29, 99999), (30, 99999), (31, 99999), (32, 99999), (33, 3), (33, 4), (33, 5), (33, 6), (33, 7), (34, 99999), (35, 4), (35, 5), (36, 99999), (37, 99999), (38, 99999), (39, 99999), (40, 1), (40, 2), (40, 3), (40, 4), (40, 5), (40, 6), (41, 99999), (42, 99999), (43, 99999), (44, 2), (45, 99999), (48, 99999), (50, 99999), (51, 99999), (52, 99999), (53, 99999)] = true from rfl)
            have hRE148 : fz_RE H135 := fz_RE_eq (funext fun s => hf140 5 s rfl) (funext fun s => hf140 6 s rfl) (hf140 1 8 rfl) (hf140 1 7 rfl) hRE6
            have hRV149 : fz_RV H135 := fz_RV_eq (funext fun s => hf140 7 s rfl) (funext fun s => hf140 8 s rfl) (funext fun s => hf140 3 s rfl) (funext fun s => hf140 4 s rfl) (funext fun s => hf140 5 s rfl) (funext fun s => hf140 6 s rfl) (hf140 1 7 rfl) (hf140 1 8 rfl) hRV7
            have hL1150 : st_L1 H135 := st_L1_eq (funext fun s => hf140 3 s rfl) (hf140 1 8 rfl) hL111
            have hIm151 : st_Im H135 := st_Im_eq (hf140 40 6 rfl) (funext fun s => hf140 43 s rfl) (funext fun s => hf140 42 s rfl) hIm12
            have hRT152 : fz_RT H135 := fz_RT_eq (funext fun s => hf140 41 s rfl) (funext fun s => hf140 42 s rfl) (hf140 1 7 rfl) hRT13
            have hX153 : fz_Xc H135 := fz_Xc_fr hf140 rfl hXq9
            have t154 : H135 1 7 = H14 1 7 := hf140 1 7 rfl
            have t155 : H135 1 8 = H14 1 8 := hf140 1 8 rfl
            have k157 : 0 ≤ y146 ∧ y146 ≤ 8 := by omega
            refine fz_goto (tgt := 1644) kL_law rfl (by decide) ?_
            refine fz_istore (ls' := [(7, fz_i y146), (0, fz_r 200), (1, fz_r 0), (2, fz_r 53), (3, fz_i tw), (4, fz_l sm), (6, fz_i dd)]) kL_law rfl (by decide) rfl ?_
            refine fz_iload kL_law rfl rfl ?_
            refine fz_if_lt (tgt := 1702) kL_law rfl (by decide) (fun c158 => ?_) (fun c158 => ?_)
            · exfalso; omega
            · refine fz_iload kL_law rfl rfl ?_
              refine fz_iload kL_law rfl rfl ?_
              refine fz_icmp_ne (tgt := 1700) kL_law rfl (by decide) (fun c159 => ?_) (fun c159 => ?_)
              · exfalso; omega
              · refine fz_aload_n kL_law rfl rfl ?_
                refine fz_iload kL_law rfl rfl ?_
                refine fz_iconst ⟨by decide, by decide⟩ kL_law rfl ?_
                refine fz_callV (d' := 3) (M' := mX10_of) (As := [fz_i y146, fz_i 3]) (st := []) kL_law rfl rfl vX10_of rfl rfl rfl rfl (Nat.le_of_ble_eq_true rfl) (Nat.le_of_ble_eq_true rfl) (by decide) (sX10_of H135 hI139 y146 3 ) (fun H160 r161 q162 o163 => ?_)
                obtain ⟨e164, y167, rfl, f165, f166⟩ := q162
                subst H160
                clear o163
                have k168 := of_3 f166 (by omega)
                refine fz_aload_n kL_law rfl rfl ?_
                refine fz_iconst ⟨by decide, by decide⟩ kL_law rfl ?_
                refine fz_callV (d' := 0) (M' := mX10_led) (As := [fz_i 4]) (st := [fz_i y167]) kL_law rfl rfl vX10_led rfl rfl rfl rfl (Nat.le_of_ble_eq_true rfl) (Nat.le_of_ble_eq_true rfl) (by decide) (sX10_led H135 hI139 4 ) (fun H170 r171 q172 o173 => ?_)
                obtain ⟨e174, y177, rfl, f175, f176⟩ := q172
                subst H170
                clear o173
                have k178 : y167 = y177 := st_d3 f143 (hf140 40 1 rfl) k168 f176 (by omega) (by omega)
                refine fz_icmp_ne (tgt := 1700) kL_law rfl (by decide) (fun c179 => ?_) (fun c179 => ?_)
                · exfalso; omega
                · refine fz_aload_n kL_law rfl rfl ?_
                  refine fz_iload kL_law rfl rfl ?_
                  refine fz_bipush ⟨by decide, by decide⟩ kL_law rfl ?_
                  refine fz_callV (d' := 3) (M' := mX10_of) (As := [fz_i y146, fz_i 10]) (st := []) kL_law rfl rfl vX10_of rfl rfl rfl rfl (Nat.le_of_ble_eq_true rfl) (Nat.le_of_ble_eq_true rfl) (by decide) (sX10_of H135 hI139 y146 10 ) (fun H180 r181 q182 o183 => ?_)
                  obtain ⟨e184, y187, rfl, f185, f186⟩ := q182
                  subst H180
                  clear o183
                  have k188 := of_10 f186 (by omega)
                  refine fz_aload_n kL_law rfl rfl ?_
                  refine fz_iconst ⟨by decide, by decide⟩ kL_law rfl ?_
                  refine fz_bipush ⟨by decide, by decide⟩ kL_law rfl ?_
                  refine fz_callV (d' := 3) (M' := mX10_of) (As := [fz_i 1, fz_i 11]) (st := [fz_i y187]) kL_law rfl rfl vX10_of rfl rfl rfl rfl (Nat.le_of_ble_eq_true rfl) (Nat.le_of_ble_eq_true rfl) (by decide) (sX10_of H135 hI139 1 11 ) (fun H190 r191 q192 o193 => ?_)
                  obtain ⟨e194, y197, rfl, f195, f196⟩ := q192
                  subst H190
                  clear o193
                  have k198 := of_11 f196 (by omega)
                  have k200 : y187 = y197 := st_d10 f143 (funext fun s => hf140 41 s rfl) k188 k198 (by omega) (by omega)
                  refine fz_icmp_ne (tgt := 1700) kL_law rfl (by decide) (fun c201 => ?_) (fun c201 => ?_)
                  · exfalso; omega
                  · refine fz_aload_n kL_law rfl rfl ?_
                    refine fz_iconst ⟨by decide, by decide⟩ kL_law rfl ?_
                    refine fz_callV (d' := 0) (M' := mX10_led) (As := [fz_i 3]) (st := []) kL_law rfl rfl vX10_led rfl rfl rfl rfl (Nat.le_of_ble_eq_true rfl) (Nat.le_of_ble_eq_true rfl) (by decide) (sX10_led H135 hI139 3 ) (fun H202 r203 q204 o205 => ?_)
                    obtain ⟨e206, y209, rfl, f207, f208⟩ := q204
                    subst H202
                    clear o205
                    have k210 := st_d5 f144 (st_wl5 hv23 hZ) f208 (by omega)
                    refine fz_iconst ⟨by decide, by decide⟩ kL_law rfl ?_
                    refine fz_icmp_eq (tgt := 1702) kL_law rfl (by decide) (fun c211 => ?_) (fun c211 => ?_)
                    · refine fz_aload_n kL_law rfl rfl ?_
                      refine fz_callV (d' := 2) (M' := mX10_back) (As := []) (st := []) kL_law rfl rfl vX10_back rfl rfl rfl rfl (Nat.le_of_ble_eq_true rfl) (Nat.le_of_ble_eq_true rfl) (by decide) (sX10_back H135 hI139  hRT152) (fun H212 r213 q214 o215 => ?_)
                      obtain ⟨hI216, hf217, hRT218, y222, rfl, f219, f220, f221⟩ := q214
                      clear o215
                      have hf223 := fz_fr_tr hf147 hf217 (show fz_su [(40, 1), (40, 2), (40, 3), (40, 4), (40, 5), (41, 99999)] [(1, 7), (1, 8), (2, 99999), (3, 99999), (4, 99999), (5, 99999), (6, 99999), (7, 99999), (8, 99999), (9, 5), (10, 99999), (11, 99999), (12, 99999), (13, 99999), (14, 99999), (15, 4), (16, 99999), (17, 99999), (18, 99999), (19, 99999), (20, 2), (20, 3), (20, 4), (21, 4), (22, 99999), (23, 99999), (26, 99999), (27, 8), (27, 9), (28, 99999), (29, 99999), (30, 99999), (31, 99999), (32, 99999), (33, 3), (33, 4), (33, 5), (33, 6), (33, 7), (34, 99999), (35, 4), (35, 5), (36, 99999), (37, 99999), (38, 99999), (39, 99999), (40, 1), (40, 2), (40, 3), (40, 4), (40, 5), (40, 6), (41, 99999), (42, 99999), (43, 99999), (44, 2), (45, 99999), (48, 99999), (50, 99999), (51, 99999), (52, 99999), (53, 99999)] = true from rfl)
                      have hRE224 : fz_RE H212 := fz_RE_eq (funext fun s => hf217 5 s rfl) (funext fun s => hf217 6 s rfl) (hf217 1 8 rfl) (hf217 1 7 rfl) hRE148
                      have hRV225 : fz_RV H212 := fz_RV_eq (funext fun s => hf217 7 s rfl) (funext fun s => hf217 8 s rfl) (funext fun s => hf217 3 s rfl) (funext fun s => hf217 4 s rfl) (funext fun s => hf217 5 s rfl) (funext fun s => hf217 6 s rfl) (hf217 1 7 rfl) (hf217 1 8 rfl) hRV149
                      have hL1226 : st_L1 H212 := st_L1_eq (funext fun s => hf217 3 s rfl) (hf217 1 8 rfl) hL1150
                      have hIm227 : st_Im H212 := st_Im_eq (hf217 40 6 rfl) (funext fun s => hf217 43 s rfl) (funext fun s => hf217 42 s rfl) hIm151
                      have hX228 : fz_Xc H212 := fz_Xc_fr hf217 rfl hX153
                      have t229 : H212 9 5 = H135 9 5 := hf217 9 5 rfl
                      have t230 : H212 1 7 = H135 1 7 := hf217 1 7 rfl
                      have t231 : H212 1 8 = H135 1 8 := hf217 1 8 rfl
                      have k232 := st_bk hIm151 f220 f221
                      refine fz_if_ne (tgt := 1752) kL_law rfl (by decide) (fun c234 => ?_) (fun c234 => ?_)
                      · exfalso; omega
                      · refine fz_aload_n kL_law rfl rfl ?_
                        refine fz_iconst ⟨by decide, by decide⟩ kL_law rfl ?_
                        refine fz_callV (d' := 0) (M' := mX10_led) (As := [fz_i 0]) (st := []) kL_law rfl rfl vX10_led rfl rfl rfl rfl (Nat.le_of_ble_eq_true rfl) (Nat.le_of_ble_eq_true rfl) (by decide) (sX10_led H212 hI216 0 ) (fun H235 r236 q237 o238 => ?_)
                        obtain ⟨e239, y242, rfl, f240, f241⟩ := q237
                        subst H235
                        clear o238
                        have k243 := st_le0 f241
                        refine fz_if_ne (tgt := 1752) kL_law rfl (by decide) (fun c244 => ?_) (fun c244 => ?_)
                        · exfalso; omega
                        · refine fz_aload_n kL_law rfl rfl ?_
                          refine fz_iconst ⟨by decide, by decide⟩ kL_law rfl ?_
                          refine fz_callV (d' := 0) (M' := mX10_led) (As := [fz_i 3]) (st := []) kL_law rfl rfl vX10_led rfl rfl rfl rfl (Nat.le_of_ble_eq_true rfl) (Nat.le_of_ble_eq_true rfl) (by decide) (sX10_led H212 hI216 3 ) (fun H245 r246 q247 o248 => ?_)
                          obtain ⟨e249, y252, rfl, f250, f251⟩ := q247
                          subst H245
                          clear o248
                          have k253 := st_le3 f251
                          refine fz_if_ne (tgt := 1752) kL_law rfl (by decide) (fun c254 => ?_) (fun c254 => ?_)
                          · exfalso; omega
                          · refine fz_aload_n kL_law rfl rfl ?_
                            refine fz_iconst ⟨by decide, by decide⟩ kL_law rfl ?_
                            refine fz_bipush ⟨by decide, by decide⟩ kL_law rfl ?_
                            refine fz_callV (d' := 3) (M' := mX10_of) (As := [fz_i 0, fz_i 12]) (st := []) kL_law rfl rfl vX10_of rfl rfl rfl rfl (Nat.le_of_ble_eq_true rfl) (Nat.le_of_ble_eq_true rfl) (by decide) (sX10_of H212 hI216 0 12 ) (fun H255 r256 q257 o258 => ?_)
                            obtain ⟨e259, y262, rfl, f260, f261⟩ := q257
                            subst H255
                            clear o258
                            have k263 := of_12 f261
                            refine fz_if_ne (tgt := 1752) kL_law rfl (by decide) (fun c264 => ?_) (fun c264 => ?_)
                            · exfalso; omega
                            · refine fz_iload kL_law rfl rfl ?_
                              refine fz_if_lt (tgt := 1754) kL_law rfl (by decide) (fun c265 => ?_) (fun c265 => ?_)
                              · exfalso; omega
                              · refine fz_aload_n kL_law rfl rfl ?_
                                refine fz_iconst ⟨by decide, by decide⟩ kL_law rfl ?_
                                have b266 : 0 ≤ H212 1 7 ∧ H212 1 7 ≤ 8 := hI216.1 1 _
                                have b267 : 0 ≤ H212 1 8 ∧ H212 1 8 ≤ 12 := hI216.1 1 _
                                have b268 : 0 ≤ H212 9 5 ∧ H212 9 5 ≤ 10 := hI216.1 9 _
                                have b269 : 0 ≤ H212 20 2 ∧ H212 20 2 ≤ 120 := hI216.1 20 _
                                have b270 : 0 ≤ H212 35 4 ∧ H212 35 4 ≤ 40 := hI216.1 35 _
                                have b271 : 0 ≤ H212 44 2 ∧ H212 44 2 ≤ 50 := hI216.1 44 _
                                have e272 : H212 44 3 = h 44 3 := hf223 44 3 rfl
                                refine fz_callV (d' := 0) (M' := mX10_count) (As := [fz_i 2]) (st := []) kL_law rfl rfl vX10_count rfl rfl rfl rfl (Nat.le_of_ble_eq_true rfl) (Nat.le_of_ble_eq_true rfl) (by decide) (sX10_count H212 hI216 2 ) (fun H273 r274 q275 o276 => ?_)
                                obtain ⟨e277, y280, rfl, f278, f279⟩ := q275
                                subst H273
                                clear o276
                                refine fz_iload kL_law rfl rfl ?_
                                refine fz_iconst ⟨by decide, by decide⟩ kL_law rfl ?_
                                refine fz_iaddN kL_law rfl (by omega) ?_
                                refine fz_icmp_eq (tgt := 1754) kL_law rfl (by decide) (fun c281 => ?_) (fun c281 => ?_)
                                · refine fz_iconst ⟨by decide, by decide⟩ kL_law rfl ?_
                                  refine fz_istore (ls' := [(8, fz_i 0), (7, fz_i y146), (0, fz_r 200), (1, fz_r 0), (2, fz_r 53), (3, fz_i tw), (4, fz_l sm), (6, fz_i dd)]) kL_law rfl (by decide) rfl ?_
                                  have lp284 : ∀ (n283 : Nat) (x282 : Int), (0 ≤ x282 ∧ x282 ≤ 4) → (4 - x282).toNat < n283 → fz_R 48 mL_law 1757 [(8, fz_i x282), (7, fz_i y146), (0, fz_r 200), (1, fz_r 0), (2, fz_r 53), (3, fz_i tw), (4, fz_l sm), (6, fz_i dd)] [] H212 (qL_law h) := by
                                    intro n283
                                    induction n283 with
                                    | zero => intro x282 hv287 hm286; exact absurd hm286 (by omega)
                                    | succ n283 ih285 =>
                                      intro x282 hv287 hm286
                                      refine fz_iload kL_law rfl rfl ?_
                                      refine fz_iconst ⟨by decide, by decide⟩ kL_law rfl ?_
                                      refine fz_icmp_ge (tgt := 1782) kL_law rfl (by decide) (fun c288 => ?_) (fun c288 => ?_)
                                      · refine fz_iload kL_law rfl rfl ?_
                                        refine fz_if_ge (tgt := 1797) kL_law rfl (by decide) (fun c289 => ?_) (fun c289 => ?_)
                                        · refine fz_iconst ⟨by decide, by decide⟩ kL_law rfl ?_
                                          refine fz_goto (tgt := 1802) kL_law rfl (by decide) ?_
                                          exact fz_zret kL_law rfl rfl (by omega) ⟨hI216, hf223, hX228, hRE224, hRV225, _, rfl, (by omega)⟩
                                        · exfalso; omega
                                      · refine fz_aload_n kL_law rfl rfl ?_
                                        refine fz_iload kL_law rfl rfl ?_
                                        refine fz_bipush ⟨by decide, by decide⟩ kL_law rfl ?_
                                        refine fz_callV (d' := 3) (M' := mX10_of) (As := [fz_i x282, fz_i 11]) (st := []) kL_law rfl rfl vX10_of rfl rfl rfl rfl (Nat.le_of_ble_eq_true rfl) (Nat.le_of_ble_eq_true rfl) (by decide) (sX10_of H212 hI216 x282 11 ) (fun H290 r291 q292 o293 => ?_)
                                        obtain ⟨e294, y297, rfl, f295, f296⟩ := q292
                                        subst H290
                                        clear o293
                                        have k298 := of_11 f296 (by omega)
                                        have k299 := st_bk41 hIm151 f220 (x282).toNat (by omega)
                                        refine fz_if_eq (tgt := 1776) kL_law rfl (by decide) (fun c300 => ?_) (fun c300 => ?_)
                                        · refine fz_iincN (ls' := [(8, fz_i (x282 + 1)), (7, fz_i y146), (0, fz_r 200), (1, fz_r 0), (2, fz_r 53), (3, fz_i tw), (4, fz_l sm), (6, fz_i dd)]) kL_law rfl (by decide) rfl (by omega) rfl ?_
                                          refine fz_goto (tgt := 1757) kL_law rfl (by decide) ?_
                                          exact ih285 (x282 + 1) (by omega) (by omega)
                                        · exfalso; omega
                                  exact lp284 _ 0 (by omega) (Nat.lt_succ_self _)
                                · exfalso; omega
                    · exfalso; omega
      · refine fz_aload_n kL_law rfl rfl ?_
        refine fz_iconst ⟨by decide, by decide⟩ kL_law rfl ?_
        obtain ⟨v301, e302⟩ : ∃ z, H14 53 (1) = z := ⟨_, rfl⟩
        refine fz_ialdV (n := 40) (v := v301) kL_law rfl rfl (by omega) (by omega) e302 ?_
        have b303 : (-2147483648) ≤ v301 ∧ v301 ≤ 2147483647 := by rw [← e302]; exact hI15.1 53 _
        have k305 : 0 ≤ v301 ∧ v301 ≤ 12 := by omega
        refine fz_if_le (tgt := 1622) kL_law rfl (by decide) (fun c306 => ?_) (fun c306 => ?_)
        · have k307 := st_N_e hI15 hN10
          refine fz_iload_n kL_law rfl rfl ?_
          refine fz_if_le (tgt := 1643) kL_law rfl (by decide) (fun c309 => ?_) (fun c309 => ?_)
          · refine fz_iconst ⟨by decide, by decide⟩ kL_law rfl ?_
            refine fz_istore (ls' := [(7, fz_i (-1)), (0, fz_r 200), (1, fz_r 0), (2, fz_r 53), (3, fz_i tw), (4, fz_l sm), (6, fz_i dd)]) kL_law rfl (by decide) rfl ?_
            refine fz_iload kL_law rfl rfl ?_
            refine fz_if_lt (tgt := 1702) kL_law rfl (by decide) (fun c310 => ?_) (fun c310 => ?_)
            · refine fz_aload_n kL_law rfl rfl ?_
              refine fz_callV (d' := 2) (M' := mX10_back) (As := []) (st := []) kL_law rfl rfl vX10_back rfl rfl rfl rfl (Nat.le_of_ble_eq_true rfl) (Nat.le_of_ble_eq_true rfl) (by decide) (sX10_back H14 hI15  hRT13) (fun H311 r312 q313 o314 => ?_)
              obtain ⟨hI315, hf316, hRT317, y321, rfl, f318, f319, f320⟩ := q313
              clear o314
              have hf322 := fz_fr_tr hf16 hf316 (show fz_su [(40, 1), (40, 2), (40, 3), (40, 4), (40, 5), (41, 99999)] [(1, 7), (1, 8), (2, 99999), (3, 99999), (4, 99999), (5, 99999), (6, 99999), (7, 99999), (8, 99999), (9, 5), (10, 99999), (11, 99999), (12, 99999), (13, 99999), (14, 99999), (15, 4), (16, 99999), (17, 99999), (18, 99999), (19, 99999), (20, 2), (20, 3), (20, 4), (21, 4), (22, 99999), (23, 99999), (26, 99999), (27, 8), (27, 9), (28, 99999), (29, 99999), (30, 99999), (31, 99999), (32, 99999), (33, 3), (33, 4), (33, 5), (33, 6), (33, 7), (34, 99999), (35, 4), (35, 5), (36, 99999), (37, 99999), (38, 99999), (39, 99999), (40, 1), (40, 2), (40, 3), (40, 4), (40, 5), (40, 6), (41, 99999), (42, 99999), (43, 99999), (44, 2), (45, 99999), (48, 99999), (50, 99999), (51, 99999), (52, 99999), (53, 99999)] = true from rfl)
              have hRE323 : fz_RE H311 := fz_RE_eq (funext fun s => hf316 5 s rfl) (funext fun s => hf316 6 s rfl) (hf316 1 8 rfl) (hf316 1 7 rfl) hRE6
              have hRV324 : fz_RV H311 := fz_RV_eq (funext fun s => hf316 7 s rfl) (funext fun s => hf316 8 s rfl) (funext fun s => hf316 3 s rfl) (funext fun s => hf316 4 s rfl) (funext fun s => hf316 5 s rfl) (funext fun s => hf316 6 s rfl) (hf316 1 7 rfl) (hf316 1 8 rfl) hRV7
              have hRP2325 : fz_RP2 H311 := fz_RP2_eq (funext fun s => hf316 11 s rfl) (hf316 9 5 rfl) (hf316 1 7 rfl) hRP28
              have hN326 : st_N tw H311 := st_N_eq (hf316 53 0 rfl) (hf316 53 1 rfl) (hf316 53 2 rfl) (hf316 1 7 rfl) (hf316 1 8 rfl) (hf316 9 5 rfl) (hf316 35 4 rfl) (hf316 20 2 rfl) hN10
              have hL1327 : st_L1 H311 := st_L1_eq (funext fun s => hf316 3 s rfl) (hf316 1 8 rfl) hL111
              have hIm328 : st_Im H311 := st_Im_eq (hf316 40 6 rfl) (funext fun s => hf316 43 s rfl) (funext fun s => hf316 42 s rfl) hIm12
              have hX329 : fz_Xc H311 := fz_Xc_fr hf316 rfl hXq9
              have t330 : H311 9 5 = H14 9 5 := hf316 9 5 rfl
              have t331 : H311 1 7 = H14 1 7 := hf316 1 7 rfl
              have t332 : H311 1 8 = H14 1 8 := hf316 1 8 rfl
              have k333 := st_bk hIm12 f319 f320
              refine fz_if_ne (tgt := 1752) kL_law rfl (by decide) (fun c335 => ?_) (fun c335 => ?_)
              · exfalso; omega
              · refine fz_aload_n kL_law rfl rfl ?_
                refine fz_iconst ⟨by decide, by decide⟩ kL_law rfl ?_
                refine fz_callV (d' := 0) (M' := mX10_led) (As := [fz_i 0]) (st := []) kL_law rfl rfl vX10_led rfl rfl rfl rfl (Nat.le_of_ble_eq_true rfl) (Nat.le_of_ble_eq_true rfl) (by decide) (sX10_led H311 hI315 0 ) (fun H336 r337 q338 o339 => ?_)
                obtain ⟨e340, y343, rfl, f341, f342⟩ := q338
                subst H336
                clear o339
                have k344 := st_le0 f342
                refine fz_if_ne (tgt := 1752) kL_law rfl (by decide) (fun c345 => ?_) (fun c345 => ?_)
                · exfalso; omega
                · refine fz_aload_n kL_law rfl rfl ?_
                  refine fz_iconst ⟨by decide, by decide⟩ kL_law rfl ?_
                  refine fz_callV (d' := 0) (M' := mX10_led) (As := [fz_i 3]) (st := []) kL_law rfl rfl vX10_led rfl rfl rfl rfl (Nat.le_of_ble_eq_true rfl) (Nat.le_of_ble_eq_true rfl) (by decide) (sX10_led H311 hI315 3 ) (fun H346 r347 q348 o349 => ?_)
                  obtain ⟨e350, y353, rfl, f351, f352⟩ := q348
                  subst H346
                  clear o349
                  have k354 := st_le3 f352
                  refine fz_if_ne (tgt := 1752) kL_law rfl (by decide) (fun c355 => ?_) (fun c355 => ?_)
                  · exfalso; omega
                  · refine fz_aload_n kL_law rfl rfl ?_
                    refine fz_iconst ⟨by decide, by decide⟩ kL_law rfl ?_
                    refine fz_bipush ⟨by decide, by decide⟩ kL_law rfl ?_
                    refine fz_callV (d' := 3) (M' := mX10_of) (As := [fz_i 0, fz_i 12]) (st := []) kL_law rfl rfl vX10_of rfl rfl rfl rfl (Nat.le_of_ble_eq_true rfl) (Nat.le_of_ble_eq_true rfl) (by decide) (sX10_of H311 hI315 0 12 ) (fun H356 r357 q358 o359 => ?_)
                    obtain ⟨e360, y363, rfl, f361, f362⟩ := q358
                    subst H356
                    clear o359
                    have k364 := of_12 f362
                    refine fz_if_ne (tgt := 1752) kL_law rfl (by decide) (fun c365 => ?_) (fun c365 => ?_)
                    · exfalso; omega
                    · refine fz_iload kL_law rfl rfl ?_
                      refine fz_if_lt (tgt := 1754) kL_law rfl (by decide) (fun c366 => ?_) (fun c366 => ?_)
                      · refine fz_iconst ⟨by decide, by decide⟩ kL_law rfl ?_
                        refine fz_istore (ls' := [(8, fz_i 0), (7, fz_i (-1)), (0, fz_r 200), (1, fz_r 0), (2, fz_r 53), (3, fz_i tw), (4, fz_l sm), (6, fz_i dd)]) kL_law rfl (by decide) rfl ?_
                        have lp369 : ∀ (n368 : Nat) (x367 : Int), (0 ≤ x367 ∧ x367 ≤ 4) → (4 - x367).toNat < n368 → fz_R 48 mL_law 1757 [(8, fz_i x367), (7, fz_i (-1)), (0, fz_r 200), (1, fz_r 0), (2, fz_r 53), (3, fz_i tw), (4, fz_l sm), (6, fz_i dd)] [] H311 (qL_law h) := by
                          intro n368
                          induction n368 with
                          | zero => intro x367 hv372 hm371; exact absurd hm371 (by omega)
                          | succ n368 ih370 =>
                            intro x367 hv372 hm371
                            refine fz_iload kL_law rfl rfl ?_
                            refine fz_iconst ⟨by decide, by decide⟩ kL_law rfl ?_
                            refine fz_icmp_ge (tgt := 1782) kL_law rfl (by decide) (fun c373 => ?_) (fun c373 => ?_)
                            · refine fz_iload kL_law rfl rfl ?_
                              refine fz_if_ge (tgt := 1797) kL_law rfl (by decide) (fun c374 => ?_) (fun c374 => ?_)
                              · exfalso; omega
                              · refine fz_aload_n kL_law rfl rfl ?_
                                refine fz_callS (d' := 7) (M' := mL_told) (As := [fz_r 0]) (st := []) kL_law rfl rfl vL_told rfl rfl (Nat.le_of_ble_eq_true rfl) (Nat.le_of_ble_eq_true rfl) (by decide) (sL_told H311 hI315  ) (fun H375 r376 q377 o378 => ?_)
                                obtain ⟨hI379, hf380, y383, rfl, f381, f382⟩ := q377
                                clear o378
                                have hf384 := fz_fr_tr hf322 hf380 (show fz_su [(18, 99999), (19, 99999), (29, 99999), (30, 99999), (32, 99999)] [(1, 7), (1, 8), (2, 99999), (3, 99999), (4, 99999), (5, 99999), (6, 99999), (7, 99999), (8, 99999), (9, 5), (10, 99999), (11, 99999), (12, 99999), (13, 99999), (14, 99999), (15, 4), (16, 99999), (17, 99999), (18, 99999), (19, 99999), (20, 2), (20, 3), (20, 4), (21, 4), (22, 99999), (23, 99999), (26, 99999), (27, 8), (27, 9), (28, 99999), (29, 99999), (30, 99999), (31, 99999), (32, 99999), (33, 3), (33, 4), (33, 5), (33, 6), (33, 7), (34, 99999), (35, 4), (35, 5), (36, 99999), (37, 99999), (38, 99999), (39, 99999), (40, 1), (40, 2), (40, 3), (40, 4), (40, 5), (40, 6), (41, 99999), (42, 99999), (43, 99999), (44, 2), (45, 99999), (48, 99999), (50, 99999), (51, 99999), (52, 99999), (53, 99999)] = true from rfl)
                                have hRE385 : fz_RE H375 := fz_RE_eq (funext fun s => hf380 5 s rfl) (funext fun s => hf380 6 s rfl) (hf380 1 8 rfl) (hf380 1 7 rfl) hRE323
                                have hRV386 : fz_RV H375 := fz_RV_eq (funext fun s => hf380 7 s rfl) (funext fun s => hf380 8 s rfl) (funext fun s => hf380 3 s rfl) (funext fun s => hf380 4 s rfl) (funext fun s => hf380 5 s rfl) (funext fun s => hf380 6 s rfl) (hf380 1 7 rfl) (hf380 1 8 rfl) hRV324
                                have hRP2387 : fz_RP2 H375 := fz_RP2_eq (funext fun s => hf380 11 s rfl) (hf380 9 5 rfl) (hf380 1 7 rfl) hRP2325
                                have hN388 : st_N tw H375 := st_N_eq (hf380 53 0 rfl) (hf380 53 1 rfl) (hf380 53 2 rfl) (hf380 1 7 rfl) (hf380 1 8 rfl) (hf380 9 5 rfl) (hf380 35 4 rfl) (hf380 20 2 rfl) hN326
                                have hL1389 : st_L1 H375 := st_L1_eq (funext fun s => hf380 3 s rfl) (hf380 1 8 rfl) hL1327
                                have hIm390 : st_Im H375 := st_Im_eq (hf380 40 6 rfl) (funext fun s => hf380 43 s rfl) (funext fun s => hf380 42 s rfl) hIm328
                                have hRT391 : fz_RT H375 := fz_RT_eq (funext fun s => hf380 41 s rfl) (funext fun s => hf380 42 s rfl) (hf380 1 7 rfl) hRT317
                                have hX392 : fz_Xc H375 := fz_Xc_fr hf380 rfl hX329
                                have t393 : H375 9 5 = H311 9 5 := hf380 9 5 rfl
                                have t394 : H375 1 7 = H311 1 7 := hf380 1 7 rfl
                                have t395 : H375 1 8 = H311 1 8 := hf380 1 8 rfl
                                refine fz_lload kL_law rfl rfl ?_
                                have k396 : y383 = sm := f382.trans ((congrArg st_td (st_nm_end hv23 hZ hIm12 f319 f320 hf316)).trans hS.symm)
                                refine fz_lcmp kL_law rfl ?_
                                have b397 := fz_cmp_c y383 sm
                                refine fz_if_ne (tgt := 1801) kL_law rfl (by decide) (fun c398 => ?_) (fun c398 => ?_)
                                · exfalso; omega
                                · refine fz_iconst ⟨by decide, by decide⟩ kL_law rfl ?_
                                  refine fz_goto (tgt := 1802) kL_law rfl (by decide) ?_
                                  exact fz_zret kL_law rfl rfl (by omega) ⟨hI379, hf384, hX392, hRE385, hRV386, _, rfl, (by omega)⟩
                            · refine fz_aload_n kL_law rfl rfl ?_
                              refine fz_iload kL_law rfl rfl ?_
                              refine fz_bipush ⟨by decide, by decide⟩ kL_law rfl ?_
                              refine fz_callV (d' := 3) (M' := mX10_of) (As := [fz_i x367, fz_i 11]) (st := []) kL_law rfl rfl vX10_of rfl rfl rfl rfl (Nat.le_of_ble_eq_true rfl) (Nat.le_of_ble_eq_true rfl) (by decide) (sX10_of H311 hI315 x367 11 ) (fun H399 r400 q401 o402 => ?_)
                              obtain ⟨e403, y406, rfl, f404, f405⟩ := q401
                              subst H399
                              clear o402
                              have k407 := of_11 f405 (by omega)
                              have k408 := st_bk41 hIm12 f319 (x367).toNat (by omega)
                              refine fz_if_eq (tgt := 1776) kL_law rfl (by decide) (fun c409 => ?_) (fun c409 => ?_)
                              · refine fz_iincN (ls' := [(8, fz_i (x367 + 1)), (7, fz_i (-1)), (0, fz_r 200), (1, fz_r 0), (2, fz_r 53), (3, fz_i tw), (4, fz_l sm), (6, fz_i dd)]) kL_law rfl (by decide) rfl (by omega) rfl ?_
                                refine fz_goto (tgt := 1757) kL_law rfl (by decide) ?_
                                exact ih370 (x367 + 1) (by omega) (by omega)
                              · exfalso; omega
                        exact lp369 _ 0 (by omega) (Nat.lt_succ_self _)
                      · exfalso; omega
            · exfalso; omega
          · refine fz_iload kL_law rfl rfl ?_
            refine fz_bipush ⟨by decide, by decide⟩ kL_law rfl ?_
            refine fz_icmp_ge (tgt := 1643) kL_law rfl (by decide) (fun c410 => ?_) (fun c410 => ?_)
            · exfalso; omega
            · refine fz_aload_n kL_law rfl rfl ?_
              refine fz_bipush ⟨by decide, by decide⟩ kL_law rfl ?_
              refine fz_iconst ⟨by decide, by decide⟩ kL_law rfl ?_
              have k411 := st_RT1 hRT13 (by omega)
              have b413 : 0 ≤ H14 1 7 ∧ H14 1 7 ≤ 8 := hI15.1 1 _
              have b414 : 0 ≤ H14 9 5 ∧ H14 9 5 ≤ 10 := hI15.1 9 _
              have b415 : 0 ≤ H14 40 1 ∧ H14 40 1 ≤ 999 := hI15.1 40 _
              have b416 : (-2147483648) ≤ H14 40 5 ∧ H14 40 5 ≤ 2147483647 := hI15.1 40 _
              refine fz_callV (d' := 2) (M' := mX10_does) (As := [fz_i 12, fz_i 5]) (st := []) kL_law rfl rfl vX10_does rfl rfl rfl rfl (Nat.le_of_ble_eq_true rfl) (Nat.le_of_ble_eq_true rfl) (by decide) (sX10_does H14 hI15 12 5 ) (fun H417 r418 q419 o420 => ?_)
              obtain ⟨hI421, hf422, y428, rfl, f423, f424, f425, f426, f427⟩ := q419
              clear o420
              have hf429 := fz_fr_tr hf16 hf422 (show fz_su [(9, 5), (10, 99999), (11, 99999), (12, 99999), (13, 99999), (14, 99999), (40, 5)] [(1, 7), (1, 8), (2, 99999), (3, 99999), (4, 99999), (5, 99999), (6, 99999), (7, 99999), (8, 99999), (9, 5), (10, 99999), (11, 99999), (12, 99999), (13, 99999), (14, 99999), (15, 4), (16, 99999), (17, 99999), (18, 99999), (19, 99999), (20, 2), (20, 3), (20, 4), (21, 4), (22, 99999), (23, 99999), (26, 99999), (27, 8), (27, 9), (28, 99999), (29, 99999), (30, 99999), (31, 99999), (32, 99999), (33, 3), (33, 4), (33, 5), (33, 6), (33, 7), (34, 99999), (35, 4), (35, 5), (36, 99999), (37, 99999), (38, 99999), (39, 99999), (40, 1), (40, 2), (40, 3), (40, 4), (40, 5), (40, 6), (41, 99999), (42, 99999), (43, 99999), (44, 2), (45, 99999), (48, 99999), (50, 99999), (51, 99999), (52, 99999), (53, 99999)] = true from rfl)
              have hRE430 : fz_RE H417 := fz_RE_eq (funext fun s => hf422 5 s rfl) (funext fun s => hf422 6 s rfl) (hf422 1 8 rfl) (hf422 1 7 rfl) hRE6
              have hRV431 : fz_RV H417 := fz_RV_eq (funext fun s => hf422 7 s rfl) (funext fun s => hf422 8 s rfl) (funext fun s => hf422 3 s rfl) (funext fun s => hf422 4 s rfl) (funext fun s => hf422 5 s rfl) (funext fun s => hf422 6 s rfl) (hf422 1 7 rfl) (hf422 1 8 rfl) hRV7
              have hL1432 : st_L1 H417 := st_L1_eq (funext fun s => hf422 3 s rfl) (hf422 1 8 rfl) hL111
              have hIm433 : st_Im H417 := st_Im_eq (hf422 40 6 rfl) (funext fun s => hf422 43 s rfl) (funext fun s => hf422 42 s rfl) hIm12
              have hRT434 : fz_RT H417 := fz_RT_eq (funext fun s => hf422 41 s rfl) (funext fun s => hf422 42 s rfl) (hf422 1 7 rfl) hRT13
              have hX435 : fz_Xc H417 := fz_Xc_fr hf422 rfl hXq9
              have t436 : H417 1 7 = H14 1 7 := hf422 1 7 rfl
              have t437 : H417 1 8 = H14 1 8 := hf422 1 8 rfl
              have k439 : 0 ≤ y428 ∧ y428 ≤ 8 := by omega
              refine fz_goto (tgt := 1644) kL_law rfl (by decide) ?_
              refine fz_istore (ls' := [(7, fz_i y428), (0, fz_r 200), (1, fz_r 0), (2, fz_r 53), (3, fz_i tw), (4, fz_l sm), (6, fz_i dd)]) kL_law rfl (by decide) rfl ?_
              refine fz_iload kL_law rfl rfl ?_
              refine fz_if_lt (tgt := 1702) kL_law rfl (by decide) (fun c440 => ?_) (fun c440 => ?_)
              · exfalso; omega
              · refine fz_iload kL_law rfl rfl ?_
                refine fz_iload kL_law rfl rfl ?_
                refine fz_icmp_ne (tgt := 1700) kL_law rfl (by decide) (fun c441 => ?_) (fun c441 => ?_)
                · exfalso; omega
                · refine fz_aload_n kL_law rfl rfl ?_
                  refine fz_iload kL_law rfl rfl ?_
                  refine fz_iconst ⟨by decide, by decide⟩ kL_law rfl ?_
                  refine fz_callV (d' := 3) (M' := mX10_of) (As := [fz_i y428, fz_i 3]) (st := []) kL_law rfl rfl vX10_of rfl rfl rfl rfl (Nat.le_of_ble_eq_true rfl) (Nat.le_of_ble_eq_true rfl) (by decide) (sX10_of H417 hI421 y428 3 ) (fun H442 r443 q444 o445 => ?_)
                  obtain ⟨e446, y449, rfl, f447, f448⟩ := q444
                  subst H442
                  clear o445
                  have k450 := of_3 f448 (by omega)
                  refine fz_aload_n kL_law rfl rfl ?_
                  refine fz_iconst ⟨by decide, by decide⟩ kL_law rfl ?_
                  refine fz_callV (d' := 0) (M' := mX10_led) (As := [fz_i 4]) (st := [fz_i y449]) kL_law rfl rfl vX10_led rfl rfl rfl rfl (Nat.le_of_ble_eq_true rfl) (Nat.le_of_ble_eq_true rfl) (by decide) (sX10_led H417 hI421 4 ) (fun H452 r453 q454 o455 => ?_)
                  obtain ⟨e456, y459, rfl, f457, f458⟩ := q454
                  subst H452
                  clear o455
                  have k460 : y449 = y459 := st_d3 f425 (hf422 40 1 rfl) k450 f458 (by omega) (by omega)
                  refine fz_icmp_ne (tgt := 1700) kL_law rfl (by decide) (fun c461 => ?_) (fun c461 => ?_)
                  · exfalso; omega
                  · refine fz_aload_n kL_law rfl rfl ?_
                    refine fz_iload kL_law rfl rfl ?_
                    refine fz_bipush ⟨by decide, by decide⟩ kL_law rfl ?_
                    refine fz_callV (d' := 3) (M' := mX10_of) (As := [fz_i y428, fz_i 10]) (st := []) kL_law rfl rfl vX10_of rfl rfl rfl rfl (Nat.le_of_ble_eq_true rfl) (Nat.le_of_ble_eq_true rfl) (by decide) (sX10_of H417 hI421 y428 10 ) (fun H462 r463 q464 o465 => ?_)
                    obtain ⟨e466, y469, rfl, f467, f468⟩ := q464
                    subst H462
                    clear o465
                    have k470 := of_10 f468 (by omega)
                    refine fz_aload_n kL_law rfl rfl ?_
                    refine fz_iconst ⟨by decide, by decide⟩ kL_law rfl ?_
                    refine fz_bipush ⟨by decide, by decide⟩ kL_law rfl ?_
                    refine fz_callV (d' := 3) (M' := mX10_of) (As := [fz_i 1, fz_i 11]) (st := [fz_i y469]) kL_law rfl rfl vX10_of rfl rfl rfl rfl (Nat.le_of_ble_eq_true rfl) (Nat.le_of_ble_eq_true rfl) (by decide) (sX10_of H417 hI421 1 11 ) (fun H472 r473 q474 o475 => ?_)
                    obtain ⟨e476, y479, rfl, f477, f478⟩ := q474
                    subst H472
                    clear o475
                    have k480 := of_11 f478 (by omega)
                    have k482 : y469 = y479 := st_d10 f425 (funext fun s => hf422 41 s rfl) k470 k480 (by omega) (by omega)
                    refine fz_icmp_ne (tgt := 1700) kL_law rfl (by decide) (fun c483 => ?_) (fun c483 => ?_)
                    · exfalso; omega
                    · refine fz_aload_n kL_law rfl rfl ?_
                      refine fz_iconst ⟨by decide, by decide⟩ kL_law rfl ?_
                      refine fz_callV (d' := 0) (M' := mX10_led) (As := [fz_i 3]) (st := []) kL_law rfl rfl vX10_led rfl rfl rfl rfl (Nat.le_of_ble_eq_true rfl) (Nat.le_of_ble_eq_true rfl) (by decide) (sX10_led H417 hI421 3 ) (fun H484 r485 q486 o487 => ?_)
                      obtain ⟨e488, y491, rfl, f489, f490⟩ := q486
                      subst H484
                      clear o487
                      have k492 := st_d5 f426 (st_wl5 hv23 hZ) f490 (by omega)
                      refine fz_iconst ⟨by decide, by decide⟩ kL_law rfl ?_
                      refine fz_icmp_eq (tgt := 1702) kL_law rfl (by decide) (fun c493 => ?_) (fun c493 => ?_)
                      · refine fz_aload_n kL_law rfl rfl ?_
                        refine fz_callV (d' := 2) (M' := mX10_back) (As := []) (st := []) kL_law rfl rfl vX10_back rfl rfl rfl rfl (Nat.le_of_ble_eq_true rfl) (Nat.le_of_ble_eq_true rfl) (by decide) (sX10_back H417 hI421  hRT434) (fun H494 r495 q496 o497 => ?_)
                        obtain ⟨hI498, hf499, hRT500, y504, rfl, f501, f502, f503⟩ := q496
                        clear o497
                        have hf505 := fz_fr_tr hf429 hf499 (show fz_su [(40, 1), (40, 2), (40, 3), (40, 4), (40, 5), (41, 99999)] [(1, 7), (1, 8), (2, 99999), (3, 99999), (4, 99999), (5, 99999), (6, 99999), (7, 99999), (8, 99999), (9, 5), (10, 99999), (11, 99999), (12, 99999), (13, 99999), (14, 99999), (15, 4), (16, 99999), (17, 99999), (18, 99999), (19, 99999), (20, 2), (20, 3), (20, 4), (21, 4), (22, 99999), (23, 99999), (26, 99999), (27, 8), (27, 9), (28, 99999), (29, 99999), (30, 99999), (31, 99999), (32, 99999), (33, 3), (33, 4), (33, 5), (33, 6), (33, 7), (34, 99999), (35, 4), (35, 5), (36, 99999), (37, 99999), (38, 99999), (39, 99999), (40, 1), (40, 2), (40, 3), (40, 4), (40, 5), (40, 6), (41, 99999), (42, 99999), (43, 99999), (44, 2), (45, 99999), (48, 99999), (50, 99999), (51, 99999), (52, 99999), (53, 99999)] = true from rfl)
                        have hRE506 : fz_RE H494 := fz_RE_eq (funext fun s => hf499 5 s rfl) (funext fun s => hf499 6 s rfl) (hf499 1 8 rfl) (hf499 1 7 rfl) hRE430
                        have hRV507 : fz_RV H494 := fz_RV_eq (funext fun s => hf499 7 s rfl) (funext fun s => hf499 8 s rfl) (funext fun s => hf499 3 s rfl) (funext fun s => hf499 4 s rfl) (funext fun s => hf499 5 s rfl) (funext fun s => hf499 6 s rfl) (hf499 1 7 rfl) (hf499 1 8 rfl) hRV431
                        have hL1508 : st_L1 H494 := st_L1_eq (funext fun s => hf499 3 s rfl) (hf499 1 8 rfl) hL1432
                        have hIm509 : st_Im H494 := st_Im_eq (hf499 40 6 rfl) (funext fun s => hf499 43 s rfl) (funext fun s => hf499 42 s rfl) hIm433
                        have hX510 : fz_Xc H494 := fz_Xc_fr hf499 rfl hX435
                        have t511 : H494 9 5 = H417 9 5 := hf499 9 5 rfl
                        have t512 : H494 1 7 = H417 1 7 := hf499 1 7 rfl
                        have t513 : H494 1 8 = H417 1 8 := hf499 1 8 rfl
                        have k514 := st_bk hIm433 f502 f503
                        refine fz_if_ne (tgt := 1752) kL_law rfl (by decide) (fun c516 => ?_) (fun c516 => ?_)
                        · exfalso; omega
                        · refine fz_aload_n kL_law rfl rfl ?_
                          refine fz_iconst ⟨by decide, by decide⟩ kL_law rfl ?_
                          refine fz_callV (d' := 0) (M' := mX10_led) (As := [fz_i 0]) (st := []) kL_law rfl rfl vX10_led rfl rfl rfl rfl (Nat.le_of_ble_eq_true rfl) (Nat.le_of_ble_eq_true rfl) (by decide) (sX10_led H494 hI498 0 ) (fun H517 r518 q519 o520 => ?_)
                          obtain ⟨e521, y524, rfl, f522, f523⟩ := q519
                          subst H517
                          clear o520
                          have k525 := st_le0 f523
                          refine fz_if_ne (tgt := 1752) kL_law rfl (by decide) (fun c526 => ?_) (fun c526 => ?_)
                          · exfalso; omega
                          · refine fz_aload_n kL_law rfl rfl ?_
                            refine fz_iconst ⟨by decide, by decide⟩ kL_law rfl ?_
                            refine fz_callV (d' := 0) (M' := mX10_led) (As := [fz_i 3]) (st := []) kL_law rfl rfl vX10_led rfl rfl rfl rfl (Nat.le_of_ble_eq_true rfl) (Nat.le_of_ble_eq_true rfl) (by decide) (sX10_led H494 hI498 3 ) (fun H527 r528 q529 o530 => ?_)
                            obtain ⟨e531, y534, rfl, f532, f533⟩ := q529
                            subst H527
                            clear o530
                            have k535 := st_le3 f533
                            refine fz_if_ne (tgt := 1752) kL_law rfl (by decide) (fun c536 => ?_) (fun c536 => ?_)
                            · exfalso; omega
                            · refine fz_aload_n kL_law rfl rfl ?_
                              refine fz_iconst ⟨by decide, by decide⟩ kL_law rfl ?_
                              refine fz_bipush ⟨by decide, by decide⟩ kL_law rfl ?_
                              refine fz_callV (d' := 3) (M' := mX10_of) (As := [fz_i 0, fz_i 12]) (st := []) kL_law rfl rfl vX10_of rfl rfl rfl rfl (Nat.le_of_ble_eq_true rfl) (Nat.le_of_ble_eq_true rfl) (by decide) (sX10_of H494 hI498 0 12 ) (fun H537 r538 q539 o540 => ?_)
                              obtain ⟨e541, y544, rfl, f542, f543⟩ := q539
                              subst H537
                              clear o540
                              have k545 := of_12 f543
                              refine fz_if_ne (tgt := 1752) kL_law rfl (by decide) (fun c546 => ?_) (fun c546 => ?_)
                              · exfalso; omega
                              · refine fz_iload kL_law rfl rfl ?_
                                refine fz_if_lt (tgt := 1754) kL_law rfl (by decide) (fun c547 => ?_) (fun c547 => ?_)
                                · exfalso; omega
                                · refine fz_aload_n kL_law rfl rfl ?_
                                  refine fz_iconst ⟨by decide, by decide⟩ kL_law rfl ?_
                                  have b548 : 0 ≤ H494 1 7 ∧ H494 1 7 ≤ 8 := hI498.1 1 _
                                  have b549 : 0 ≤ H494 1 8 ∧ H494 1 8 ≤ 12 := hI498.1 1 _
                                  have b550 : 0 ≤ H494 9 5 ∧ H494 9 5 ≤ 10 := hI498.1 9 _
                                  have b551 : 0 ≤ H494 20 2 ∧ H494 20 2 ≤ 120 := hI498.1 20 _
                                  have b552 : 0 ≤ H494 35 4 ∧ H494 35 4 ≤ 40 := hI498.1 35 _
                                  have b553 : 0 ≤ H494 44 2 ∧ H494 44 2 ≤ 50 := hI498.1 44 _
                                  have e554 : H494 44 3 = h 44 3 := hf505 44 3 rfl
                                  refine fz_callV (d' := 0) (M' := mX10_count) (As := [fz_i 2]) (st := []) kL_law rfl rfl vX10_count rfl rfl rfl rfl (Nat.le_of_ble_eq_true rfl) (Nat.le_of_ble_eq_true rfl) (by decide) (sX10_count H494 hI498 2 ) (fun H555 r556 q557 o558 => ?_)
                                  obtain ⟨e559, y562, rfl, f560, f561⟩ := q557
                                  subst H555
                                  clear o558
                                  refine fz_iload kL_law rfl rfl ?_
                                  refine fz_iconst ⟨by decide, by decide⟩ kL_law rfl ?_
                                  refine fz_iaddN kL_law rfl (by omega) ?_
                                  refine fz_icmp_eq (tgt := 1754) kL_law rfl (by decide) (fun c563 => ?_) (fun c563 => ?_)
                                  · refine fz_iconst ⟨by decide, by decide⟩ kL_law rfl ?_
                                    refine fz_istore (ls' := [(8, fz_i 0), (7, fz_i y428), (0, fz_r 200), (1, fz_r 0), (2, fz_r 53), (3, fz_i tw), (4, fz_l sm), (6, fz_i dd)]) kL_law rfl (by decide) rfl ?_
                                    have lp566 : ∀ (n565 : Nat) (x564 : Int), (0 ≤ x564 ∧ x564 ≤ 4) → (4 - x564).toNat < n565 → fz_R 48 mL_law 1757 [(8, fz_i x564), (7, fz_i y428), (0, fz_r 200), (1, fz_r 0), (2, fz_r 53), (3, fz_i tw), (4, fz_l sm), (6, fz_i dd)] [] H494 (qL_law h) := by
                                      intro n565
                                      induction n565 with
                                      | zero => intro x564 hv569 hm568; exact absurd hm568 (by omega)
                                      | succ n565 ih567 =>
                                        intro x564 hv569 hm568
                                        refine fz_iload kL_law rfl rfl ?_
                                        refine fz_iconst ⟨by decide, by decide⟩ kL_law rfl ?_
                                        refine fz_icmp_ge (tgt := 1782) kL_law rfl (by decide) (fun c570 => ?_) (fun c570 => ?_)
                                        · refine fz_iload kL_law rfl rfl ?_
                                          refine fz_if_ge (tgt := 1797) kL_law rfl (by decide) (fun c571 => ?_) (fun c571 => ?_)
                                          · refine fz_iconst ⟨by decide, by decide⟩ kL_law rfl ?_
                                            refine fz_goto (tgt := 1802) kL_law rfl (by decide) ?_
                                            exact fz_zret kL_law rfl rfl (by omega) ⟨hI498, hf505, hX510, hRE506, hRV507, _, rfl, (by omega)⟩
                                          · exfalso; omega
                                        · refine fz_aload_n kL_law rfl rfl ?_
                                          refine fz_iload kL_law rfl rfl ?_
                                          refine fz_bipush ⟨by decide, by decide⟩ kL_law rfl ?_
                                          refine fz_callV (d' := 3) (M' := mX10_of) (As := [fz_i x564, fz_i 11]) (st := []) kL_law rfl rfl vX10_of rfl rfl rfl rfl (Nat.le_of_ble_eq_true rfl) (Nat.le_of_ble_eq_true rfl) (by decide) (sX10_of H494 hI498 x564 11 ) (fun H572 r573 q574 o575 => ?_)
                                          obtain ⟨e576, y579, rfl, f577, f578⟩ := q574
                                          subst H572
                                          clear o575
                                          have k580 := of_11 f578 (by omega)
                                          have k581 := st_bk41 hIm433 f502 (x564).toNat (by omega)
                                          refine fz_if_eq (tgt := 1776) kL_law rfl (by decide) (fun c582 => ?_) (fun c582 => ?_)
                                          · refine fz_iincN (ls' := [(8, fz_i (x564 + 1)), (7, fz_i y428), (0, fz_r 200), (1, fz_r 0), (2, fz_r 53), (3, fz_i tw), (4, fz_l sm), (6, fz_i dd)]) kL_law rfl (by decide) rfl (by omega) rfl ?_
                                            refine fz_goto (tgt := 1757) kL_law rfl (by decide) ?_
                                            exact ih567 (x564 + 1) (by omega) (by omega)
                                          · exfalso; omega
                                    exact lp566 _ 0 (by omega) (Nat.lt_succ_self _)
                                  · exfalso; omega
                      · exfalso; omega
        · refine fz_aload_n kL_law rfl rfl ?_
          refine fz_aload_n kL_law rfl rfl ?_
          refine fz_bipush ⟨by decide, by decide⟩ kL_law rfl ?_
          have e583 : H14 200 100000 = h 200 100000 := hf16 200 100000 rfl
          refine fz_callS (d' := 0) (M' := mL_at) (As := [fz_r 200, fz_i 26]) (st := [fz_r 0]) kL_law rfl rfl vL_at rfl rfl (Nat.le_of_ble_eq_true rfl) (Nat.le_of_ble_eq_true rfl) (by decide) (sL_at H14 hI15 26 (by omega) (by omega)) (fun H584 r585 q586 o587 => ?_)
          obtain ⟨e588, y590, rfl, f589⟩ := q586
          subst H584
          clear o587
          refine fz_iload kL_law rfl rfl ?_
          refine fz_ishr kL_law rfl ?_
          have b591 : -2147483648 ≤ (fz_shr y590 x5) ∧ (fz_shr y590 x5) < 2147483648 := fz_b32 _
          refine fz_iconst ⟨by decide, by decide⟩ kL_law rfl ?_
          refine fz_callS (d' := 0) (M' := mL_some) (As := [fz_i (fz_shr y590 x5), fz_i 4]) (st := [fz_r 0]) kL_law rfl rfl vL_some rfl rfl (Nat.le_of_ble_eq_true rfl) (Nat.le_of_ble_eq_true rfl) (by decide) (sL_some H14 hI15 (fz_shr y590 x5) 4 (by omega)) (fun H593 r594 q595 o596 => ?_)
          obtain ⟨e597, y601, rfl, f598, f599, f600⟩ := q595
          subst H593
          clear o596
          refine fz_aload_n kL_law rfl rfl ?_
          refine fz_bipush ⟨by decide, by decide⟩ kL_law rfl ?_
          refine fz_callS (d' := 0) (M' := mL_at) (As := [fz_r 200, fz_i 27]) (st := [fz_i y601, fz_r 0]) kL_law rfl rfl vL_at rfl rfl (Nat.le_of_ble_eq_true rfl) (Nat.le_of_ble_eq_true rfl) (by decide) (sL_at H14 hI15 27 (by omega) (by omega)) (fun H602 r603 q604 o605 => ?_)
          obtain ⟨e606, y608, rfl, f607⟩ := q604
          subst H602
          clear o605
          refine fz_iload kL_law rfl rfl ?_
          refine fz_ishr kL_law rfl ?_
          have b609 : -2147483648 ≤ (fz_shr y608 x5) ∧ (fz_shr y608 x5) < 2147483648 := fz_b32 _
          refine fz_aload_n kL_law rfl rfl ?_
          refine fz_iconst ⟨by decide, by decide⟩ kL_law rfl ?_
          obtain ⟨v611, e612⟩ : ∃ z, H14 53 (1) = z := ⟨_, rfl⟩
          refine fz_ialdV (n := 40) (v := v611) kL_law rfl rfl (by omega) (by omega) e612 ?_
          have b613 : (-2147483648) ≤ v611 ∧ v611 ≤ 2147483647 := by rw [← e612]; exact hI15.1 53 _
          have k615 : 1 ≤ v611 ∧ v611 ≤ 12 := by omega
          refine fz_callS (d' := 0) (M' := mL_some) (As := [fz_i (fz_shr y608 x5), fz_i v611]) (st := [fz_i y601, fz_r 0]) kL_law rfl rfl vL_some rfl rfl (Nat.le_of_ble_eq_true rfl) (Nat.le_of_ble_eq_true rfl) (by decide) (sL_some H14 hI15 (fz_shr y608 x5) v611 (by omega)) (fun H616 r617 q618 o619 => ?_)
          obtain ⟨e620, y624, rfl, f621, f622, f623⟩ := q618
          subst H616
          clear o619
          have b625 : 0 ≤ H14 1 7 ∧ H14 1 7 ≤ 8 := hI15.1 1 _
          refine fz_callV (d' := 5) (M' := mX10_walk) (As := [fz_i y601, fz_i y624]) (st := []) kL_law rfl rfl vX10_walk rfl rfl rfl rfl (Nat.le_of_ble_eq_true rfl) (Nat.le_of_ble_eq_true rfl) (by decide) (sX10_walk H14 hI15 y601 y624 hRT13 hRE6) (fun H626 r627 q628 o629 => ?_)
          obtain ⟨hI630, hf631, hRT632, hRE633, y639, rfl, f634, f635, f636, f637, f638⟩ := q628
          clear o629
          have hf640 := fz_fr_tr hf16 hf631 (show fz_su [(18, 99999), (19, 99999), (29, 99999), (40, 1), (40, 2), (40, 3), (40, 4), (41, 99999)] [(1, 7), (1, 8), (2, 99999), (3, 99999), (4, 99999), (5, 99999), (6, 99999), (7, 99999), (8, 99999), (9, 5), (10, 99999), (11, 99999), (12, 99999), (13, 99999), (14, 99999), (15, 4), (16, 99999), (17, 99999), (18, 99999), (19, 99999), (20, 2), (20, 3), (20, 4), (21, 4), (22, 99999), (23, 99999), (26, 99999), (27, 8), (27, 9), (28, 99999), (29, 99999), (30, 99999), (31, 99999), (32, 99999), (33, 3), (33, 4), (33, 5), (33, 6), (33, 7), (34, 99999), (35, 4), (35, 5), (36, 99999), (37, 99999), (38, 99999), (39, 99999), (40, 1), (40, 2), (40, 3), (40, 4), (40, 5), (40, 6), (41, 99999), (42, 99999), (43, 99999), (44, 2), (45, 99999), (48, 99999), (50, 99999), (51, 99999), (52, 99999), (53, 99999)] = true from rfl)
          have hRV641 : fz_RV H626 := fz_RV_eq (funext fun s => hf631 7 s rfl) (funext fun s => hf631 8 s rfl) (funext fun s => hf631 3 s rfl) (funext fun s => hf631 4 s rfl) (funext fun s => hf631 5 s rfl) (funext fun s => hf631 6 s rfl) (hf631 1 7 rfl) (hf631 1 8 rfl) hRV7
          have hRP2642 : fz_RP2 H626 := fz_RP2_eq (funext fun s => hf631 11 s rfl) (hf631 9 5 rfl) (hf631 1 7 rfl) hRP28
          have hN643 : st_N tw H626 := st_N_eq (hf631 53 0 rfl) (hf631 53 1 rfl) (hf631 53 2 rfl) (hf631 1 7 rfl) (hf631 1 8 rfl) (hf631 9 5 rfl) (hf631 35 4 rfl) (hf631 20 2 rfl) hN10
          have hL1644 : st_L1 H626 := st_L1_eq (funext fun s => hf631 3 s rfl) (hf631 1 8 rfl) hL111
          have hIm645 : st_Im H626 := st_Im_eq (hf631 40 6 rfl) (funext fun s => hf631 43 s rfl) (funext fun s => hf631 42 s rfl) hIm12
          have hX646 : fz_Xc H626 := fz_Xc_fr hf631 rfl hXq9
          have t647 : H626 9 5 = H14 9 5 := hf631 9 5 rfl
          have t648 : H626 1 7 = H14 1 7 := hf631 1 7 rfl
          have t649 : H626 1 8 = H14 1 8 := hf631 1 8 rfl
          refine fz_pop rfl kL_law rfl ?_
          refine fz_iincN (ls' := [(7, fz_i (x5 + 1)), (0, fz_r 200), (1, fz_r 0), (2, fz_r 53), (3, fz_i tw), (4, fz_l sm), (6, fz_i dd)]) kL_law rfl (by decide) rfl (by omega) rfl ?_
          refine fz_goto (tgt := 1570) kL_law rfl (by decide) ?_
          exact ih19 (x5 + 1) H626 hI630 hf640 hRE633 hRV641 hRP2642 hX646 hN643 hL1644 hIm645 hRT632 (by omega) (by omega) (st_wl_s hv23 hf631 f635) (by omega)
  exact lp18 _ 0 H hI hf hRE hRV hRP2 hX hN hL1 hIm hRT1 (by omega) (by omega) (st_wl_0) (Nat.lt_succ_self _)

set_option maxHeartbeats 1000000 in
set_option maxRecDepth 100000 in
theorem sL_l1548 (h H : fz_H) (tw sm : Int) (hI : fz_Iv H) (hf : fz_fr [(1, 7), (1, 8), (2, 99999), (3, 99999), (4, 99999), (5, 99999), (6, 99999), (7, 99999), (8, 99999), (9, 5), (10, 99999), (11, 99999), (12, 99999), (13, 99999), (14, 99999), (15, 4), (16, 99999), (17, 99999), (18, 99999), (19, 99999), (20, 2), (20, 3), (20, 4), (21, 4), (22, 99999), (23, 99999), (26, 99999), (27, 8), (27, 9), (28, 99999), (29, 99999), (30, 99999), (31, 99999), (32, 99999), (33, 3), (33, 4), (33, 5), (33, 6), (33, 7), (34, 99999), (35, 4), (35, 5), (36, 99999), (37, 99999), (38, 99999), (39, 99999), (40, 1), (40, 2), (40, 3), (40, 4), (40, 5), (40, 6), (41, 99999), (42, 99999), (43, 99999), (44, 2), (45, 99999), (48, 99999), (50, 99999), (51, 99999), (52, 99999), (53, 99999)] h H) (hX : fz_Xc H) (hRE : fz_RE H) (hRV : fz_RV H) (hRP2 : fz_RP2 H) (hN : st_N tw H) (hS : st_S sm H) (hL1 : st_L1 H) (hZ : st_Z H) (hIm : st_Im H) (hp0 : 0 ≤ h 200 100000 ∧ h 200 100000 ≤ 3072) (hq0 : 0 ≤ tw ∧ tw ≤ 8) : fz_R 48 mL_law 1548 [(0, fz_r 200), (1, fz_r 0), (2, fz_r 53), (3, fz_i tw), (4, fz_l sm)] [] H (qL_law h) := by
  refine fz_aload_n kL_law rfl rfl ?_
  refine fz_callS (d' := 7) (M' := mL_told) (As := [fz_r 0]) (st := []) kL_law rfl rfl vL_told rfl rfl (Nat.le_of_ble_eq_true rfl) (Nat.le_of_ble_eq_true rfl) (by decide) (sL_told H hI  ) (fun H1 r2 q3 o4 => ?_)
  obtain ⟨hI5, hf6, y9, rfl, f7, f8⟩ := q3
  clear o4
  have hf10 := fz_fr_tr hf hf6 (show fz_su [(18, 99999), (19, 99999), (29, 99999), (30, 99999), (32, 99999)] [(1, 7), (1, 8), (2, 99999), (3, 99999), (4, 99999), (5, 99999), (6, 99999), (7, 99999), (8, 99999), (9, 5), (10, 99999), (11, 99999), (12, 99999), (13, 99999), (14, 99999), (15, 4), (16, 99999), (17, 99999), (18, 99999), (19, 99999), (20, 2), (20, 3), (20, 4), (21, 4), (22, 99999), (23, 99999), (26, 99999), (27, 8), (27, 9), (28, 99999), (29, 99999), (30, 99999), (31, 99999), (32, 99999), (33, 3), (33, 4), (33, 5), (33, 6), (33, 7), (34, 99999), (35, 4), (35, 5), (36, 99999), (37, 99999), (38, 99999), (39, 99999), (40, 1), (40, 2), (40, 3), (40, 4), (40, 5), (40, 6), (41, 99999), (42, 99999), (43, 99999), (44, 2), (45, 99999), (48, 99999), (50, 99999), (51, 99999), (52, 99999), (53, 99999)] = true from rfl)
  have hRE11 : fz_RE H1 := fz_RE_eq (funext fun s => hf6 5 s rfl) (funext fun s => hf6 6 s rfl) (hf6 1 8 rfl) (hf6 1 7 rfl) hRE
  have hRV12 : fz_RV H1 := fz_RV_eq (funext fun s => hf6 7 s rfl) (funext fun s => hf6 8 s rfl) (funext fun s => hf6 3 s rfl) (funext fun s => hf6 4 s rfl) (funext fun s => hf6 5 s rfl) (funext fun s => hf6 6 s rfl) (hf6 1 7 rfl) (hf6 1 8 rfl) hRV
  have hRP213 : fz_RP2 H1 := fz_RP2_eq (funext fun s => hf6 11 s rfl) (hf6 9 5 rfl) (hf6 1 7 rfl) hRP2
  have hN14 : st_N tw H1 := st_N_eq (hf6 53 0 rfl) (hf6 53 1 rfl) (hf6 53 2 rfl) (hf6 1 7 rfl) (hf6 1 8 rfl) (hf6 9 5 rfl) (hf6 35 4 rfl) (hf6 20 2 rfl) hN
  have hL115 : st_L1 H1 := st_L1_eq (funext fun s => hf6 3 s rfl) (hf6 1 8 rfl) hL1
  have hZ16 : st_Z H1 := st_Z_eq (hf6 40 1 rfl) (hf6 40 2 rfl) (hf6 40 3 rfl) (hf6 40 4 rfl) (hf6 40 5 rfl) (funext fun s => hf6 41 s rfl) hZ
  have hIm17 : st_Im H1 := st_Im_eq (hf6 40 6 rfl) (funext fun s => hf6 43 s rfl) (funext fun s => hf6 42 s rfl) hIm
  have hX18 : fz_Xc H1 := fz_Xc_fr hf6 rfl hX
  have t19 : H1 9 5 = H 9 5 := hf6 9 5 rfl
  have t20 : H1 1 7 = H 1 7 := hf6 1 7 rfl
  have t21 : H1 1 8 = H 1 8 := hf6 1 8 rfl
  have nm22 : fz_nm H1 = fz_nm H := (fz_nm_fr rfl hf6).trans rfl
  have hS23 : st_S sm H1 := st_S_fr rfl hf6 hS
  refine fz_lload kL_law rfl rfl ?_
  have k24 := st_S_t hS f8
  refine fz_lcmp kL_law rfl ?_
  have b25 := fz_cmp_c y9 sm
  refine fz_if_eq (tgt := 1560) kL_law rfl (by decide) (fun c26 => ?_) (fun c26 => ?_)
  · refine fz_aload_n kL_law rfl rfl ?_
    refine fz_iconst ⟨by decide, by decide⟩ kL_law rfl ?_
    have k27 := st_N_e hI5 hN14
    have b28 : 0 ≤ H1 1 7 ∧ H1 1 7 ≤ 8 := hI5.1 1 _
    have b29 : 0 ≤ H1 1 8 ∧ H1 1 8 ≤ 12 := hI5.1 1 _
    have b30 : 0 ≤ H1 9 5 ∧ H1 9 5 ≤ 10 := hI5.1 9 _
    have b31 : 0 ≤ H1 20 2 ∧ H1 20 2 ≤ 120 := hI5.1 20 _
    have b32 : 0 ≤ H1 35 4 ∧ H1 35 4 ≤ 40 := hI5.1 35 _
    have b33 : 0 ≤ H1 44 2 ∧ H1 44 2 ≤ 50 := hI5.1 44 _
    have e34 : H1 44 3 = h 44 3 := hf10 44 3 rfl
    refine fz_callV (d' := 0) (M' := mX10_count) (As := [fz_i 2]) (st := []) kL_law rfl rfl vX10_count rfl rfl rfl rfl (Nat.le_of_ble_eq_true rfl) (Nat.le_of_ble_eq_true rfl) (by decide) (sX10_count H1 hI5 2 ) (fun H35 r36 q37 o38 => ?_)
    obtain ⟨e39, y42, rfl, f40, f41⟩ := q37
    subst H35
    clear o38
    have k44 : 0 ≤ y42 ∧ y42 ≤ 8 := by omega
    refine fz_istore (ls' := [(6, fz_i y42), (0, fz_r 200), (1, fz_r 0), (2, fz_r 53), (3, fz_i tw), (4, fz_l sm)]) kL_law rfl (by decide) rfl ?_
    refine fz_sub (fz_pk_sub (ls' := [(0, fz_r 200), (1, fz_r 0), (2, fz_r 53), (3, fz_i tw), (4, fz_l sm), (6, fz_i y42)]) [1, 2, 3, 4, 5, 0] rfl) ?_
    exact sL_l1567 h H1 tw sm y42 hI5 hf10 hX18 hRE11 hRV12 hRP213 hN14 hS23 hL115 hZ16 hIm17 hp0 (by omega) (by omega)
  · exfalso; omega

theorem sL_l946 (h H : fz_H) (tw sm : Int) (hI : fz_Iv H) (hf : fz_fr [(1, 7), (1, 8), (2, 99999), (3, 99999), (4, 99999), (5, 99999), (6, 99999), (7, 99999), (8, 99999), (9, 5), (10, 99999), (11, 99999), (12, 99999), (13, 99999), (14, 99999), (15, 4), (16, 99999), (17, 99999), (18, 99999), (19, 99999), (20, 2), (20, 3), (20, 4), (21, 4), (22, 99999), (23, 99999), (26, 99999), (27, 8), (27, 9), (28, 99999), (29, 99999), (30, 99999), (31, 99999), (32, 99999), (33, 3), (33, 4), (33, 5), (33, 6), (33, 7), (34, 99999), (35, 4), (35, 5), (36, 99999), (37, 99999), (38, 99999), (39, 99999), (40, 1), (40, 2), (40, 3), (40, 4), (40, 5), (40, 6), (41, 99999), (42, 99999), (43, 99999), (44, 2), (45, 99999), (48, 99999), (50, 99999), (51, 99999), (52, 99999), (53, 99999)] h H) (hX : fz_Xc H) (hRE : fz_RE H) (hRV : fz_RV H) (hRP2 : fz_RP2 H) (hN : st_N tw H) (hS : st_S sm H) (hL1 : st_L1 H) (hZ : st_Z H) (hIm : st_Im H) (hp0 : 0 ≤ h 200 100000 ∧ h 200 100000 ≤ 3072) (hq0 : 0 ≤ tw ∧ tw ≤ 8) : fz_R 48 mL_law 946 [(0, fz_r 200), (1, fz_r 0), (2, fz_r 53), (3, fz_i tw), (4, fz_l sm)] [] H (qL_law h) := by sorry

set_option maxHeartbeats 1000000 in
set_option maxRecDepth 100000 in
theorem sL_l808 (h H : fz_H) (tw sm e a t x f : Int) (hI : fz_Iv H) (hf : fz_fr [(1, 7), (1, 8), (2, 99999), (3, 99999), (4, 99999), (5, 99999), (6, 99999), (7, 99999), (8, 99999), (9, 5), (10, 99999), (11, 99999), (12, 99999), (13, 99999), (14, 99999), (15, 4), (16, 99999), (17, 99999), (18, 99999), (19, 99999), (20, 2), (20, 3), (20, 4), (21, 4), (22, 99999), (23, 99999), (26, 99999), (27, 8), (27, 9), (28, 99999), (29, 99999), (30, 99999), (31, 99999), (32, 99999), (33, 3), (33, 4), (33, 5), (33, 6), (33, 7), (34, 99999), (35, 4), (35, 5), (36, 99999), (37, 99999), (38, 99999), (39, 99999), (40, 1), (40, 2), (40, 3), (40, 4), (40, 5), (40, 6), (41, 99999), (42, 99999), (43, 99999), (44, 2), (45, 99999), (48, 99999), (50, 99999), (51, 99999), (52, 99999), (53, 99999)] h H) (hX : fz_Xc H) (hRE : fz_RE H) (hRV : fz_RV H) (hRP2 : fz_RP2 H) (hN : st_N tw H) (hS : st_S sm H) (hL1 : st_L1 H) (hZ : st_Z H) (hIm : st_Im H) (hp0 : 0 ≤ h 200 100000 ∧ h 200 100000 ≤ 3072) (hq0 : 0 ≤ tw ∧ tw ≤ 8) (hq1 : 0 ≤ e ∧ e ≤ 7) (hq2 : e < H 9 5) (hq3 : 0 ≤ a ∧ a < tw) (hq4 : 0 ≤ t ∧ t < tw) (hq5 : x = fz_haC H e t) (hq6 : 1 ≤ f) (hq7 : a = H 11 e.toNat) (hq8 : st_cI H e t f) (k : ∀ (G : fz_H), fz_Iv G → fz_fr [(1, 7), (1, 8), (2, 99999), (3, 99999), (4, 99999), (5, 99999), (6, 99999), (7, 99999), (8, 99999), (9, 5), (10, 99999), (11, 99999), (12, 99999), (13, 99999), (14, 99999), (15, 4), (16, 99999), (17, 99999), (18, 99999), (19, 99999), (20, 2), (20, 3), (20, 4), (21, 4), (22, 99999), (23, 99999), (26, 99999), (27, 8), (27, 9), (28, 99999), (29, 99999), (30, 99999), (31, 99999), (32, 99999), (33, 3), (33, 4), (33, 5), (33, 6), (33, 7), (34, 99999), (35, 4), (35, 5), (36, 99999), (37, 99999), (38, 99999), (39, 99999), (40, 1), (40, 2), (40, 3), (40, 4), (40, 5), (40, 6), (41, 99999), (42, 99999), (43, 99999), (44, 2), (45, 99999), (48, 99999), (50, 99999), (51, 99999), (52, 99999), (53, 99999)] h G → fz_Xc G → fz_RE G → fz_RV G → fz_RP2 G → st_N tw G → st_S sm G → st_L1 G → st_Z G → st_Im G → (e < G 9 5) → (a = G 11 e.toNat) → fz_R 48 mL_law 934 [(0, fz_r 200), (1, fz_r 0), (2, fz_r 53), (3, fz_i tw), (4, fz_l sm), (6, fz_i e), (7, fz_i a), (9, fz_i t)] [] G (qL_law h)) : fz_R 48 mL_law 808 [(0, fz_r 200), (1, fz_r 0), (2, fz_r 53), (3, fz_i tw), (4, fz_l sm), (6, fz_i e), (7, fz_i a), (9, fz_i t), (10, fz_i x), (11, fz_i f)] [] H (qL_law h) := by
  have k1 := st_N_e hI hN
  have k2 : 0 ≤ H 1 8 ∧ H 1 8 ≤ 12 := hI.1 1 8
  refine fz_iconst ⟨by decide, by decide⟩ kL_law rfl ?_
  refine fz_istore (ls' := [(12, fz_i 0), (0, fz_r 200), (1, fz_r 0), (2, fz_r 53), (3, fz_i tw), (4, fz_l sm), (6, fz_i e), (7, fz_i a), (9, fz_i t), (10, fz_i x), (11, fz_i f)]) kL_law rfl (by decide) rfl ?_
  refine fz_iconst ⟨by decide, by decide⟩ kL_law rfl ?_
  refine fz_istore (ls' := [(13, fz_i 0), (12, fz_i 0), (0, fz_r 200), (1, fz_r 0), (2, fz_r 53), (3, fz_i tw), (4, fz_l sm), (6, fz_i e), (7, fz_i a), (9, fz_i t), (10, fz_i x), (11, fz_i f)]) kL_law rfl (by decide) rfl ?_
  have lp16 : ∀ (n15 : Nat) (x4 : Int) (x5 : Int) (H12 : fz_H), fz_Iv H12 → fz_fr [(1, 7), (1, 8), (2, 99999), (3, 99999), (4, 99999), (5, 99999), (6, 99999), (7, 99999), (8, 99999), (9, 5), (10, 99999), (11, 99999), (12, 99999), (13, 99999), (14, 99999), (15, 4), (16, 99999), (17, 99999), (18, 99999), (19, 99999), (20, 2), (20, 3), (20, 4), (21, 4), (22, 99999), (23, 99999), (26, 99999), (27, 8), (27, 9), (28, 99999), (29, 99999), (30, 99999), (31, 99999), (32, 99999), (33, 3), (33, 4), (33, 5), (33, 6), (33, 7), (34, 99999), (35, 4), (35, 5), (36, 99999), (37, 99999), (38, 99999), (39, 99999), (40, 1), (40, 2), (40, 3), (40, 4), (40, 5), (40, 6), (41, 99999), (42, 99999), (43, 99999), (44, 2), (45, 99999), (48, 99999), (50, 99999), (51, 99999), (52, 99999), (53, 99999)] h H12 → fz_RE H12 → fz_RV H12 → fz_RP2 H12 → fz_Xc H12 → st_Z H12 → st_Im H12 → (0 ≤ x4 ∧ x4 ≤ 12) → (0 ≤ x5 ∧ x5 ≤ 12) → (x5 ≤ x4) → (st_un H H12 f x5 x4) → (12 - x4).toNat < n15 → fz_R 48 mL_law 814 [(13, fz_i x4), (12, fz_i x5), (0, fz_r 200), (1, fz_r 0), (2, fz_r 53), (3, fz_i tw), (4, fz_l sm), (6, fz_i e), (7, fz_i a), (9, fz_i t), (10, fz_i x), (11, fz_i f)] [] H12 (qL_law h) := by
    intro n15
    induction n15 with
    | zero => intro x4 x5 H12 hI13 hf14 hRE6 hRV7 hRP28 hXq9 hZ10 hIm11 hv19 hv20 hv21 hv22 hm18; exact absurd hm18 (by omega)
    | succ n15 ih17 =>
      intro x4 x5 H12 hI13 hf14 hRE6 hRV7 hRP28 hXq9 hZ10 hIm11 hv19 hv20 hv21 hv22 hm18
      refine fz_iload kL_law rfl rfl ?_
      refine fz_aload_n kL_law rfl rfl ?_
      refine fz_iconst ⟨by decide, by decide⟩ kL_law rfl ?_
      obtain ⟨v23, e24⟩ : ∃ z, H12 53 (1) = z := ⟨_, rfl⟩
      refine fz_ialdV (n := 40) (v := v23) kL_law rfl rfl (by omega) (by omega) e24 ?_
      have b25 : (-2147483648) ≤ v23 ∧ v23 ≤ 2147483647 := by rw [← e24]; exact hI13.1 53 _
      have k26 := st_un_N hv22 hN hI
      refine fz_icmp_ge (tgt := 867) kL_law rfl (by decide) (fun c27 => ?_) (fun c27 => ?_)
      · have k28 := st_un_N hv22 hN hI
        refine fz_aload_n kL_law rfl rfl ?_
        refine fz_iload kL_law rfl rfl ?_
        refine fz_iload kL_law rfl rfl ?_
        have b29 : 0 ≤ H12 9 5 ∧ H12 9 5 ≤ 10 := hI13.1 9 _
        have b30 : 0 ≤ H12 1 7 ∧ H12 1 7 ≤ 8 := hI13.1 1 _
        refine fz_callV (d' := 2) (M' := mX10_heard) (As := [fz_i e, fz_i t]) (st := []) kL_law rfl rfl vX10_heard rfl rfl rfl rfl (Nat.le_of_ble_eq_true rfl) (Nat.le_of_ble_eq_true rfl) (by decide) (sX10_heard H12 hI13 e t ) (fun H31 r32 q33 o34 => ?_)
        obtain ⟨e35, y38, rfl, f36, f37⟩ := q33
        subst H31
        clear o34
        have k39 := he_C f37 (by omega)
        have k40 := st_gone hI hI13 hRV7 hv22 hq8 (t := t) (by omega) (by omega) (by omega) (by omega)
        refine fz_bipush ⟨by decide, by decide⟩ kL_law rfl ?_
        refine fz_icmp_ne (tgt := 892) kL_law rfl (by decide) (fun c42 => ?_) (fun c42 => ?_)
        · exfalso; omega
        · refine fz_aload_n kL_law rfl rfl ?_
          refine fz_iload kL_law rfl rfl ?_
          refine fz_iload kL_law rfl rfl ?_
          refine fz_iconst ⟨by decide, by decide⟩ kL_law rfl ?_
          refine fz_callV (d' := 1) (M' := mX10_cut) (As := [fz_i e, fz_i t, fz_i 0]) (st := []) kL_law rfl rfl vX10_cut rfl rfl rfl rfl (Nat.le_of_ble_eq_true rfl) (Nat.le_of_ble_eq_true rfl) (by decide) (sX10_cut H12 hI13 e t 0 hRE6 hRP28) (fun H43 r44 q45 o46 => ?_)
          obtain ⟨e47, y50, rfl, f48, f49⟩ := q45
          subst H43
          clear o46
          have k51 := cf_1 hI13 hRV7 hRP28 (by omega) (by omega) (by decide) f49 (by omega)
          refine fz_if_eq (tgt := 894) kL_law rfl (by decide) (fun c52 => ?_) (fun c52 => ?_)
          · refine fz_iconst ⟨by decide, by decide⟩ kL_law rfl ?_
            refine fz_istore (ls' := [(13, fz_i 0), (12, fz_i x5), (0, fz_r 200), (1, fz_r 0), (2, fz_r 53), (3, fz_i tw), (4, fz_l sm), (6, fz_i e), (7, fz_i a), (9, fz_i t), (10, fz_i x), (11, fz_i f)]) kL_law rfl (by decide) rfl ?_
            have lp64 : ∀ (n63 : Nat) (x53 : Int) (H60 : fz_H), fz_Iv H60 → fz_fr [(1, 7), (1, 8), (2, 99999), (3, 99999), (4, 99999), (5, 99999), (6, 99999), (7, 99999), (8, 99999), (9, 5), (10, 99999), (11, 99999), (12, 99999), (13, 99999), (14, 99999), (15, 4), (16, 99999), (17, 99999), (18, 99999), (19, 99999), (20, 2), (20, 3), (20, 4), (21, 4), (22, 99999), (23, 99999), (26, 99999), (27, 8), (27, 9), (28, 99999), (29, 99999), (30, 99999), (31, 99999), (32, 99999), (33, 3), (33, 4), (33, 5), (33, 6), (33, 7), (34, 99999), (35, 4), (35, 5), (36, 99999), (37, 99999), (38, 99999), (39, 99999), (40, 1), (40, 2), (40, 3), (40, 4), (40, 5), (40, 6), (41, 99999), (42, 99999), (43, 99999), (44, 2), (45, 99999), (48, 99999), (50, 99999), (51, 99999), (52, 99999), (53, 99999)] h H60 → fz_RE H60 → fz_RV H60 → fz_RP2 H60 → fz_Xc H60 → st_Z H60 → st_Im H60 → (0 ≤ x53 ∧ x53 ≤ 12) → (x53 ≤ x5) → (st_uo H H60 (x5 - x53)) → (x5 - x53).toNat < n63 → fz_R 48 mL_law 897 [(13, fz_i x53), (12, fz_i x5), (0, fz_r 200), (1, fz_r 0), (2, fz_r 53), (3, fz_i tw), (4, fz_l sm), (6, fz_i e), (7, fz_i a), (9, fz_i t), (10, fz_i x), (11, fz_i f)] [] H60 (qL_law h) := by
              intro n63
              induction n63 with
              | zero => intro x53 H60 hI61 hf62 hRE54 hRV55 hRP256 hXq57 hZ58 hIm59 hv67 hv68 hv69 hm66; exact absurd hm66 (by omega)
              | succ n63 ih65 =>
                intro x53 H60 hI61 hf62 hRE54 hRV55 hRP256 hXq57 hZ58 hIm59 hv67 hv68 hv69 hm66
                refine fz_iload kL_law rfl rfl ?_
                refine fz_iload kL_law rfl rfl ?_
                refine fz_icmp_ge (tgt := 919) kL_law rfl (by decide) (fun c70 => ?_) (fun c70 => ?_)
                · have k71 := st_uo_1 hv69 hN hI
                  refine fz_aload_n kL_law rfl rfl ?_
                  refine fz_iload kL_law rfl rfl ?_
                  refine fz_iload kL_law rfl rfl ?_
                  have b72 : 0 ≤ H60 9 5 ∧ H60 9 5 ≤ 10 := hI61.1 9 _
                  have b73 : 0 ≤ H60 1 7 ∧ H60 1 7 ≤ 8 := hI61.1 1 _
                  refine fz_callV (d' := 2) (M' := mX10_heard) (As := [fz_i e, fz_i t]) (st := []) kL_law rfl rfl vX10_heard rfl rfl rfl rfl (Nat.le_of_ble_eq_true rfl) (Nat.le_of_ble_eq_true rfl) (by decide) (sX10_heard H60 hI61 e t ) (fun H74 r75 q76 o77 => ?_)
                  obtain ⟨e78, y81, rfl, f79, f80⟩ := q76
                  subst H74
                  clear o77
                  have k82 := he_C f80 (by omega)
                  have k83 := st_uo_h hv69 (by omega) hRV hRV55 hI (e := e) (t := t) (by omega) (by omega)
                  have hN84 : st_N tw H60 := st_uo_N hv69 (by omega) hN
                  have hL186 : st_L1 H60 := st_uo_L1 hv69 hL1
                  have hS88 : st_S sm H60 := st_uo_S hv69 (by omega) hRV hRV55 hRP2 hI hS
                  have k90 : a = H60 11 (e).toNat := st_uo_a hv69 hq7
                  refine fz_iload kL_law rfl rfl ?_
                  refine fz_icmp_eq (tgt := 934) kL_law rfl (by decide) (fun c92 => ?_) (fun c92 => ?_)
                  · refine fz_sub (fz_pk_sub (ls' := [(0, fz_r 200), (1, fz_r 0), (2, fz_r 53), (3, fz_i tw), (4, fz_l sm), (6, fz_i e), (7, fz_i a), (9, fz_i t)]) [2, 3, 4, 5, 6, 7, 8, 9] rfl) ?_
                    exact k H60 hI61 hf62 hXq57 hRE54 hRV55 hRP256 hN84 hS88 hL186 hZ58 hIm59  (by omega) (k90)
                  · exfalso; omega
                · refine fz_aload_n kL_law rfl rfl ?_
                  refine fz_callV (d' := 4) (M' := mX10_undo) (As := []) (st := []) kL_law rfl rfl vX10_undo rfl rfl rfl rfl (Nat.le_of_ble_eq_true rfl) (Nat.le_of_ble_eq_true rfl) (by decide) (sX10_undo H60 hI61  (hXq57) hRE54 hRV55) (fun H94 r95 q96 o97 => ?_)
                  obtain ⟨hI98, hf99, hX100, hRE101, hRV102, y105, rfl, f103, f104⟩ := q96
                  clear o97
                  have hf106 := fz_fr_tr hf62 hf99 (show fz_su [(2, 99999), (3, 99999), (4, 99999), (7, 99999), (8, 99999), (12, 99999), (13, 99999), (14, 99999), (27, 8), (27, 9), (28, 99999), (35, 4)] [(1, 7), (1, 8), (2, 99999), (3, 99999), (4, 99999), (5, 99999), (6, 99999), (7, 99999), (8, 99999), (9, 5), (10, 99999), (11, 99999), (12, 99999), (13, 99999), (14, 99999), (15, 4), (16, 99999), (17, 99999), (18, 99999), (19, 99999), (20, 2), (20, 3), (20, 4), (21, 4), (22, 99999), (23, 99999), (26, 99999), (27, 8), (27, 9), (28, 99999), (29, 99999), (30, 99999), (31, 99999), (32, 99999), (33, 3), (33, 4), (33, 5), (33, 6), (33, 7), (34, 99999), (35, 4), (35, 5), (36, 99999), (37, 99999), (38, 99999), (39, 99999), (40, 1), (40, 2), (40, 3), (40, 4), (40, 5), (40, 6), (41, 99999), (42, 99999), (43, 99999), (44, 2), (45, 99999), (48, 99999), (50, 99999), (51, 99999), (52, 99999), (53, 99999)] = true from rfl)
                  have hRP2107 : fz_RP2 H94 := fz_RP2_eq (funext fun s => hf99 11 s rfl) (hf99 9 5 rfl) (hf99 1 7 rfl) hRP256
                  have hZ108 : st_Z H94 := st_Z_eq (hf99 40 1 rfl) (hf99 40 2 rfl) (hf99 40 3 rfl) (hf99 40 4 rfl) (hf99 40 5 rfl) (funext fun s => hf99 41 s rfl) hZ58
                  have hIm109 : st_Im H94 := st_Im_eq (hf99 40 6 rfl) (funext fun s => hf99 43 s rfl) (funext fun s => hf99 42 s rfl) hIm59
                  have t110 : H94 9 5 = H60 9 5 := hf99 9 5 rfl
                  have t111 : H94 1 7 = H60 1 7 := hf99 1 7 rfl
                  have t112 : H94 1 8 = H60 1 8 := hf99 1 8 rfl
                  have k113 := st_uo_u hv69 (by omega) (by omega) f104
                  have k115 := k113.1
                  refine fz_if_ge (tgt := 913) kL_law rfl (by decide) (fun c116 => ?_) (fun c116 => ?_)
                  · refine fz_iincN (ls' := [(13, fz_i (x53 + 1)), (12, fz_i x5), (0, fz_r 200), (1, fz_r 0), (2, fz_r 53), (3, fz_i tw), (4, fz_l sm), (6, fz_i e), (7, fz_i a), (9, fz_i t), (10, fz_i x), (11, fz_i f)]) kL_law rfl (by decide) rfl (by omega) rfl ?_
                    refine fz_goto (tgt := 897) kL_law rfl (by decide) ?_
                    exact ih65 (x53 + 1) H94 hI98 hf106 hRE101 hRV102 hRP2107 hX100 hZ108 hIm109 (by omega) (by omega) ((st_uo_e k113.2 (by omega))) (by omega)
                  · exfalso; omega
            exact lp64 _ 0 H12 hI13 hf14 hRE6 hRV7 hRP28 hXq9 hZ10 hIm11 (by omega) (by omega) ((st_uo_e hv22.1 (by omega))) (Nat.lt_succ_self _)
          · exfalso; omega
      · refine fz_iload kL_law rfl rfl ?_
        refine fz_iload kL_law rfl rfl ?_
        refine fz_ishr kL_law rfl ?_
        have b119 : -2147483648 ≤ (fz_shr f x4) ∧ (fz_shr f x4) < 2147483648 := fz_b32 _
        refine fz_iconst ⟨by decide, by decide⟩ kL_law rfl ?_
        refine fz_iand kL_law rfl ?_
        have b121 : -2147483648 ≤ (fz_and (fz_shr f x4) 1) ∧ (fz_and (fz_shr f x4) 1) < 2147483648 := fz_b32 _
        have b122 : 0 ≤ (fz_and (fz_shr f x4) 1) ∧ (fz_and (fz_shr f x4) 1) ≤ 1 := fz_and_m (by omega) (by omega)
        refine fz_iconst ⟨by decide, by decide⟩ kL_law rfl ?_
        refine fz_icmp_ne (tgt := 861) kL_law rfl (by decide) (fun c123 => ?_) (fun c123 => ?_)
        · refine fz_iincN (ls' := [(13, fz_i (x4 + 1)), (12, fz_i x5), (0, fz_r 200), (1, fz_r 0), (2, fz_r 53), (3, fz_i tw), (4, fz_l sm), (6, fz_i e), (7, fz_i a), (9, fz_i t), (10, fz_i x), (11, fz_i f)]) kL_law rfl (by decide) rfl (by omega) rfl ?_
          refine fz_goto (tgt := 814) kL_law rfl (by decide) ?_
          exact ih17 (x4 + 1) x5 H12 hI13 hf14 hRE6 hRV7 hRP28 hXq9 hZ10 hIm11 (by omega) (by omega) (by omega) (by first | exact lost.2 | exact st_un_n hv22 (by omega) (by omega)) (by omega)
        · refine fz_aload_n kL_law rfl rfl ?_
          refine fz_iload kL_law rfl rfl ?_
          refine fz_iconst ⟨by decide, by decide⟩ kL_law rfl ?_
          refine fz_callV (d' := 3) (M' := mX10_of) (As := [fz_i x4, fz_i 2]) (st := []) kL_law rfl rfl vX10_of rfl rfl rfl rfl (Nat.le_of_ble_eq_true rfl) (Nat.le_of_ble_eq_true rfl) (by decide) (sX10_of H12 hI13 x4 2 ) (fun H125 r126 q127 o128 => ?_)
          obtain ⟨e129, y132, rfl, f130, f131⟩ := q127
          subst H125
          clear o128
          have k133 := st_un_1 hI hv22 hq8 (by omega) (by omega) (by omega) (of_2 f131 (by omega))
          refine fz_iconst ⟨by decide, by decide⟩ kL_law rfl ?_
          refine fz_icmp_ne (tgt := 856) kL_law rfl (by decide) (fun c134 => ?_) (fun c134 => ?_)
          · exfalso; omega
          · refine fz_aload_n kL_law rfl rfl ?_
            refine fz_iload kL_law rfl rfl ?_
            refine fz_iconst ⟨by decide, by decide⟩ kL_law rfl ?_
            refine fz_iconst ⟨by decide, by decide⟩ kL_law rfl ?_
            refine fz_callV (d' := 4) (M' := mX10_mend) (As := [fz_i x4, fz_i 2, fz_i 0]) (st := []) kL_law rfl rfl vX10_mend rfl rfl rfl rfl (Nat.le_of_ble_eq_true rfl) (Nat.le_of_ble_eq_true rfl) (by decide) (sX10_mend H12 hI13 x4 2 0 (hXq9) hRE6 hRV7) (fun H135 r136 q137 o138 => ?_)
            obtain ⟨hI139, hf140, hX141, hRE142, hRV143, y146, rfl, f144, f145⟩ := q137
            clear o138
            have hf147 := fz_fr_tr hf14 hf140 (show fz_su [(2, 99999), (3, 99999), (4, 99999), (7, 99999), (8, 99999), (12, 99999), (13, 99999), (14, 99999), (27, 8), (27, 9), (28, 99999), (35, 4), (35, 5), (36, 99999), (37, 99999), (38, 99999), (39, 99999)] [(1, 7), (1, 8), (2, 99999), (3, 99999), (4, 99999), (5, 99999), (6, 99999), (7, 99999), (8, 99999), (9, 5), (10, 99999), (11, 99999), (12, 99999), (13, 99999), (14, 99999), (15, 4), (16, 99999), (17, 99999), (18, 99999), (19, 99999), (20, 2), (20, 3), (20, 4), (21, 4), (22, 99999), (23, 99999), (26, 99999), (27, 8), (27, 9), (28, 99999), (29, 99999), (30, 99999), (31, 99999), (32, 99999), (33, 3), (33, 4), (33, 5), (33, 6), (33, 7), (34, 99999), (35, 4), (35, 5), (36, 99999), (37, 99999), (38, 99999), (39, 99999), (40, 1), (40, 2), (40, 3), (40, 4), (40, 5), (40, 6), (41, 99999), (42, 99999), (43, 99999), (44, 2), (45, 99999), (48, 99999), (50, 99999), (51, 99999), (52, 99999), (53, 99999)] = true from rfl)
            have hRP2148 : fz_RP2 H135 := fz_RP2_eq (funext fun s => hf140 11 s rfl) (hf140 9 5 rfl) (hf140 1 7 rfl) hRP28
            have hZ149 : st_Z H135 := st_Z_eq (hf140 40 1 rfl) (hf140 40 2 rfl) (hf140 40 3 rfl) (hf140 40 4 rfl) (hf140 40 5 rfl) (funext fun s => hf140 41 s rfl) hZ10
            have hIm150 : st_Im H135 := st_Im_eq (hf140 40 6 rfl) (funext fun s => hf140 43 s rfl) (funext fun s => hf140 42 s rfl) hIm11
            have t151 : H135 9 5 = H12 9 5 := hf140 9 5 rfl
            have t152 : H135 1 7 = H12 1 7 := hf140 1 7 rfl
            have t153 : H135 1 8 = H12 1 8 := hf140 1 8 rfl
            have k154 := st_un_m hI hI13 hv22 hq8 (by omega) (by omega) (by omega) (by omega) f145
            have k156 := k154.1
            refine fz_iconst ⟨by decide, by decide⟩ kL_law rfl ?_
            refine fz_icmp_eq (tgt := 858) kL_law rfl (by decide) (fun c157 => ?_) (fun c157 => ?_)
            · refine fz_iincN (ls' := [(12, fz_i (x5 + 1)), (13, fz_i x4), (0, fz_r 200), (1, fz_r 0), (2, fz_r 53), (3, fz_i tw), (4, fz_l sm), (6, fz_i e), (7, fz_i a), (9, fz_i t), (10, fz_i x), (11, fz_i f)]) kL_law rfl (by decide) rfl (by omega) rfl ?_
              refine fz_iincN (ls' := [(13, fz_i (x4 + 1)), (12, fz_i (x5 + 1)), (0, fz_r 200), (1, fz_r 0), (2, fz_r 53), (3, fz_i tw), (4, fz_l sm), (6, fz_i e), (7, fz_i a), (9, fz_i t), (10, fz_i x), (11, fz_i f)]) kL_law rfl (by decide) rfl (by omega) rfl ?_
              refine fz_goto (tgt := 814) kL_law rfl (by decide) ?_
              exact ih17 (x4 + 1) (x5 + 1) H135 hI139 hf147 hRE142 hRV143 hRP2148 hX141 hZ149 hIm150 (by omega) (by omega) (by omega) (by first | exact k154.2 | exact st_un_n hv22 (by omega) (by omega)) (by omega)
            · exfalso; omega
  exact lp16 _ 0 0 H hI hf hRE hRV hRP2 hX hZ hIm (by omega) (by omega) (by omega) (st_un_0) (Nat.lt_succ_self _)

set_option maxHeartbeats 1000000 in
set_option maxRecDepth 100000 in
theorem sL_l687 (h H : fz_H) (tw sm e a t : Int) (hI : fz_Iv H) (hf : fz_fr [(1, 7), (1, 8), (2, 99999), (3, 99999), (4, 99999), (5, 99999), (6, 99999), (7, 99999), (8, 99999), (9, 5), (10, 99999), (11, 99999), (12, 99999), (13, 99999), (14, 99999), (15, 4), (16, 99999), (17, 99999), (18, 99999), (19, 99999), (20, 2), (20, 3), (20, 4), (21, 4), (22, 99999), (23, 99999), (26, 99999), (27, 8), (27, 9), (28, 99999), (29, 99999), (30, 99999), (31, 99999), (32, 99999), (33, 3), (33, 4), (33, 5), (33, 6), (33, 7), (34, 99999), (35, 4), (35, 5), (36, 99999), (37, 99999), (38, 99999), (39, 99999), (40, 1), (40, 2), (40, 3), (40, 4), (40, 5), (40, 6), (41, 99999), (42, 99999), (43, 99999), (44, 2), (45, 99999), (48, 99999), (50, 99999), (51, 99999), (52, 99999), (53, 99999)] h H) (hX : fz_Xc H) (hRE : fz_RE H) (hRV : fz_RV H) (hRP2 : fz_RP2 H) (hN : st_N tw H) (hS : st_S sm H) (hL1 : st_L1 H) (hZ : st_Z H) (hIm : st_Im H) (hp0 : 0 ≤ h 200 100000 ∧ h 200 100000 ≤ 3072) (hq0 : 0 ≤ tw ∧ tw ≤ 8) (hq1 : 0 ≤ e ∧ e ≤ 7) (hq2 : e < H 9 5) (hq3 : 0 ≤ a ∧ a < tw) (hq4 : 0 ≤ t ∧ t < tw) (hq5 : a = H 11 e.toNat) (k : ∀ (G : fz_H), fz_Iv G → fz_fr [(1, 7), (1, 8), (2, 99999), (3, 99999), (4, 99999), (5, 99999), (6, 99999), (7, 99999), (8, 99999), (9, 5), (10, 99999), (11, 99999), (12, 99999), (13, 99999), (14, 99999), (15, 4), (16, 99999), (17, 99999), (18, 99999), (19, 99999), (20, 2), (20, 3), (20, 4), (21, 4), (22, 99999), (23, 99999), (26, 99999), (27, 8), (27, 9), (28, 99999), (29, 99999), (30, 99999), (31, 99999), (32, 99999), (33, 3), (33, 4), (33, 5), (33, 6), (33, 7), (34, 99999), (35, 4), (35, 5), (36, 99999), (37, 99999), (38, 99999), (39, 99999), (40, 1), (40, 2), (40, 3), (40, 4), (40, 5), (40, 6), (41, 99999), (42, 99999), (43, 99999), (44, 2), (45, 99999), (48, 99999), (50, 99999), (51, 99999), (52, 99999), (53, 99999)] h G → fz_Xc G → fz_RE G → fz_RV G → fz_RP2 G → st_N tw G → st_S sm G → st_L1 G → st_Z G → st_Im G → (e < G 9 5) → (a = G 11 e.toNat) → fz_R 48 mL_law 934 [(0, fz_r 200), (1, fz_r 0), (2, fz_r 53), (3, fz_i tw), (4, fz_l sm), (6, fz_i e), (7, fz_i a), (9, fz_i t)] [] G (qL_law h)) : fz_R 48 mL_law 687 [(0, fz_r 200), (1, fz_r 0), (2, fz_r 53), (3, fz_i tw), (4, fz_l sm), (6, fz_i e), (7, fz_i a), (9, fz_i t)] [] H (qL_law h) := by
  have k1 := st_N_e hI hN
  refine fz_aload_n kL_law rfl rfl ?_
  refine fz_iload kL_law rfl rfl ?_
  refine fz_iload kL_law rfl rfl ?_
  have b2 : 0 ≤ H 9 5 ∧ H 9 5 ≤ 10 := hI.1 9 _
  have b3 : 0 ≤ H 1 7 ∧ H 1 7 ≤ 8 := hI.1 1 _
  refine fz_callV (d' := 2) (M' := mX10_heard) (As := [fz_i e, fz_i t]) (st := []) kL_law rfl rfl vX10_heard rfl rfl rfl rfl (Nat.le_of_ble_eq_true rfl) (Nat.le_of_ble_eq_true rfl) (by decide) (sX10_heard H hI e t ) (fun H4 r5 q6 o7 => ?_)
  obtain ⟨e8, y11, rfl, f9, f10⟩ := q6
  subst H4
  clear o7
  have k12 := he_C f10 (by omega)
  have k14 := df_sga hI (t := t) hq5
  refine fz_istore (ls' := [(10, fz_i y11), (0, fz_r 200), (1, fz_r 0), (2, fz_r 53), (3, fz_i tw), (4, fz_l sm), (6, fz_i e), (7, fz_i a), (9, fz_i t)]) kL_law rfl (by decide) rfl ?_
  refine fz_iload kL_law rfl rfl ?_
  refine fz_if_ge (tgt := 706) kL_law rfl (by decide) (fun c15 => ?_) (fun c15 => ?_)
  · refine fz_iconst ⟨by decide, by decide⟩ kL_law rfl ?_
    refine fz_aload_n kL_law rfl rfl ?_
    refine fz_bipush ⟨by decide, by decide⟩ kL_law rfl ?_
    refine fz_iload kL_law rfl rfl ?_
    refine fz_imulN kL_law rfl (by omega) ?_
    refine fz_iload kL_law rfl rfl ?_
    refine fz_iaddN kL_law rfl (by omega) ?_
    refine fz_iconst ⟨by decide, by decide⟩ kL_law rfl ?_
    refine fz_callV (d' := 2) (M' := mX10_way) (As := [fz_i ((10 * a) + t), fz_i 1]) (st := [fz_i 0]) kL_law rfl rfl vX10_way rfl rfl rfl rfl (Nat.le_of_ble_eq_true rfl) (Nat.le_of_ble_eq_true rfl) (by decide) (sX10_way H hI ((10 * a) + t) 1 ) (fun H16 r17 q18 o19 => ?_)
    obtain ⟨e20, y23, rfl, f21, f22⟩ := q18
    subst H16
    clear o19
    have k24 := wf_wy1 (x := a) (y := t) (by omega) (by omega) (by omega) f22
    refine fz_if_ge (tgt := 727) kL_law rfl (by decide) (fun c25 => ?_) (fun c25 => ?_)
    · refine fz_iconst ⟨by decide, by decide⟩ kL_law rfl ?_
      refine fz_icmp_ne (tgt := 764) kL_law rfl (by decide) (fun c26 => ?_) (fun c26 => ?_)
      · exfalso; omega
      · refine fz_iload kL_law rfl rfl ?_
        refine fz_if_le (tgt := 766) kL_law rfl (by decide) (fun c27 => ?_) (fun c27 => ?_)
        · have k28 : a = H 11 (e).toNat := by first | exact k28 | exact hq5
          refine fz_aload_n kL_law rfl rfl ?_
          refine fz_iload kL_law rfl rfl ?_
          refine fz_iload kL_law rfl rfl ?_
          refine fz_iconst ⟨by decide, by decide⟩ kL_law rfl ?_
          refine fz_callV (d' := 1) (M' := mX10_cut) (As := [fz_i e, fz_i t, fz_i 1]) (st := []) kL_law rfl rfl vX10_cut rfl rfl rfl rfl (Nat.le_of_ble_eq_true rfl) (Nat.le_of_ble_eq_true rfl) (by decide) (sX10_cut H hI e t 1 hRE hRP2) (fun H30 r31 q32 o33 => ?_)
          obtain ⟨e34, y37, rfl, f35, f36⟩ := q32
          subst H30
          clear o33
          have k38 := df_cutb hI hRV hRP2 (by omega) (show 0 ≤ t ∧ t < H 1 7 by omega) f36
          have k40 := k38.1
          have k41 := k38.2.1
          refine fz_istore (ls' := [(11, fz_i y37), (10, fz_i y11), (0, fz_r 200), (1, fz_r 0), (2, fz_r 53), (3, fz_i tw), (4, fz_l sm), (6, fz_i e), (7, fz_i a), (9, fz_i t)]) kL_law rfl (by decide) rfl ?_
          refine fz_iload kL_law rfl rfl ?_
          refine fz_if_ge (tgt := 787) kL_law rfl (by decide) (fun c42 => ?_) (fun c42 => ?_)
          · refine fz_iload kL_law rfl rfl ?_
            refine fz_if_lt (tgt := 799) kL_law rfl (by decide) (fun c43 => ?_) (fun c43 => ?_)
            · exfalso; omega
            · refine fz_iload kL_law rfl rfl ?_
              refine fz_if_ne (tgt := 799) kL_law rfl (by decide) (fun c44 => ?_) (fun c44 => ?_)
              · refine fz_iload kL_law rfl rfl ?_
                refine fz_iconst ⟨by decide, by decide⟩ kL_law rfl ?_
                refine fz_icmp_ge (tgt := 808) kL_law rfl (by decide) (fun c45 => ?_) (fun c45 => ?_)
                · refine fz_sub (fz_pk_sub (ls' := [(0, fz_r 200), (1, fz_r 0), (2, fz_r 53), (3, fz_i tw), (4, fz_l sm), (6, fz_i e), (7, fz_i a), (9, fz_i t), (10, fz_i y11), (11, fz_i y37)]) [2, 3, 4, 5, 6, 7, 8, 9, 1, 0] rfl) ?_
                  refine sL_l808 h H tw sm e a t y11 y37 hI hf hX hRE hRV hRP2 hN hS hL1 hZ hIm hp0 (by omega) (by omega) (by omega) (by omega) (by omega) (by omega) (by omega) (k28) (k38.2.2 (by omega)) (fun H48 hI49 hf50 hX51 hRE52 hRV53 hRP254 hN55 hS56 hL157 hZ58 hIm59 f60 f61 => ?_)
                  exact k H48 hI49 hf50 hX51 hRE52 hRV53 hRP254 hN55 hS56 hL157 hZ58 hIm59  (by omega) (f61)
                · refine fz_goto (tgt := 934) kL_law rfl (by decide) ?_
                  refine fz_sub (fz_pk_sub (ls' := [(0, fz_r 200), (1, fz_r 0), (2, fz_r 53), (3, fz_i tw), (4, fz_l sm), (6, fz_i e), (7, fz_i a), (9, fz_i t)]) [2, 3, 4, 5, 6, 7, 8, 9] rfl) ?_
                  exact k H hI hf hX hRE hRV hRP2 hN hS hL1 hZ hIm  (by omega) (k28)
              · exfalso; omega
          · exfalso; omega
        · refine fz_iload kL_law rfl rfl ?_
          refine fz_sipush ⟨by decide, by decide⟩ kL_law rfl ?_
          refine fz_icmp_gt (tgt := 766) kL_law rfl (by decide) (fun c64 => ?_) (fun c64 => ?_)
          · have k65 : a = H 11 (e).toNat := by first | exact k65 | exact hq5
            refine fz_aload_n kL_law rfl rfl ?_
            refine fz_iload kL_law rfl rfl ?_
            refine fz_iload kL_law rfl rfl ?_
            refine fz_iconst ⟨by decide, by decide⟩ kL_law rfl ?_
            refine fz_callV (d' := 1) (M' := mX10_cut) (As := [fz_i e, fz_i t, fz_i 1]) (st := []) kL_law rfl rfl vX10_cut rfl rfl rfl rfl (Nat.le_of_ble_eq_true rfl) (Nat.le_of_ble_eq_true rfl) (by decide) (sX10_cut H hI e t 1 hRE hRP2) (fun H67 r68 q69 o70 => ?_)
            obtain ⟨e71, y74, rfl, f72, f73⟩ := q69
            subst H67
            clear o70
            have k75 := df_cutb hI hRV hRP2 (by omega) (show 0 ≤ t ∧ t < H 1 7 by omega) f73
            have k77 := k75.1
            have k78 := k75.2.1
            refine fz_istore (ls' := [(11, fz_i y74), (10, fz_i y11), (0, fz_r 200), (1, fz_r 0), (2, fz_r 53), (3, fz_i tw), (4, fz_l sm), (6, fz_i e), (7, fz_i a), (9, fz_i t)]) kL_law rfl (by decide) rfl ?_
            refine fz_iload kL_law rfl rfl ?_
            refine fz_if_ge (tgt := 787) kL_law rfl (by decide) (fun c79 => ?_) (fun c79 => ?_)
            · refine fz_iload kL_law rfl rfl ?_
              refine fz_if_lt (tgt := 799) kL_law rfl (by decide) (fun c80 => ?_) (fun c80 => ?_)
              · exfalso; omega
              · refine fz_iload kL_law rfl rfl ?_
                refine fz_if_ne (tgt := 799) kL_law rfl (by decide) (fun c81 => ?_) (fun c81 => ?_)
                · refine fz_iload kL_law rfl rfl ?_
                  refine fz_iconst ⟨by decide, by decide⟩ kL_law rfl ?_
                  refine fz_icmp_ge (tgt := 808) kL_law rfl (by decide) (fun c82 => ?_) (fun c82 => ?_)
                  · refine fz_sub (fz_pk_sub (ls' := [(0, fz_r 200), (1, fz_r 0), (2, fz_r 53), (3, fz_i tw), (4, fz_l sm), (6, fz_i e), (7, fz_i a), (9, fz_i t), (10, fz_i y11), (11, fz_i y74)]) [2, 3, 4, 5, 6, 7, 8, 9, 1, 0] rfl) ?_
                    refine sL_l808 h H tw sm e a t y11 y74 hI hf hX hRE hRV hRP2 hN hS hL1 hZ hIm hp0 (by omega) (by omega) (by omega) (by omega) (by omega) (by omega) (by omega) (k65) (k75.2.2 (by omega)) (fun H85 hI86 hf87 hX88 hRE89 hRV90 hRP291 hN92 hS93 hL194 hZ95 hIm96 f97 f98 => ?_)
                    exact k H85 hI86 hf87 hX88 hRE89 hRV90 hRP291 hN92 hS93 hL194 hZ95 hIm96  (by omega) (f98)
                  · refine fz_goto (tgt := 934) kL_law rfl (by decide) ?_
                    refine fz_sub (fz_pk_sub (ls' := [(0, fz_r 200), (1, fz_r 0), (2, fz_r 53), (3, fz_i tw), (4, fz_l sm), (6, fz_i e), (7, fz_i a), (9, fz_i t)]) [2, 3, 4, 5, 6, 7, 8, 9] rfl) ?_
                    exact k H hI hf hX hRE hRV hRP2 hN hS hL1 hZ hIm  (by omega) (k65)
                · exfalso; omega
            · exfalso; omega
          · refine fz_aload_n kL_law rfl rfl ?_
            refine fz_iload kL_law rfl rfl ?_
            refine fz_sipush ⟨by decide, by decide⟩ kL_law rfl ?_
            refine fz_iload kL_law rfl rfl ?_
            refine fz_imulN kL_law rfl (by omega) ?_
            refine fz_iload kL_law rfl rfl ?_
            refine fz_iaddN kL_law rfl (by omega) ?_
            refine fz_iconst ⟨by decide, by decide⟩ kL_law rfl ?_
            refine fz_isubN kL_law rfl (by omega) ?_
            refine fz_callV (d' := 4) (M' := mX10_loud) (As := [fz_i e, fz_i (((1000 * t) + y11) - 1)]) (st := []) kL_law rfl rfl vX10_loud rfl rfl rfl rfl (Nat.le_of_ble_eq_true rfl) (Nat.le_of_ble_eq_true rfl) (by decide) (sX10_loud H hI e (((1000 * t) + y11) - 1) ) (fun H101 r102 q103 o104 => ?_)
            obtain ⟨hI105, hf106, y109, rfl, f107, f108⟩ := q103
            clear o104
            have hf110 := fz_fr_tr hf hf106 (show fz_su [(18, 99999), (19, 99999)] [(1, 7), (1, 8), (2, 99999), (3, 99999), (4, 99999), (5, 99999), (6, 99999), (7, 99999), (8, 99999), (9, 5), (10, 99999), (11, 99999), (12, 99999), (13, 99999), (14, 99999), (15, 4), (16, 99999), (17, 99999), (18, 99999), (19, 99999), (20, 2), (20, 3), (20, 4), (21, 4), (22, 99999), (23, 99999), (26, 99999), (27, 8), (27, 9), (28, 99999), (29, 99999), (30, 99999), (31, 99999), (32, 99999), (33, 3), (33, 4), (33, 5), (33, 6), (33, 7), (34, 99999), (35, 4), (35, 5), (36, 99999), (37, 99999), (38, 99999), (39, 99999), (40, 1), (40, 2), (40, 3), (40, 4), (40, 5), (40, 6), (41, 99999), (42, 99999), (43, 99999), (44, 2), (45, 99999), (48, 99999), (50, 99999), (51, 99999), (52, 99999), (53, 99999)] = true from rfl)
            have hRE111 : fz_RE H101 := fz_RE_eq (funext fun s => hf106 5 s rfl) (funext fun s => hf106 6 s rfl) (hf106 1 8 rfl) (hf106 1 7 rfl) hRE
            have hRV112 : fz_RV H101 := fz_RV_eq (funext fun s => hf106 7 s rfl) (funext fun s => hf106 8 s rfl) (funext fun s => hf106 3 s rfl) (funext fun s => hf106 4 s rfl) (funext fun s => hf106 5 s rfl) (funext fun s => hf106 6 s rfl) (hf106 1 7 rfl) (hf106 1 8 rfl) hRV
            have hRP2113 : fz_RP2 H101 := fz_RP2_eq (funext fun s => hf106 11 s rfl) (hf106 9 5 rfl) (hf106 1 7 rfl) hRP2
            have hN114 : st_N tw H101 := st_N_eq (hf106 53 0 rfl) (hf106 53 1 rfl) (hf106 53 2 rfl) (hf106 1 7 rfl) (hf106 1 8 rfl) (hf106 9 5 rfl) (hf106 35 4 rfl) (hf106 20 2 rfl) hN
            have hL1115 : st_L1 H101 := st_L1_eq (funext fun s => hf106 3 s rfl) (hf106 1 8 rfl) hL1
            have hZ116 : st_Z H101 := st_Z_eq (hf106 40 1 rfl) (hf106 40 2 rfl) (hf106 40 3 rfl) (hf106 40 4 rfl) (hf106 40 5 rfl) (funext fun s => hf106 41 s rfl) hZ
            have hIm117 : st_Im H101 := st_Im_eq (hf106 40 6 rfl) (funext fun s => hf106 43 s rfl) (funext fun s => hf106 42 s rfl) hIm
            have hX118 : fz_Xc H101 := fz_Xc_fr hf106 rfl hX
            have t119 : H101 9 5 = H 9 5 := hf106 9 5 rfl
            have t120 : H101 1 7 = H 1 7 := hf106 1 7 rfl
            have t121 : H101 1 8 = H 1 8 := hf106 1 8 rfl
            have nm122 : fz_nm H101 = fz_nm H := (fz_nm_fr rfl hf106).trans rfl
            have hS123 : st_S sm H101 := st_S_fr rfl hf106 hS
            have k124 := df_loud (by omega) (by omega) k12 (by omega) f108
            have k125 : a = H101 11 (e).toNat := hq5.trans (hf106 11 _ rfl).symm
            have k127 : fz_haC H101 e t = fz_haC H e t := congrFun (congrFun (ha_nm (fz_nm_fr rfl hf106)) _) _
            refine fz_if_eq (tgt := 766) kL_law rfl (by decide) (fun c128 => ?_) (fun c128 => ?_)
            · have k129 : a = H101 11 (e).toNat := by first | exact k129 | exact hq5
              refine fz_aload_n kL_law rfl rfl ?_
              refine fz_iload kL_law rfl rfl ?_
              refine fz_iload kL_law rfl rfl ?_
              refine fz_iconst ⟨by decide, by decide⟩ kL_law rfl ?_
              refine fz_callV (d' := 1) (M' := mX10_cut) (As := [fz_i e, fz_i t, fz_i 1]) (st := []) kL_law rfl rfl vX10_cut rfl rfl rfl rfl (Nat.le_of_ble_eq_true rfl) (Nat.le_of_ble_eq_true rfl) (by decide) (sX10_cut H101 hI105 e t 1 hRE111 hRP2113) (fun H131 r132 q133 o134 => ?_)
              obtain ⟨e135, y138, rfl, f136, f137⟩ := q133
              subst H131
              clear o134
              have k139 := df_cutb hI105 hRV112 hRP2113 (by omega) (show 0 ≤ t ∧ t < H101 1 7 by omega) f137
              have k141 := k139.1
              have k142 := k139.2.1
              refine fz_istore (ls' := [(11, fz_i y138), (10, fz_i y11), (0, fz_r 200), (1, fz_r 0), (2, fz_r 53), (3, fz_i tw), (4, fz_l sm), (6, fz_i e), (7, fz_i a), (9, fz_i t)]) kL_law rfl (by decide) rfl ?_
              refine fz_iload kL_law rfl rfl ?_
              refine fz_if_ge (tgt := 787) kL_law rfl (by decide) (fun c143 => ?_) (fun c143 => ?_)
              · refine fz_iload kL_law rfl rfl ?_
                refine fz_if_lt (tgt := 799) kL_law rfl (by decide) (fun c144 => ?_) (fun c144 => ?_)
                · exfalso; omega
                · refine fz_iload kL_law rfl rfl ?_
                  refine fz_if_ne (tgt := 799) kL_law rfl (by decide) (fun c145 => ?_) (fun c145 => ?_)
                  · refine fz_iload kL_law rfl rfl ?_
                    refine fz_iconst ⟨by decide, by decide⟩ kL_law rfl ?_
                    refine fz_icmp_ge (tgt := 808) kL_law rfl (by decide) (fun c146 => ?_) (fun c146 => ?_)
                    · refine fz_sub (fz_pk_sub (ls' := [(0, fz_r 200), (1, fz_r 0), (2, fz_r 53), (3, fz_i tw), (4, fz_l sm), (6, fz_i e), (7, fz_i a), (9, fz_i t), (10, fz_i y11), (11, fz_i y138)]) [2, 3, 4, 5, 6, 7, 8, 9, 1, 0] rfl) ?_
                      refine sL_l808 h H101 tw sm e a t y11 y138 hI105 hf110 hX118 hRE111 hRV112 hRP2113 hN114 hS123 hL1115 hZ116 hIm117 hp0 (by omega) (by omega) (by omega) (by omega) (by omega) (by omega) (by omega) (k129) (k139.2.2 (by omega)) (fun H149 hI150 hf151 hX152 hRE153 hRV154 hRP2155 hN156 hS157 hL1158 hZ159 hIm160 f161 f162 => ?_)
                      exact k H149 hI150 hf151 hX152 hRE153 hRV154 hRP2155 hN156 hS157 hL1158 hZ159 hIm160  (by omega) (f162)
                    · refine fz_goto (tgt := 934) kL_law rfl (by decide) ?_
                      refine fz_sub (fz_pk_sub (ls' := [(0, fz_r 200), (1, fz_r 0), (2, fz_r 53), (3, fz_i tw), (4, fz_l sm), (6, fz_i e), (7, fz_i a), (9, fz_i t)]) [2, 3, 4, 5, 6, 7, 8, 9] rfl) ?_
                      exact k H101 hI105 hf110 hX118 hRE111 hRV112 hRP2113 hN114 hS123 hL1115 hZ116 hIm117  (by omega) (k129)
                  · exfalso; omega
              · exfalso; omega
            · exfalso; omega
    · refine fz_iconst ⟨by decide, by decide⟩ kL_law rfl ?_
      refine fz_goto (tgt := 728) kL_law rfl (by decide) ?_
      refine fz_icmp_ne (tgt := 764) kL_law rfl (by decide) (fun c165 => ?_) (fun c165 => ?_)
      · exfalso; omega
      · exfalso; omega
  · refine fz_iconst ⟨by decide, by decide⟩ kL_law rfl ?_
    refine fz_goto (tgt := 707) kL_law rfl (by decide) ?_
    refine fz_aload_n kL_law rfl rfl ?_
    refine fz_bipush ⟨by decide, by decide⟩ kL_law rfl ?_
    refine fz_iload kL_law rfl rfl ?_
    refine fz_imulN kL_law rfl (by omega) ?_
    refine fz_iload kL_law rfl rfl ?_
    refine fz_iaddN kL_law rfl (by omega) ?_
    refine fz_iconst ⟨by decide, by decide⟩ kL_law rfl ?_
    refine fz_callV (d' := 2) (M' := mX10_way) (As := [fz_i ((10 * a) + t), fz_i 1]) (st := [fz_i 1]) kL_law rfl rfl vX10_way rfl rfl rfl rfl (Nat.le_of_ble_eq_true rfl) (Nat.le_of_ble_eq_true rfl) (by decide) (sX10_way H hI ((10 * a) + t) 1 ) (fun H166 r167 q168 o169 => ?_)
    obtain ⟨e170, y173, rfl, f171, f172⟩ := q168
    subst H166
    clear o169
    have k174 := wf_wy1 (x := a) (y := t) (by omega) (by omega) (by omega) f172
    refine fz_if_ge (tgt := 727) kL_law rfl (by decide) (fun c175 => ?_) (fun c175 => ?_)
    · refine fz_iconst ⟨by decide, by decide⟩ kL_law rfl ?_
      refine fz_icmp_ne (tgt := 764) kL_law rfl (by decide) (fun c176 => ?_) (fun c176 => ?_)
      · exfalso; omega
      · exfalso; omega
    · refine fz_iconst ⟨by decide, by decide⟩ kL_law rfl ?_
      refine fz_goto (tgt := 728) kL_law rfl (by decide) ?_
      refine fz_icmp_ne (tgt := 764) kL_law rfl (by decide) (fun c177 => ?_) (fun c177 => ?_)
      · exfalso; omega
      · refine fz_iload kL_law rfl rfl ?_
        refine fz_if_le (tgt := 766) kL_law rfl (by decide) (fun c178 => ?_) (fun c178 => ?_)
        · have k179 : a = H 11 (e).toNat := by first | exact k179 | exact hq5
          refine fz_aload_n kL_law rfl rfl ?_
          refine fz_iload kL_law rfl rfl ?_
          refine fz_iload kL_law rfl rfl ?_
          refine fz_iconst ⟨by decide, by decide⟩ kL_law rfl ?_
          refine fz_callV (d' := 1) (M' := mX10_cut) (As := [fz_i e, fz_i t, fz_i 1]) (st := []) kL_law rfl rfl vX10_cut rfl rfl rfl rfl (Nat.le_of_ble_eq_true rfl) (Nat.le_of_ble_eq_true rfl) (by decide) (sX10_cut H hI e t 1 hRE hRP2) (fun H181 r182 q183 o184 => ?_)
          obtain ⟨e185, y188, rfl, f186, f187⟩ := q183
          subst H181
          clear o184
          have k189 := df_cutb hI hRV hRP2 (by omega) (show 0 ≤ t ∧ t < H 1 7 by omega) f187
          have k191 := k189.1
          have k192 := k189.2.1
          refine fz_istore (ls' := [(11, fz_i y188), (10, fz_i y11), (0, fz_r 200), (1, fz_r 0), (2, fz_r 53), (3, fz_i tw), (4, fz_l sm), (6, fz_i e), (7, fz_i a), (9, fz_i t)]) kL_law rfl (by decide) rfl ?_
          refine fz_iload kL_law rfl rfl ?_
          refine fz_if_ge (tgt := 787) kL_law rfl (by decide) (fun c193 => ?_) (fun c193 => ?_)
          · exfalso; omega
          · refine fz_iload kL_law rfl rfl ?_
            refine fz_if_ne (tgt := 797) kL_law rfl (by decide) (fun c194 => ?_) (fun c194 => ?_)
            · exfalso; omega
            · refine fz_iload kL_law rfl rfl ?_
              refine fz_if_lt (tgt := 799) kL_law rfl (by decide) (fun c195 => ?_) (fun c195 => ?_)
              · refine fz_iload kL_law rfl rfl ?_
                refine fz_iconst ⟨by decide, by decide⟩ kL_law rfl ?_
                refine fz_icmp_ge (tgt := 808) kL_law rfl (by decide) (fun c196 => ?_) (fun c196 => ?_)
                · exfalso; omega
                · refine fz_goto (tgt := 934) kL_law rfl (by decide) ?_
                  refine fz_sub (fz_pk_sub (ls' := [(0, fz_r 200), (1, fz_r 0), (2, fz_r 53), (3, fz_i tw), (4, fz_l sm), (6, fz_i e), (7, fz_i a), (9, fz_i t)]) [2, 3, 4, 5, 6, 7, 8, 9] rfl) ?_
                  exact k H hI hf hX hRE hRV hRP2 hN hS hL1 hZ hIm  (by omega) (k179)
              · exfalso; omega
        · exfalso; omega

set_option maxHeartbeats 1000000 in
set_option maxRecDepth 100000 in
theorem sL_l543 (h H : fz_H) (tw sm e : Int) (hI : fz_Iv H) (hf : fz_fr [(1, 7), (1, 8), (2, 99999), (3, 99999), (4, 99999), (5, 99999), (6, 99999), (7, 99999), (8, 99999), (9, 5), (10, 99999), (11, 99999), (12, 99999), (13, 99999), (14, 99999), (15, 4), (16, 99999), (17, 99999), (18, 99999), (19, 99999), (20, 2), (20, 3), (20, 4), (21, 4), (22, 99999), (23, 99999), (26, 99999), (27, 8), (27, 9), (28, 99999), (29, 99999), (30, 99999), (31, 99999), (32, 99999), (33, 3), (33, 4), (33, 5), (33, 6), (33, 7), (34, 99999), (35, 4), (35, 5), (36, 99999), (37, 99999), (38, 99999), (39, 99999), (40, 1), (40, 2), (40, 3), (40, 4), (40, 5), (40, 6), (41, 99999), (42, 99999), (43, 99999), (44, 2), (45, 99999), (48, 99999), (50, 99999), (51, 99999), (52, 99999), (53, 99999)] h H) (hX : fz_Xc H) (hRE : fz_RE H) (hRV : fz_RV H) (hRP2 : fz_RP2 H) (hN : st_N tw H) (hS : st_S sm H) (hL1 : st_L1 H) (hZ : st_Z H) (hIm : st_Im H) (hp0 : 0 ≤ h 200 100000 ∧ h 200 100000 ≤ 3072) (hq0 : 0 ≤ tw ∧ tw ≤ 8) (hq1 : 0 ≤ e ∧ e ≤ 7) (hq2 : e < H 9 5) (k : ∀ (G : fz_H), fz_Iv G → fz_fr [(1, 7), (1, 8), (2, 99999), (3, 99999), (4, 99999), (5, 99999), (6, 99999), (7, 99999), (8, 99999), (9, 5), (10, 99999), (11, 99999), (12, 99999), (13, 99999), (14, 99999), (15, 4), (16, 99999), (17, 99999), (18, 99999), (19, 99999), (20, 2), (20, 3), (20, 4), (21, 4), (22, 99999), (23, 99999), (26, 99999), (27, 8), (27, 9), (28, 99999), (29, 99999), (30, 99999), (31, 99999), (32, 99999), (33, 3), (33, 4), (33, 5), (33, 6), (33, 7), (34, 99999), (35, 4), (35, 5), (36, 99999), (37, 99999), (38, 99999), (39, 99999), (40, 1), (40, 2), (40, 3), (40, 4), (40, 5), (40, 6), (41, 99999), (42, 99999), (43, 99999), (44, 2), (45, 99999), (48, 99999), (50, 99999), (51, 99999), (52, 99999), (53, 99999)] h G → fz_Xc G → fz_RE G → fz_RV G → fz_RP2 G → st_N tw G → st_S sm G → st_L1 G → st_Z G → st_Im G → ∀ (a : Int), (e < G 9 5) → (0 ≤ a ∧ a < tw) → (a = G 11 e.toNat) → fz_R 48 mL_law 681 [(0, fz_r 200), (1, fz_r 0), (2, fz_r 53), (3, fz_i tw), (4, fz_l sm), (6, fz_i e), (7, fz_i a), (9, fz_i 0)] [] G (qL_law h)) : fz_R 48 mL_law 543 [(0, fz_r 200), (1, fz_r 0), (2, fz_r 53), (3, fz_i tw), (4, fz_l sm), (6, fz_i e)] [] H (qL_law h) := by
  have k1 := st_N_e hI hN
  have k2 : 0 ≤ H 11 (e).toNat ∧ H 11 (e).toNat ≤ 7 := hI.1 11 _
  have k3 : 0 ≤ H 12 (e).toNat ∧ H 12 (e).toNat ≤ 999 := hI.1 12 _
  have k4 := hRP2 (e).toNat (by omega)
  refine fz_aload_n kL_law rfl rfl ?_
  refine fz_iload kL_law rfl rfl ?_
  refine fz_bipush ⟨by decide, by decide⟩ kL_law rfl ?_
  refine fz_callV (d' := 3) (M' := mX10_of) (As := [fz_i e, fz_i 10]) (st := []) kL_law rfl rfl vX10_of rfl rfl rfl rfl (Nat.le_of_ble_eq_true rfl) (Nat.le_of_ble_eq_true rfl) (by decide) (sX10_of H hI e 10 ) (fun H5 r6 q7 o8 => ?_)
  obtain ⟨e9, y12, rfl, f10, f11⟩ := q7
  subst H5
  clear o8
  have k13 := of_10 f11 (by omega)
  have k16 : 0 ≤ y12 ∧ y12 ≤ 7 := by omega
  refine fz_istore (ls' := [(7, fz_i y12), (0, fz_r 200), (1, fz_r 0), (2, fz_r 53), (3, fz_i tw), (4, fz_l sm), (6, fz_i e)]) kL_law rfl (by decide) rfl ?_
  refine fz_aload_n kL_law rfl rfl ?_
  refine fz_iload kL_law rfl rfl ?_
  refine fz_iconst ⟨by decide, by decide⟩ kL_law rfl ?_
  refine fz_callV (d' := 3) (M' := mX10_of) (As := [fz_i e, fz_i 3]) (st := []) kL_law rfl rfl vX10_of rfl rfl rfl rfl (Nat.le_of_ble_eq_true rfl) (Nat.le_of_ble_eq_true rfl) (by decide) (sX10_of H hI e 3 ) (fun H17 r18 q19 o20 => ?_)
  obtain ⟨e21, y24, rfl, f22, f23⟩ := q19
  subst H17
  clear o20
  have k25 := of_3 f23 (by omega)
  have k28 : 0 ≤ y24 ∧ y24 ≤ 999 := by omega
  refine fz_istore (ls' := [(8, fz_i y24), (7, fz_i y12), (0, fz_r 200), (1, fz_r 0), (2, fz_r 53), (3, fz_i tw), (4, fz_l sm), (6, fz_i e)]) kL_law rfl (by decide) rfl ?_
  refine fz_aload_n kL_law rfl rfl ?_
  refine fz_iload kL_law rfl rfl ?_
  refine fz_iload kL_law rfl rfl ?_
  have b29 : 0 ≤ H 9 5 ∧ H 9 5 ≤ 10 := hI.1 9 _
  have b30 : 0 ≤ H 1 7 ∧ H 1 7 ≤ 8 := hI.1 1 _
  refine fz_callV (d' := 2) (M' := mX10_heard) (As := [fz_i e, fz_i y12]) (st := []) kL_law rfl rfl vX10_heard rfl rfl rfl rfl (Nat.le_of_ble_eq_true rfl) (Nat.le_of_ble_eq_true rfl) (by decide) (sX10_heard H hI e y12 ) (fun H31 r32 q33 o34 => ?_)
  obtain ⟨e35, y38, rfl, f36, f37⟩ := q33
  subst H31
  clear o34
  have k39 := he_C f37 (by omega)
  refine fz_iload kL_law rfl rfl ?_
  refine fz_aload_n kL_law rfl rfl ?_
  refine fz_iload kL_law rfl rfl ?_
  refine fz_iconst ⟨by decide, by decide⟩ kL_law rfl ?_
  refine fz_callV (d' := 3) (M' := mX10_of) (As := [fz_i y12, fz_i 0]) (st := [fz_i y24, fz_i y38]) kL_law rfl rfl vX10_of rfl rfl rfl rfl (Nat.le_of_ble_eq_true rfl) (Nat.le_of_ble_eq_true rfl) (by decide) (sX10_of H hI y12 0 ) (fun H41 r42 q43 o44 => ?_)
  obtain ⟨e45, y48, rfl, f46, f47⟩ := q43
  subst H41
  clear o44
  have k49 := of_0 f47 (by omega)
  have k51 : 0 ≤ H 2 (y12).toNat ∧ H 2 (y12).toNat ≤ 9 := hI.1 2 _
  have k53 : 0 ≤ y48 ∧ y48 ≤ 9 := by omega
  refine fz_iaddN kL_law rfl (by omega) ?_
  have k54 := df_ha0 hI hRV hRP2 (e := e) (at_ := y12) (by omega) k13
  refine fz_icmp_ne (tgt := 676) kL_law rfl (by decide) (fun c56 => ?_) (fun c56 => ?_)
  · exfalso; omega
  · refine fz_aload_n kL_law rfl rfl ?_
    refine fz_iload kL_law rfl rfl ?_
    refine fz_iconst ⟨by decide, by decide⟩ kL_law rfl ?_
    refine fz_callV (d' := 2) (M' := mX10_news) (As := [fz_i e, fz_i (-1)]) (st := []) kL_law rfl rfl vX10_news rfl rfl rfl rfl (Nat.le_of_ble_eq_true rfl) (Nat.le_of_ble_eq_true rfl) (by decide) (sX10_news H hI e (-1) ) (fun H57 r58 q59 o60 => ?_)
    obtain ⟨e61, y64, rfl, f62, f63⟩ := q59
    subst H57
    clear o60
    have k65 := df_new1 (Or.inl rfl) (by omega) (show 0 ≤ y12 ∧ y12 < H 1 7 by omega) f63 (by omega)
    refine fz_if_lt (tgt := 676) kL_law rfl (by decide) (fun c66 => ?_) (fun c66 => ?_)
    · exfalso; omega
    · refine fz_aload_n kL_law rfl rfl ?_
      refine fz_iload kL_law rfl rfl ?_
      refine fz_bipush ⟨by decide, by decide⟩ kL_law rfl ?_
      refine fz_callV (d' := 2) (M' := mX10_news) (As := [fz_i e, fz_i (-2)]) (st := []) kL_law rfl rfl vX10_news rfl rfl rfl rfl (Nat.le_of_ble_eq_true rfl) (Nat.le_of_ble_eq_true rfl) (by decide) (sX10_news H hI e (-2) ) (fun H67 r68 q69 o70 => ?_)
      obtain ⟨e71, y74, rfl, f72, f73⟩ := q69
      subst H67
      clear o70
      have k75 := df_new1 (Or.inr rfl) (by omega) (show 0 ≤ y12 ∧ y12 < H 1 7 by omega) f73 (by omega)
      refine fz_if_lt (tgt := 676) kL_law rfl (by decide) (fun c76 => ?_) (fun c76 => ?_)
      · exfalso; omega
      · refine fz_aload_n kL_law rfl rfl ?_
        refine fz_iload kL_law rfl rfl ?_
        refine fz_aload_n kL_law rfl rfl ?_
        refine fz_iload kL_law rfl rfl ?_
        refine fz_bipush ⟨by decide, by decide⟩ kL_law rfl ?_
        refine fz_callV (d' := 2) (M' := mX10_news) (As := [fz_i e, fz_i (-2)]) (st := [fz_i e, fz_r 0]) kL_law rfl rfl vX10_news rfl rfl rfl rfl (Nat.le_of_ble_eq_true rfl) (Nat.le_of_ble_eq_true rfl) (by decide) (sX10_news H hI e (-2) ) (fun H77 r78 q79 o80 => ?_)
        obtain ⟨e81, y84, rfl, f82, f83⟩ := q79
        subst H77
        clear o80
        have k85 := f83
        have k87 := df_new1 (Or.inr rfl) (by omega) (show 0 ≤ y12 ∧ y12 < H 1 7 by omega) f83 (by omega)
        have k89 : 0 ≤ y84 ∧ y84 ≤ 7 := by omega
        refine fz_callV (d' := 2) (M' := mX10_heard) (As := [fz_i e, fz_i y84]) (st := []) kL_law rfl rfl vX10_heard rfl rfl rfl rfl (Nat.le_of_ble_eq_true rfl) (Nat.le_of_ble_eq_true rfl) (by decide) (sX10_heard H hI e y84 ) (fun H90 r91 q92 o93 => ?_)
        obtain ⟨e94, y97, rfl, f95, f96⟩ := q92
        subst H90
        clear o93
        have k98 := he_C f96 (by omega)
        refine fz_aload_n kL_law rfl rfl ?_
        refine fz_iload kL_law rfl rfl ?_
        refine fz_aload_n kL_law rfl rfl ?_
        refine fz_iload kL_law rfl rfl ?_
        refine fz_iconst ⟨by decide, by decide⟩ kL_law rfl ?_
        refine fz_callV (d' := 2) (M' := mX10_news) (As := [fz_i e, fz_i (-1)]) (st := [fz_i e, fz_r 0, fz_i y97]) kL_law rfl rfl vX10_news rfl rfl rfl rfl (Nat.le_of_ble_eq_true rfl) (Nat.le_of_ble_eq_true rfl) (by decide) (sX10_news H hI e (-1) ) (fun H99 r100 q101 o102 => ?_)
        obtain ⟨e103, y106, rfl, f104, f105⟩ := q101
        subst H99
        clear o102
        have k107 := f105
        have k109 := df_new1 (Or.inl rfl) (by omega) (show 0 ≤ y12 ∧ y12 < H 1 7 by omega) f105 (by omega)
        have k111 : 0 ≤ y106 ∧ y106 ≤ 7 := by omega
        refine fz_callV (d' := 2) (M' := mX10_heard) (As := [fz_i e, fz_i y106]) (st := [fz_i y97]) kL_law rfl rfl vX10_heard rfl rfl rfl rfl (Nat.le_of_ble_eq_true rfl) (Nat.le_of_ble_eq_true rfl) (by decide) (sX10_heard H hI e y106 ) (fun H112 r113 q114 o115 => ?_)
        obtain ⟨e116, y119, rfl, f117, f118⟩ := q114
        subst H112
        clear o115
        have k120 := he_C f118 (by omega)
        have k121 := df_news (by omega) (show 0 ≤ y12 ∧ y12 < H 1 7 by omega) k107 k85 (by omega)
        refine fz_icmp_gt (tgt := 676) kL_law rfl (by decide) (fun c122 => ?_) (fun c122 => ?_)
        · exfalso; omega
        · refine fz_aload_n kL_law rfl rfl ?_
          refine fz_iload kL_law rfl rfl ?_
          refine fz_iload kL_law rfl rfl ?_
          refine fz_iconst ⟨by decide, by decide⟩ kL_law rfl ?_
          refine fz_callV (d' := 2) (M' := mX10_garbled) (As := [fz_i e, fz_i y12, fz_i 0]) (st := []) kL_law rfl rfl vX10_garbled rfl rfl rfl rfl (Nat.le_of_ble_eq_true rfl) (Nat.le_of_ble_eq_true rfl) (by decide) (sX10_garbled H hI e y12 0 ) (fun H123 r124 q125 o126 => ?_)
          obtain ⟨hI127, hf128, y131, rfl, f129, f130⟩ := q125
          clear o126
          have hf132 := fz_fr_tr hf hf128 (show fz_su [(32, 99999)] [(1, 7), (1, 8), (2, 99999), (3, 99999), (4, 99999), (5, 99999), (6, 99999), (7, 99999), (8, 99999), (9, 5), (10, 99999), (11, 99999), (12, 99999), (13, 99999), (14, 99999), (15, 4), (16, 99999), (17, 99999), (18, 99999), (19, 99999), (20, 2), (20, 3), (20, 4), (21, 4), (22, 99999), (23, 99999), (26, 99999), (27, 8), (27, 9), (28, 99999), (29, 99999), (30, 99999), (31, 99999), (32, 99999), (33, 3), (33, 4), (33, 5), (33, 6), (33, 7), (34, 99999), (35, 4), (35, 5), (36, 99999), (37, 99999), (38, 99999), (39, 99999), (40, 1), (40, 2), (40, 3), (40, 4), (40, 5), (40, 6), (41, 99999), (42, 99999), (43, 99999), (44, 2), (45, 99999), (48, 99999), (50, 99999), (51, 99999), (52, 99999), (53, 99999)] = true from rfl)
          have hRE133 : fz_RE H123 := fz_RE_eq (funext fun s => hf128 5 s rfl) (funext fun s => hf128 6 s rfl) (hf128 1 8 rfl) (hf128 1 7 rfl) hRE
          have hRV134 : fz_RV H123 := fz_RV_eq (funext fun s => hf128 7 s rfl) (funext fun s => hf128 8 s rfl) (funext fun s => hf128 3 s rfl) (funext fun s => hf128 4 s rfl) (funext fun s => hf128 5 s rfl) (funext fun s => hf128 6 s rfl) (hf128 1 7 rfl) (hf128 1 8 rfl) hRV
          have hRP2135 : fz_RP2 H123 := fz_RP2_eq (funext fun s => hf128 11 s rfl) (hf128 9 5 rfl) (hf128 1 7 rfl) hRP2
          have hN136 : st_N tw H123 := st_N_eq (hf128 53 0 rfl) (hf128 53 1 rfl) (hf128 53 2 rfl) (hf128 1 7 rfl) (hf128 1 8 rfl) (hf128 9 5 rfl) (hf128 35 4 rfl) (hf128 20 2 rfl) hN
          have hL1137 : st_L1 H123 := st_L1_eq (funext fun s => hf128 3 s rfl) (hf128 1 8 rfl) hL1
          have hZ138 : st_Z H123 := st_Z_eq (hf128 40 1 rfl) (hf128 40 2 rfl) (hf128 40 3 rfl) (hf128 40 4 rfl) (hf128 40 5 rfl) (funext fun s => hf128 41 s rfl) hZ
          have hIm139 : st_Im H123 := st_Im_eq (hf128 40 6 rfl) (funext fun s => hf128 43 s rfl) (funext fun s => hf128 42 s rfl) hIm
          have hX140 : fz_Xc H123 := fz_Xc_fr hf128 rfl hX
          have t141 : H123 9 5 = H 9 5 := hf128 9 5 rfl
          have t142 : H123 1 7 = H 1 7 := hf128 1 7 rfl
          have t143 : H123 1 8 = H 1 8 := hf128 1 8 rfl
          have nm144 : fz_nm H123 = fz_nm H := (fz_nm_fr rfl hf128).trans rfl
          have hS145 : st_S sm H123 := st_S_fr rfl hf128 hS
          have k146 := df_gb hI hRV hRP2 (by omega) k13 (Or.inl rfl) f130
          have k147 : y12 = H123 11 (e).toNat := k13.trans (hf128 11 _ rfl).symm
          refine fz_lconst (x := 1) ⟨by decide, by decide⟩ rfl kL_law rfl ?_
          refine fz_lcmp kL_law rfl ?_
          have b149 := fz_cmp_c y131 1
          refine fz_if_ne (tgt := 676) kL_law rfl (by decide) (fun c150 => ?_) (fun c150 => ?_)
          · exfalso; omega
          · refine fz_aload_n kL_law rfl rfl ?_
            refine fz_iload kL_law rfl rfl ?_
            refine fz_iload kL_law rfl rfl ?_
            refine fz_iconst ⟨by decide, by decide⟩ kL_law rfl ?_
            refine fz_callV (d' := 2) (M' := mX10_garbled) (As := [fz_i e, fz_i y12, fz_i 1]) (st := []) kL_law rfl rfl vX10_garbled rfl rfl rfl rfl (Nat.le_of_ble_eq_true rfl) (Nat.le_of_ble_eq_true rfl) (by decide) (sX10_garbled H123 hI127 e y12 1 ) (fun H151 r152 q153 o154 => ?_)
            obtain ⟨hI155, hf156, y159, rfl, f157, f158⟩ := q153
            clear o154
            have hf160 := fz_fr_tr hf132 hf156 (show fz_su [(32, 99999)] [(1, 7), (1, 8), (2, 99999), (3, 99999), (4, 99999), (5, 99999), (6, 99999), (7, 99999), (8, 99999), (9, 5), (10, 99999), (11, 99999), (12, 99999), (13, 99999), (14, 99999), (15, 4), (16, 99999), (17, 99999), (18, 99999), (19, 99999), (20, 2), (20, 3), (20, 4), (21, 4), (22, 99999), (23, 99999), (26, 99999), (27, 8), (27, 9), (28, 99999), (29, 99999), (30, 99999), (31, 99999), (32, 99999), (33, 3), (33, 4), (33, 5), (33, 6), (33, 7), (34, 99999), (35, 4), (35, 5), (36, 99999), (37, 99999), (38, 99999), (39, 99999), (40, 1), (40, 2), (40, 3), (40, 4), (40, 5), (40, 6), (41, 99999), (42, 99999), (43, 99999), (44, 2), (45, 99999), (48, 99999), (50, 99999), (51, 99999), (52, 99999), (53, 99999)] = true from rfl)
            have hRE161 : fz_RE H151 := fz_RE_eq (funext fun s => hf156 5 s rfl) (funext fun s => hf156 6 s rfl) (hf156 1 8 rfl) (hf156 1 7 rfl) hRE133
            have hRV162 : fz_RV H151 := fz_RV_eq (funext fun s => hf156 7 s rfl) (funext fun s => hf156 8 s rfl) (funext fun s => hf156 3 s rfl) (funext fun s => hf156 4 s rfl) (funext fun s => hf156 5 s rfl) (funext fun s => hf156 6 s rfl) (hf156 1 7 rfl) (hf156 1 8 rfl) hRV134
            have hRP2163 : fz_RP2 H151 := fz_RP2_eq (funext fun s => hf156 11 s rfl) (hf156 9 5 rfl) (hf156 1 7 rfl) hRP2135
            have hN164 : st_N tw H151 := st_N_eq (hf156 53 0 rfl) (hf156 53 1 rfl) (hf156 53 2 rfl) (hf156 1 7 rfl) (hf156 1 8 rfl) (hf156 9 5 rfl) (hf156 35 4 rfl) (hf156 20 2 rfl) hN136
            have hL1165 : st_L1 H151 := st_L1_eq (funext fun s => hf156 3 s rfl) (hf156 1 8 rfl) hL1137
            have hZ166 : st_Z H151 := st_Z_eq (hf156 40 1 rfl) (hf156 40 2 rfl) (hf156 40 3 rfl) (hf156 40 4 rfl) (hf156 40 5 rfl) (funext fun s => hf156 41 s rfl) hZ138
            have hIm167 : st_Im H151 := st_Im_eq (hf156 40 6 rfl) (funext fun s => hf156 43 s rfl) (funext fun s => hf156 42 s rfl) hIm139
            have hX168 : fz_Xc H151 := fz_Xc_fr hf156 rfl hX140
            have t169 : H151 9 5 = H123 9 5 := hf156 9 5 rfl
            have t170 : H151 1 7 = H123 1 7 := hf156 1 7 rfl
            have t171 : H151 1 8 = H123 1 8 := hf156 1 8 rfl
            have nm172 : fz_nm H151 = fz_nm H := (fz_nm_fr rfl hf156).trans nm144
            have hS173 : st_S sm H151 := st_S_fr rfl hf156 hS145
            have k174 := df_gb hI127 hRV134 hRP2135 (by omega) k147 (Or.inr rfl) f158
            have k175 : y12 = H151 11 (e).toNat := k147.trans (hf156 11 _ rfl).symm
            refine fz_lconst (x := 1) ⟨by decide, by decide⟩ rfl kL_law rfl ?_
            refine fz_lcmp kL_law rfl ?_
            have b177 := fz_cmp_c y159 1
            refine fz_if_ne (tgt := 676) kL_law rfl (by decide) (fun c178 => ?_) (fun c178 => ?_)
            · exfalso; omega
            · refine fz_aload_n kL_law rfl rfl ?_
              refine fz_iload kL_law rfl rfl ?_
              refine fz_iload kL_law rfl rfl ?_
              refine fz_iconst ⟨by decide, by decide⟩ kL_law rfl ?_
              refine fz_callV (d' := 1) (M' := mX10_cut) (As := [fz_i e, fz_i y12, fz_i 0]) (st := []) kL_law rfl rfl vX10_cut rfl rfl rfl rfl (Nat.le_of_ble_eq_true rfl) (Nat.le_of_ble_eq_true rfl) (by decide) (sX10_cut H151 hI155 e y12 0 hRE161 hRP2163) (fun H179 r180 q181 o182 => ?_)
              obtain ⟨e183, y186, rfl, f184, f185⟩ := q181
              subst H179
              clear o182
              have k187 := df_cut0 (by omega) (show 0 ≤ y12 ∧ y12 < H151 1 7 by omega) k175 f185
              refine fz_bipush ⟨by decide, by decide⟩ kL_law rfl ?_
              refine fz_icmp_eq (tgt := 678) kL_law rfl (by decide) (fun c188 => ?_) (fun c188 => ?_)
              · refine fz_iconst ⟨by decide, by decide⟩ kL_law rfl ?_
                refine fz_istore (ls' := [(9, fz_i 0), (8, fz_i y24), (7, fz_i y12), (0, fz_r 200), (1, fz_r 0), (2, fz_r 53), (3, fz_i tw), (4, fz_l sm), (6, fz_i e)]) kL_law rfl (by decide) rfl ?_
                refine fz_sub (fz_pk_sub (ls' := [(0, fz_r 200), (1, fz_r 0), (2, fz_r 53), (3, fz_i tw), (4, fz_l sm), (6, fz_i e), (7, fz_i y12), (9, fz_i 0)]) [3, 4, 5, 6, 7, 8, 2, 0] rfl) ?_
                exact k H151 hI155 hf160 hX168 hRE161 hRV162 hRP2163 hN164 hS173 hL1165 hZ166 hIm167 y12 (by omega) (by omega) (k175)
              · exfalso; omega

set_option maxHeartbeats 1000000 in
set_option maxRecDepth 100000 in
theorem sL_l532 (h H : fz_H) (tw sm : Int) (hI : fz_Iv H) (hf : fz_fr [(1, 7), (1, 8), (2, 99999), (3, 99999), (4, 99999), (5, 99999), (6, 99999), (7, 99999), (8, 99999), (9, 5), (10, 99999), (11, 99999), (12, 99999), (13, 99999), (14, 99999), (15, 4), (16, 99999), (17, 99999), (18, 99999), (19, 99999), (20, 2), (20, 3), (20, 4), (21, 4), (22, 99999), (23, 99999), (26, 99999), (27, 8), (27, 9), (28, 99999), (29, 99999), (30, 99999), (31, 99999), (32, 99999), (33, 3), (33, 4), (33, 5), (33, 6), (33, 7), (34, 99999), (35, 4), (35, 5), (36, 99999), (37, 99999), (38, 99999), (39, 99999), (40, 1), (40, 2), (40, 3), (40, 4), (40, 5), (40, 6), (41, 99999), (42, 99999), (43, 99999), (44, 2), (45, 99999), (48, 99999), (50, 99999), (51, 99999), (52, 99999), (53, 99999)] h H) (hX : fz_Xc H) (hRE : fz_RE H) (hRV : fz_RV H) (hRP2 : fz_RP2 H) (hN : st_N tw H) (hS : st_S sm H) (hL1 : st_L1 H) (hZ : st_Z H) (hIm : st_Im H) (hp0 : 0 ≤ h 200 100000 ∧ h 200 100000 ≤ 3072) (hq0 : 0 ≤ tw ∧ tw ≤ 8) : fz_R 48 mL_law 532 [(0, fz_r 200), (1, fz_r 0), (2, fz_r 53), (3, fz_i tw), (4, fz_l sm)] [] H (qL_law h) := by
  refine fz_iconst ⟨by decide, by decide⟩ kL_law rfl ?_
  refine fz_istore (ls' := [(6, fz_i 0), (0, fz_r 200), (1, fz_r 0), (2, fz_r 53), (3, fz_i tw), (4, fz_l sm)]) kL_law rfl (by decide) rfl ?_
  have lp15 : ∀ (n14 : Nat) (x1 : Int) (H11 : fz_H), fz_Iv H11 → fz_fr [(1, 7), (1, 8), (2, 99999), (3, 99999), (4, 99999), (5, 99999), (6, 99999), (7, 99999), (8, 99999), (9, 5), (10, 99999), (11, 99999), (12, 99999), (13, 99999), (14, 99999), (15, 4), (16, 99999), (17, 99999), (18, 99999), (19, 99999), (20, 2), (20, 3), (20, 4), (21, 4), (22, 99999), (23, 99999), (26, 99999), (27, 8), (27, 9), (28, 99999), (29, 99999), (30, 99999), (31, 99999), (32, 99999), (33, 3), (33, 4), (33, 5), (33, 6), (33, 7), (34, 99999), (35, 4), (35, 5), (36, 99999), (37, 99999), (38, 99999), (39, 99999), (40, 1), (40, 2), (40, 3), (40, 4), (40, 5), (40, 6), (41, 99999), (42, 99999), (43, 99999), (44, 2), (45, 99999), (48, 99999), (50, 99999), (51, 99999), (52, 99999), (53, 99999)] h H11 → fz_RE H11 → fz_RV H11 → fz_RP2 H11 → fz_Xc H11 → st_N tw H11 → st_S sm H11 → st_L1 H11 → st_Z H11 → st_Im H11 → (0 ≤ x1 ∧ x1 ≤ 8) → (8 - x1).toNat < n14 → fz_R 48 mL_law 535 [(6, fz_i x1), (0, fz_r 200), (1, fz_r 0), (2, fz_r 53), (3, fz_i tw), (4, fz_l sm)] [] H11 (qL_law h) := by
    intro n14
    induction n14 with
    | zero => intro x1 H11 hI12 hf13 hRE2 hRV3 hRP24 hXq5 hN6 hS7 hL18 hZ9 hIm10 hv18 hm17; exact absurd hm17 (by omega)
    | succ n14 ih16 =>
      intro x1 H11 hI12 hf13 hRE2 hRV3 hRP24 hXq5 hN6 hS7 hL18 hZ9 hIm10 hv18 hm17
      refine fz_iload kL_law rfl rfl ?_
      refine fz_aload_n kL_law rfl rfl ?_
      refine fz_iconst ⟨by decide, by decide⟩ kL_law rfl ?_
      obtain ⟨v19, e20⟩ : ∃ z, H11 53 (2) = z := ⟨_, rfl⟩
      refine fz_ialdV (n := 40) (v := v19) kL_law rfl rfl (by omega) (by omega) e20 ?_
      have b21 : (-2147483648) ≤ v19 ∧ v19 ≤ 2147483647 := by rw [← e20]; exact hI12.1 53 _
      have k22 := st_N_e hI12 hN6
      refine fz_icmp_ge (tgt := 946) kL_law rfl (by decide) (fun c23 => ?_) (fun c23 => ?_)
      · refine fz_sub (fz_pk_sub (ls' := [(0, fz_r 200), (1, fz_r 0), (2, fz_r 53), (3, fz_i tw), (4, fz_l sm)]) [1, 2, 3, 4, 5] rfl) ?_
        exact sL_l946 h H11 tw sm hI12 hf13 hXq5 hRE2 hRV3 hRP24 hN6 hS7 hL18 hZ9 hIm10 hp0 (by omega)
      · refine fz_sub (fz_pk_sub (ls' := [(0, fz_r 200), (1, fz_r 0), (2, fz_r 53), (3, fz_i tw), (4, fz_l sm), (6, fz_i x1)]) [1, 2, 3, 4, 5, 0] rfl) ?_
        refine sL_l543 h H11 tw sm x1 hI12 hf13 hXq5 hRE2 hRV3 hRP24 hN6 hS7 hL18 hZ9 hIm10 hp0 (by omega) (by omega) (by omega) (fun H24 hI25 hf26 hX27 hRE28 hRV29 hRP230 hN31 hS32 hL133 hZ34 hIm35 x36 f37 f38 f39 => ?_)
        have lp54 : ∀ (n53 : Nat) (x40 : Int) (H50 : fz_H), fz_Iv H50 → fz_fr [(1, 7), (1, 8), (2, 99999), (3, 99999), (4, 99999), (5, 99999), (6, 99999), (7, 99999), (8, 99999), (9, 5), (10, 99999), (11, 99999), (12, 99999), (13, 99999), (14, 99999), (15, 4), (16, 99999), (17, 99999), (18, 99999), (19, 99999), (20, 2), (20, 3), (20, 4), (21, 4), (22, 99999), (23, 99999), (26, 99999), (27, 8), (27, 9), (28, 99999), (29, 99999), (30, 99999), (31, 99999), (32, 99999), (33, 3), (33, 4), (33, 5), (33, 6), (33, 7), (34, 99999), (35, 4), (35, 5), (36, 99999), (37, 99999), (38, 99999), (39, 99999), (40, 1), (40, 2), (40, 3), (40, 4), (40, 5), (40, 6), (41, 99999), (42, 99999), (43, 99999), (44, 2), (45, 99999), (48, 99999), (50, 99999), (51, 99999), (52, 99999), (53, 99999)] h H50 → fz_RE H50 → fz_RV H50 → fz_RP2 H50 → fz_Xc H50 → st_N tw H50 → st_S sm H50 → st_L1 H50 → st_Z H50 → st_Im H50 → (0 ≤ x40 ∧ x40 ≤ 8) → (x1 < H50 9 5) → (0 ≤ x36 ∧ x36 < tw) → (x36 = H50 11 (x1).toNat) → (tw - x40).toNat < n53 → fz_R 48 mL_law 681 [(0, fz_r 200), (1, fz_r 0), (2, fz_r 53), (3, fz_i tw), (4, fz_l sm), (6, fz_i x1), (7, fz_i x36), (9, fz_i x40)] [] H50 (qL_law h) := by
          intro n53
          induction n53 with
          | zero => intro x40 H50 hI51 hf52 hRE41 hRV42 hRP243 hXq44 hN45 hS46 hL147 hZ48 hIm49 hv57 hv58 hv59 hv60 hm56; exact absurd hm56 (by omega)
          | succ n53 ih55 =>
            intro x40 H50 hI51 hf52 hRE41 hRV42 hRP243 hXq44 hN45 hS46 hL147 hZ48 hIm49 hv57 hv58 hv59 hv60 hm56
            refine fz_iload kL_law rfl rfl ?_
            refine fz_iload_n kL_law rfl rfl ?_
            refine fz_icmp_ge (tgt := 940) kL_law rfl (by decide) (fun c61 => ?_) (fun c61 => ?_)
            · refine fz_iincN (ls' := [(6, fz_i (x1 + 1)), (0, fz_r 200), (1, fz_r 0), (2, fz_r 53), (3, fz_i tw), (4, fz_l sm), (7, fz_i x36), (9, fz_i x40)]) kL_law rfl (by decide) rfl (by omega) rfl ?_
              refine fz_goto (tgt := 535) kL_law rfl (by decide) ?_
              refine fz_sub (fz_pk_sub (ls' := [(6, fz_i (x1 + 1)), (0, fz_r 200), (1, fz_r 0), (2, fz_r 53), (3, fz_i tw), (4, fz_l sm)]) [0, 1, 2, 3, 4, 5] rfl) ?_
              exact ih16 (x1 + 1) H50 hI51 hf52 hRE41 hRV42 hRP243 hXq44 hN45 hS46 hL147 hZ48 hIm49 (by omega) (by omega)
            · refine sL_l687 h H50 tw sm x1 x36 x40 hI51 hf52 hXq44 hRE41 hRV42 hRP243 hN45 hS46 hL147 hZ48 hIm49 hp0 (by omega) (by omega) (by omega) (by omega) (by omega) (hv60) (fun H63 hI64 hf65 hX66 hRE67 hRV68 hRP269 hN70 hS71 hL172 hZ73 hIm74 f75 f76 => ?_)
              refine fz_iincN (ls' := [(9, fz_i (x40 + 1)), (0, fz_r 200), (1, fz_r 0), (2, fz_r 53), (3, fz_i tw), (4, fz_l sm), (6, fz_i x1), (7, fz_i x36)]) kL_law rfl (by decide) rfl (by omega) rfl ?_
              refine fz_goto (tgt := 681) kL_law rfl (by decide) ?_
              refine fz_sub (fz_pk_sub (ls' := [(0, fz_r 200), (1, fz_r 0), (2, fz_r 53), (3, fz_i tw), (4, fz_l sm), (6, fz_i x1), (7, fz_i x36), (9, fz_i (x40 + 1))]) [1, 2, 3, 4, 5, 6, 7, 0] rfl) ?_
              exact ih55 (x40 + 1) H63 hI64 hf65 hRE67 hRV68 hRP269 hX66 hN70 hS71 hL172 hZ73 hIm74 (by omega) (by omega) (by omega) (f76) (by omega)
        exact lp54 _ 0 H24 hI25 hf26 hRE28 hRV29 hRP230 hX27 hN31 hS32 hL133 hZ34 hIm35 (by omega) (by omega) (by omega) (f39) (Nat.lt_succ_self _)
  exact lp15 _ 0 H hI hf hRE hRV hRP2 hX hN hS hL1 hZ hIm (by omega) (Nat.lt_succ_self _)

set_option maxHeartbeats 1000000 in
set_option maxRecDepth 100000 in
theorem sL_l450 (h H : fz_H) (tw sm x y f c : Int) (hI : fz_Iv H) (hf : fz_fr [(1, 7), (1, 8), (2, 99999), (3, 99999), (4, 99999), (5, 99999), (6, 99999), (7, 99999), (8, 99999), (9, 5), (10, 99999), (11, 99999), (12, 99999), (13, 99999), (14, 99999), (15, 4), (16, 99999), (17, 99999), (18, 99999), (19, 99999), (20, 2), (20, 3), (20, 4), (21, 4), (22, 99999), (23, 99999), (26, 99999), (27, 8), (27, 9), (28, 99999), (29, 99999), (30, 99999), (31, 99999), (32, 99999), (33, 3), (33, 4), (33, 5), (33, 6), (33, 7), (34, 99999), (35, 4), (35, 5), (36, 99999), (37, 99999), (38, 99999), (39, 99999), (40, 1), (40, 2), (40, 3), (40, 4), (40, 5), (40, 6), (41, 99999), (42, 99999), (43, 99999), (44, 2), (45, 99999), (48, 99999), (50, 99999), (51, 99999), (52, 99999), (53, 99999)] h H) (hX : fz_Xc H) (hRE : fz_RE H) (hRV : fz_RV H) (hp0 : 0 ≤ h 200 100000 ∧ h 200 100000 ≤ 3072) (hq0 : 0 ≤ tw ∧ tw ≤ 8) (hq1 : H 1 7 = tw) (hq2 : 0 ≤ x ∧ x < tw) (hq3 : 0 ≤ y ∧ y < tw) (hq4 : -2 ≤ f ∧ f ≤ 10000) (hq5 : f = fz_hr (H 7 (8 * x + y).toNat)) (k : fz_R 48 mL_law 520 [(0, fz_r 200), (1, fz_r 0), (2, fz_r 53), (3, fz_i tw), (4, fz_l sm), (6, fz_i x), (7, fz_i y), (8, fz_i f), (9, fz_i c)] [] H (qL_law h)) : fz_R 48 mL_law 450 [(0, fz_r 200), (1, fz_r 0), (2, fz_r 53), (3, fz_i tw), (4, fz_l sm), (6, fz_i x), (7, fz_i y), (8, fz_i f), (9, fz_i c)] [] H (qL_law h) := by
  refine fz_iconst ⟨by decide, by decide⟩ kL_law rfl ?_
  refine fz_istore (ls' := [(10, fz_i 0), (0, fz_r 200), (1, fz_r 0), (2, fz_r 53), (3, fz_i tw), (4, fz_l sm), (6, fz_i x), (7, fz_i y), (8, fz_i f), (9, fz_i c)]) kL_law rfl (by decide) rfl ?_
  have lp3 : ∀ (n2 : Nat) (x1 : Int), (0 ≤ x1 ∧ x1 ≤ 8) → (tw - x1).toNat < n2 → fz_R 48 mL_law 453 [(10, fz_i x1), (0, fz_r 200), (1, fz_r 0), (2, fz_r 53), (3, fz_i tw), (4, fz_l sm), (6, fz_i x), (7, fz_i y), (8, fz_i f), (9, fz_i c)] [] H (qL_law h) := by
    intro n2
    induction n2 with
    | zero => intro x1 hv6 hm5; exact absurd hm5 (by omega)
    | succ n2 ih4 =>
      intro x1 hv6 hm5
      refine fz_iload kL_law rfl rfl ?_
      refine fz_iload_n kL_law rfl rfl ?_
      refine fz_icmp_ge (tgt := 520) kL_law rfl (by decide) (fun c7 => ?_) (fun c7 => ?_)
      · refine fz_sub (fz_pk_sub (ls' := [(0, fz_r 200), (1, fz_r 0), (2, fz_r 53), (3, fz_i tw), (4, fz_l sm), (6, fz_i x), (7, fz_i y), (8, fz_i f), (9, fz_i c)]) [1, 2, 3, 4, 5, 6, 7, 8, 9] rfl) ?_
        exact k  
      · refine fz_iload kL_law rfl rfl ?_
        refine fz_if_lt (tgt := 514) kL_law rfl (by decide) (fun c8 => ?_) (fun c8 => ?_)
        · refine fz_iincN (ls' := [(10, fz_i (x1 + 1)), (0, fz_r 200), (1, fz_r 0), (2, fz_r 53), (3, fz_i tw), (4, fz_l sm), (6, fz_i x), (7, fz_i y), (8, fz_i f), (9, fz_i c)]) kL_law rfl (by decide) rfl (by omega) rfl ?_
          refine fz_goto (tgt := 453) kL_law rfl (by decide) ?_
          exact ih4 (x1 + 1) (by omega) (by omega)
        · refine fz_aload_n kL_law rfl rfl ?_
          refine fz_bipush ⟨by decide, by decide⟩ kL_law rfl ?_
          refine fz_iload kL_law rfl rfl ?_
          refine fz_imulN kL_law rfl (by omega) ?_
          refine fz_iload kL_law rfl rfl ?_
          refine fz_iaddN kL_law rfl (by omega) ?_
          refine fz_iconst ⟨by decide, by decide⟩ kL_law rfl ?_
          refine fz_callV (d' := 2) (M' := mX10_way) (As := [fz_i ((10 * y) + x1), fz_i 0]) (st := []) kL_law rfl rfl vX10_way rfl rfl rfl rfl (Nat.le_of_ble_eq_true rfl) (Nat.le_of_ble_eq_true rfl) (by decide) (sX10_way H hI ((10 * y) + x1) 0 ) (fun H9 r10 q11 o12 => ?_)
          obtain ⟨e13, y16, rfl, f14, f15⟩ := q11
          subst H9
          clear o12
          have k17 := wf_wy0 (x := y) (y := x1) (by omega) (by omega) (by omega) f15
          refine fz_if_lt (tgt := 514) kL_law rfl (by decide) (fun c19 => ?_) (fun c19 => ?_)
          · refine fz_iincN (ls' := [(10, fz_i (x1 + 1)), (0, fz_r 200), (1, fz_r 0), (2, fz_r 53), (3, fz_i tw), (4, fz_l sm), (6, fz_i x), (7, fz_i y), (8, fz_i f), (9, fz_i c)]) kL_law rfl (by decide) rfl (by omega) rfl ?_
            refine fz_goto (tgt := 453) kL_law rfl (by decide) ?_
            exact ih4 (x1 + 1) (by omega) (by omega)
          · refine fz_aload_n kL_law rfl rfl ?_
            refine fz_bipush ⟨by decide, by decide⟩ kL_law rfl ?_
            refine fz_iload kL_law rfl rfl ?_
            refine fz_imulN kL_law rfl (by omega) ?_
            refine fz_iload kL_law rfl rfl ?_
            refine fz_iaddN kL_law rfl (by omega) ?_
            refine fz_iconst ⟨by decide, by decide⟩ kL_law rfl ?_
            refine fz_callV (d' := 2) (M' := mX10_way) (As := [fz_i ((10 * x) + x1), fz_i 0]) (st := []) kL_law rfl rfl vX10_way rfl rfl rfl rfl (Nat.le_of_ble_eq_true rfl) (Nat.le_of_ble_eq_true rfl) (by decide) (sX10_way H hI ((10 * x) + x1) 0 ) (fun H20 r21 q22 o23 => ?_)
            obtain ⟨e24, y27, rfl, f25, f26⟩ := q22
            subst H20
            clear o23
            have k28 := wf_wy0 (x := x) (y := x1) (by omega) (by omega) (by omega) f26
            refine fz_iload kL_law rfl rfl ?_
            refine fz_aload_n kL_law rfl rfl ?_
            refine fz_bipush ⟨by decide, by decide⟩ kL_law rfl ?_
            refine fz_iload kL_law rfl rfl ?_
            refine fz_imulN kL_law rfl (by omega) ?_
            refine fz_iload kL_law rfl rfl ?_
            refine fz_iaddN kL_law rfl (by omega) ?_
            refine fz_iconst ⟨by decide, by decide⟩ kL_law rfl ?_
            refine fz_callV (d' := 2) (M' := mX10_way) (As := [fz_i ((10 * y) + x1), fz_i 0]) (st := [fz_i f, fz_i y27]) kL_law rfl rfl vX10_way rfl rfl rfl rfl (Nat.le_of_ble_eq_true rfl) (Nat.le_of_ble_eq_true rfl) (by decide) (sX10_way H hI ((10 * y) + x1) 0 ) (fun H30 r31 q32 o33 => ?_)
            obtain ⟨e34, y37, rfl, f35, f36⟩ := q32
            subst H30
            clear o33
            have k38 := wf_wy0 (x := y) (y := x1) (by omega) (by omega) (by omega) f36
            refine fz_iaddN kL_law rfl (by omega) ?_
            have k40 := wf_t0 hI hRV (x := x) (y := y) (z := x1) (by omega) (by omega) (by omega) (by omega) (by omega)
            refine fz_icmp_le (tgt := 514) kL_law rfl (by decide) (fun c41 => ?_) (fun c41 => ?_)
            · refine fz_iincN (ls' := [(10, fz_i (x1 + 1)), (0, fz_r 200), (1, fz_r 0), (2, fz_r 53), (3, fz_i tw), (4, fz_l sm), (6, fz_i x), (7, fz_i y), (8, fz_i f), (9, fz_i c)]) kL_law rfl (by decide) rfl (by omega) rfl ?_
              refine fz_goto (tgt := 453) kL_law rfl (by decide) ?_
              exact ih4 (x1 + 1) (by omega) (by omega)
            · exfalso; omega
  exact lp3 _ 0 (by omega) (Nat.lt_succ_self _)

set_option maxHeartbeats 1000000 in
set_option maxRecDepth 100000 in
theorem sL_l337 (h H : fz_H) (tw sm : Int) (hI : fz_Iv H) (hf : fz_fr [(1, 7), (1, 8), (2, 99999), (3, 99999), (4, 99999), (5, 99999), (6, 99999), (7, 99999), (8, 99999), (9, 5), (10, 99999), (11, 99999), (12, 99999), (13, 99999), (14, 99999), (15, 4), (16, 99999), (17, 99999), (18, 99999), (19, 99999), (20, 2), (20, 3), (20, 4), (21, 4), (22, 99999), (23, 99999), (26, 99999), (27, 8), (27, 9), (28, 99999), (29, 99999), (30, 99999), (31, 99999), (32, 99999), (33, 3), (33, 4), (33, 5), (33, 6), (33, 7), (34, 99999), (35, 4), (35, 5), (36, 99999), (37, 99999), (38, 99999), (39, 99999), (40, 1), (40, 2), (40, 3), (40, 4), (40, 5), (40, 6), (41, 99999), (42, 99999), (43, 99999), (44, 2), (45, 99999), (48, 99999), (50, 99999), (51, 99999), (52, 99999), (53, 99999)] h H) (hX : fz_Xc H) (hRE : fz_RE H) (hRV : fz_RV H) (hRP2 : fz_RP2 H) (hN : st_N tw H) (hS : st_S sm H) (hL1 : st_L1 H) (hZ : st_Z H) (hIm : st_Im H) (hp0 : 0 ≤ h 200 100000 ∧ h 200 100000 ≤ 3072) (hq0 : 0 ≤ tw ∧ tw ≤ 8) : fz_R 48 mL_law 337 [(0, fz_r 200), (1, fz_r 0), (2, fz_r 53), (3, fz_i tw), (4, fz_l sm)] [] H (qL_law h) := by
  have k1 := st_N_e hI hN
  refine fz_iconst ⟨by decide, by decide⟩ kL_law rfl ?_
  refine fz_istore (ls' := [(6, fz_i 0), (0, fz_r 200), (1, fz_r 0), (2, fz_r 53), (3, fz_i tw), (4, fz_l sm)]) kL_law rfl (by decide) rfl ?_
  have lp4 : ∀ (n3 : Nat) (x2 : Int), (0 ≤ x2 ∧ x2 ≤ 8) → (tw - x2).toNat < n3 → fz_R 48 mL_law 340 [(6, fz_i x2), (0, fz_r 200), (1, fz_r 0), (2, fz_r 53), (3, fz_i tw), (4, fz_l sm)] [] H (qL_law h) := by
    intro n3
    induction n3 with
    | zero => intro x2 hv7 hm6; exact absurd hm6 (by omega)
    | succ n3 ih5 =>
      intro x2 hv7 hm6
      refine fz_iload kL_law rfl rfl ?_
      refine fz_iload_n kL_law rfl rfl ?_
      refine fz_icmp_ge (tgt := 532) kL_law rfl (by decide) (fun c8 => ?_) (fun c8 => ?_)
      · refine fz_sub (fz_pk_sub (ls' := [(0, fz_r 200), (1, fz_r 0), (2, fz_r 53), (3, fz_i tw), (4, fz_l sm)]) [1, 2, 3, 4, 5] rfl) ?_
        exact sL_l532 h H tw sm hI hf hX hRE hRV hRP2 hN hS hL1 hZ hIm hp0 (by omega)
      · refine fz_iconst ⟨by decide, by decide⟩ kL_law rfl ?_
        refine fz_istore (ls' := [(7, fz_i 0), (6, fz_i x2), (0, fz_r 200), (1, fz_r 0), (2, fz_r 53), (3, fz_i tw), (4, fz_l sm)]) kL_law rfl (by decide) rfl ?_
        have lp11 : ∀ (n10 : Nat) (x9 : Int), (0 ≤ x9 ∧ x9 ≤ 8) → (tw - x9).toNat < n10 → fz_R 48 mL_law 349 [(7, fz_i x9), (6, fz_i x2), (0, fz_r 200), (1, fz_r 0), (2, fz_r 53), (3, fz_i tw), (4, fz_l sm)] [] H (qL_law h) := by
          intro n10
          induction n10 with
          | zero => intro x9 hv14 hm13; exact absurd hm13 (by omega)
          | succ n10 ih12 =>
            intro x9 hv14 hm13
            refine fz_iload kL_law rfl rfl ?_
            refine fz_iload_n kL_law rfl rfl ?_
            refine fz_icmp_ge (tgt := 526) kL_law rfl (by decide) (fun c15 => ?_) (fun c15 => ?_)
            · refine fz_iincN (ls' := [(6, fz_i (x2 + 1)), (7, fz_i x9), (0, fz_r 200), (1, fz_r 0), (2, fz_r 53), (3, fz_i tw), (4, fz_l sm)]) kL_law rfl (by decide) rfl (by omega) rfl ?_
              refine fz_goto (tgt := 340) kL_law rfl (by decide) ?_
              refine fz_sub (fz_pk_sub (ls' := [(6, fz_i (x2 + 1)), (0, fz_r 200), (1, fz_r 0), (2, fz_r 53), (3, fz_i tw), (4, fz_l sm)]) [0, 2, 3, 4, 5, 6] rfl) ?_
              exact ih5 (x2 + 1) (by omega) (by omega)
            · refine fz_aload_n kL_law rfl rfl ?_
              refine fz_bipush ⟨by decide, by decide⟩ kL_law rfl ?_
              refine fz_iload kL_law rfl rfl ?_
              refine fz_imulN kL_law rfl (by omega) ?_
              refine fz_iload kL_law rfl rfl ?_
              refine fz_iaddN kL_law rfl (by omega) ?_
              refine fz_iconst ⟨by decide, by decide⟩ kL_law rfl ?_
              refine fz_callV (d' := 2) (M' := mX10_way) (As := [fz_i ((10 * x2) + x9), fz_i 0]) (st := []) kL_law rfl rfl vX10_way rfl rfl rfl rfl (Nat.le_of_ble_eq_true rfl) (Nat.le_of_ble_eq_true rfl) (by decide) (sX10_way H hI ((10 * x2) + x9) 0 ) (fun H16 r17 q18 o19 => ?_)
              obtain ⟨e20, y23, rfl, f21, f22⟩ := q18
              subst H16
              clear o19
              have k24 := wf_wy0 (x := x2) (y := x9) (by omega) (by omega) (by omega) f22
              refine fz_istore (ls' := [(8, fz_i y23), (7, fz_i x9), (6, fz_i x2), (0, fz_r 200), (1, fz_r 0), (2, fz_r 53), (3, fz_i tw), (4, fz_l sm)]) kL_law rfl (by decide) rfl ?_
              refine fz_aload_n kL_law rfl rfl ?_
              refine fz_bipush ⟨by decide, by decide⟩ kL_law rfl ?_
              refine fz_iload kL_law rfl rfl ?_
              refine fz_imulN kL_law rfl (by omega) ?_
              refine fz_iload kL_law rfl rfl ?_
              refine fz_iaddN kL_law rfl (by omega) ?_
              refine fz_iconst ⟨by decide, by decide⟩ kL_law rfl ?_
              refine fz_callV (d' := 2) (M' := mX10_way) (As := [fz_i ((10 * x2) + x9), fz_i 1]) (st := []) kL_law rfl rfl vX10_way rfl rfl rfl rfl (Nat.le_of_ble_eq_true rfl) (Nat.le_of_ble_eq_true rfl) (by decide) (sX10_way H hI ((10 * x2) + x9) 1 ) (fun H26 r27 q28 o29 => ?_)
              obtain ⟨e30, y33, rfl, f31, f32⟩ := q28
              subst H26
              clear o29
              have k34 := wf_wy1 (x := x2) (y := x9) (by omega) (by omega) (by omega) f32
              refine fz_istore (ls' := [(9, fz_i y33), (8, fz_i y23), (7, fz_i x9), (6, fz_i x2), (0, fz_r 200), (1, fz_r 0), (2, fz_r 53), (3, fz_i tw), (4, fz_l sm)]) kL_law rfl (by decide) rfl ?_
              refine fz_iload kL_law rfl rfl ?_
              refine fz_aload_n kL_law rfl rfl ?_
              refine fz_bipush ⟨by decide, by decide⟩ kL_law rfl ?_
              refine fz_iload kL_law rfl rfl ?_
              refine fz_imulN kL_law rfl (by omega) ?_
              refine fz_iload kL_law rfl rfl ?_
              refine fz_iaddN kL_law rfl (by omega) ?_
              refine fz_iconst ⟨by decide, by decide⟩ kL_law rfl ?_
              refine fz_callV (d' := 2) (M' := mX10_way) (As := [fz_i ((10 * x9) + x2), fz_i 0]) (st := [fz_i y23]) kL_law rfl rfl vX10_way rfl rfl rfl rfl (Nat.le_of_ble_eq_true rfl) (Nat.le_of_ble_eq_true rfl) (by decide) (sX10_way H hI ((10 * x9) + x2) 0 ) (fun H36 r37 q38 o39 => ?_)
              obtain ⟨e40, y43, rfl, f41, f42⟩ := q38
              subst H36
              clear o39
              have k44 := wf_wy0 (x := x9) (y := x2) (by omega) (by omega) (by omega) f42
              have k46 : y23 = y43 := k24.trans ((congrArg fz_hr (wf_sy0 hRV (x := x2) (y := x9) (by omega) (by omega))).trans k44.symm)
              refine fz_icmp_ne (tgt := 448) kL_law rfl (by decide) (fun c47 => ?_) (fun c47 => ?_)
              · exfalso; omega
              · refine fz_iload kL_law rfl rfl ?_
                refine fz_aload_n kL_law rfl rfl ?_
                refine fz_bipush ⟨by decide, by decide⟩ kL_law rfl ?_
                refine fz_iload kL_law rfl rfl ?_
                refine fz_imulN kL_law rfl (by omega) ?_
                refine fz_iload kL_law rfl rfl ?_
                refine fz_iaddN kL_law rfl (by omega) ?_
                refine fz_iconst ⟨by decide, by decide⟩ kL_law rfl ?_
                refine fz_callV (d' := 2) (M' := mX10_way) (As := [fz_i ((10 * x9) + x2), fz_i 1]) (st := [fz_i y33]) kL_law rfl rfl vX10_way rfl rfl rfl rfl (Nat.le_of_ble_eq_true rfl) (Nat.le_of_ble_eq_true rfl) (by decide) (sX10_way H hI ((10 * x9) + x2) 1 ) (fun H48 r49 q50 o51 => ?_)
                obtain ⟨e52, y55, rfl, f53, f54⟩ := q50
                subst H48
                clear o51
                have k56 := wf_wy1 (x := x9) (y := x2) (by omega) (by omega) (by omega) f54
                have k58 : y33 = y55 := k34.trans ((congrArg fz_hr (wf_sy1 hRV (x := x2) (y := x9) (by omega) (by omega))).trans k56.symm)
                refine fz_icmp_ne (tgt := 448) kL_law rfl (by decide) (fun c59 => ?_) (fun c59 => ?_)
                · exfalso; omega
                · refine fz_iload kL_law rfl rfl ?_
                  refine fz_iload kL_law rfl rfl ?_
                  refine fz_icmp_ne (tgt := 438) kL_law rfl (by decide) (fun c60 => ?_) (fun c60 => ?_)
                  · refine fz_iload kL_law rfl rfl ?_
                    refine fz_if_lt (tgt := 450) kL_law rfl (by decide) (fun c61 => ?_) (fun c61 => ?_)
                    · refine fz_sub (fz_pk_sub (ls' := [(0, fz_r 200), (1, fz_r 0), (2, fz_r 53), (3, fz_i tw), (4, fz_l sm), (6, fz_i x2), (7, fz_i x9), (8, fz_i y23), (9, fz_i y33)]) [4, 5, 6, 7, 8, 3, 2, 1, 0] rfl) ?_
                      refine sL_l450 h H tw sm x2 x9 y23 y33 hI hf hX hRE hRV hp0 (by omega) (by omega) (by omega) (by omega) (by omega) (k24) ?_
                      refine fz_iincN (ls' := [(7, fz_i (x9 + 1)), (0, fz_r 200), (1, fz_r 0), (2, fz_r 53), (3, fz_i tw), (4, fz_l sm), (6, fz_i x2), (8, fz_i y23), (9, fz_i y33)]) kL_law rfl (by decide) rfl (by omega) rfl ?_
                      refine fz_goto (tgt := 349) kL_law rfl (by decide) ?_
                      refine fz_sub (fz_pk_sub (ls' := [(7, fz_i (x9 + 1)), (6, fz_i x2), (0, fz_r 200), (1, fz_r 0), (2, fz_r 53), (3, fz_i tw), (4, fz_l sm)]) [0, 6, 1, 2, 3, 4, 5] rfl) ?_
                      exact ih12 (x9 + 1) (by omega) (by omega)
                    · have k69 := wf_feet hI hRV (a := x2) (b := x9) (by omega) (by omega) (by omega)
                      refine fz_iload kL_law rfl rfl ?_
                      refine fz_if_ge (tgt := 450) kL_law rfl (by decide) (fun c70 => ?_) (fun c70 => ?_)
                      · refine fz_sub (fz_pk_sub (ls' := [(0, fz_r 200), (1, fz_r 0), (2, fz_r 53), (3, fz_i tw), (4, fz_l sm), (6, fz_i x2), (7, fz_i x9), (8, fz_i y23), (9, fz_i y33)]) [4, 5, 6, 7, 8, 3, 2, 1, 0] rfl) ?_
                        refine sL_l450 h H tw sm x2 x9 y23 y33 hI hf hX hRE hRV hp0 (by omega) (by omega) (by omega) (by omega) (by omega) (k24) ?_
                        refine fz_iincN (ls' := [(7, fz_i (x9 + 1)), (0, fz_r 200), (1, fz_r 0), (2, fz_r 53), (3, fz_i tw), (4, fz_l sm), (6, fz_i x2), (8, fz_i y23), (9, fz_i y33)]) kL_law rfl (by decide) rfl (by omega) rfl ?_
                        refine fz_goto (tgt := 349) kL_law rfl (by decide) ?_
                        refine fz_sub (fz_pk_sub (ls' := [(7, fz_i (x9 + 1)), (6, fz_i x2), (0, fz_r 200), (1, fz_r 0), (2, fz_r 53), (3, fz_i tw), (4, fz_l sm)]) [0, 6, 1, 2, 3, 4, 5] rfl) ?_
                        exact ih12 (x9 + 1) (by omega) (by omega)
                      · exfalso; omega
                  · have k78 := wf_di0 hRV (x := x2) (y := x9) (by omega) (by omega)
                    have k79 := wf_di1 hRV (x := x2) (y := x9) (by omega) (by omega)
                    refine fz_iload kL_law rfl rfl ?_
                    refine fz_if_ne (tgt := 448) kL_law rfl (by decide) (fun c80 => ?_) (fun c80 => ?_)
                    · exfalso; omega
                    · refine fz_iload kL_law rfl rfl ?_
                      refine fz_if_ne (tgt := 448) kL_law rfl (by decide) (fun c81 => ?_) (fun c81 => ?_)
                      · exfalso; omega
                      · refine fz_iload kL_law rfl rfl ?_
                        refine fz_if_lt (tgt := 450) kL_law rfl (by decide) (fun c82 => ?_) (fun c82 => ?_)
                        · exfalso; omega
                        · have k83 := wf_feet hI hRV (a := x2) (b := x9) (by omega) (by omega) (by omega)
                          refine fz_iload kL_law rfl rfl ?_
                          refine fz_if_ge (tgt := 450) kL_law rfl (by decide) (fun c84 => ?_) (fun c84 => ?_)
                          · refine fz_sub (fz_pk_sub (ls' := [(0, fz_r 200), (1, fz_r 0), (2, fz_r 53), (3, fz_i tw), (4, fz_l sm), (6, fz_i x2), (7, fz_i x9), (8, fz_i y23), (9, fz_i y33)]) [4, 5, 6, 7, 8, 3, 2, 1, 0] rfl) ?_
                            refine sL_l450 h H tw sm x2 x9 y23 y33 hI hf hX hRE hRV hp0 (by omega) (by omega) (by omega) (by omega) (by omega) (k24) ?_
                            refine fz_iincN (ls' := [(7, fz_i (x9 + 1)), (0, fz_r 200), (1, fz_r 0), (2, fz_r 53), (3, fz_i tw), (4, fz_l sm), (6, fz_i x2), (8, fz_i y23), (9, fz_i y33)]) kL_law rfl (by decide) rfl (by omega) rfl ?_
                            refine fz_goto (tgt := 349) kL_law rfl (by decide) ?_
                            refine fz_sub (fz_pk_sub (ls' := [(7, fz_i (x9 + 1)), (6, fz_i x2), (0, fz_r 200), (1, fz_r 0), (2, fz_r 53), (3, fz_i tw), (4, fz_l sm)]) [0, 6, 1, 2, 3, 4, 5] rfl) ?_
                            exact ih12 (x9 + 1) (by omega) (by omega)
                          · exfalso; omega
        exact lp11 _ 0 (by omega) (Nat.lt_succ_self _)
  exact lp4 _ 0 (by omega) (Nat.lt_succ_self _)
