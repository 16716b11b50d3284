/-! ===== told ===== -/
noncomputable def td27 (g : fz_H) (s0 : Int) : Nat → Int
  | 0 => s0
  | k + 1 => (fz_wl ((fz_wl ((fz_wl ((fz_wl (31 * (td27 g s0 k))) + (a_of g (k : Int) 0))) + (3 * (a_way g (k : Int) 0)))) + (5 * (a_way g (k : Int) 1))))
theorem td27_s {g : fz_H} {s0 s k s' : Int} (e : s = td27 g s0 k.toNat) (h0 : 0 ≤ k) (e' : s' = (fz_wl ((fz_wl ((fz_wl ((fz_wl (31 * s)) + (a_of g k 0))) + (3 * (a_way g k 0)))) + (5 * (a_way g k 1))))) : s' = td27 g s0 (k + 1).toNat := by
  obtain ⟨n, rfl⟩ := Int.eq_ofNat_of_zero_le h0
  rw [e', e]
  rfl
noncomputable def td79 (g : fz_H) (s0 : Int) : Nat → Int
  | 0 => s0
  | k + 1 => (fz_wl ((fz_wl ((fz_wl (31 * (td79 g s0 k))) + (a_of g (k : Int) 1))) + (fz_w (3 * (a_of g (k : Int) 2)))))
theorem td79_s {g : fz_H} {s0 s k s' : Int} (e : s = td79 g s0 k.toNat) (h0 : 0 ≤ k) (e' : s' = (fz_wl ((fz_wl ((fz_wl (31 * s)) + (a_of g k 1))) + (fz_w (3 * (a_of g k 2)))))) : s' = td79 g s0 (k + 1).toNat := by
  obtain ⟨n, rfl⟩ := Int.eq_ofNat_of_zero_le h0
  rw [e', e]
  rfl
noncomputable def td121 (g : fz_H) (s0 : Int) : Nat → Int
  | 0 => s0
  | k + 1 => (fz_wl ((fz_wl ((fz_wl ((fz_wl ((fz_wl ((fz_wl ((fz_wl ((fz_wl ((fz_wl (31 * (td121 g s0 k))) + (a_of g (k : Int) 3))) + (fz_w (3 * (a_of g (k : Int) 4))))) + (fz_w (5 * (a_of g (k : Int) 5))))) + (fz_w (7 * (a_of g (k : Int) 9))))) + (fz_w (11 * (a_of g (k : Int) 10))))) + (13 * (a_news g (k : Int) (-1))))) + (17 * (a_news g (k : Int) 50)))) + (fz_wl (19 * (fz_wl (Int.tmod (a_garb g (k : Int) 0 0) 1000))))))
theorem td121_s {g : fz_H} {s0 s k s' : Int} (e : s = td121 g s0 k.toNat) (h0 : 0 ≤ k) (e' : s' = (fz_wl ((fz_wl ((fz_wl ((fz_wl ((fz_wl ((fz_wl ((fz_wl ((fz_wl ((fz_wl (31 * s)) + (a_of g k 3))) + (fz_w (3 * (a_of g k 4))))) + (fz_w (5 * (a_of g k 5))))) + (fz_w (7 * (a_of g k 9))))) + (fz_w (11 * (a_of g k 10))))) + (13 * (a_news g k (-1))))) + (17 * (a_news g k 50)))) + (fz_wl (19 * (fz_wl (Int.tmod (a_garb g k 0 0) 1000))))))) : s' = td121 g s0 (k + 1).toNat := by
  obtain ⟨n, rfl⟩ := Int.eq_ofNat_of_zero_le h0
  rw [e', e]
  rfl
noncomputable def td242 (g : fz_H) (s0 : Int) : Nat → Int
  | 0 => s0
  | k + 1 => (fz_wl ((fz_wl (31 * (td242 g s0 k))) + (a_of g (k : Int) 6)))
theorem td242_s {g : fz_H} {s0 s k s' : Int} (e : s = td242 g s0 k.toNat) (h0 : 0 ≤ k) (e' : s' = (fz_wl ((fz_wl (31 * s)) + (a_of g k 6)))) : s' = td242 g s0 (k + 1).toNat := by
  obtain ⟨n, rfl⟩ := Int.eq_ofNat_of_zero_le h0
  rw [e', e]
  rfl
noncomputable def td273 (g : fz_H) (s0 : Int) : Nat → Int
  | 0 => s0
  | k + 1 => if 0 < g 1 7 then (fz_wl ((fz_wl ((fz_wl ((fz_wl ((fz_wl (31 * (fz_wl ((fz_wl ((fz_wl ((fz_wl ((fz_wl ((fz_wl (31 * (td273 g s0 k))) + (a_of g (k : Int) 11))) + (fz_w (3 * (a_atH g (k : Int) 40 0))))) + (fz_w (5 * (a_atH g (k : Int) 40 1))))) + (fz_w (7 * (a_atH g (k : Int) 40 2))))) + (fz_w (11 * (a_free g (k : Int) 60 1))))))) + (a_recv g (k : Int) 30 0))) + (fz_w (3 * (a_home g (k : Int) 20 0))))) + (fz_w (5 * (a_alike g ((10 * (k : Int)) + (((k : Int) + 1) % 4)) 50 2))))) + (7 * (a_first g ((10 * (k : Int)) + 1) 5 0)))) else (fz_wl ((fz_wl ((fz_wl ((fz_wl ((fz_wl ((fz_wl (31 * (td273 g s0 k))) + (a_of g (k : Int) 11))) + (fz_w (3 * (a_atH g (k : Int) 40 0))))) + (fz_w (5 * (a_atH g (k : Int) 40 1))))) + (fz_w (7 * (a_atH g (k : Int) 40 2))))) + (fz_w (11 * (a_free g (k : Int) 60 1)))))
theorem td273_s2 {g : fz_H} {s0 s k s' : Int} (e : s = td273 g s0 k.toNat) (h0 : 0 ≤ k) (c : 0 < g 1 7) (e' : s' = (fz_wl ((fz_wl ((fz_wl ((fz_wl ((fz_wl (31 * (fz_wl ((fz_wl ((fz_wl ((fz_wl ((fz_wl ((fz_wl (31 * s)) + (a_of g k 11))) + (fz_w (3 * (a_atH g k 40 0))))) + (fz_w (5 * (a_atH g k 40 1))))) + (fz_w (7 * (a_atH g k 40 2))))) + (fz_w (11 * (a_free g k 60 1))))))) + (a_recv g k 30 0))) + (fz_w (3 * (a_home g k 20 0))))) + (fz_w (5 * (a_alike g ((10 * k) + ((k + 1) % 4)) 50 2))))) + (7 * (a_first g ((10 * k) + 1) 5 0))))) : s' = td273 g s0 (k + 1).toNat := by
  obtain ⟨n, rfl⟩ := Int.eq_ofNat_of_zero_le h0
  show s' = (if 0 < g 1 7 then (fz_wl ((fz_wl ((fz_wl ((fz_wl ((fz_wl (31 * (fz_wl ((fz_wl ((fz_wl ((fz_wl ((fz_wl ((fz_wl (31 * (td273 g s0 n))) + (a_of g (n : Int) 11))) + (fz_w (3 * (a_atH g (n : Int) 40 0))))) + (fz_w (5 * (a_atH g (n : Int) 40 1))))) + (fz_w (7 * (a_atH g (n : Int) 40 2))))) + (fz_w (11 * (a_free g (n : Int) 60 1))))))) + (a_recv g (n : Int) 30 0))) + (fz_w (3 * (a_home g (n : Int) 20 0))))) + (fz_w (5 * (a_alike g ((10 * (n : Int)) + (((n : Int) + 1) % 4)) 50 2))))) + (7 * (a_first g ((10 * (n : Int)) + 1) 5 0)))) else (fz_wl ((fz_wl ((fz_wl ((fz_wl ((fz_wl ((fz_wl (31 * (td273 g s0 n))) + (a_of g (n : Int) 11))) + (fz_w (3 * (a_atH g (n : Int) 40 0))))) + (fz_w (5 * (a_atH g (n : Int) 40 1))))) + (fz_w (7 * (a_atH g (n : Int) 40 2))))) + (fz_w (11 * (a_free g (n : Int) 60 1))))))
  rw [if_pos c, e', e]
  rfl
theorem td273_s1 {g : fz_H} {s0 s k s' : Int} (e : s = td273 g s0 k.toNat) (h0 : 0 ≤ k) (c : ¬ 0 < g 1 7) (e' : s' = (fz_wl ((fz_wl ((fz_wl ((fz_wl ((fz_wl ((fz_wl (31 * s)) + (a_of g k 11))) + (fz_w (3 * (a_atH g k 40 0))))) + (fz_w (5 * (a_atH g k 40 1))))) + (fz_w (7 * (a_atH g k 40 2))))) + (fz_w (11 * (a_free g k 60 1)))))) : s' = td273 g s0 (k + 1).toNat := by
  obtain ⟨n, rfl⟩ := Int.eq_ofNat_of_zero_le h0
  show s' = (if 0 < g 1 7 then (fz_wl ((fz_wl ((fz_wl ((fz_wl ((fz_wl (31 * (fz_wl ((fz_wl ((fz_wl ((fz_wl ((fz_wl ((fz_wl (31 * (td273 g s0 n))) + (a_of g (n : Int) 11))) + (fz_w (3 * (a_atH g (n : Int) 40 0))))) + (fz_w (5 * (a_atH g (n : Int) 40 1))))) + (fz_w (7 * (a_atH g (n : Int) 40 2))))) + (fz_w (11 * (a_free g (n : Int) 60 1))))))) + (a_recv g (n : Int) 30 0))) + (fz_w (3 * (a_home g (n : Int) 20 0))))) + (fz_w (5 * (a_alike g ((10 * (n : Int)) + (((n : Int) + 1) % 4)) 50 2))))) + (7 * (a_first g ((10 * (n : Int)) + 1) 5 0)))) else (fz_wl ((fz_wl ((fz_wl ((fz_wl ((fz_wl ((fz_wl (31 * (td273 g s0 n))) + (a_of g (n : Int) 11))) + (fz_w (3 * (a_atH g (n : Int) 40 0))))) + (fz_w (5 * (a_atH g (n : Int) 40 1))))) + (fz_w (7 * (a_atH g (n : Int) 40 2))))) + (fz_w (11 * (a_free g (n : Int) 60 1))))))
  rw [if_neg c, e', e]
  rfl
noncomputable def td433 (g : fz_H) (s0 : Int) : Nat → Int
  | 0 => s0
  | k + 1 => (fz_wl ((fz_wl (31 * (td433 g s0 k))) + (a_led g (k : Int))))
theorem td433_s {g : fz_H} {s0 s k s' : Int} (e : s = td433 g s0 k.toNat) (h0 : 0 ≤ k) (e' : s' = (fz_wl ((fz_wl (31 * s)) + (a_led g k)))) : s' = td433 g s0 (k + 1).toNat := by
  obtain ⟨n, rfl⟩ := Int.eq_ofNat_of_zero_le h0
  rw [e', e]
  rfl
noncomputable def st_td (g : fz_H) : Int := (fz_wl ((fz_wl ((fz_wl ((fz_wl (31 * (td433 g (td273 g (td242 g (td121 g (td79 g (td27 g 7 (g 1 7).toNat) (g 1 8).toNat) (g 9 5).toNat) 5) 4) 5))) + (a_of g 0 7))) + (fz_w (3 * (a_of g 0 8))))) + (fz_w (5 * (a_of g 0 12)))))
theorem st_td_e {g : fz_H} {s r : Int} (e : s = (td433 g (td273 g (td242 g (td121 g (td79 g (td27 g 7 (g 1 7).toNat) (g 1 8).toNat) (g 9 5).toNat) 5) 4) 5)) (e' : r = (fz_wl ((fz_wl ((fz_wl ((fz_wl (31 * s)) + (a_of g 0 7))) + (fz_w (3 * (a_of g 0 8))))) + (fz_w (5 * (a_of g 0 12)))))) : r = st_td g := by
  rw [e', e]
  rfl
abbrev qL_told (h : fz_H) : fz_H → Option fz_V → Prop := fun h' r0 => fz_Iv h' ∧ fz_fr [(18, 99999), (19, 99999), (29, 99999), (30, 99999), (32, 99999)] h h' ∧ ∃ r : Int, r0 = some (fz_l r) ∧ ((-9223372036854775808) ≤ r ∧ r ≤ 9223372036854775807) ∧ (r = st_td (fz_nm h))
set_option maxHeartbeats 1000000 in
set_option maxRecDepth 100000 in
theorem sL_told (h : fz_H) (hI : fz_Iv h) : fz_R 7 mL_told 0 [(0, fz_r 0)] [] h (qL_told h) := by
  have hf : fz_fr [(18, 99999), (19, 99999), (29, 99999), (30, 99999), (32, 99999)] h h := fz_fr_rf
  refine fz_ldc2 (x := 7) kL_told rfl rfl rfl ?_
  refine fz_lstore_n (ls' := [(1, fz_l 7), (0, fz_r 0)]) kL_told rfl (by decide) rfl ?_
  refine fz_aload_n kL_told rfl rfl ?_
  refine fz_iconst ⟨by decide, by decide⟩ kL_told rfl ?_
  have b1 : 0 ≤ h 1 7 ∧ h 1 7 ≤ 8 := hI.1 1 _
  have b2 : 0 ≤ h 1 8 ∧ h 1 8 ≤ 12 := hI.1 1 _
  have b3 : 0 ≤ h 9 5 ∧ h 9 5 ≤ 10 := hI.1 9 _
  have b4 : 0 ≤ h 20 2 ∧ h 20 2 ≤ 120 := hI.1 20 _
  have b5 : 0 ≤ h 35 4 ∧ h 35 4 ≤ 40 := hI.1 35 _
  have b6 : 0 ≤ h 44 2 ∧ h 44 2 ≤ 50 := hI.1 44 _
  have b7 : (-2147483648) ≤ h 44 3 ∧ h 44 3 ≤ 2147483647 := hI.1 44 _
  refine fz_callV (d' := 0) (M' := mX10_count) (As := [fz_i 0]) (st := []) kL_told rfl rfl vX10_count rfl rfl rfl rfl (Nat.le_of_ble_eq_true rfl) (Nat.le_of_ble_eq_true rfl) (by decide) (sX10_count h hI 0 ) (fun H8 r9 q10 o11 => ?_)
  obtain ⟨e12, y15, rfl, f13, f14⟩ := q10
  subst H8
  clear o11
  refine fz_istore_n (ls' := [(3, fz_i y15), (1, fz_l 7), (0, fz_r 0)]) kL_told rfl (by decide) rfl ?_
  refine fz_aload_n kL_told rfl rfl ?_
  refine fz_iconst ⟨by decide, by decide⟩ kL_told rfl ?_
  refine fz_callV (d' := 0) (M' := mX10_count) (As := [fz_i 1]) (st := []) kL_told rfl rfl vX10_count rfl rfl rfl rfl (Nat.le_of_ble_eq_true rfl) (Nat.le_of_ble_eq_true rfl) (by decide) (sX10_count h hI 1 ) (fun H16 r17 q18 o19 => ?_)
  obtain ⟨e20, y23, rfl, f21, f22⟩ := q18
  subst H16
  clear o19
  refine fz_istore (ls' := [(4, fz_i y23), (3, fz_i y15), (1, fz_l 7), (0, fz_r 0)]) kL_told rfl (by decide) rfl ?_
  refine fz_aload_n kL_told rfl rfl ?_
  refine fz_iconst ⟨by decide, by decide⟩ kL_told rfl ?_
  refine fz_callV (d' := 0) (M' := mX10_count) (As := [fz_i 2]) (st := []) kL_told rfl rfl vX10_count rfl rfl rfl rfl (Nat.le_of_ble_eq_true rfl) (Nat.le_of_ble_eq_true rfl) (by decide) (sX10_count h hI 2 ) (fun H24 r25 q26 o27 => ?_)
  obtain ⟨e28, y31, rfl, f29, f30⟩ := q26
  subst H24
  clear o27
  refine fz_istore (ls' := [(5, fz_i y31), (4, fz_i y23), (3, fz_i y15), (1, fz_l 7), (0, fz_r 0)]) kL_told rfl (by decide) rfl ?_
  refine fz_iconst ⟨by decide, by decide⟩ kL_told rfl ?_
  refine fz_istore (ls' := [(6, fz_i 0), (5, fz_i y31), (4, fz_i y23), (3, fz_i y15), (1, fz_l 7), (0, fz_r 0)]) kL_told rfl (by decide) rfl ?_
  have lp35 : ∀ (n34 : Nat) (x32 : Int) (x33 : Int), (0 ≤ x32 ∧ x32 ≤ 8) → ((-9223372036854775808) ≤ x33 ∧ x33 ≤ 9223372036854775807) → (x32 ≤ y15) → (x33 = td27 (fz_nm h) 7 (x32).toNat) → (y15 - x32).toNat < n34 → fz_R 7 mL_told 27 [(6, fz_i x32), (5, fz_i y31), (4, fz_i y23), (3, fz_i y15), (1, fz_l x33), (0, fz_r 0)] [] h (qL_told h) := by
    intro n34
    induction n34 with
    | zero => intro x32 x33 hv38 hv39 hv40 hv41 hm37; exact absurd hm37 (by omega)
    | succ n34 ih36 =>
      intro x32 x33 hv38 hv39 hv40 hv41 hm37
      refine fz_iload kL_told rfl rfl ?_
      refine fz_iload_n kL_told rfl rfl ?_
      refine fz_icmp_ge (tgt := 76) kL_told rfl (by decide) (fun c42 => ?_) (fun c42 => ?_)
      · refine fz_iconst ⟨by decide, by decide⟩ kL_told rfl ?_
        refine fz_istore (ls' := [(6, fz_i 0), (5, fz_i y31), (4, fz_i y23), (3, fz_i y15), (1, fz_l x33), (0, fz_r 0)]) kL_told rfl (by decide) rfl ?_
        have lp46 : ∀ (n45 : Nat) (x43 : Int) (x44 : Int), (0 ≤ x43 ∧ x43 ≤ 12) → ((-9223372036854775808) ≤ x44 ∧ x44 ≤ 9223372036854775807) → (x43 ≤ y23) → (x44 = td79 (fz_nm h) (td27 (fz_nm h) 7 (h 1 7).toNat) (x43).toNat) → (y23 - x43).toNat < n45 → fz_R 7 mL_told 79 [(6, fz_i x43), (5, fz_i y31), (4, fz_i y23), (3, fz_i y15), (1, fz_l x44), (0, fz_r 0)] [] h (qL_told h) := by
          intro n45
          induction n45 with
          | zero => intro x43 x44 hv49 hv50 hv51 hv52 hm48; exact absurd hm48 (by omega)
          | succ n45 ih47 =>
            intro x43 x44 hv49 hv50 hv51 hv52 hm48
            refine fz_iload kL_told rfl rfl ?_
            refine fz_iload kL_told rfl rfl ?_
            refine fz_icmp_ge (tgt := 118) kL_told rfl (by decide) (fun c53 => ?_) (fun c53 => ?_)
            · refine fz_iconst ⟨by decide, by decide⟩ kL_told rfl ?_
              refine fz_istore (ls' := [(6, fz_i 0), (5, fz_i y31), (4, fz_i y23), (3, fz_i y15), (1, fz_l x44), (0, fz_r 0)]) kL_told rfl (by decide) rfl ?_
              have lp60 : ∀ (n59 : Nat) (x54 : Int) (x55 : Int) (H56 : fz_H), fz_Iv H56 → fz_fr [(18, 99999), (19, 99999), (29, 99999), (30, 99999), (32, 99999)] h H56 → (0 ≤ x54 ∧ x54 ≤ 10) → ((-9223372036854775808) ≤ x55 ∧ x55 ≤ 9223372036854775807) → (x54 ≤ y31) → (x55 = td121 (fz_nm h) (td79 (fz_nm h) (td27 (fz_nm h) 7 (h 1 7).toNat) (h 1 8).toNat) (x54).toNat) → (y31 - x54).toNat < n59 → fz_R 7 mL_told 121 [(6, fz_i x54), (5, fz_i y31), (4, fz_i y23), (3, fz_i y15), (1, fz_l x55), (0, fz_r 0)] [] H56 (qL_told h) := by
                intro n59
                induction n59 with
                | zero => intro x54 x55 H56 hI57 hf58 hv63 hv64 hv65 hv66 hm62; exact absurd hm62 (by omega)
                | succ n59 ih61 =>
                  intro x54 x55 H56 hI57 hf58 hv63 hv64 hv65 hv66 hm62
                  refine fz_iload kL_told rfl rfl ?_
                  refine fz_iload kL_told rfl rfl ?_
                  refine fz_icmp_ge (tgt := 239) kL_told rfl (by decide) (fun c67 => ?_) (fun c67 => ?_)
                  · refine fz_iconst ⟨by decide, by decide⟩ kL_told rfl ?_
                    refine fz_istore (ls' := [(6, fz_i 0), (5, fz_i y31), (4, fz_i y23), (3, fz_i y15), (1, fz_l x55), (0, fz_r 0)]) kL_told rfl (by decide) rfl ?_
                    have lp71 : ∀ (n70 : Nat) (x68 : Int) (x69 : Int), (0 ≤ x68 ∧ x68 ≤ 5) → ((-9223372036854775808) ≤ x69 ∧ x69 ≤ 9223372036854775807) → (x68 ≤ 5) → (x69 = td242 (fz_nm h) (td121 (fz_nm h) (td79 (fz_nm h) (td27 (fz_nm h) 7 (h 1 7).toNat) (h 1 8).toNat) (h 9 5).toNat) (x68).toNat) → (5 - x68).toNat < n70 → fz_R 7 mL_told 242 [(6, fz_i x68), (5, fz_i y31), (4, fz_i y23), (3, fz_i y15), (1, fz_l x69), (0, fz_r 0)] [] H56 (qL_told h) := by
                      intro n70
                      induction n70 with
                      | zero => intro x68 x69 hv74 hv75 hv76 hv77 hm73; exact absurd hm73 (by omega)
                      | succ n70 ih72 =>
                        intro x68 x69 hv74 hv75 hv76 hv77 hm73
                        refine fz_iload kL_told rfl rfl ?_
                        refine fz_iconst ⟨by decide, by decide⟩ kL_told rfl ?_
                        refine fz_icmp_ge (tgt := 270) kL_told rfl (by decide) (fun c78 => ?_) (fun c78 => ?_)
                        · refine fz_iconst ⟨by decide, by decide⟩ kL_told rfl ?_
                          refine fz_istore (ls' := [(6, fz_i 0), (5, fz_i y31), (4, fz_i y23), (3, fz_i y15), (1, fz_l x69), (0, fz_r 0)]) kL_told rfl (by decide) rfl ?_
                          have lp85 : ∀ (n84 : Nat) (x79 : Int) (x80 : Int) (H81 : fz_H), fz_Iv H81 → fz_fr [(18, 99999), (19, 99999), (29, 99999), (30, 99999), (32, 99999)] h H81 → (0 ≤ x79 ∧ x79 ≤ 4) → ((-9223372036854775808) ≤ x80 ∧ x80 ≤ 9223372036854775807) → (x79 ≤ 4) → (x80 = td273 (fz_nm h) (td242 (fz_nm h) (td121 (fz_nm h) (td79 (fz_nm h) (td27 (fz_nm h) 7 (h 1 7).toNat) (h 1 8).toNat) (h 9 5).toNat) 5) (x79).toNat) → (4 - x79).toNat < n84 → fz_R 7 mL_told 273 [(6, fz_i x79), (5, fz_i y31), (4, fz_i y23), (3, fz_i y15), (1, fz_l x80), (0, fz_r 0)] [] H81 (qL_told h) := by
                            intro n84
                            induction n84 with
                            | zero => intro x79 x80 H81 hI82 hf83 hv88 hv89 hv90 hv91 hm87; exact absurd hm87 (by omega)
                            | succ n84 ih86 =>
                              intro x79 x80 H81 hI82 hf83 hv88 hv89 hv90 hv91 hm87
                              refine fz_iload kL_told rfl rfl ?_
                              refine fz_iconst ⟨by decide, by decide⟩ kL_told rfl ?_
                              refine fz_icmp_ge (tgt := 430) kL_told rfl (by decide) (fun c92 => ?_) (fun c92 => ?_)
                              · refine fz_iconst ⟨by decide, by decide⟩ kL_told rfl ?_
                                refine fz_istore (ls' := [(6, fz_i 0), (5, fz_i y31), (4, fz_i y23), (3, fz_i y15), (1, fz_l x80), (0, fz_r 0)]) kL_told rfl (by decide) rfl ?_
                                have lp96 : ∀ (n95 : Nat) (x93 : Int) (x94 : Int), (0 ≤ x93 ∧ x93 ≤ 5) → ((-9223372036854775808) ≤ x94 ∧ x94 ≤ 9223372036854775807) → (x93 ≤ 5) → (x94 = td433 (fz_nm h) (td273 (fz_nm h) (td242 (fz_nm h) (td121 (fz_nm h) (td79 (fz_nm h) (td27 (fz_nm h) 7 (h 1 7).toNat) (h 1 8).toNat) (h 9 5).toNat) 5) 4) (x93).toNat) → (5 - x93).toNat < n95 → fz_R 7 mL_told 433 [(6, fz_i x93), (5, fz_i y31), (4, fz_i y23), (3, fz_i y15), (1, fz_l x94), (0, fz_r 0)] [] H81 (qL_told h) := by
                                  intro n95
                                  induction n95 with
                                  | zero => intro x93 x94 hv99 hv100 hv101 hv102 hm98; exact absurd hm98 (by omega)
                                  | succ n95 ih97 =>
                                    intro x93 x94 hv99 hv100 hv101 hv102 hm98
                                    refine fz_iload kL_told rfl rfl ?_
                                    refine fz_iconst ⟨by decide, by decide⟩ kL_told rfl ?_
                                    refine fz_icmp_ge (tgt := 459) kL_told rfl (by decide) (fun c103 => ?_) (fun c103 => ?_)
                                    · refine fz_ldc2 (x := 31) kL_told rfl rfl rfl ?_
                                      refine fz_lload_n kL_told rfl rfl ?_
                                      refine fz_lmul kL_told rfl ?_
                                      have b104 := fz_wl_b (31 * x94)
                                      refine fz_aload_n kL_told rfl rfl ?_
                                      refine fz_iconst ⟨by decide, by decide⟩ kL_told rfl ?_
                                      refine fz_bipush ⟨by decide, by decide⟩ kL_told rfl ?_
                                      refine fz_callV (d' := 3) (M' := mX10_of) (As := [fz_i 0, fz_i 7]) (st := [fz_l (fz_wl (31 * x94))]) kL_told rfl rfl vX10_of rfl rfl rfl rfl (Nat.le_of_ble_eq_true rfl) (Nat.le_of_ble_eq_true rfl) (by decide) (sX10_of H81 hI82 0 7 ) (fun H105 r106 q107 o108 => ?_)
                                      obtain ⟨e109, y112, rfl, f110, f111⟩ := q107
                                      subst H105
                                      clear o108
                                      have k113 : y112 = a_of (fz_nm h) 0 7 := a_of_e (fz_nm_fr rfl hf83) f111
                                      refine fz_i2l kL_told rfl ?_
                                      refine fz_ladd kL_told rfl ?_
                                      have b115 := fz_wl_b ((fz_wl (31 * x94)) + y112)
                                      refine fz_iconst ⟨by decide, by decide⟩ kL_told rfl ?_
                                      refine fz_aload_n kL_told rfl rfl ?_
                                      refine fz_iconst ⟨by decide, by decide⟩ kL_told rfl ?_
                                      refine fz_bipush ⟨by decide, by decide⟩ kL_told rfl ?_
                                      refine fz_callV (d' := 3) (M' := mX10_of) (As := [fz_i 0, fz_i 8]) (st := [fz_i 3, fz_l (fz_wl ((fz_wl (31 * x94)) + y112))]) kL_told rfl rfl vX10_of rfl rfl rfl rfl (Nat.le_of_ble_eq_true rfl) (Nat.le_of_ble_eq_true rfl) (by decide) (sX10_of H81 hI82 0 8 ) (fun H116 r117 q118 o119 => ?_)
                                      obtain ⟨e120, y123, rfl, f121, f122⟩ := q118
                                      subst H116
                                      clear o119
                                      have k124 : y123 = a_of (fz_nm h) 0 8 := a_of_e (fz_nm_fr rfl hf83) f122
                                      refine fz_imul kL_told rfl ?_
                                      have b126 := fz_w_b (3 * y123)
                                      refine fz_i2l kL_told rfl ?_
                                      refine fz_ladd kL_told rfl ?_
                                      have b127 := fz_wl_b ((fz_wl ((fz_wl (31 * x94)) + y112)) + (fz_w (3 * y123)))
                                      refine fz_iconst ⟨by decide, by decide⟩ kL_told rfl ?_
                                      refine fz_aload_n kL_told rfl rfl ?_
                                      refine fz_iconst ⟨by decide, by decide⟩ kL_told rfl ?_
                                      refine fz_bipush ⟨by decide, by decide⟩ kL_told rfl ?_
                                      refine fz_callV (d' := 3) (M' := mX10_of) (As := [fz_i 0, fz_i 12]) (st := [fz_i 5, fz_l (fz_wl ((fz_wl ((fz_wl (31 * x94)) + y112)) + (fz_w (3 * y123))))]) kL_told rfl rfl vX10_of rfl rfl rfl rfl (Nat.le_of_ble_eq_true rfl) (Nat.le_of_ble_eq_true rfl) (by decide) (sX10_of H81 hI82 0 12 ) (fun H128 r129 q130 o131 => ?_)
                                      obtain ⟨e132, y135, rfl, f133, f134⟩ := q130
                                      subst H128
                                      clear o131
                                      have k136 : y135 = a_of (fz_nm h) 0 12 := a_of_e (fz_nm_fr rfl hf83) f134
                                      refine fz_imul kL_told rfl ?_
                                      have b138 := fz_w_b (5 * y135)
                                      refine fz_i2l kL_told rfl ?_
                                      refine fz_ladd kL_told rfl ?_
                                      have b139 := fz_wl_b ((fz_wl ((fz_wl ((fz_wl (31 * x94)) + y112)) + (fz_w (3 * y123)))) + (fz_w (5 * y135)))
                                      exact fz_lret kL_told rfl rfl (fun _ => ⟨hI82, hf83, _, rfl, (by omega), (by exact st_td_e (hv102.trans (congrArg (fun z : Int => td433 (fz_nm h) (td273 (fz_nm h) (td242 (fz_nm h) (td121 (fz_nm h) (td79 (fz_nm h) (td27 (fz_nm h) 7 (h 1 7).toNat) (h 1 8).toNat) (h 9 5).toNat) 5) 4) z.toNat) (show _ = (5 : Int) by omega))) (by rw [k113, k124, k136]))⟩)
                                    · refine fz_ldc2 (x := 31) kL_told rfl rfl rfl ?_
                                      refine fz_lload_n kL_told rfl rfl ?_
                                      refine fz_lmul kL_told rfl ?_
                                      have b141 := fz_wl_b (31 * x94)
                                      refine fz_aload_n kL_told rfl rfl ?_
                                      refine fz_iload kL_told rfl rfl ?_
                                      refine fz_callV (d' := 0) (M' := mX10_led) (As := [fz_i x93]) (st := [fz_l (fz_wl (31 * x94))]) kL_told rfl rfl vX10_led rfl rfl rfl rfl (Nat.le_of_ble_eq_true rfl) (Nat.le_of_ble_eq_true rfl) (by decide) (sX10_led H81 hI82 x93 ) (fun H142 r143 q144 o145 => ?_)
                                      obtain ⟨e146, y149, rfl, f147, f148⟩ := q144
                                      subst H142
                                      clear o145
                                      have k150 : y149 = a_led (fz_nm h) x93 := a_led_e (fz_nm_fr rfl hf83) f148
                                      refine fz_i2l kL_told rfl ?_
                                      refine fz_ladd kL_told rfl ?_
                                      have b152 := fz_wl_b ((fz_wl (31 * x94)) + y149)
                                      refine fz_lstore_n (ls' := [(1, fz_l (fz_wl ((fz_wl (31 * x94)) + y149))), (6, fz_i x93), (5, fz_i y31), (4, fz_i y23), (3, fz_i y15), (0, fz_r 0)]) kL_told rfl (by decide) rfl ?_
                                      refine fz_iincN (ls' := [(6, fz_i (x93 + 1)), (1, fz_l (fz_wl ((fz_wl (31 * x94)) + y149))), (5, fz_i y31), (4, fz_i y23), (3, fz_i y15), (0, fz_r 0)]) kL_told rfl (by decide) rfl (by omega) rfl ?_
                                      refine fz_goto (tgt := 433) kL_told rfl (by decide) ?_
                                      refine fz_sub (fz_pk_sub (ls' := [(6, fz_i (x93 + 1)), (5, fz_i y31), (4, fz_i y23), (3, fz_i y15), (1, fz_l (fz_wl ((fz_wl (31 * x94)) + y149))), (0, fz_r 0)]) [0, 2, 3, 4, 1, 5] rfl) ?_
                                      exact ih97 (x93 + 1) (fz_wl ((fz_wl (31 * x94)) + y149)) (by omega) (by omega) (by omega) (td433_s hv102 (by omega) (by rw [k150])) (by omega)
                                exact lp96 _ 0 x80 (by omega) (by omega) (by omega) (hv91.trans (congrArg (fun z : Int => td273 (fz_nm h) (td242 (fz_nm h) (td121 (fz_nm h) (td79 (fz_nm h) (td27 (fz_nm h) 7 (h 1 7).toNat) (h 1 8).toNat) (h 9 5).toNat) 5) z.toNat) (show _ = (4 : Int) by omega))) (Nat.lt_succ_self _)
                              · refine fz_ldc2 (x := 31) kL_told rfl rfl rfl ?_
                                refine fz_lload_n kL_told rfl rfl ?_
                                refine fz_lmul kL_told rfl ?_
                                have b155 := fz_wl_b (31 * x80)
                                refine fz_aload_n kL_told rfl rfl ?_
                                refine fz_iload kL_told rfl rfl ?_
                                refine fz_bipush ⟨by decide, by decide⟩ kL_told rfl ?_
                                refine fz_callV (d' := 3) (M' := mX10_of) (As := [fz_i x79, fz_i 11]) (st := [fz_l (fz_wl (31 * x80))]) kL_told rfl rfl vX10_of rfl rfl rfl rfl (Nat.le_of_ble_eq_true rfl) (Nat.le_of_ble_eq_true rfl) (by decide) (sX10_of H81 hI82 x79 11 ) (fun H156 r157 q158 o159 => ?_)
                                obtain ⟨e160, y163, rfl, f161, f162⟩ := q158
                                subst H156
                                clear o159
                                have k164 : y163 = a_of (fz_nm h) x79 11 := a_of_e (fz_nm_fr rfl hf83) f162
                                refine fz_i2l kL_told rfl ?_
                                refine fz_ladd kL_told rfl ?_
                                have b166 := fz_wl_b ((fz_wl (31 * x80)) + y163)
                                refine fz_iconst ⟨by decide, by decide⟩ kL_told rfl ?_
                                refine fz_aload_n kL_told rfl rfl ?_
                                refine fz_iload kL_told rfl rfl ?_
                                refine fz_bipush ⟨by decide, by decide⟩ kL_told rfl ?_
                                refine fz_iconst ⟨by decide, by decide⟩ kL_told rfl ?_
                                refine fz_callV (d' := 6) (M' := mX10_atHour) (As := [fz_i x79, fz_i 40, fz_i 0]) (st := [fz_i 3, fz_l (fz_wl ((fz_wl (31 * x80)) + y163))]) kL_told rfl rfl vX10_atHour rfl rfl rfl rfl (Nat.le_of_ble_eq_true rfl) (Nat.le_of_ble_eq_true rfl) (by decide) (sX10_atHour H81 hI82 x79 40 0 ) (fun H167 r168 q169 o170 => ?_)
                                obtain ⟨hI171, hf172, y175, rfl, f173, f174⟩ := q169
                                clear o170
                                have hf176 := fz_fr_tr hf83 hf172 (show fz_su [(18, 99999), (19, 99999), (29, 99999)] [(18, 99999), (19, 99999), (29, 99999), (30, 99999), (32, 99999)] = true from rfl)
                                have k177 : y175 = a_atH (fz_nm h) x79 40 0 := a_atH_e (fz_nm_fr rfl hf83) f174
                                refine fz_imul kL_told rfl ?_
                                have b179 := fz_w_b (3 * y175)
                                refine fz_i2l kL_told rfl ?_
                                refine fz_ladd kL_told rfl ?_
                                have b180 := fz_wl_b ((fz_wl ((fz_wl (31 * x80)) + y163)) + (fz_w (3 * y175)))
                                refine fz_iconst ⟨by decide, by decide⟩ kL_told rfl ?_
                                refine fz_aload_n kL_told rfl rfl ?_
                                refine fz_iload kL_told rfl rfl ?_
                                refine fz_bipush ⟨by decide, by decide⟩ kL_told rfl ?_
                                refine fz_iconst ⟨by decide, by decide⟩ kL_told rfl ?_
                                refine fz_callV (d' := 6) (M' := mX10_atHour) (As := [fz_i x79, fz_i 40, fz_i 1]) (st := [fz_i 5, fz_l (fz_wl ((fz_wl ((fz_wl (31 * x80)) + y163)) + (fz_w (3 * y175))))]) kL_told rfl rfl vX10_atHour rfl rfl rfl rfl (Nat.le_of_ble_eq_true rfl) (Nat.le_of_ble_eq_true rfl) (by decide) (sX10_atHour H167 hI171 x79 40 1 ) (fun H181 r182 q183 o184 => ?_)
                                obtain ⟨hI185, hf186, y189, rfl, f187, f188⟩ := q183
                                clear o184
                                have hf190 := fz_fr_tr hf176 hf186 (show fz_su [(18, 99999), (19, 99999), (29, 99999)] [(18, 99999), (19, 99999), (29, 99999), (30, 99999), (32, 99999)] = true from rfl)
                                have k191 : y189 = a_atH (fz_nm h) x79 40 1 := a_atH_e (fz_nm_fr rfl hf176) f188
                                refine fz_imul kL_told rfl ?_
                                have b193 := fz_w_b (5 * y189)
                                refine fz_i2l kL_told rfl ?_
                                refine fz_ladd kL_told rfl ?_
                                have b194 := fz_wl_b ((fz_wl ((fz_wl ((fz_wl (31 * x80)) + y163)) + (fz_w (3 * y175)))) + (fz_w (5 * y189)))
                                refine fz_bipush ⟨by decide, by decide⟩ kL_told rfl ?_
                                refine fz_aload_n kL_told rfl rfl ?_
                                refine fz_iload kL_told rfl rfl ?_
                                refine fz_bipush ⟨by decide, by decide⟩ kL_told rfl ?_
                                refine fz_iconst ⟨by decide, by decide⟩ kL_told rfl ?_
                                refine fz_callV (d' := 6) (M' := mX10_atHour) (As := [fz_i x79, fz_i 40, fz_i 2]) (st := [fz_i 7, fz_l (fz_wl ((fz_wl ((fz_wl ((fz_wl (31 * x80)) + y163)) + (fz_w (3 * y175)))) + (fz_w (5 * y189))))]) kL_told rfl rfl vX10_atHour rfl rfl rfl rfl (Nat.le_of_ble_eq_true rfl) (Nat.le_of_ble_eq_true rfl) (by decide) (sX10_atHour H181 hI185 x79 40 2 ) (fun H195 r196 q197 o198 => ?_)
                                obtain ⟨hI199, hf200, y203, rfl, f201, f202⟩ := q197
                                clear o198
                                have hf204 := fz_fr_tr hf190 hf200 (show fz_su [(18, 99999), (19, 99999), (29, 99999)] [(18, 99999), (19, 99999), (29, 99999), (30, 99999), (32, 99999)] = true from rfl)
                                have k205 : y203 = a_atH (fz_nm h) x79 40 2 := a_atH_e (fz_nm_fr rfl hf190) f202
                                refine fz_imul kL_told rfl ?_
                                have b207 := fz_w_b (7 * y203)
                                refine fz_i2l kL_told rfl ?_
                                refine fz_ladd kL_told rfl ?_
                                have b208 := fz_wl_b ((fz_wl ((fz_wl ((fz_wl ((fz_wl (31 * x80)) + y163)) + (fz_w (3 * y175)))) + (fz_w (5 * y189)))) + (fz_w (7 * y203)))
                                refine fz_bipush ⟨by decide, by decide⟩ kL_told rfl ?_
                                refine fz_aload_n kL_told rfl rfl ?_
                                refine fz_iload kL_told rfl rfl ?_
                                refine fz_bipush ⟨by decide, by decide⟩ kL_told rfl ?_
                                refine fz_iconst ⟨by decide, by decide⟩ kL_told rfl ?_
                                refine fz_callV (d' := 5) (M' := mX10_free) (As := [fz_i x79, fz_i 60, fz_i 1]) (st := [fz_i 11, fz_l (fz_wl ((fz_wl ((fz_wl ((fz_wl ((fz_wl (31 * x80)) + y163)) + (fz_w (3 * y175)))) + (fz_w (5 * y189)))) + (fz_w (7 * y203))))]) kL_told rfl rfl vX10_free rfl rfl rfl rfl (Nat.le_of_ble_eq_true rfl) (Nat.le_of_ble_eq_true rfl) (by decide) (sX10_free H195 hI199 x79 60 1 ) (fun H209 r210 q211 o212 => ?_)
                                obtain ⟨hI213, hf214, y217, rfl, f215, f216⟩ := q211
                                clear o212
                                have hf218 := fz_fr_tr hf204 hf214 (show fz_su [(18, 99999), (19, 99999)] [(18, 99999), (19, 99999), (29, 99999), (30, 99999), (32, 99999)] = true from rfl)
                                have k219 : y217 = a_free (fz_nm h) x79 60 1 := a_free_e (fz_nm_fr rfl hf204) f216
                                refine fz_imul kL_told rfl ?_
                                have b221 := fz_w_b (11 * y217)
                                refine fz_i2l kL_told rfl ?_
                                refine fz_ladd kL_told rfl ?_
                                have b222 := fz_wl_b ((fz_wl ((fz_wl ((fz_wl ((fz_wl ((fz_wl (31 * x80)) + y163)) + (fz_w (3 * y175)))) + (fz_w (5 * y189)))) + (fz_w (7 * y203)))) + (fz_w (11 * y217)))
                                refine fz_lstore_n (ls' := [(1, fz_l (fz_wl ((fz_wl ((fz_wl ((fz_wl ((fz_wl ((fz_wl (31 * x80)) + y163)) + (fz_w (3 * y175)))) + (fz_w (5 * y189)))) + (fz_w (7 * y203)))) + (fz_w (11 * y217))))), (6, fz_i x79), (5, fz_i y31), (4, fz_i y23), (3, fz_i y15), (0, fz_r 0)]) kL_told rfl (by decide) rfl ?_
                                refine fz_iload_n kL_told rfl rfl ?_
                                refine fz_if_le (tgt := 424) kL_told rfl (by decide) (fun c223 => ?_) (fun c223 => ?_)
                                · refine fz_iincN (ls' := [(6, fz_i (x79 + 1)), (1, fz_l (fz_wl ((fz_wl ((fz_wl ((fz_wl ((fz_wl ((fz_wl (31 * x80)) + y163)) + (fz_w (3 * y175)))) + (fz_w (5 * y189)))) + (fz_w (7 * y203)))) + (fz_w (11 * y217))))), (5, fz_i y31), (4, fz_i y23), (3, fz_i y15), (0, fz_r 0)]) kL_told rfl (by decide) rfl (by omega) rfl ?_
                                  refine fz_goto (tgt := 273) kL_told rfl (by decide) ?_
                                  refine fz_sub (fz_pk_sub (ls' := [(6, fz_i (x79 + 1)), (5, fz_i y31), (4, fz_i y23), (3, fz_i y15), (1, fz_l (fz_wl ((fz_wl ((fz_wl ((fz_wl ((fz_wl ((fz_wl (31 * x80)) + y163)) + (fz_w (3 * y175)))) + (fz_w (5 * y189)))) + (fz_w (7 * y203)))) + (fz_w (11 * y217))))), (0, fz_r 0)]) [0, 2, 3, 4, 1, 5] rfl) ?_
                                  exact ih86 (x79 + 1) (fz_wl ((fz_wl ((fz_wl ((fz_wl ((fz_wl ((fz_wl (31 * x80)) + y163)) + (fz_w (3 * y175)))) + (fz_w (5 * y189)))) + (fz_w (7 * y203)))) + (fz_w (11 * y217)))) H209 hI213 hf218 (by omega) (by omega) (by omega) (by first | exact td273_s2 hv91 (by omega) (by show 0 < h 1 7; omega) (by rw [k164, k177, k191, k205, k219, lost, lost, lost, lost]) | exact td273_s1 hv91 (by omega) (by show ¬ 0 < h 1 7; omega) (by rw [k164, k177, k191, k205, k219]) | omega) (by omega)
                                · refine fz_ldc2 (x := 31) kL_told rfl rfl rfl ?_
                                  refine fz_lload_n kL_told rfl rfl ?_
                                  refine fz_lmul kL_told rfl ?_
                                  have b225 := fz_wl_b (31 * (fz_wl ((fz_wl ((fz_wl ((fz_wl ((fz_wl ((fz_wl (31 * x80)) + y163)) + (fz_w (3 * y175)))) + (fz_w (5 * y189)))) + (fz_w (7 * y203)))) + (fz_w (11 * y217)))))
                                  refine fz_aload_n kL_told rfl rfl ?_
                                  refine fz_iload kL_told rfl rfl ?_
                                  refine fz_bipush ⟨by decide, by decide⟩ kL_told rfl ?_
                                  refine fz_iconst ⟨by decide, by decide⟩ kL_told rfl ?_
                                  refine fz_callV (d' := 5) (M' := mX10_received) (As := [fz_i x79, fz_i 30, fz_i 0]) (st := [fz_l (fz_wl (31 * (fz_wl ((fz_wl ((fz_wl ((fz_wl ((fz_wl ((fz_wl (31 * x80)) + y163)) + (fz_w (3 * y175)))) + (fz_w (5 * y189)))) + (fz_w (7 * y203)))) + (fz_w (11 * y217))))))]) kL_told rfl rfl vX10_received rfl rfl rfl rfl (Nat.le_of_ble_eq_true rfl) (Nat.le_of_ble_eq_true rfl) (by decide) (sX10_received H209 hI213 x79 30 0 ) (fun H226 r227 q228 o229 => ?_)
                                  obtain ⟨hI230, hf231, y234, rfl, f232, f233⟩ := q228
                                  clear o229
                                  have hf235 := fz_fr_tr hf218 hf231 (show fz_su [(18, 99999), (19, 99999), (29, 99999)] [(18, 99999), (19, 99999), (29, 99999), (30, 99999), (32, 99999)] = true from rfl)
                                  have k236 : y234 = a_recv (fz_nm h) x79 30 0 := a_recv_e (fz_nm_fr rfl hf218) f233
                                  refine fz_i2l kL_told rfl ?_
                                  refine fz_ladd kL_told rfl ?_
                                  have b238 := fz_wl_b ((fz_wl (31 * (fz_wl ((fz_wl ((fz_wl ((fz_wl ((fz_wl ((fz_wl (31 * x80)) + y163)) + (fz_w (3 * y175)))) + (fz_w (5 * y189)))) + (fz_w (7 * y203)))) + (fz_w (11 * y217)))))) + y234)
                                  refine fz_iconst ⟨by decide, by decide⟩ kL_told rfl ?_
                                  refine fz_aload_n kL_told rfl rfl ?_
                                  refine fz_iload kL_told rfl rfl ?_
                                  refine fz_bipush ⟨by decide, by decide⟩ kL_told rfl ?_
                                  refine fz_iconst ⟨by decide, by decide⟩ kL_told rfl ?_
                                  refine fz_callV (d' := 6) (M' := mX10_home) (As := [fz_i x79, fz_i 20, fz_i 0]) (st := [fz_i 3, fz_l (fz_wl ((fz_wl (31 * (fz_wl ((fz_wl ((fz_wl ((fz_wl ((fz_wl ((fz_wl (31 * x80)) + y163)) + (fz_w (3 * y175)))) + (fz_w (5 * y189)))) + (fz_w (7 * y203)))) + (fz_w (11 * y217)))))) + y234))]) kL_told rfl rfl vX10_home rfl rfl rfl rfl (Nat.le_of_ble_eq_true rfl) (Nat.le_of_ble_eq_true rfl) (by decide) (sX10_home H226 hI230 x79 20 0 ) (fun H239 r240 q241 o242 => ?_)
                                  obtain ⟨hI243, hf244, y247, rfl, f245, f246⟩ := q241
                                  clear o242
                                  have hf248 := fz_fr_tr hf235 hf244 (show fz_su [(18, 99999), (19, 99999), (29, 99999)] [(18, 99999), (19, 99999), (29, 99999), (30, 99999), (32, 99999)] = true from rfl)
                                  have k249 : y247 = a_home (fz_nm h) x79 20 0 := a_home_e (fz_nm_fr rfl hf235) f246
                                  refine fz_imul kL_told rfl ?_
                                  have b251 := fz_w_b (3 * y247)
                                  refine fz_i2l kL_told rfl ?_
                                  refine fz_ladd kL_told rfl ?_
                                  have b252 := fz_wl_b ((fz_wl ((fz_wl (31 * (fz_wl ((fz_wl ((fz_wl ((fz_wl ((fz_wl ((fz_wl (31 * x80)) + y163)) + (fz_w (3 * y175)))) + (fz_w (5 * y189)))) + (fz_w (7 * y203)))) + (fz_w (11 * y217)))))) + y234)) + (fz_w (3 * y247)))
                                  refine fz_iconst ⟨by decide, by decide⟩ kL_told rfl ?_
                                  refine fz_aload_n kL_told rfl rfl ?_
                                  refine fz_bipush ⟨by decide, by decide⟩ kL_told rfl ?_
                                  refine fz_iload kL_told rfl rfl ?_
                                  refine fz_imulN kL_told rfl (by omega) ?_
                                  refine fz_iload kL_told rfl rfl ?_
                                  refine fz_iconst ⟨by decide, by decide⟩ kL_told rfl ?_
                                  refine fz_iaddN kL_told rfl (by omega) ?_
                                  refine fz_iconst ⟨by decide, by decide⟩ kL_told rfl ?_
                                  refine fz_iremN kL_told rfl (by omega) (by omega) (by omega) ?_
                                  refine fz_iaddN kL_told rfl (by omega) ?_
                                  refine fz_bipush ⟨by decide, by decide⟩ kL_told rfl ?_
                                  refine fz_iconst ⟨by decide, by decide⟩ kL_told rfl ?_
                                  refine fz_callV (d' := 6) (M' := mX10_alike) (As := [fz_i ((10 * x79) + ((x79 + 1) % 4)), fz_i 50, fz_i 2]) (st := [fz_i 5, fz_l (fz_wl ((fz_wl ((fz_wl (31 * (fz_wl ((fz_wl ((fz_wl ((fz_wl ((fz_wl ((fz_wl (31 * x80)) + y163)) + (fz_w (3 * y175)))) + (fz_w (5 * y189)))) + (fz_w (7 * y203)))) + (fz_w (11 * y217)))))) + y234)) + (fz_w (3 * y247))))]) kL_told rfl rfl vX10_alike rfl rfl rfl rfl (Nat.le_of_ble_eq_true rfl) (Nat.le_of_ble_eq_true rfl) (by decide) (sX10_alike H239 hI243 ((10 * x79) + ((x79 + 1) % 4)) 50 2 ) (fun H253 r254 q255 o256 => ?_)
                                  obtain ⟨hI257, hf258, y261, rfl, f259, f260⟩ := q255
                                  clear o256
                                  have hf262 := fz_fr_tr hf248 hf258 (show fz_su [(18, 99999), (19, 99999), (29, 99999), (30, 99999)] [(18, 99999), (19, 99999), (29, 99999), (30, 99999), (32, 99999)] = true from rfl)
                                  have k263 : y261 = a_alike (fz_nm h) ((10 * x79) + ((x79 + 1) % 4)) 50 2 := a_alike_e (fz_nm_fr rfl hf248) f260
                                  refine fz_imul kL_told rfl ?_
                                  have b265 := fz_w_b (5 * y261)
                                  refine fz_i2l kL_told rfl ?_
                                  refine fz_ladd kL_told rfl ?_
                                  have b266 := fz_wl_b ((fz_wl ((fz_wl ((fz_wl (31 * (fz_wl ((fz_wl ((fz_wl ((fz_wl ((fz_wl ((fz_wl (31 * x80)) + y163)) + (fz_w (3 * y175)))) + (fz_w (5 * y189)))) + (fz_w (7 * y203)))) + (fz_w (11 * y217)))))) + y234)) + (fz_w (3 * y247)))) + (fz_w (5 * y261)))
                                  refine fz_bipush ⟨by decide, by decide⟩ kL_told rfl ?_
                                  refine fz_aload_n kL_told rfl rfl ?_
                                  refine fz_bipush ⟨by decide, by decide⟩ kL_told rfl ?_
                                  refine fz_iload kL_told rfl rfl ?_
                                  refine fz_imulN kL_told rfl (by omega) ?_
                                  refine fz_iconst ⟨by decide, by decide⟩ kL_told rfl ?_
                                  refine fz_iaddN kL_told rfl (by omega) ?_
                                  refine fz_iconst ⟨by decide, by decide⟩ kL_told rfl ?_
                                  refine fz_iconst ⟨by decide, by decide⟩ kL_told rfl ?_
                                  refine fz_callV (d' := 5) (M' := mX10_first) (As := [fz_i ((10 * x79) + 1), fz_i 5, fz_i 0]) (st := [fz_i 7, fz_l (fz_wl ((fz_wl ((fz_wl ((fz_wl (31 * (fz_wl ((fz_wl ((fz_wl ((fz_wl ((fz_wl ((fz_wl (31 * x80)) + y163)) + (fz_w (3 * y175)))) + (fz_w (5 * y189)))) + (fz_w (7 * y203)))) + (fz_w (11 * y217)))))) + y234)) + (fz_w (3 * y247)))) + (fz_w (5 * y261))))]) kL_told rfl rfl vX10_first rfl rfl rfl rfl (Nat.le_of_ble_eq_true rfl) (Nat.le_of_ble_eq_true rfl) (by decide) (sX10_first H253 hI257 ((10 * x79) + 1) 5 0 ) (fun H267 r268 q269 o270 => ?_)
                                  obtain ⟨hI271, hf272, y275, rfl, f273, f274⟩ := q269
                                  clear o270
                                  have hf276 := fz_fr_tr hf262 hf272 (show fz_su [(18, 99999), (19, 99999)] [(18, 99999), (19, 99999), (29, 99999), (30, 99999), (32, 99999)] = true from rfl)
                                  have k277 : y275 = a_first (fz_nm h) ((10 * x79) + 1) 5 0 := a_first_e (fz_nm_fr rfl hf262) f274
                                  refine fz_imulN kL_told rfl (by omega) ?_
                                  refine fz_i2l kL_told rfl ?_
                                  refine fz_ladd kL_told rfl ?_
                                  have b279 := fz_wl_b ((fz_wl ((fz_wl ((fz_wl ((fz_wl (31 * (fz_wl ((fz_wl ((fz_wl ((fz_wl ((fz_wl ((fz_wl (31 * x80)) + y163)) + (fz_w (3 * y175)))) + (fz_w (5 * y189)))) + (fz_w (7 * y203)))) + (fz_w (11 * y217)))))) + y234)) + (fz_w (3 * y247)))) + (fz_w (5 * y261)))) + (7 * y275))
                                  refine fz_lstore_n (ls' := [(1, fz_l (fz_wl ((fz_wl ((fz_wl ((fz_wl ((fz_wl (31 * (fz_wl ((fz_wl ((fz_wl ((fz_wl ((fz_wl ((fz_wl (31 * x80)) + y163)) + (fz_w (3 * y175)))) + (fz_w (5 * y189)))) + (fz_w (7 * y203)))) + (fz_w (11 * y217)))))) + y234)) + (fz_w (3 * y247)))) + (fz_w (5 * y261)))) + (7 * y275)))), (6, fz_i x79), (5, fz_i y31), (4, fz_i y23), (3, fz_i y15), (0, fz_r 0)]) kL_told rfl (by decide) rfl ?_
                                  refine fz_iincN (ls' := [(6, fz_i (x79 + 1)), (1, fz_l (fz_wl ((fz_wl ((fz_wl ((fz_wl ((fz_wl (31 * (fz_wl ((fz_wl ((fz_wl ((fz_wl ((fz_wl ((fz_wl (31 * x80)) + y163)) + (fz_w (3 * y175)))) + (fz_w (5 * y189)))) + (fz_w (7 * y203)))) + (fz_w (11 * y217)))))) + y234)) + (fz_w (3 * y247)))) + (fz_w (5 * y261)))) + (7 * y275)))), (5, fz_i y31), (4, fz_i y23), (3, fz_i y15), (0, fz_r 0)]) kL_told rfl (by decide) rfl (by omega) rfl ?_
                                  refine fz_goto (tgt := 273) kL_told rfl (by decide) ?_
                                  refine fz_sub (fz_pk_sub (ls' := [(6, fz_i (x79 + 1)), (5, fz_i y31), (4, fz_i y23), (3, fz_i y15), (1, fz_l (fz_wl ((fz_wl ((fz_wl ((fz_wl ((fz_wl (31 * (fz_wl ((fz_wl ((fz_wl ((fz_wl ((fz_wl ((fz_wl (31 * x80)) + y163)) + (fz_w (3 * y175)))) + (fz_w (5 * y189)))) + (fz_w (7 * y203)))) + (fz_w (11 * y217)))))) + y234)) + (fz_w (3 * y247)))) + (fz_w (5 * y261)))) + (7 * y275)))), (0, fz_r 0)]) [0, 2, 3, 4, 1, 5] rfl) ?_
                                  exact ih86 (x79 + 1) (fz_wl ((fz_wl ((fz_wl ((fz_wl ((fz_wl (31 * (fz_wl ((fz_wl ((fz_wl ((fz_wl ((fz_wl ((fz_wl (31 * x80)) + y163)) + (fz_w (3 * y175)))) + (fz_w (5 * y189)))) + (fz_w (7 * y203)))) + (fz_w (11 * y217)))))) + y234)) + (fz_w (3 * y247)))) + (fz_w (5 * y261)))) + (7 * y275))) H267 hI271 hf276 (by omega) (by omega) (by omega) (by first | exact td273_s2 hv91 (by omega) (by show 0 < h 1 7; omega) (by rw [k164, k177, k191, k205, k219, k236, k249, k263, k277]) | exact td273_s1 hv91 (by omega) (by show ¬ 0 < h 1 7; omega) (by rw [k164, k177, k191, k205, k219]) | omega) (by omega)
                          exact lp85 _ 0 x69 H56 hI57 hf58 (by omega) (by omega) (by omega) (hv77.trans (congrArg (fun z : Int => td242 (fz_nm h) (td121 (fz_nm h) (td79 (fz_nm h) (td27 (fz_nm h) 7 (h 1 7).toNat) (h 1 8).toNat) (h 9 5).toNat) z.toNat) (show _ = (5 : Int) by omega))) (Nat.lt_succ_self _)
                        · refine fz_ldc2 (x := 31) kL_told rfl rfl rfl ?_
                          refine fz_lload_n kL_told rfl rfl ?_
                          refine fz_lmul kL_told rfl ?_
                          have b282 := fz_wl_b (31 * x69)
                          refine fz_aload_n kL_told rfl rfl ?_
                          refine fz_iload kL_told rfl rfl ?_
                          refine fz_bipush ⟨by decide, by decide⟩ kL_told rfl ?_
                          refine fz_callV (d' := 3) (M' := mX10_of) (As := [fz_i x68, fz_i 6]) (st := [fz_l (fz_wl (31 * x69))]) kL_told rfl rfl vX10_of rfl rfl rfl rfl (Nat.le_of_ble_eq_true rfl) (Nat.le_of_ble_eq_true rfl) (by decide) (sX10_of H56 hI57 x68 6 ) (fun H283 r284 q285 o286 => ?_)
                          obtain ⟨e287, y290, rfl, f288, f289⟩ := q285
                          subst H283
                          clear o286
                          have k291 : y290 = a_of (fz_nm h) x68 6 := a_of_e (fz_nm_fr rfl hf58) f289
                          refine fz_i2l kL_told rfl ?_
                          refine fz_ladd kL_told rfl ?_
                          have b293 := fz_wl_b ((fz_wl (31 * x69)) + y290)
                          refine fz_lstore_n (ls' := [(1, fz_l (fz_wl ((fz_wl (31 * x69)) + y290))), (6, fz_i x68), (5, fz_i y31), (4, fz_i y23), (3, fz_i y15), (0, fz_r 0)]) kL_told rfl (by decide) rfl ?_
                          refine fz_iincN (ls' := [(6, fz_i (x68 + 1)), (1, fz_l (fz_wl ((fz_wl (31 * x69)) + y290))), (5, fz_i y31), (4, fz_i y23), (3, fz_i y15), (0, fz_r 0)]) kL_told rfl (by decide) rfl (by omega) rfl ?_
                          refine fz_goto (tgt := 242) kL_told rfl (by decide) ?_
                          refine fz_sub (fz_pk_sub (ls' := [(6, fz_i (x68 + 1)), (5, fz_i y31), (4, fz_i y23), (3, fz_i y15), (1, fz_l (fz_wl ((fz_wl (31 * x69)) + y290))), (0, fz_r 0)]) [0, 2, 3, 4, 1, 5] rfl) ?_
                          exact ih72 (x68 + 1) (fz_wl ((fz_wl (31 * x69)) + y290)) (by omega) (by omega) (by omega) (td242_s hv77 (by omega) (by rw [k291])) (by omega)
                    exact lp71 _ 0 x55 (by omega) (by omega) (by omega) (hv66.trans (congrArg (fun z : Int => td121 (fz_nm h) (td79 (fz_nm h) (td27 (fz_nm h) 7 (h 1 7).toNat) (h 1 8).toNat) z.toNat) (show _ = h 9 5 by omega))) (Nat.lt_succ_self _)
                  · refine fz_ldc2 (x := 31) kL_told rfl rfl rfl ?_
                    refine fz_lload_n kL_told rfl rfl ?_
                    refine fz_lmul kL_told rfl ?_
                    have b296 := fz_wl_b (31 * x55)
                    refine fz_aload_n kL_told rfl rfl ?_
                    refine fz_iload kL_told rfl rfl ?_
                    refine fz_iconst ⟨by decide, by decide⟩ kL_told rfl ?_
                    refine fz_callV (d' := 3) (M' := mX10_of) (As := [fz_i x54, fz_i 3]) (st := [fz_l (fz_wl (31 * x55))]) kL_told rfl rfl vX10_of rfl rfl rfl rfl (Nat.le_of_ble_eq_true rfl) (Nat.le_of_ble_eq_true rfl) (by decide) (sX10_of H56 hI57 x54 3 ) (fun H297 r298 q299 o300 => ?_)
                    obtain ⟨e301, y304, rfl, f302, f303⟩ := q299
                    subst H297
                    clear o300
                    have k305 : y304 = a_of (fz_nm h) x54 3 := a_of_e (fz_nm_fr rfl hf58) f303
                    refine fz_i2l kL_told rfl ?_
                    refine fz_ladd kL_told rfl ?_
                    have b307 := fz_wl_b ((fz_wl (31 * x55)) + y304)
                    refine fz_iconst ⟨by decide, by decide⟩ kL_told rfl ?_
                    refine fz_aload_n kL_told rfl rfl ?_
                    refine fz_iload kL_told rfl rfl ?_
                    refine fz_iconst ⟨by decide, by decide⟩ kL_told rfl ?_
                    refine fz_callV (d' := 3) (M' := mX10_of) (As := [fz_i x54, fz_i 4]) (st := [fz_i 3, fz_l (fz_wl ((fz_wl (31 * x55)) + y304))]) kL_told rfl rfl vX10_of rfl rfl rfl rfl (Nat.le_of_ble_eq_true rfl) (Nat.le_of_ble_eq_true rfl) (by decide) (sX10_of H56 hI57 x54 4 ) (fun H308 r309 q310 o311 => ?_)
                    obtain ⟨e312, y315, rfl, f313, f314⟩ := q310
                    subst H308
                    clear o311
                    have k316 : y315 = a_of (fz_nm h) x54 4 := a_of_e (fz_nm_fr rfl hf58) f314
                    refine fz_imul kL_told rfl ?_
                    have b318 := fz_w_b (3 * y315)
                    refine fz_i2l kL_told rfl ?_
                    refine fz_ladd kL_told rfl ?_
                    have b319 := fz_wl_b ((fz_wl ((fz_wl (31 * x55)) + y304)) + (fz_w (3 * y315)))
                    refine fz_iconst ⟨by decide, by decide⟩ kL_told rfl ?_
                    refine fz_aload_n kL_told rfl rfl ?_
                    refine fz_iload kL_told rfl rfl ?_
                    refine fz_iconst ⟨by decide, by decide⟩ kL_told rfl ?_
                    refine fz_callV (d' := 3) (M' := mX10_of) (As := [fz_i x54, fz_i 5]) (st := [fz_i 5, fz_l (fz_wl ((fz_wl ((fz_wl (31 * x55)) + y304)) + (fz_w (3 * y315))))]) kL_told rfl rfl vX10_of rfl rfl rfl rfl (Nat.le_of_ble_eq_true rfl) (Nat.le_of_ble_eq_true rfl) (by decide) (sX10_of H56 hI57 x54 5 ) (fun H320 r321 q322 o323 => ?_)
                    obtain ⟨e324, y327, rfl, f325, f326⟩ := q322
                    subst H320
                    clear o323
                    have k328 : y327 = a_of (fz_nm h) x54 5 := a_of_e (fz_nm_fr rfl hf58) f326
                    refine fz_imul kL_told rfl ?_
                    have b330 := fz_w_b (5 * y327)
                    refine fz_i2l kL_told rfl ?_
                    refine fz_ladd kL_told rfl ?_
                    have b331 := fz_wl_b ((fz_wl ((fz_wl ((fz_wl (31 * x55)) + y304)) + (fz_w (3 * y315)))) + (fz_w (5 * y327)))
                    refine fz_bipush ⟨by decide, by decide⟩ kL_told rfl ?_
                    refine fz_aload_n kL_told rfl rfl ?_
                    refine fz_iload kL_told rfl rfl ?_
                    refine fz_bipush ⟨by decide, by decide⟩ kL_told rfl ?_
                    refine fz_callV (d' := 3) (M' := mX10_of) (As := [fz_i x54, fz_i 9]) (st := [fz_i 7, fz_l (fz_wl ((fz_wl ((fz_wl ((fz_wl (31 * x55)) + y304)) + (fz_w (3 * y315)))) + (fz_w (5 * y327))))]) kL_told rfl rfl vX10_of rfl rfl rfl rfl (Nat.le_of_ble_eq_true rfl) (Nat.le_of_ble_eq_true rfl) (by decide) (sX10_of H56 hI57 x54 9 ) (fun H332 r333 q334 o335 => ?_)
                    obtain ⟨e336, y339, rfl, f337, f338⟩ := q334
                    subst H332
                    clear o335
                    have k340 : y339 = a_of (fz_nm h) x54 9 := a_of_e (fz_nm_fr rfl hf58) f338
                    refine fz_imul kL_told rfl ?_
                    have b342 := fz_w_b (7 * y339)
                    refine fz_i2l kL_told rfl ?_
                    refine fz_ladd kL_told rfl ?_
                    have b343 := fz_wl_b ((fz_wl ((fz_wl ((fz_wl ((fz_wl (31 * x55)) + y304)) + (fz_w (3 * y315)))) + (fz_w (5 * y327)))) + (fz_w (7 * y339)))
                    refine fz_bipush ⟨by decide, by decide⟩ kL_told rfl ?_
                    refine fz_aload_n kL_told rfl rfl ?_
                    refine fz_iload kL_told rfl rfl ?_
                    refine fz_bipush ⟨by decide, by decide⟩ kL_told rfl ?_
                    refine fz_callV (d' := 3) (M' := mX10_of) (As := [fz_i x54, fz_i 10]) (st := [fz_i 11, fz_l (fz_wl ((fz_wl ((fz_wl ((fz_wl ((fz_wl (31 * x55)) + y304)) + (fz_w (3 * y315)))) + (fz_w (5 * y327)))) + (fz_w (7 * y339))))]) kL_told rfl rfl vX10_of rfl rfl rfl rfl (Nat.le_of_ble_eq_true rfl) (Nat.le_of_ble_eq_true rfl) (by decide) (sX10_of H56 hI57 x54 10 ) (fun H344 r345 q346 o347 => ?_)
                    obtain ⟨e348, y351, rfl, f349, f350⟩ := q346
                    subst H344
                    clear o347
                    have k352 : y351 = a_of (fz_nm h) x54 10 := a_of_e (fz_nm_fr rfl hf58) f350
                    refine fz_imul kL_told rfl ?_
                    have b354 := fz_w_b (11 * y351)
                    refine fz_i2l kL_told rfl ?_
                    refine fz_ladd kL_told rfl ?_
                    have b355 := fz_wl_b ((fz_wl ((fz_wl ((fz_wl ((fz_wl ((fz_wl (31 * x55)) + y304)) + (fz_w (3 * y315)))) + (fz_w (5 * y327)))) + (fz_w (7 * y339)))) + (fz_w (11 * y351)))
                    refine fz_bipush ⟨by decide, by decide⟩ kL_told rfl ?_
                    refine fz_aload_n kL_told rfl rfl ?_
                    refine fz_iload kL_told rfl rfl ?_
                    refine fz_iconst ⟨by decide, by decide⟩ kL_told rfl ?_
                    have b356 : 0 ≤ h 9 5 ∧ h 9 5 ≤ 10 := hI.1 9 _
                    have b357 : 0 ≤ h 1 7 ∧ h 1 7 ≤ 8 := hI.1 1 _
                    have e358 : H56 9 5 = h 9 5 := hf58 9 5 rfl
                    have e359 : H56 1 7 = h 1 7 := hf58 1 7 rfl
                    refine fz_callV (d' := 2) (M' := mX10_news) (As := [fz_i x54, fz_i (-1)]) (st := [fz_i 13, fz_l (fz_wl ((fz_wl ((fz_wl ((fz_wl ((fz_wl ((fz_wl (31 * x55)) + y304)) + (fz_w (3 * y315)))) + (fz_w (5 * y327)))) + (fz_w (7 * y339)))) + (fz_w (11 * y351))))]) kL_told rfl rfl vX10_news rfl rfl rfl rfl (Nat.le_of_ble_eq_true rfl) (Nat.le_of_ble_eq_true rfl) (by decide) (sX10_news H56 hI57 x54 (-1) ) (fun H360 r361 q362 o363 => ?_)
                    obtain ⟨e364, y367, rfl, f365, f366⟩ := q362
                    subst H360
                    clear o363
                    have k368 : y367 = a_news (fz_nm h) x54 (-1) := a_news_e (fz_nm_fr rfl hf58) f366
                    refine fz_imulN kL_told rfl (by omega) ?_
                    refine fz_i2l kL_told rfl ?_
                    refine fz_ladd kL_told rfl ?_
                    have b370 := fz_wl_b ((fz_wl ((fz_wl ((fz_wl ((fz_wl ((fz_wl ((fz_wl (31 * x55)) + y304)) + (fz_w (3 * y315)))) + (fz_w (5 * y327)))) + (fz_w (7 * y339)))) + (fz_w (11 * y351)))) + (13 * y367))
                    refine fz_bipush ⟨by decide, by decide⟩ kL_told rfl ?_
                    refine fz_aload_n kL_told rfl rfl ?_
                    refine fz_iload kL_told rfl rfl ?_
                    refine fz_bipush ⟨by decide, by decide⟩ kL_told rfl ?_
                    refine fz_callV (d' := 2) (M' := mX10_news) (As := [fz_i x54, fz_i 50]) (st := [fz_i 17, fz_l (fz_wl ((fz_wl ((fz_wl ((fz_wl ((fz_wl ((fz_wl ((fz_wl (31 * x55)) + y304)) + (fz_w (3 * y315)))) + (fz_w (5 * y327)))) + (fz_w (7 * y339)))) + (fz_w (11 * y351)))) + (13 * y367)))]) kL_told rfl rfl vX10_news rfl rfl rfl rfl (Nat.le_of_ble_eq_true rfl) (Nat.le_of_ble_eq_true rfl) (by decide) (sX10_news H56 hI57 x54 50 ) (fun H371 r372 q373 o374 => ?_)
                    obtain ⟨e375, y378, rfl, f376, f377⟩ := q373
                    subst H371
                    clear o374
                    have k379 : y378 = a_news (fz_nm h) x54 50 := a_news_e (fz_nm_fr rfl hf58) f377
                    refine fz_imulN kL_told rfl (by omega) ?_
                    refine fz_i2l kL_told rfl ?_
                    refine fz_ladd kL_told rfl ?_
                    have b381 := fz_wl_b ((fz_wl ((fz_wl ((fz_wl ((fz_wl ((fz_wl ((fz_wl ((fz_wl (31 * x55)) + y304)) + (fz_w (3 * y315)))) + (fz_w (5 * y327)))) + (fz_w (7 * y339)))) + (fz_w (11 * y351)))) + (13 * y367))) + (17 * y378))
                    refine fz_ldc2 (x := 19) kL_told rfl rfl rfl ?_
                    refine fz_aload_n kL_told rfl rfl ?_
                    refine fz_iload kL_told rfl rfl ?_
                    refine fz_iconst ⟨by decide, by decide⟩ kL_told rfl ?_
                    refine fz_iconst ⟨by decide, by decide⟩ kL_told rfl ?_
                    refine fz_callV (d' := 2) (M' := mX10_garbled) (As := [fz_i x54, fz_i 0, fz_i 0]) (st := [fz_l 19, fz_l (fz_wl ((fz_wl ((fz_wl ((fz_wl ((fz_wl ((fz_wl ((fz_wl ((fz_wl (31 * x55)) + y304)) + (fz_w (3 * y315)))) + (fz_w (5 * y327)))) + (fz_w (7 * y339)))) + (fz_w (11 * y351)))) + (13 * y367))) + (17 * y378)))]) kL_told rfl rfl vX10_garbled rfl rfl rfl rfl (Nat.le_of_ble_eq_true rfl) (Nat.le_of_ble_eq_true rfl) (by decide) (sX10_garbled H56 hI57 x54 0 0 ) (fun H382 r383 q384 o385 => ?_)
                    obtain ⟨hI386, hf387, y390, rfl, f388, f389⟩ := q384
                    clear o385
                    have hf391 := fz_fr_tr hf58 hf387 (show fz_su [(32, 99999)] [(18, 99999), (19, 99999), (29, 99999), (30, 99999), (32, 99999)] = true from rfl)
                    have k392 : y390 = a_garb (fz_nm h) x54 0 0 := a_garb_e (fz_nm_fr rfl hf58) f389
                    refine fz_ldc2 (x := 1000) kL_told rfl rfl rfl ?_
                    refine fz_lrem (by omega) kL_told rfl ?_
                    have b394 := fz_wl_b (Int.tmod y390 1000)
                    have b395 := fl_tmod_b (x := y390) (y := 1000) (by omega) (by omega) (by omega)
                    refine fz_lmul kL_told rfl ?_
                    have b396 := fz_wl_b (19 * (fz_wl (Int.tmod y390 1000)))
                    refine fz_ladd kL_told rfl ?_
                    have b397 := fz_wl_b ((fz_wl ((fz_wl ((fz_wl ((fz_wl ((fz_wl ((fz_wl ((fz_wl ((fz_wl (31 * x55)) + y304)) + (fz_w (3 * y315)))) + (fz_w (5 * y327)))) + (fz_w (7 * y339)))) + (fz_w (11 * y351)))) + (13 * y367))) + (17 * y378))) + (fz_wl (19 * (fz_wl (Int.tmod y390 1000)))))
                    refine fz_lstore_n (ls' := [(1, fz_l (fz_wl ((fz_wl ((fz_wl ((fz_wl ((fz_wl ((fz_wl ((fz_wl ((fz_wl ((fz_wl (31 * x55)) + y304)) + (fz_w (3 * y315)))) + (fz_w (5 * y327)))) + (fz_w (7 * y339)))) + (fz_w (11 * y351)))) + (13 * y367))) + (17 * y378))) + (fz_wl (19 * (fz_wl (Int.tmod y390 1000))))))), (6, fz_i x54), (5, fz_i y31), (4, fz_i y23), (3, fz_i y15), (0, fz_r 0)]) kL_told rfl (by decide) rfl ?_
                    refine fz_iincN (ls' := [(6, fz_i (x54 + 1)), (1, fz_l (fz_wl ((fz_wl ((fz_wl ((fz_wl ((fz_wl ((fz_wl ((fz_wl ((fz_wl ((fz_wl (31 * x55)) + y304)) + (fz_w (3 * y315)))) + (fz_w (5 * y327)))) + (fz_w (7 * y339)))) + (fz_w (11 * y351)))) + (13 * y367))) + (17 * y378))) + (fz_wl (19 * (fz_wl (Int.tmod y390 1000))))))), (5, fz_i y31), (4, fz_i y23), (3, fz_i y15), (0, fz_r 0)]) kL_told rfl (by decide) rfl (by omega) rfl ?_
                    refine fz_goto (tgt := 121) kL_told rfl (by decide) ?_
                    refine fz_sub (fz_pk_sub (ls' := [(6, fz_i (x54 + 1)), (5, fz_i y31), (4, fz_i y23), (3, fz_i y15), (1, fz_l (fz_wl ((fz_wl ((fz_wl ((fz_wl ((fz_wl ((fz_wl ((fz_wl ((fz_wl ((fz_wl (31 * x55)) + y304)) + (fz_w (3 * y315)))) + (fz_w (5 * y327)))) + (fz_w (7 * y339)))) + (fz_w (11 * y351)))) + (13 * y367))) + (17 * y378))) + (fz_wl (19 * (fz_wl (Int.tmod y390 1000))))))), (0, fz_r 0)]) [0, 2, 3, 4, 1, 5] rfl) ?_
                    exact ih61 (x54 + 1) (fz_wl ((fz_wl ((fz_wl ((fz_wl ((fz_wl ((fz_wl ((fz_wl ((fz_wl ((fz_wl (31 * x55)) + y304)) + (fz_w (3 * y315)))) + (fz_w (5 * y327)))) + (fz_w (7 * y339)))) + (fz_w (11 * y351)))) + (13 * y367))) + (17 * y378))) + (fz_wl (19 * (fz_wl (Int.tmod y390 1000)))))) H382 hI386 hf391 (by omega) (by omega) (by omega) (td121_s hv66 (by omega) (by rw [k305, k316, k328, k340, k352, k368, k379, k392])) (by omega)
              exact lp60 _ 0 x44 h hI hf (by omega) (by omega) (by omega) (hv52.trans (congrArg (fun z : Int => td79 (fz_nm h) (td27 (fz_nm h) 7 (h 1 7).toNat) z.toNat) (show _ = h 1 8 by omega))) (Nat.lt_succ_self _)
            · refine fz_ldc2 (x := 31) kL_told rfl rfl rfl ?_
              refine fz_lload_n kL_told rfl rfl ?_
              refine fz_lmul kL_told rfl ?_
              have b400 := fz_wl_b (31 * x44)
              refine fz_aload_n kL_told rfl rfl ?_
              refine fz_iload kL_told rfl rfl ?_
              refine fz_iconst ⟨by decide, by decide⟩ kL_told rfl ?_
              refine fz_callV (d' := 3) (M' := mX10_of) (As := [fz_i x43, fz_i 1]) (st := [fz_l (fz_wl (31 * x44))]) kL_told rfl rfl vX10_of rfl rfl rfl rfl (Nat.le_of_ble_eq_true rfl) (Nat.le_of_ble_eq_true rfl) (by decide) (sX10_of h hI x43 1 ) (fun H401 r402 q403 o404 => ?_)
              obtain ⟨e405, y408, rfl, f406, f407⟩ := q403
              subst H401
              clear o404
              have k409 : y408 = a_of (fz_nm h) x43 1 := a_of_e (fz_nm_fr rfl hf) f407
              refine fz_i2l kL_told rfl ?_
              refine fz_ladd kL_told rfl ?_
              have b411 := fz_wl_b ((fz_wl (31 * x44)) + y408)
              refine fz_iconst ⟨by decide, by decide⟩ kL_told rfl ?_
              refine fz_aload_n kL_told rfl rfl ?_
              refine fz_iload kL_told rfl rfl ?_
              refine fz_iconst ⟨by decide, by decide⟩ kL_told rfl ?_
              refine fz_callV (d' := 3) (M' := mX10_of) (As := [fz_i x43, fz_i 2]) (st := [fz_i 3, fz_l (fz_wl ((fz_wl (31 * x44)) + y408))]) kL_told rfl rfl vX10_of rfl rfl rfl rfl (Nat.le_of_ble_eq_true rfl) (Nat.le_of_ble_eq_true rfl) (by decide) (sX10_of h hI x43 2 ) (fun H412 r413 q414 o415 => ?_)
              obtain ⟨e416, y419, rfl, f417, f418⟩ := q414
              subst H412
              clear o415
              have k420 : y419 = a_of (fz_nm h) x43 2 := a_of_e (fz_nm_fr rfl hf) f418
              refine fz_imul kL_told rfl ?_
              have b422 := fz_w_b (3 * y419)
              refine fz_i2l kL_told rfl ?_
              refine fz_ladd kL_told rfl ?_
              have b423 := fz_wl_b ((fz_wl ((fz_wl (31 * x44)) + y408)) + (fz_w (3 * y419)))
              refine fz_lstore_n (ls' := [(1, fz_l (fz_wl ((fz_wl ((fz_wl (31 * x44)) + y408)) + (fz_w (3 * y419))))), (6, fz_i x43), (5, fz_i y31), (4, fz_i y23), (3, fz_i y15), (0, fz_r 0)]) kL_told rfl (by decide) rfl ?_
              refine fz_iincN (ls' := [(6, fz_i (x43 + 1)), (1, fz_l (fz_wl ((fz_wl ((fz_wl (31 * x44)) + y408)) + (fz_w (3 * y419))))), (5, fz_i y31), (4, fz_i y23), (3, fz_i y15), (0, fz_r 0)]) kL_told rfl (by decide) rfl (by omega) rfl ?_
              refine fz_goto (tgt := 79) kL_told rfl (by decide) ?_
              refine fz_sub (fz_pk_sub (ls' := [(6, fz_i (x43 + 1)), (5, fz_i y31), (4, fz_i y23), (3, fz_i y15), (1, fz_l (fz_wl ((fz_wl ((fz_wl (31 * x44)) + y408)) + (fz_w (3 * y419))))), (0, fz_r 0)]) [0, 2, 3, 4, 1, 5] rfl) ?_
              exact ih47 (x43 + 1) (fz_wl ((fz_wl ((fz_wl (31 * x44)) + y408)) + (fz_w (3 * y419)))) (by omega) (by omega) (by omega) (td79_s hv52 (by omega) (by rw [k409, k420])) (by omega)
        exact lp46 _ 0 x33 (by omega) (by omega) (by omega) (hv41.trans (congrArg (fun z : Int => td27 (fz_nm h) 7 z.toNat) (show _ = h 1 7 by omega))) (Nat.lt_succ_self _)
      · refine fz_ldc2 (x := 31) kL_told rfl rfl rfl ?_
        refine fz_lload_n kL_told rfl rfl ?_
        refine fz_lmul kL_told rfl ?_
        have b426 := fz_wl_b (31 * x33)
        refine fz_aload_n kL_told rfl rfl ?_
        refine fz_iload kL_told rfl rfl ?_
        refine fz_iconst ⟨by decide, by decide⟩ kL_told rfl ?_
        refine fz_callV (d' := 3) (M' := mX10_of) (As := [fz_i x32, fz_i 0]) (st := [fz_l (fz_wl (31 * x33))]) kL_told rfl rfl vX10_of rfl rfl rfl rfl (Nat.le_of_ble_eq_true rfl) (Nat.le_of_ble_eq_true rfl) (by decide) (sX10_of h hI x32 0 ) (fun H427 r428 q429 o430 => ?_)
        obtain ⟨e431, y434, rfl, f432, f433⟩ := q429
        subst H427
        clear o430
        have k435 : y434 = a_of (fz_nm h) x32 0 := a_of_e (fz_nm_fr rfl hf) f433
        refine fz_i2l kL_told rfl ?_
        refine fz_ladd kL_told rfl ?_
        have b437 := fz_wl_b ((fz_wl (31 * x33)) + y434)
        refine fz_iconst ⟨by decide, by decide⟩ kL_told rfl ?_
        refine fz_aload_n kL_told rfl rfl ?_
        refine fz_iload kL_told rfl rfl ?_
        refine fz_iconst ⟨by decide, by decide⟩ kL_told rfl ?_
        refine fz_callV (d' := 2) (M' := mX10_way) (As := [fz_i x32, fz_i 0]) (st := [fz_i 3, fz_l (fz_wl ((fz_wl (31 * x33)) + y434))]) kL_told rfl rfl vX10_way rfl rfl rfl rfl (Nat.le_of_ble_eq_true rfl) (Nat.le_of_ble_eq_true rfl) (by decide) (sX10_way h hI x32 0 ) (fun H438 r439 q440 o441 => ?_)
        obtain ⟨e442, y445, rfl, f443, f444⟩ := q440
        subst H438
        clear o441
        have k446 : y445 = a_way (fz_nm h) x32 0 := a_way_e (fz_nm_fr rfl hf) f444
        refine fz_imulN kL_told rfl (by omega) ?_
        refine fz_i2l kL_told rfl ?_
        refine fz_ladd kL_told rfl ?_
        have b448 := fz_wl_b ((fz_wl ((fz_wl (31 * x33)) + y434)) + (3 * y445))
        refine fz_iconst ⟨by decide, by decide⟩ kL_told rfl ?_
        refine fz_aload_n kL_told rfl rfl ?_
        refine fz_iload kL_told rfl rfl ?_
        refine fz_iconst ⟨by decide, by decide⟩ kL_told rfl ?_
        refine fz_callV (d' := 2) (M' := mX10_way) (As := [fz_i x32, fz_i 1]) (st := [fz_i 5, fz_l (fz_wl ((fz_wl ((fz_wl (31 * x33)) + y434)) + (3 * y445)))]) kL_told rfl rfl vX10_way rfl rfl rfl rfl (Nat.le_of_ble_eq_true rfl) (Nat.le_of_ble_eq_true rfl) (by decide) (sX10_way h hI x32 1 ) (fun H449 r450 q451 o452 => ?_)
        obtain ⟨e453, y456, rfl, f454, f455⟩ := q451
        subst H449
        clear o452
        have k457 : y456 = a_way (fz_nm h) x32 1 := a_way_e (fz_nm_fr rfl hf) f455
        refine fz_imulN kL_told rfl (by omega) ?_
        refine fz_i2l kL_told rfl ?_
        refine fz_ladd kL_told rfl ?_
        have b459 := fz_wl_b ((fz_wl ((fz_wl ((fz_wl (31 * x33)) + y434)) + (3 * y445))) + (5 * y456))
        refine fz_lstore_n (ls' := [(1, fz_l (fz_wl ((fz_wl ((fz_wl ((fz_wl (31 * x33)) + y434)) + (3 * y445))) + (5 * y456)))), (6, fz_i x32), (5, fz_i y31), (4, fz_i y23), (3, fz_i y15), (0, fz_r 0)]) kL_told rfl (by decide) rfl ?_
        refine fz_iincN (ls' := [(6, fz_i (x32 + 1)), (1, fz_l (fz_wl ((fz_wl ((fz_wl ((fz_wl (31 * x33)) + y434)) + (3 * y445))) + (5 * y456)))), (5, fz_i y31), (4, fz_i y23), (3, fz_i y15), (0, fz_r 0)]) kL_told rfl (by decide) rfl (by omega) rfl ?_
        refine fz_goto (tgt := 27) kL_told rfl (by decide) ?_
        refine fz_sub (fz_pk_sub (ls' := [(6, fz_i (x32 + 1)), (5, fz_i y31), (4, fz_i y23), (3, fz_i y15), (1, fz_l (fz_wl ((fz_wl ((fz_wl ((fz_wl (31 * x33)) + y434)) + (3 * y445))) + (5 * y456)))), (0, fz_r 0)]) [0, 2, 3, 4, 1, 5] rfl) ?_
        exact ih36 (x32 + 1) (fz_wl ((fz_wl ((fz_wl ((fz_wl (31 * x33)) + y434)) + (3 * y445))) + (5 * y456))) (by omega) (by omega) (by omega) (td27_s hv41 (by omega) (by rw [k435, k446, k457])) (by omega)
  exact lp35 _ 0 7 (by omega) (by omega) (by omega) (rfl) (Nat.lt_succ_self _)
