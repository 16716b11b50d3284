/-! ===== cells that stay ===== -/
def fl_lK : List Nat := [54, 55, 56, 57, 58, 59, 60, 61, 62, 63, 64, 66, 67, 68, 69]
def fl_l53 : List Nat := [99999, 0, 2, 8, 10, 18, 19]
/-- without the deeds -/
def fl_lJ : List Nat := [54, 55, 56, 57, 58, 59, 66, 67, 68, 69]
def fl_j53 : List Nat := [99999, 0, 2, 8, 18, 19]
def fl_okG (K L : List Nat) (S : List (Nat × Nat)) : Bool := S.all (fun q => !(K.any (Nat.beq q.1)) && !(Nat.beq q.1 53 && L.any (Nat.beq q.2)))
abbrev fl_okS (S : List (Nat × Nat)) : Bool := fl_okG fl_lK fl_l53 S
abbrev fl_okJ (S : List (Nat × Nat)) : Bool := fl_okG fl_lJ fl_j53 S
theorem fl_okG_c {K L : List Nat} {S : List (Nat × Nat)} {h H : fz_H} (f : fz_fr S h H) (hs : fl_okG K L S = true) {c : Nat} (hc : K.any (fun x => Nat.beq c x) = true) : H c = h c := by
  have a : S.all (fun q => !(K.any (Nat.beq q.1))) = true := List.all_eq_true.mpr (fun q hq => by
    have := List.all_eq_true.mp hs q hq
    rw [Bool.and_eq_true] at this
    exact this.1)
  exact funext fun s => fl_fr_c f a hc
theorem fl_okG_s {K L : List Nat} {S : List (Nat × Nat)} {h H : fz_H} (f : fz_fr S h H) (hs : fl_okG K L S = true) {s : Nat} (hl : L.any (fun x => Nat.beq s x) = true) (h9 : L.any (fun x => Nat.beq 99999 x) = true) : H 53 s = h 53 s := by
  refine f 53 s ?_
  cases hm : fz_me S 53 s with
  | false => rfl
  | true =>
    exfalso
    obtain ⟨q, hq, h1⟩ := List.any_eq_true.mp hm
    have h2 := List.all_eq_true.mp hs q hq
    rw [Bool.and_eq_true] at h1 h2
    have e := Nat.eq_of_beq_eq_true h1.1
    have key : L.any (Nat.beq q.2) = true := by
      have h4 := h1.2
      rw [Bool.or_eq_true] at h4
      rcases h4 with z | z
      · rw [Nat.eq_of_beq_eq_true z]; exact h9
      · rw [Nat.eq_of_beq_eq_true z]; exact hl
    have h3 := h2.2
    rw [e, key] at h3
    exact absurd h3 (by decide)
/-! ===== a deed only thought of ===== -/
noncomputable def fl_hxM (h : fz_H) (a ho t : Int) : Int := fz_hh (fz_hr (fl_fm (fz_EM h 1) (h 53 0).toNat a.toNat t.toNat)) ho (h 54 t.toNat)
noncomputable def fl_lxM (h : fz_H) (a ho w m pe t hr : Int) : Int := if fl_hxM h a ho t = -2 ∨ hr < fl_hxM h a ho t then 0 else fl_vM h w (hr - fl_hxM h a ho t) (fl_hxM h a ho t - ho) m t pe
def fl_hxC (h : fz_H) (a ho t : Int) : Int := fz_hh (fz_hr (h 8 (8 * a + t).toNat)) ho (h 2 t.toNat)
def fl_lxC (h : fz_H) (a ho w m on t hr : Int) : Int := if fl_hxC h a ho t < 0 ∨ hr < fl_hxC h a ho t then 0 else fl_vC h w (hr - fl_hxC h a ho t) (fl_hxC h a ho t - ho) m t on
theorem fl_ldC_x {h : fz_H} {on t hr d : Int} : fl_ldC h on t hr d = fl_lxC h (h 11 d.toNat) (h 12 d.toNat) (h 14 d.toNat) (h 13 d.toNat) on t hr := rfl
theorem fl_ldM_x {h : fz_H} {pe t hr d : Int} : fl_ldM h pe t hr d = fl_lxM h (h 61 d.toNat) (h 62 d.toNat) (h 64 d.toNat) (h 63 d.toNat) pe t hr := rfl
theorem fl_lx_eq {h : fz_H} {a ho w m p t hr : Int} (R : fl_Rl h) (ha : 0 ≤ a ∧ a < h 1 7) (ho0 : 0 ≤ ho) (ht : 0 ≤ t ∧ t < h 1 7) : fl_lxC h a ho w m p t hr = fl_lxM h a ho w m p t hr := by
  obtain ⟨U, V, r5, r6, r3, r4, r2, hL, hP, hW, n2, n0, n9, b11, b12, b2⟩ := R
  have e : fl_hxC h a ho t = fl_hxM h a ho t := fl_ha_eq V r5 r6 r3 r4 r2 n2 n0 ha ht
  have x2 := b2 t.toNat
  unfold fl_lxC fl_lxM
  rw [e, U]
  by_cases c : fl_hxM h a ho t = -2
  · rw [if_pos (by omega), if_pos (by omega)]
  · have c2 : 0 ≤ fl_hxM h a ho t := by
      rw [← e]
      rw [← e] at c
      unfold fl_hxC fz_hh at *
      by_cases q : fz_hr (h 8 (8 * a + t).toNat) < 0
      · rw [if_pos q] at c; exact absurd rfl c
      · rw [if_neg q]; omega
    by_cases c3 : hr < fl_hxM h a ho t
    · rw [if_pos (by omega), if_pos (by omega)]
    · rw [if_neg (by omega), if_neg (by omega)]
/-! ===== what is heard stands in the table ===== -/
def fl_HTh (h H : fz_H) : Prop := fl_HT h H (h 53 10)
theorem fl_HTh_eq {h H H2 : fz_H} (e88 : H2 88 = H 88) (T : fl_HTh h H) : fl_HTh h H2 := fun d t hd ht => by
  rw [e88]
  exact T d t hd ht
theorem fl_HTh_lo {h H H2 : fz_H} (T : fl_HTh h H) (o : ∀ s : Nat, s < 8 * (H 53 10).toNat → H2 88 s = H 88 s) (e10 : H 53 10 = h 53 10) (h8 : h 53 0 ≤ 8) : fl_HTh h H2 := fun d t hd ht => by
  rw [o _ (by rw [e10]; omega)]
  exact T d t hd ht
theorem fl_ST_fH {S : List (Nat × Nat)} {h H : fz_H} {pe m t hr : Int} (f : fz_fr S h H) (hs : fl_okS S = true) (T : fl_HTh h H) (ht : 0 ≤ t ∧ t < h 53 0) : fl_ST H pe m t hr = fl_SM h pe m t hr :=
  fl_ST_HT T (fl_okG_c f hs rfl) (fl_okG_c f hs rfl) (fl_okG_c f hs rfl) (fl_okG_c f hs rfl) (fl_okG_c f hs rfl) (fl_okG_c f hs rfl) (fl_okG_c f hs rfl) (fl_okG_c f hs rfl) (fl_okG_s f hs rfl rfl) (fl_okG_s f hs rfl rfl) (fl_okG_s f hs rfl rfl) ht
/-- marks said, reception -/
def fl_uC (h : fz_H) (on t hr : Int) : Int := fl_ms (fun m : Nat => fl_SC h on on (m : Int) t hr) 5
noncomputable def fl_uM (h : fz_H) (on t hr : Int) : Int := fl_ms (fun m : Nat => fl_SM h on (m : Int) t hr) 5
def fl_reC (h : fz_H) (on hr t : Int) : Int := fl_rp (fun m : Nat => fl_SC h on on (m : Int) t hr) (h 28) 5
noncomputable def fl_reM (h : fz_H) (on hr t : Int) : Int := fl_rp (fun m : Nat => fl_SM h on (m : Int) t hr) (h 59) 5
theorem fl_uC_in {h Hb H : fz_H} {on t hr y : Int} (hs : fl_SC Hb = fl_SC h) (vo : ∀ m : Nat, m < 5 → H 29 m = fl_SC Hb on on m t hr) (mk : y = fl_ms (H 29) 5) : y = fl_uC h on t hr := mk.trans (fl_ms_eq (fun k hk => by rw [vo k hk, hs]))
theorem fl_reC_in {h Hb H : fz_H} {on t hr y : Int} (hs : fl_SC Hb = fl_SC h) (vo : ∀ m : Nat, m < 5 → H 29 m = fl_SC Hb on on m t hr) (e28 : H 28 = h 28) (rc : y = fl_rp (H 29) (H 28) 5) : y = fl_reC h on hr t := rc.trans (fl_rp_eq (fun k hk => ⟨by rw [vo k hk, hs], congrFun e28 k⟩))
theorem fl_uC_fr {h H : fz_H} (e : fl_SC H = fl_SC h) : fl_uC H = fl_uC h := by
  funext on t hr
  unfold fl_uC
  rw [e]
theorem fl_uM_in {S : List (Nat × Nat)} {h H : fz_H} {pe t hr y : Int} (f : fz_fr S h H) (hs : fl_okS S = true) (T : fl_HTh h H) (ht : 0 ≤ t ∧ t < h 53 0) (mk : y = fl_ms (fun k : Nat => fl_ST H pe (k : Int) t hr) 5) : y = fl_uM h pe t hr := mk.trans (fl_ms_eq (fun k _ => fl_ST_fH f hs T ht))
theorem fl_reM_in {S : List (Nat × Nat)} {h H : fz_H} {pe t hr y : Int} (f : fz_fr S h H) (hs : fl_okS S = true) (T : fl_HTh h H) (ht : 0 ≤ t ∧ t < h 53 0) (rc : y = fl_rp (fun k : Nat => fl_ST H pe (k : Int) t hr) (H 59) 5) : y = fl_reM h pe hr t := rc.trans (fl_rp_eq (fun k _ => ⟨fl_ST_fH f hs T ht, congrFun (fl_okG_c (c := 59) f hs rfl) k⟩))
theorem fl_iM_in {S : List (Nat × Nat)} {h H : fz_H} {pe t hr r : Int} (f : fz_fr S h H) (hs : fl_okS S = true) (T : fl_HTh h H) (ht : 0 ≤ t ∧ t < h 53 0) (ia : (r = 1 ∧ 0 < fl_ST H pe 1 t hr ∧ H 53 8 ≤ fl_ST H pe 1 t hr) ∨ (r = 0 ∧ ¬ (0 < fl_ST H pe 1 t hr ∧ H 53 8 ≤ fl_ST H pe 1 t hr))) : (r = 1 ∧ 0 < fl_SM h pe 1 t hr ∧ h 53 8 ≤ fl_SM h pe 1 t hr) ∨ (r = 0 ∧ ¬ (0 < fl_SM h pe 1 t hr ∧ h 53 8 ≤ fl_SM h pe 1 t hr)) := by
  rw [fl_ST_fH f hs T ht, fl_okG_s (s := 8) f hs rfl rfl] at ia
  exact ia
/-! ===== towns where, the best one ===== -/
def fl_cw (v : Nat → Int) (ar wh : Int) : Int := if wh = 0 then (if fl_ms v 5 = 0 then 1 else 0) else (if 0 < v 1 ∧ ar ≤ v 1 then 1 else 0)
theorem fl_cw_eq {v v' : Nat → Int} {ar wh : Int} (hv : ∀ k, k < 5 → v' k = v k) : fl_cw v' ar wh = fl_cw v ar wh := by
  unfold fl_cw
  rw [fl_ms_eq hv, hv 1 (by decide)]
theorem fl_cw_m {v : Nat → Int} {ar wh y z : Int} (hw : wh = 0) (mk : y = fl_ms v 5) (hz : (y = 0 ∧ z = 1) ∨ (y ≠ 0 ∧ z = 0)) : fl_cw v ar wh = z := by
  unfold fl_cw
  rw [if_pos hw, ← mk]
  rcases hz with ⟨a, b⟩ | ⟨a, b⟩
  · rw [if_pos a, b]
  · rw [if_neg a, b]
theorem fl_cw_a {v : Nat → Int} {ar wh y z : Int} (hw : wh ≠ 0) (ia : (y = 1 ∧ 0 < v 1 ∧ ar ≤ v 1) ∨ (y = 0 ∧ ¬ (0 < v 1 ∧ ar ≤ v 1))) (hz : (y = 1 ∧ z = 1) ∨ (y = 0 ∧ z = 0)) : fl_cw v ar wh = z := by
  unfold fl_cw
  rw [if_neg hw]
  rcases ia with ⟨a, b⟩ | ⟨a, b⟩
  · rw [if_pos b]; omega
  · rw [if_neg b]; omega
def fl_cC (h : fz_H) (on hr wh : Int) : Int → Int := fun t => fl_cw (fun m : Nat => fl_SC h on on (m : Int) t hr) (h 27 8) wh
noncomputable def fl_cM (h : fz_H) (on hr wh : Int) : Int → Int := fun t => fl_cw (fun m : Nat => fl_SM h on (m : Int) t hr) (h 53 8) wh
theorem fl_cC_m {h Hb H : fz_H} {on hr wh t y z : Int} (hs : fl_SC Hb = fl_SC h) (vo : ∀ m : Nat, m < 5 → H 29 m = fl_SC Hb on on m t hr) (hw : wh = 0) (mk : y = fl_ms (H 29) 5) (hz : (y = 0 ∧ z = 1) ∨ (y ≠ 0 ∧ z = 0)) : fl_cC h on hr wh t = z := fl_cw_m hw (fl_uC_in hs vo mk) hz
theorem fl_cC_a {h Hb H : fz_H} {on hr wh t y z : Int} (hs : fl_SC Hb = fl_SC h) (vo : ∀ m : Nat, m < 5 → H 29 m = fl_SC Hb on on m t hr) (e8 : H 27 8 = h 27 8) (hw : wh ≠ 0) (ia : (y = 1 ∧ 0 < H 29 1 ∧ H 27 8 ≤ H 29 1) ∨ (y = 0 ∧ ¬ (0 < H 29 1 ∧ H 27 8 ≤ H 29 1))) (hz : (y = 1 ∧ z = 1) ∨ (y = 0 ∧ z = 0)) : fl_cC h on hr wh t = z := by
  have e := vo 1 (by decide)
  rw [e8, e, hs] at ia
  exact fl_cw_a hw ia hz
theorem fl_cM_m {h : fz_H} {on hr wh t y z : Int} (hw : wh = 0) (u : y = fl_uM h on t hr) (hz : (y = 0 ∧ z = 1) ∨ (y ≠ 0 ∧ z = 0)) : fl_cM h on hr wh t = z := fl_cw_m hw u hz
theorem fl_cM_a {h : fz_H} {on hr wh t y z : Int} (hw : wh ≠ 0) (ia : (y = 1 ∧ 0 < fl_SM h on 1 t hr ∧ h 53 8 ≤ fl_SM h on 1 t hr) ∨ (y = 0 ∧ ¬ (0 < fl_SM h on 1 t hr ∧ h 53 8 ≤ fl_SM h on 1 t hr))) (hz : (y = 1 ∧ z = 1) ∨ (y = 0 ∧ z = 0)) : fl_cM h on hr wh t = z := fl_cw_a (v := fun m : Nat => fl_SM h on (m : Int) t hr) hw ia hz
def fl_tb (c : Int → Int) : Nat → Int
  | 0 => 0
  | k + 1 => if c (k : Int) = 1 then fz_or (fl_tb c k) (fz_shl 1 (k : Int)) else fl_tb c k
theorem fl_tb_1 {c : Int → Int} {M k : Int} (e : M = fl_tb c k.toNat) (h0 : 0 ≤ k) (hc : c k = 1) : fz_or M (fz_shl 1 k) = fl_tb c (k + 1).toNat := by
  rw [show (k + 1).toNat = k.toNat + 1 by omega]
  show _ = (if c ((k.toNat : Nat) : Int) = 1 then fz_or (fl_tb c k.toNat) (fz_shl 1 ((k.toNat : Nat) : Int)) else fl_tb c k.toNat)
  rw [show ((k.toNat : Nat) : Int) = k by omega, if_pos hc, e]
theorem fl_tb_0 {c : Int → Int} {M k : Int} (e : M = fl_tb c k.toNat) (h0 : 0 ≤ k) (hc : c k = 0) : M = fl_tb c (k + 1).toNat := by
  rw [show (k + 1).toNat = k.toNat + 1 by omega]
  show _ = (if c ((k.toNat : Nat) : Int) = 1 then fz_or (fl_tb c k.toNat) (fz_shl 1 ((k.toNat : Nat) : Int)) else fl_tb c k.toNat)
  rw [show ((k.toNat : Nat) : Int) = k by omega, if_neg (by rw [hc]; decide), e]
theorem fl_tb_eq {c c' : Int → Int} : ∀ {n : Nat}, (∀ k : Nat, k < n → c' (k : Int) = c (k : Int)) → fl_tb c' n = fl_tb c n
  | 0, _ => rfl
  | n + 1, h => by
    have a := fl_tb_eq (c := c) (c' := c') (n := n) (fun k hk => h k (by omega))
    show (if c' (n : Int) = 1 then fz_or (fl_tb c' n) (fz_shl 1 (n : Int)) else fl_tb c' n) = (if c (n : Int) = 1 then fz_or (fl_tb c n) (fz_shl 1 (n : Int)) else fl_tb c n)
    rw [a, h n (by omega)]
def fl_bt (v : Int → Int) : Nat → Int × Int
  | 0 => (-2, 0)
  | k + 1 => if (fl_bt v k).1 = -2 ∨ (fl_bt v k).2 < v (k : Int) then ((k : Int), v (k : Int)) else fl_bt v k
theorem fl_bt_y {v : Int → Int} {L M k x : Int} (e : (L, M) = fl_bt v k.toNat) (h0 : 0 ≤ k) (ex : x = v k) (c : L = -2 ∨ M < x) : (k, x) = fl_bt v (k + 1).toNat := by
  rw [show (k + 1).toNat = k.toNat + 1 by omega]
  show _ = (if (fl_bt v k.toNat).1 = -2 ∨ (fl_bt v k.toNat).2 < v ((k.toNat : Nat) : Int) then (((k.toNat : Nat) : Int), v ((k.toNat : Nat) : Int)) else fl_bt v k.toNat)
  rw [← e, show ((k.toNat : Nat) : Int) = k by omega, ← ex, if_pos c]
theorem fl_bt_n {v : Int → Int} {L M k x : Int} (e : (L, M) = fl_bt v k.toNat) (h0 : 0 ≤ k) (ex : x = v k) (c : ¬ (L = -2 ∨ M < x)) : (L, M) = fl_bt v (k + 1).toNat := by
  rw [show (k + 1).toNat = k.toNat + 1 by omega]
  show _ = (if (fl_bt v k.toNat).1 = -2 ∨ (fl_bt v k.toNat).2 < v ((k.toNat : Nat) : Int) then (((k.toNat : Nat) : Int), v ((k.toNat : Nat) : Int)) else fl_bt v k.toNat)
  rw [← e, show ((k.toNat : Nat) : Int) = k by omega, ← ex, if_neg c]
theorem fl_bt_e {v : Int → Int} {L M k n : Int} (e : (L, M) = fl_bt v k.toNat) (h : k = n) : L = (fl_bt v n.toNat).1 := by
  subst h
  exact congrArg Prod.fst e
theorem fl_bt_i {v : Int → Int} : ∀ {n : Nat}, (fl_bt v n).1 = -2 ∨ (0 ≤ (fl_bt v n).1 ∧ (fl_bt v n).2 = v (fl_bt v n).1)
  | 0 => Or.inl rfl
  | n + 1 => by
    show (if (fl_bt v n).1 = -2 ∨ (fl_bt v n).2 < v (n : Int) then ((n : Int), v (n : Int)) else fl_bt v n).1 = -2 ∨ (0 ≤ (if (fl_bt v n).1 = -2 ∨ (fl_bt v n).2 < v (n : Int) then ((n : Int), v (n : Int)) else fl_bt v n).1 ∧ (if (fl_bt v n).1 = -2 ∨ (fl_bt v n).2 < v (n : Int) then ((n : Int), v (n : Int)) else fl_bt v n).2 = v (if (fl_bt v n).1 = -2 ∨ (fl_bt v n).2 < v (n : Int) then ((n : Int), v (n : Int)) else fl_bt v n).1)
    split
    · exact Or.inr ⟨Int.natCast_nonneg n, rfl⟩
    · exact fl_bt_i
theorem fl_bt_eq {v v' : Int → Int} : ∀ {n : Nat}, (∀ k : Nat, k < n → v' (k : Int) = v (k : Int)) → fl_bt v' n = fl_bt v n
  | 0, _ => rfl
  | n + 1, h => by
    have a := fl_bt_eq (v := v) (v' := v') (n := n) (fun k hk => h k (by omega))
    show (if (fl_bt v' n).1 = -2 ∨ (fl_bt v' n).2 < v' (n : Int) then ((n : Int), v' (n : Int)) else fl_bt v' n) = (if (fl_bt v n).1 = -2 ∨ (fl_bt v n).2 < v (n : Int) then ((n : Int), v (n : Int)) else fl_bt v n)
    rw [a, h n (by omega)]
/-- the model keeps the town alone -/
def fl_bI (v : Int → Int) (k b : Int) : Prop := b = (fl_bt v k.toNat).1
theorem fl_bI_0 {v : Int → Int} {k b : Int} (I : fl_bI v k b) (h0 : 0 ≤ k) (c : b = -2) : fl_bI v (k + 1) k := by
  have z := fl_bt_y (v := v) (L := (fl_bt v k.toNat).1) (M := (fl_bt v k.toNat).2) (k := k) rfl h0 rfl (Or.inl (I.symm.trans c))
  exact congrArg Prod.fst z
theorem fl_bI_y {v : Int → Int} {k b x y : Int} (I : fl_bI v k b) (h0 : 0 ≤ k) (ex : x = v k) (ey : y = v b) (c : b ≠ -2) (l : y < x) : fl_bI v (k + 1) k := by
  have i := fl_bt_i (v := v) (n := k.toNat)
  have e : y = (fl_bt v k.toNat).2 := by
    rcases i with i | i
    · exact absurd (I.trans i) c
    · rw [ey, i.2, ← show b = (fl_bt v k.toNat).1 from I]
  have z := fl_bt_y (v := v) (L := (fl_bt v k.toNat).1) (M := (fl_bt v k.toNat).2) (k := k) rfl h0 ex (Or.inr (by rw [← e]; exact l))
  exact congrArg Prod.fst z
theorem fl_bI_n {v : Int → Int} {k b x y : Int} (I : fl_bI v k b) (h0 : 0 ≤ k) (ex : x = v k) (ey : y = v b) (c : b ≠ -2) (l : ¬ y < x) : fl_bI v (k + 1) b := by
  have i := fl_bt_i (v := v) (n := k.toNat)
  have e : y = (fl_bt v k.toNat).2 := by
    rcases i with i | i
    · exact absurd (I.trans i) c
    · rw [ey, i.2, ← show b = (fl_bt v k.toNat).1 from I]
  have z := fl_bt_n (v := v) (L := (fl_bt v k.toNat).1) (M := (fl_bt v k.toNat).2) (k := k) rfl h0 ex (fun q => q.elim (fun q => c (I.trans q)) (fun q => l (by rw [e]; exact q)))
  exact I.trans (congrArg Prod.fst z)
theorem fl_bI_e {v : Int → Int} {k b n : Int} (I : fl_bI v k b) (h : k = n) : b = (fl_bt v n.toNat).1 := by
  subst h
  exact I
def fl_ohA (on hr wh : Int) : Prop := (0 ≤ on ∧ on ≤ 3) ∧ (0 ≤ hr ∧ hr ≤ 999) ∧ 0 ≤ wh ∧ wh ≤ 2
def fl_ahx (R : Int → Int) (C : Int → Int → Int) (n : Nat) (wh : Int) : Int := if wh = 2 then (fl_bt R n).1 else fl_tb (C wh) n
theorem fl_ahx_2 {R : Int → Int} {C : Int → Int → Int} {n : Nat} {wh r : Int} (h : wh = 2) (e : r = (fl_bt R n).1) : r = fl_ahx R C n wh := by
  unfold fl_ahx
  rw [if_pos h, e]
theorem fl_ahx_1 {R : Int → Int} {C : Int → Int → Int} {n : Nat} {wh r : Int} (h : wh ≠ 2) (e : r = fl_tb (C wh) n) : r = fl_ahx R C n wh := by
  unfold fl_ahx
  rw [if_neg h, e]
theorem fl_eqw {f : Int → Int} {a b r : Int} (e : r = f a) (h : a = b) : r = f b := by rw [← h]; exact e
def fl_ahC (h : fz_H) (on hr wh r : Int) : Prop := (fl_ohA on hr wh ∧ r = fl_ahx (fl_reC h on hr) (fl_cC h on hr) (h 1 7).toNat wh) ∨ (¬ fl_ohA on hr wh ∧ r = -1)
noncomputable def fl_ahM (h : fz_H) (on hr wh r : Int) : Prop := (fl_ohA on hr wh ∧ r = fl_ahx (fl_reM h on hr) (fl_cM h on hr) (h 53 0).toNat wh) ∨ (¬ fl_ohA on hr wh ∧ r = -1)
/-- both, town by town -/
theorem fl_Rl_r {h : fz_H} {on hr t : Int} (R : fl_Rl h) (r28 : fz_R28 h) (ht : 0 ≤ t ∧ t < h 1 7) : fl_reC h on hr t = fl_reM h on hr t := by
  unfold fz_R28 at r28
  exact fl_rp_eq (fun k _ => ⟨fl_Rl_S R ht, congrFun r28 k⟩)
theorem fl_Rl_u {h : fz_H} {on hr t : Int} (R : fl_Rl h) (ht : 0 ≤ t ∧ t < h 1 7) : fl_uC h on t hr = fl_uM h on t hr := fl_ms_eq (fun k _ => fl_Rl_S R ht)
theorem fl_Rl_c {h : fz_H} {on hr wh t : Int} (R : fl_Rl h) (rG : fz_RG h) (ht : 0 ≤ t ∧ t < h 1 7) : fl_cC h on hr wh t = fl_cM h on hr wh t := by
  unfold fl_cC fl_cM
  rw [rG.1]
  exact fl_cw_eq (fun k _ => fl_Rl_S R ht)
/-- the model's words over a call of the class -/
theorem fl_hi2 {h h1 : fz_H} (k : ∀ c s : Nat, 53 ≤ c → h1 c s = h c s) : fl_reM h1 = fl_reM h ∧ fl_uM h1 = fl_uM h ∧ fl_cM h1 = fl_cM h ∧ fl_lxM h1 = fl_lxM h := by
  have f : ∀ c, 53 ≤ c → h1 c = h c := fun c hc => funext fun s => k c s hc
  have e := (fl_hi k).2
  have e1 : fz_EM h1 = fz_EM h := by
    funext ca
    unfold fz_EM
    rw [f 55 (by decide), f 56 (by decide), f 57 (by decide), f 58 (by decide), k 53 2 (by decide)]
  have v := fl_vM_e (h := h) (H := h1) (k 53 18 (by decide)) (k 53 19 (by decide)) (f 66 (by decide)) (f 67 (by decide)) (f 68 (by decide)) (f 69 (by decide))
  refine ⟨?_, ?_, ?_, ?_⟩
  · funext on hr t
    unfold fl_reM
    rw [e, f 59 (by decide)]
  · funext on t hr
    unfold fl_uM
    rw [e]
  · funext on hr wh t
    unfold fl_cM
    rw [e, k 53 8 (by decide)]
  · funext a ho w m pe t hr
    unfold fl_lxM fl_hxM
    rw [e1, v, k 53 0 (by decide), f 54 (by decide)]
theorem fl_ah_eq {h h1 : fz_H} {on hr wh r q : Int} (R : fl_Rl h) (r28 : fz_R28 h) (rG : fz_RG h) (k : ∀ c s : Nat, 53 ≤ c → h1 c s = h c s) (c : fl_ahC h on hr wh r) (m : fl_ahM h1 on hr wh q) : r = q := by
  have n0 := R.2.2.2.2.2.2.2.2.2.2.2.1
  unfold fl_ahM at m
  rw [(fl_hi2 k).1, (fl_hi2 k).2.2.1, k 53 0 (by decide), n0] at m
  refine fl_or c m Iff.rfl (fun z => ?_) rfl
  unfold fl_ahx
  rw [fl_bt_eq (fun j hj => fl_Rl_r R r28 (by omega)), fl_tb_eq (fun j hj => fl_Rl_c R rG (by omega))]
/-! ===== home ===== -/
def fl_hm (f : Int → Int) (u : Int → Int → Int) (m0 : Int) : Nat → Int × Int
  | 0 => (-2, 1000)
  | k + 1 => if 0 ≤ f (k : Int) ∧ m0 + f (k : Int) < (fl_hm f u m0 k).2 ∧ u (k : Int) (m0 + f (k : Int)) = 0 then ((k : Int), m0 + f (k : Int)) else fl_hm f u m0 k
theorem fl_hm_y {f : Int → Int} {u : Int → Int → Int} {m0 B S k x y : Int} (e : (B, S) = fl_hm f u m0 k.toNat) (h0 : 0 ≤ k) (ex : x = f k) (ey : y = m0 + x) (c : 0 ≤ x ∧ y < S) (hu : u k y = 0) : (k, y) = fl_hm f u m0 (k + 1).toNat := by
  subst ex
  subst ey
  rw [show (k + 1).toNat = k.toNat + 1 by omega]
  show _ = (if 0 ≤ f ((k.toNat : Nat) : Int) ∧ m0 + f ((k.toNat : Nat) : Int) < (fl_hm f u m0 k.toNat).2 ∧ u ((k.toNat : Nat) : Int) (m0 + f ((k.toNat : Nat) : Int)) = 0 then (((k.toNat : Nat) : Int), m0 + f ((k.toNat : Nat) : Int)) else fl_hm f u m0 k.toNat)
  rw [← e, show ((k.toNat : Nat) : Int) = k by omega, if_pos ⟨c.1, c.2, hu⟩]
theorem fl_hm_n {f : Int → Int} {u : Int → Int → Int} {m0 B S k x y : Int} (e : (B, S) = fl_hm f u m0 k.toNat) (h0 : 0 ≤ k) (ex : x = f k) (ey : y = m0 + x) (c : ¬ (0 ≤ x ∧ y < S) ∨ u k y ≠ 0) : (B, S) = fl_hm f u m0 (k + 1).toNat := by
  subst ex
  subst ey
  rw [show (k + 1).toNat = k.toNat + 1 by omega]
  show _ = (if 0 ≤ f ((k.toNat : Nat) : Int) ∧ m0 + f ((k.toNat : Nat) : Int) < (fl_hm f u m0 k.toNat).2 ∧ u ((k.toNat : Nat) : Int) (m0 + f ((k.toNat : Nat) : Int)) = 0 then (((k.toNat : Nat) : Int), m0 + f ((k.toNat : Nat) : Int)) else fl_hm f u m0 k.toNat)
  rw [← e, show ((k.toNat : Nat) : Int) = k by omega, if_neg (fun z => c.elim (fun q => q ⟨z.1, z.2.1⟩) (fun q => q z.2.2))]
theorem fl_hm_b {f : Int → Int} {u : Int → Int → Int} {m0 : Int} : ∀ {n : Nat}, ((fl_hm f u m0 n).1 = -2 ∧ (fl_hm f u m0 n).2 = 1000) ∨ (0 ≤ (fl_hm f u m0 n).1 ∧ (fl_hm f u m0 n).2 ≤ 999)
  | 0 => Or.inl ⟨rfl, rfl⟩
  | n + 1 => by
    have a := fl_hm_b (f := f) (u := u) (m0 := m0) (n := n)
    by_cases c : 0 ≤ f (n : Int) ∧ m0 + f (n : Int) < (fl_hm f u m0 n).2 ∧ u (n : Int) (m0 + f (n : Int)) = 0
    · have e : fl_hm f u m0 (n + 1) = ((n : Int), m0 + f (n : Int)) := if_pos c
      rw [e]
      exact Or.inr ⟨Int.natCast_nonneg n, show m0 + f (n : Int) ≤ 999 by omega⟩
    · have e : fl_hm f u m0 (n + 1) = fl_hm f u m0 n := if_neg c
      rw [e]
      exact a
theorem fl_hm_eq {f f' : Int → Int} {u u' : Int → Int → Int} {m0 : Int} : ∀ {n : Nat}, (∀ k : Nat, k < n → f' (k : Int) = f (k : Int) ∧ ∀ x, u' (k : Int) x = u (k : Int) x) → fl_hm f' u' m0 n = fl_hm f u m0 n
  | 0, _ => rfl
  | n + 1, h => by
    have a := fl_hm_eq (f := f) (f' := f') (u := u) (u' := u') (m0 := m0) (n := n) (fun k hk => h k (by omega))
    have b := h n (by omega)
    show (if 0 ≤ f' (n : Int) ∧ m0 + f' (n : Int) < (fl_hm f' u' m0 n).2 ∧ u' (n : Int) (m0 + f' (n : Int)) = 0 then ((n : Int), m0 + f' (n : Int)) else fl_hm f' u' m0 n) = (if 0 ≤ f (n : Int) ∧ m0 + f (n : Int) < (fl_hm f u m0 n).2 ∧ u (n : Int) (m0 + f (n : Int)) = 0 then ((n : Int), m0 + f (n : Int)) else fl_hm f u m0 n)
    rw [a, b.1, b.2]
def fl_hx (p : Int × Int) (wh : Int) : Int := if p.1 = -2 ∨ wh = 1 then p.1 else p.2
theorem fl_hx_1 {f : Int → Int} {u : Int → Int → Int} {m0 B S k n wh : Int} (e : (B, S) = fl_hm f u m0 k.toNat) (h : k = n) (c : B = -2 ∨ wh = 1) : B = fl_hx (fl_hm f u m0 n.toNat) wh := by
  subst h
  rw [← e]
  unfold fl_hx
  rw [if_pos c]
theorem fl_hx_2 {f : Int → Int} {u : Int → Int → Int} {m0 B S k n wh : Int} (e : (B, S) = fl_hm f u m0 k.toNat) (h : k = n) (c : ¬ (B = -2 ∨ wh = 1)) : S = fl_hx (fl_hm f u m0 n.toNat) wh := by
  subst h
  rw [← e]
  unfold fl_hx
  rw [if_neg c]
/-- the model's two numbers -/
def fl_hI (f : Int → Int) (u : Int → Int → Int) (m0 k B F : Int) : Prop := B = (fl_hm f u m0 k.toNat).1 ∧ (B ≠ -2 → F = (fl_hm f u m0 k.toNat).2)
theorem fl_hI_n {f : Int → Int} {u : Int → Int → Int} {m0 k B F x y : Int} (I : fl_hI f u m0 k B F) (h0 : 0 ≤ k) (ex : x = f k) (ey : y = m0 + x) (c : x < 0 ∨ 999 < y ∨ (B ≠ -2 ∧ F ≤ y) ∨ u k y ≠ 0) : fl_hI f u m0 (k + 1) B F := by
  obtain ⟨i1, i2⟩ := I
  have b := fl_hm_b (f := f) (u := u) (m0 := m0) (n := k.toNat)
  have z := fl_hm_n (f := f) (u := u) (m0 := m0) (B := (fl_hm f u m0 k.toNat).1) (S := (fl_hm f u m0 k.toNat).2) (k := k) rfl h0 ex ey (by
    rcases c with c | c | ⟨c1, c2⟩ | c
    · exact Or.inl (by omega)
    · exact Or.inl (by omega)
    · have := i2 c1
      exact Or.inl (by omega)
    · exact Or.inr c)
  exact ⟨i1.trans (congrArg Prod.fst z), fun q => (i2 q).trans (congrArg Prod.snd z)⟩
theorem fl_hI_y {f : Int → Int} {u : Int → Int → Int} {m0 k B F x y : Int} (I : fl_hI f u m0 k B F) (h0 : 0 ≤ k) (ex : x = f k) (ey : y = m0 + x) (c : 0 ≤ x ∧ y ≤ 999 ∧ (B = -2 ∨ y < F)) (hu : u k y = 0) : fl_hI f u m0 (k + 1) k y := by
  obtain ⟨i1, i2⟩ := I
  have b := fl_hm_b (f := f) (u := u) (m0 := m0) (n := k.toNat)
  have z := fl_hm_y (f := f) (u := u) (m0 := m0) (B := (fl_hm f u m0 k.toNat).1) (S := (fl_hm f u m0 k.toNat).2) (k := k) rfl h0 ex ey (by
    refine ⟨c.1, ?_⟩
    by_cases q : B = -2
    · omega
    · have := i2 q
      omega) hu
  exact ⟨congrArg Prod.fst z, fun _ => congrArg Prod.snd z⟩
theorem fl_hI_1 {f : Int → Int} {u : Int → Int → Int} {m0 B F k n wh : Int} (I : fl_hI f u m0 k B F) (h : k = n) (c : B = -2 ∨ wh = 1) : B = fl_hx (fl_hm f u m0 n.toNat) wh := by
  subst h
  unfold fl_hx
  rw [← I.1, if_pos c]
theorem fl_hI_2 {f : Int → Int} {u : Int → Int → Int} {m0 B F k n wh : Int} (I : fl_hI f u m0 k B F) (h : k = n) (c : ¬ (B = -2 ∨ wh = 1)) : F = fl_hx (fl_hm f u m0 n.toNat) wh := by
  subst h
  unfold fl_hx
  rw [← I.1, if_neg c]
  exact I.2 (fun q => c (Or.inl q))
/-- hours by feet -/
def fl_ftC (h : fz_H) (a t : Int) : Int := fz_hr (h 7 (8 * a + t).toNat)
noncomputable def fl_ft (h : fz_H) (a t : Int) : Int := fz_hr (fl_fm (fz_EM h 0) (h 53 0).toNat a.toNat t.toNat)
theorem fl_EM_fr {K L S : List (Nat × Nat)} {h H : fz_H} {ca : Int} (f : fz_fr S h H) (hs : fl_okJ S = true) : fz_EM H ca = fz_EM h ca := by
  unfold fz_EM
  rw [fl_okG_c (c := 55) f hs rfl, fl_okG_c (c := 56) f hs rfl, fl_okG_c (c := 57) f hs rfl, fl_okG_c (c := 58) f hs rfl, fl_okG_s (s := 2) f hs rfl rfl]
theorem fl_ft_fr {S : List (Nat × Nat)} {h H : fz_H} (f : fz_fr S h H) (hs : fl_okJ S = true) : fl_ft H = fl_ft h := by
  funext a t
  unfold fl_ft
  rw [fl_EM_fr (K := []) (L := []) f hs, fl_okG_s (s := 0) f hs rfl rfl]
theorem fl_hi3 {h h1 : fz_H} (k : ∀ c s : Nat, 53 ≤ c → h1 c s = h c s) : fl_ft h1 = fl_ft h := by
  have f : ∀ c, 53 ≤ c → h1 c = h c := fun c hc => funext fun s => k c s hc
  have e1 : fz_EM h1 = fz_EM h := by
    funext ca
    unfold fz_EM
    rw [f 55 (by decide), f 56 (by decide), f 57 (by decide), f 58 (by decide), k 53 2 (by decide)]
  funext a t
  unfold fl_ft
  rw [e1, k 53 0 (by decide)]
theorem fl_Rl_f {h : fz_H} {a t : Int} (R : fl_Rl h) (ha : 0 ≤ a ∧ a < h 1 7) (ht : 0 ≤ t ∧ t < h 1 7) : fl_ftC h a t = fl_ft h a t := by
  obtain ⟨U, V, r5, r6, r3, r4, r2, hL, hP, hW, n2, n0, n9, b11, b12, b2⟩ := R
  have e := fz_EM_EC (h := h) (h1 := h) (ca := 0) r5 r6 r3 r4 n2 rfl rfl rfl rfl
  unfold fl_ftC fl_ft
  rw [e, n0, fl_fm_M V.1 (by omega) (by omega), show 8 * a.toNat + t.toNat = (8 * a + t).toNat by omega]
def fl_oH (b on th wh : Int) : Prop := (0 ≤ on ∧ on < 4) ∧ (0 ≤ th ∧ th / 1000 < b) ∧ 0 ≤ wh ∧ wh ≤ 1
def fl_hoC (h : fz_H) (on th wh r : Int) : Prop := (fl_oH (h 1 7) on th wh ∧ r = fl_hx (fl_hm (fl_ftC h (th / 1000)) (fl_uC h on) (th % 1000) (h 1 7).toNat) wh) ∨ (¬ fl_oH (h 1 7) on th wh ∧ r = -1)
noncomputable def fl_hoM (h : fz_H) (on th wh r : Int) : Prop := (fl_oH (h 53 0) on th wh ∧ r = fl_hx (fl_hm (fl_ft h (th / 1000)) (fl_uM h on) (th % 1000) (h 53 0).toNat) wh) ∨ (¬ fl_oH (h 53 0) on th wh ∧ r = -1)
theorem fl_ho_eq {h h1 : fz_H} {on th wh r q : Int} (R : fl_Rl h) (k : ∀ c s : Nat, 53 ≤ c → h1 c s = h c s) (c : fl_hoC h on th wh r) (m : fl_hoM h1 on th wh q) : r = q := by
  have n0 := R.2.2.2.2.2.2.2.2.2.2.2.1
  unfold fl_hoM at m
  rw [fl_hi3 k, (fl_hi2 k).2.1, k 53 0 (by decide), n0] at m
  refine fl_or c m Iff.rfl (fun z => ?_) rfl
  obtain ⟨_, ⟨z3, z4⟩, _⟩ := z
  rw [fl_hm_eq (fun j hj => ⟨fl_Rl_f R ⟨by omega, z4⟩ (by omega), fun x => fl_Rl_u R (by omega)⟩)]
/-! ===== the first, the last that will do ===== -/
def fl_fs (P : Int → Prop) (a b r : Int) : Prop := (r = -2 ∧ ∀ k, a ≤ k → k ≤ b → ¬ P k) ∨ (a ≤ r ∧ r ≤ b ∧ P r ∧ ∀ k, a ≤ k → k < r → ¬ P k)
def fl_ls (P : Int → Prop) (a b r : Int) : Prop := (r = -2 ∧ ∀ k, a ≤ k → k ≤ b → ¬ P k) ∨ (a ≤ r ∧ r ≤ b ∧ P r ∧ ∀ k, r < k → k ≤ b → ¬ P k)
theorem fl_fs_u {P Q : Int → Prop} {a b r q : Int} (e : ∀ k, a ≤ k → k ≤ b → (P k ↔ Q k)) (x : fl_fs P a b r) (y : fl_fs Q a b q) : r = q := by
  rcases x with ⟨x1, x2⟩ | ⟨x1, x2, x3, x4⟩
  · rcases y with ⟨y1, y2⟩ | ⟨y1, y2, y3, y4⟩
    · omega
    · exact absurd ((e q y1 y2).mpr y3) (x2 q y1 y2)
  · rcases y with ⟨y1, y2⟩ | ⟨y1, y2, y3, y4⟩
    · exact absurd ((e r x1 x2).mp x3) (y2 r x1 x2)
    · by_cases c : r < q
      · exact absurd ((e r x1 x2).mp x3) (y4 r x1 c)
      · by_cases d : q < r
        · exact absurd ((e q y1 y2).mpr y3) (x4 q y1 d)
        · omega
theorem fl_ls_u {P Q : Int → Prop} {a b r q : Int} (e : ∀ k, a ≤ k → k ≤ b → (P k ↔ Q k)) (x : fl_ls P a b r) (y : fl_ls Q a b q) : r = q := by
  rcases x with ⟨x1, x2⟩ | ⟨x1, x2, x3, x4⟩
  · rcases y with ⟨y1, y2⟩ | ⟨y1, y2, y3, y4⟩
    · omega
    · exact absurd ((e q y1 y2).mpr y3) (x2 q y1 y2)
  · rcases y with ⟨y1, y2⟩ | ⟨y1, y2, y3, y4⟩
    · exact absurd ((e r x1 x2).mp x3) (y2 r x1 x2)
    · by_cases c : r < q
      · exact absurd ((e q y1 y2).mpr y3) (x4 q c y2)
      · by_cases d : q < r
        · exact absurd ((e r x1 x2).mp x3) (y4 r d x2)
        · omega
/-- none before, none behind -/
def fl_up1 (f : Int → Int) (x a n : Int) : Prop := ∀ k, a ≤ k → k < n → f k < x
def fl_dn1 (f : Int → Int) (x n b : Int) : Prop := ∀ k, n < k → k ≤ b → f k < x
theorem fl_up1_0 {f : Int → Int} {x a n : Int} (h : n ≤ a) : fl_up1 f x a n := fun k k0 k1 => by exfalso; omega
theorem fl_dn1_0 {f : Int → Int} {x n b : Int} (h : b ≤ n) : fl_dn1 f x n b := fun k k0 k1 => by exfalso; omega
theorem fl_up1_s {f : Int → Int} {x a n y : Int} (A : fl_up1 f x a n) (e : y = f n) (h : y < x) : fl_up1 f x a (n + 1) := fun k k0 k1 => by
  by_cases q : k = n
  · rw [q, ← e]; exact h
  · exact A k k0 (by omega)
theorem fl_dn1_s {f : Int → Int} {x n b y m : Int} (A : fl_dn1 f x n b) (e : y = f n) (h : y < x) (hm : m = n - 1) : fl_dn1 f x m b := fun k k0 k1 => by
  by_cases q : k = n
  · rw [q, ← e]; exact h
  · exact A k (by omega) k1
/-- a bar that is there at once, or with what is thought of -/
def fl_P2 (S : Int) (f : Int → Int) (x : Int) : Int → Prop := fun k => x ≤ S ∨ x ≤ f k
theorem fl_fsA {S y x a b r : Int} {f : Int → Int} (sd : y = S) (c : x ≤ y) (hr : r = a) (ab : a ≤ b) : fl_fs (fl_P2 S f x) a b r := by
  subst hr sd
  exact Or.inr ⟨Int.le_refl _, ab, Or.inl c, fun k k0 k1 => by exfalso; omega⟩
theorem fl_fsB {S y x a b r v : Int} {f : Int → Int} (sd : y = S) (c : y < x) (A : fl_up1 f x a r) (e : v = f r) (hv : x ≤ v) (hr : a ≤ r ∧ r ≤ b) : fl_fs (fl_P2 S f x) a b r := by
  subst sd
  exact Or.inr ⟨hr.1, hr.2, Or.inr (by rw [← e]; exact hv), fun k k0 k1 z => by
    have := A k k0 k1
    rcases z with z | z <;> omega⟩
theorem fl_fsC {S y x a b n r : Int} {f : Int → Int} (sd : y = S) (c : y < x) (A : fl_up1 f x a n) (hn : b < n) (hr : r = -2) : fl_fs (fl_P2 S f x) a b r := by
  subst sd
  exact Or.inl ⟨hr, fun k k0 k1 z => by
    have := A k k0 (by omega)
    rcases z with z | z <;> omega⟩
theorem fl_lsA {S y x a b r : Int} {f : Int → Int} (sd : y = S) (c : x ≤ y) (hr : r = b) (ab : a ≤ b) : fl_ls (fl_P2 S f x) a b r := by
  subst hr sd
  exact Or.inr ⟨ab, Int.le_refl _, Or.inl c, fun k k0 k1 => by exfalso; omega⟩
theorem fl_lsB {S y x a b r v : Int} {f : Int → Int} (sd : y = S) (c : y < x) (A : fl_dn1 f x r b) (e : v = f r) (hv : x ≤ v) (hr : a ≤ r ∧ r ≤ b) : fl_ls (fl_P2 S f x) a b r := by
  subst sd
  exact Or.inr ⟨hr.1, hr.2, Or.inr (by rw [← e]; exact hv), fun k k0 k1 z => by
    have := A k k0 k1
    rcases z with z | z <;> omega⟩
theorem fl_lsC {S y x a b n r : Int} {f : Int → Int} (sd : y = S) (c : y < x) (A : fl_dn1 f x n b) (hn : n < a) (hr : r = -2) : fl_ls (fl_P2 S f x) a b r := by
  subst sd
  exact Or.inl ⟨hr, fun k k0 k1 z => by
    have := A k (by omega) k1
    rcases z with z | z <;> omega⟩
/-! what is needed, how late: the class -/
def fl_nxC (h : fz_H) (pm th to : Int) : Int → Int := fun w => fl_lxC h (th / 1000) (th % 1000) w (pm % 10) (pm / 10) (to / 1000) (to % 1000)
def fl_lyC (h : fz_H) (pm t to w : Int) : Int → Int := fun ho => fl_lxC h t ho w (pm % 10) (pm / 10) (to / 1000) (to % 1000)
def fl_oN (b pm th to x : Int) : Prop := (0 ≤ pm ∧ pm ≤ 39 ∧ pm % 10 < 5) ∧ (0 ≤ th ∧ th / 1000 < b) ∧ (0 ≤ to ∧ to / 1000 < b) ∧ 1 ≤ x ∧ x ≤ 99
def fl_oL2 (b pm t to wx : Int) : Prop := (0 ≤ pm ∧ pm ≤ 39 ∧ pm % 10 < 5) ∧ (0 ≤ t ∧ t < b) ∧ (0 ≤ to ∧ to / 1000 < b) ∧ 100 ≤ wx ∧ wx ≤ 999 ∧ wx % 100 ≠ 0
def fl_ndC (h : fz_H) (pm th to x r : Int) : Prop := (fl_oN (h 1 7) pm th to x ∧ fl_fs (fl_P2 (fl_SC h (pm / 10) (pm / 10) (pm % 10) (to / 1000) (to % 1000)) (fl_nxC h pm th to) x) 1 9 r) ∨ (¬ fl_oN (h 1 7) pm th to x ∧ r = -1)
def fl_lyCC (h : fz_H) (pm t to wx r : Int) : Prop := (fl_oL2 (h 1 7) pm t to wx ∧ fl_ls (fl_P2 (fl_SC h (pm / 10) (pm / 10) (pm % 10) (to / 1000) (to % 1000)) (fl_lyC h pm t to (wx / 100)) (wx % 100)) 0 999 r) ∨ (¬ fl_oL2 (h 1 7) pm t to wx ∧ r = -1)
/-- a deed imagined, how loud -/
theorem fl_lx_im {S : List (Nat × Nat)} {h Hb H : fz_H} {pm t a wt on tt hr y : Int} (w : fz_wrC Hb H 10 pm t a wt) (f : fz_fr S h Hb) (hs : S.all (fun q => !([2, 8, 15, 16, 17].any (Nat.beq q.1))) = true) (ld : y = fl_ldC H on tt hr 10) : y = fl_lxC h t a wt (pm % 10) on tt hr := by
  have k : ∀ c, [2, 8, 15, 16, 17].any (fun x => Nat.beq c x) = true → Hb c = h c := fun c hc => funext fun s => fl_fr_c f hs hc
  unfold fz_wrC at w
  have g : ∀ c, c ≠ 10 ∧ c ≠ 13 ∧ c ≠ 11 ∧ c ≠ 12 ∧ c ≠ 14 → H c = Hb c := fun c hc => by
    rw [w, fz_up_ne hc.2.2.2.2, fz_up_ne hc.2.2.2.1, fz_up_ne hc.2.2.1, fz_up_ne hc.2.1, fz_up_ne hc.1]
  have e2 : H 2 = h 2 := (g 2 (by decide)).trans (k 2 rfl)
  have e8 : H 8 = h 8 := (g 8 (by decide)).trans (k 8 rfl)
  have v := fl_vC_e (h := h) (H := H) (congrFun ((g 15 (by decide)).trans (k 15 rfl)) 4) ((g 16 (by decide)).trans (k 16 rfl)) ((g 17 (by decide)).trans (k 17 rfl))
  have e11 : H 11 10 = t := by rw [w, fz_up_o (by decide), fz_up_o (by decide)]; exact fz_up_e
  have e12 : H 12 10 = a := by rw [w, fz_up_o (by decide)]; exact fz_up_e
  have e14 : H 14 10 = wt := by rw [w]; exact fz_up_e
  have e13 : H 13 10 = pm % 10 := by rw [w, fz_up_o (by decide), fz_up_o (by decide), fz_up_o (by decide)]; exact fz_up_e
  rw [ld, fl_ldC_x]
  show fl_lxC H (H 11 10) (H 12 10) (H 14 10) (H 13 10) on tt hr = _
  rw [e11, e12, e13, e14]
  unfold fl_lxC fl_hxC
  rw [e2, e8, v]
/-! the model -/
noncomputable def fl_nxM (h : fz_H) (pm th to : Int) : Int → Int := fun w => fl_lxM h (th / 1000) (th % 1000) w (pm % 10) (pm / 10) (to / 1000) (to % 1000)
noncomputable def fl_lyM (h : fz_H) (pm t to w : Int) : Int → Int := fun ho => fl_lxM h t ho w (pm % 10) (pm / 10) (to / 1000) (to % 1000)
noncomputable def fl_ndM (h : fz_H) (pm th to x r : Int) : Prop := (fl_oN (h 53 0) pm th to x ∧ fl_fs (fl_P2 (fl_SM h (pm / 10) (pm % 10) (to / 1000) (to % 1000)) (fl_nxM h pm th to) x) 1 9 r) ∨ (¬ fl_oN (h 53 0) pm th to x ∧ r = -1)
noncomputable def fl_lyMM (h : fz_H) (pm t to wx r : Int) : Prop := (fl_oL2 (h 53 0) pm t to wx ∧ fl_ls (fl_P2 (fl_SM h (pm / 10) (pm % 10) (to / 1000) (to % 1000)) (fl_lyM h pm t to (wx / 100)) (wx % 100)) 0 999 r) ∨ (¬ fl_oL2 (h 53 0) pm t to wx ∧ r = -1)
theorem fl_nd_eq {h h1 : fz_H} {pm th to x r q : Int} (R : fl_Rl h) (k : ∀ c s : Nat, 53 ≤ c → h1 c s = h c s) (c : fl_ndC h pm th to x r) (m : fl_ndM h1 pm th to x q) : r = q := by
  have n0 := R.2.2.2.2.2.2.2.2.2.2.2.1
  unfold fl_ndM fl_nxM at m
  rw [(fl_hi k).2, (fl_hi2 k).2.2.2, k 53 0 (by decide), n0] at m
  rcases c with ⟨c1, c2⟩ | ⟨c1, c2⟩
  · rcases m with ⟨m1, m2⟩ | ⟨m1, m2⟩
    · obtain ⟨z1, ⟨z2, z3⟩, ⟨z4, z5⟩, z6⟩ := c1
      refine fl_fs_u (fun w _ _ => ?_) c2 m2
      unfold fl_P2 fl_nxC
      rw [fl_Rl_S R ⟨by omega, z5⟩, fl_lx_eq R ⟨by omega, z3⟩ (by omega) ⟨by omega, z5⟩]
    · exact absurd c1 m1
  · rcases m with ⟨m1, m2⟩ | ⟨m1, m2⟩
    · exact absurd m1 c1
    · rw [c2, m2]
theorem fl_ly_eq {h h1 : fz_H} {pm t to wx r q : Int} (R : fl_Rl h) (k : ∀ c s : Nat, 53 ≤ c → h1 c s = h c s) (c : fl_lyCC h pm t to wx r) (m : fl_lyMM h1 pm t to wx q) : r = q := by
  have n0 := R.2.2.2.2.2.2.2.2.2.2.2.1
  unfold fl_lyMM fl_lyM at m
  rw [(fl_hi k).2, (fl_hi2 k).2.2.2, k 53 0 (by decide), n0] at m
  rcases c with ⟨c1, c2⟩ | ⟨c1, c2⟩
  · rcases m with ⟨m1, m2⟩ | ⟨m1, m2⟩
    · obtain ⟨z1, z2, ⟨z4, z5⟩, z6⟩ := c1
      refine fl_ls_u (fun ho k0 _ => ?_) c2 m2
      unfold fl_P2 fl_lyC
      rw [fl_Rl_S R ⟨by omega, z5⟩, fl_lx_eq R z2 k0 ⟨by omega, z5⟩]
    · exact absurd c1 m1
  · rcases m with ⟨m1, m2⟩ | ⟨m1, m2⟩
    · exact absurd m1 c1
    · rw [c2, m2]
/-- one deed more in the model's book -/
theorem fl_RPm_nd {h H : fz_H} {p t hr mk wt : Int} (R : fl_RPm h) (nd : fz_ndM h H p t hr mk wt) (ht : t < h 53 0) : fl_RPm H := by
  unfold fz_ndM at nd
  have e10 : H 53 10 = h 53 10 + 1 := by rw [nd, fz_up_e]
  have e0 : H 53 0 = h 53 0 := by
    rw [nd, fz_up_s (by decide), fz_up_o (by decide), fz_up_o (by decide), fz_up_o (by decide), fz_up_o (by decide), fz_up_o (by decide)]
  have e61 : ∀ j, H 61 j = fz_up h 61 (h 53 10).toNat t 61 j := fun j => by
    rw [nd, fz_up_o (by decide), fz_up_o (by decide), fz_up_o (by decide), fz_up_o (by decide)]
    by_cases q : j = (h 53 10).toNat
    · rw [q, fz_up_e, fz_up_e]
    · rw [fz_up_s q, fz_up_s q, fz_up_o (by decide)]
  intro j hj
  rw [e61, e0]
  by_cases q : j = (h 53 10).toNat
  · rw [q, fz_up_e]; exact ht
  · rw [fz_up_s q]; exact R j (by omega)
theorem fl_RPm_dn {h H : fz_H} {x : Int} (e : H = fz_up h 53 10 x) (hx : x ≤ h 53 10) (R : fl_RPm h) : fl_RPm H := by
  intro j hj
  have e10 : H 53 10 = x := by rw [e, fz_up_e]
  rw [e, fz_up_o (by decide), fz_up_s (by decide)]
  exact R j (by omega)
theorem fl_HB_dn {h H : fz_H} {x : Int} (e : H = fz_up h 53 10 x) (hx : x ≤ h 53 10) (B : fl_HB h) : fl_HB H := by
  intro d t hd ht
  have e10 : H 53 10 = x := by rw [e, fz_up_e]
  have e0 : H 53 0 = h 53 0 := by rw [e, fz_up_s (by decide)]
  have a := B d t (by omega) (by omega)
  rw [e, fz_up_o (by decide), fz_up_o (by decide)]
  exact a
/-- what a new deed leaves as it was -/
def fl_nd4 (h H : fz_H) (p t hr mk wt : Int) : Prop := H 53 10 = h 53 10 + 1 ∧ H 53 0 = h 53 0 ∧ (∀ c, c ≠ 60 ∧ c ≠ 61 ∧ c ≠ 62 ∧ c ≠ 63 ∧ c ≠ 64 ∧ c ≠ 53 → H c = h c) ∧ (∀ s, s ≠ 10 → H 53 s = h 53 s) ∧ (∀ j, j ≠ (h 53 10).toNat → H 60 j = h 60 j ∧ H 61 j = h 61 j ∧ H 62 j = h 62 j ∧ H 63 j = h 63 j ∧ H 64 j = h 64 j) ∧ H 60 (h 53 10).toNat = p ∧ H 61 (h 53 10).toNat = t ∧ H 62 (h 53 10).toNat = hr ∧ H 63 (h 53 10).toNat = mk ∧ H 64 (h 53 10).toNat = wt
theorem fl_nd_4 {h H : fz_H} {p t hr mk wt : Int} (nd : fz_ndM h H p t hr mk wt) : fl_nd4 h H p t hr mk wt := by
  unfold fz_ndM at nd
  refine ⟨by rw [nd, fz_up_e], ?_, fun c hc => ?_, fun s hs => ?_, fun j hj => ⟨?_, ?_, ?_, ?_, ?_⟩, ?_, ?_, ?_, ?_, ?_⟩
  · rw [nd, fz_up_s (by decide), fz_up_o (by decide), fz_up_o (by decide), fz_up_o (by decide), fz_up_o (by decide), fz_up_o (by decide)]
  · rw [nd, fz_up_ne hc.2.2.2.2.2, fz_up_ne hc.2.2.2.2.1, fz_up_ne hc.2.2.2.1, fz_up_ne hc.2.2.1, fz_up_ne hc.2.1, fz_up_ne hc.1]
  · rw [nd, fz_up_s hs, fz_up_o (by decide), fz_up_o (by decide), fz_up_o (by decide), fz_up_o (by decide), fz_up_o (by decide)]
  · rw [nd, fz_up_o (by decide), fz_up_o (by decide), fz_up_o (by decide), fz_up_o (by decide), fz_up_o (by decide), fz_up_s hj]
  · rw [nd, fz_up_o (by decide), fz_up_o (by decide), fz_up_o (by decide), fz_up_o (by decide), fz_up_s hj, fz_up_o (by decide)]
  · rw [nd, fz_up_o (by decide), fz_up_o (by decide), fz_up_o (by decide), fz_up_s hj, fz_up_o (by decide), fz_up_o (by decide)]
  · rw [nd, fz_up_o (by decide), fz_up_o (by decide), fz_up_s hj, fz_up_o (by decide), fz_up_o (by decide), fz_up_o (by decide)]
  · rw [nd, fz_up_o (by decide), fz_up_s hj, fz_up_o (by decide), fz_up_o (by decide), fz_up_o (by decide), fz_up_o (by decide)]
  · rw [nd, fz_up_o (by decide), fz_up_o (by decide), fz_up_o (by decide), fz_up_o (by decide), fz_up_o (by decide), fz_up_e]
  · rw [nd, fz_up_o (by decide), fz_up_o (by decide), fz_up_o (by decide), fz_up_o (by decide), fz_up_e]
  · rw [nd, fz_up_o (by decide), fz_up_o (by decide), fz_up_o (by decide), fz_up_e]
  · rw [nd, fz_up_o (by decide), fz_up_o (by decide), fz_up_e]
  · rw [nd, fz_up_o (by decide), fz_up_e]
theorem fl_nd4_EM {h H : fz_H} {p t hr mk wt : Int} (n : fl_nd4 h H p t hr mk wt) : fz_EM H = fz_EM h := by
  obtain ⟨-, -, n3, n4, -⟩ := n
  funext ca
  unfold fz_EM
  rw [n3 55 (by decide), n3 56 (by decide), n3 57 (by decide), n3 58 (by decide), n4 2 (by decide)]
theorem fl_nd4_hM {h H : fz_H} {p t hr mk wt d tt : Int} (n : fl_nd4 h H p t hr mk wt) (ed : d = h 53 10) : fl_hM H d tt = fl_hxM h t hr tt := by
  have e := fl_nd4_EM n
  obtain ⟨n1, n2, n3, n4, n5, n6, n7, n8, n9, n10⟩ := n
  subst ed
  unfold fl_hM fl_hxM
  rw [e, n2, n7, n8, n3 54 (by decide)]
theorem fl_HB_nd {h H1 H : fz_H} {p t hr mk wt d : Int} (B : fl_HB h) (nd : fz_ndM h H1 p t hr mk wt) (he : fl_he1 H1 H d) (ed : d = h 53 10) (e62 : H 62 = H1 62) (e10 : H 53 10 = H1 53 10) (e0 : H 53 0 = H1 53 0) (h0 : 0 ≤ h 53 10) (h8 : h 53 0 ≤ 8) (b54 : ∀ q, 0 ≤ H1 54 q) : fl_HB H := by
  obtain ⟨n1, n2, n3, n4, n5, n6, n7, n8, n9, n10⟩ := fl_nd_4 nd
  intro k q hk hq
  rw [e62]
  by_cases c : k = (h 53 10).toNat
  · have ek : k = d.toNat := by omega
    have z := he.1 q (by omega)
    rw [← ek] at z
    rw [z]
    by_cases c2 : fl_hM H1 d q = -2
    · exact Or.inl c2
    · have g := fl_hM_ge (h := H1) (d := d) (t := q) (b54 _) c2
      rw [← ek] at g
      exact Or.inr g
  · have z := he.2 (8 * k + q) (by omega)
    rw [z, n3 88 (by decide), (n5 k c).2.2.1]
    exact B k q (by omega) (by omega)
/-- as loud with the new deed -/
theorem fl_en_v {h H1 H : fz_H} {p t ho mk wt d tt hr y : Int} (nd : fz_ndM h H1 p t ho mk wt) (he : fl_he1 H1 H d) (ed : d = h 53 10) (e60 : H 60 = H1 60) (e62 : H 62 = H1 62) (e63 : H 63 = H1 63) (e64 : H 64 = H1 64) (e66 : H 66 = H1 66) (e67 : H 67 = H1 67) (e68 : H 68 = H1 68) (e69 : H 69 = H1 69) (e18 : H 53 18 = H1 53 18) (e19 : H 53 19 = H1 53 19) (e10 : H 53 10 = H1 53 10) (h0 : 0 ≤ h 53 10) (h8 : h 53 0 ≤ 8) (ht : 0 ≤ tt ∧ tt < h 53 0) (st : y = fl_ST H p mk tt hr) : y = max (fl_ST h p mk tt hr) (fl_lxM h t ho wt mk p tt hr) := by
  have n := fl_nd_4 nd
  have hm := fl_nd4_hM (tt := tt) n ed
  obtain ⟨n1, n2, n3, n4, n5, n6, n7, n8, n9, n10⟩ := n
  have v : fl_vM H = fl_vM h := by
    refine (fl_vM_e e18 e19 e66 e67 e68 e69).trans (fl_vM_e (n4 18 (by decide)) (n4 19 (by decide)) (n3 66 (by decide)) (n3 67 (by decide)) (n3 68 (by decide)) (n3 69 (by decide)))
  have z := he.1 tt.toNat (by omega)
  rw [show ((tt.toNat : Nat) : Int) = tt by omega, hm] at z
  have ed2 : d.toNat = (h 53 10).toNat := by omega
  rw [ed2] at z
  rw [st]
  unfold fl_ST
  rw [e60, e63, e10, n1, show (h 53 10 + 1).toNat = (h 53 10).toNat + 1 by omega]
  show (if (H1 60 (h 53 10).toNat = p ∨ H1 60 (h 53 10).toNat = p) ∧ H1 63 (h 53 10).toNat = mk then max (fl_sl (H1 60) (H1 63) (fl_ltM H p tt hr) p p mk (h 53 10).toNat) (fl_ltM H p tt hr ((h 53 10).toNat : Nat)) else _) = _
  rw [if_pos ⟨Or.inl n6, n9⟩]
  have a : fl_sl (H1 60) (H1 63) (fl_ltM H p tt hr) p p mk (h 53 10).toNat = fl_sl (h 60) (h 63) (fl_ltM h p tt hr) p p mk (h 53 10).toNat := fl_sl_eq (fun k hk => by
    have q := n5 k (by omega)
    refine ⟨q.1, q.2.2.2.1, ?_⟩
    have w := he.2 (8 * k + tt.toNat) (by omega)
    unfold fl_ltM fl_lvM
    rw [show (8 * (k : Int) + tt).toNat = 8 * k + tt.toNat by omega, show ((k : Nat) : Int).toNat = k by omega, w, n3 88 (by decide), e62, e63, e64, v, q.2.2.1, q.2.2.2.1, q.2.2.2.2])
  have b : fl_ltM H p tt hr ((h 53 10).toNat : Nat) = fl_lxM h t ho wt mk p tt hr := by
    unfold fl_ltM fl_lvM fl_lxM
    rw [show (8 * (((h 53 10).toNat : Nat) : Int) + tt).toNat = 8 * (h 53 10).toNat + tt.toNat by omega, show (((h 53 10).toNat : Nat) : Int).toNat = (h 53 10).toNat by omega, z, e62, e63, e64, v, n8, n9, n10]
  rw [a, b]
def fl_enM (h : fz_H) (pm t hr wt to x r : Int) : Prop := (r = 1 ∧ (x ≤ fl_ST h (pm / 10) (pm % 10) (to / 1000) (to % 1000) ∨ x ≤ fl_lxM h t hr wt (pm % 10) (pm / 10) (to / 1000) (to % 1000))) ∨ (r = 0 ∧ ¬ (x ≤ fl_ST h (pm / 10) (pm % 10) (to / 1000) (to % 1000) ∨ x ≤ fl_lxM h t hr wt (pm % 10) (pm / 10) (to / 1000) (to % 1000)))
theorem fl_en_in {h : fz_H} {pm t hr wt to x r y : Int} (e : y = max (fl_ST h (pm / 10) (pm % 10) (to / 1000) (to % 1000)) (fl_lxM h t hr wt (pm % 10) (pm / 10) (to / 1000) (to % 1000))) (c : (r = 1 ∧ x ≤ y) ∨ (r = 0 ∧ y < x)) : fl_enM h pm t hr wt to x r := by
  unfold fl_enM
  rcases c with ⟨c1, c2⟩ | ⟨c1, c2⟩
  · exact Or.inl ⟨c1, by omega⟩
  · exact Or.inr ⟨c1, by omega⟩
/-- table rows of the deeds that are -/
def fl_lo88 (h h' : fz_H) : Prop := ∀ s : Nat, s < 8 * (h 53 10).toNat → h' 88 s = h 88 s
theorem fl_lo88_in {h H1 H H2 H3 : fz_H} {p t hr mk wt d x : Int} (nd : fz_ndM h H1 p t hr mk wt) (he : fl_he1 H1 H d) (ed : d = h 53 10) (e2 : H2 88 = H 88) (e3 : H3 = fz_up H2 53 10 x) : fl_lo88 h H3 := fun s hs => by
  obtain ⟨n1, n2, n3, n4, n5, n6, n7, n8, n9, n10⟩ := fl_nd_4 nd
  rw [e3, fz_up_o (by decide), e2, he.2 s (by omega), n3 88 (by decide)]
/-- while deeds are thought of one after another -/
theorem fl_ST_lo {S : List (Nat × Nat)} {h H : fz_H} {pe m t hr : Int} {g : Int → Int × Int × Int × Int × Int} (f : fz_fr S h H) (hs : fl_okJ S = true) (lo : fz_apM h H 0 g) (T : fl_HTh h H) (e10 : H 53 10 = h 53 10) (ht : 0 ≤ t ∧ t < h 53 0) : fl_ST H pe m t hr = fl_SM h pe m t hr := by
  have v := fl_vM_e (fl_okG_s (s := 18) f hs rfl rfl) (fl_okG_s (s := 19) f hs rfl rfl) (fl_okG_c (c := 66) f hs rfl) (fl_okG_c (c := 67) f hs rfl) (fl_okG_c (c := 68) f hs rfl) (fl_okG_c (c := 69) f hs rfl)
  unfold fl_ST fl_SM
  rw [e10]
  refine fl_sl_eq (fun k hk => ?_)
  have l := lo.1 k (by omega)
  refine ⟨l.1, l.2.2.2.1, ?_⟩
  have x := T k t.toNat (by omega) (by omega)
  rw [show ((t.toNat : Nat) : Int) = t by omega] at x
  unfold fl_ltM fl_ldM fl_lvM
  rw [show (8 * (k : Int) + t).toNat = 8 * k + t.toNat by omega, show ((k : Nat) : Int).toNat = k by omega, x, l.2.2.1, l.2.2.2.1, l.2.2.2.2, v]
theorem fl_lxM_fr {S : List (Nat × Nat)} {h H : fz_H} (f : fz_fr S h H) (hs : fl_okJ S = true) : fl_lxM H = fl_lxM h := by
  have v := fl_vM_e (fl_okG_s (s := 18) f hs rfl rfl) (fl_okG_s (s := 19) f hs rfl rfl) (fl_okG_c (c := 66) f hs rfl) (fl_okG_c (c := 67) f hs rfl) (fl_okG_c (c := 68) f hs rfl) (fl_okG_c (c := 69) f hs rfl)
  funext a ho w m pe t hr
  unfold fl_lxM fl_hxM
  rw [fl_EM_fr (K := []) (L := []) f hs, fl_okG_s (s := 0) f hs rfl rfl, fl_okG_c (c := 54) f hs rfl, v]
/-- both bars at once -/
def fl_n2 (S : Int) (f : Int → Int) : Int → Int := fun k => max S (f k)
theorem fl_en_h {S : List (Nat × Nat)} {h H : fz_H} {pm t hr wt to x r : Int} {g : Int → Int × Int × Int × Int × Int} (f : fz_fr S h H) (hs : fl_okJ S = true) (lo : fz_apM h H 0 g) (T : fl_HTh h H) (e10 : H 53 10 = h 53 10) (ht : 0 ≤ to / 1000 ∧ to / 1000 < h 53 0) (en : fl_enM H pm t hr wt to x r) : (r = 1 ∧ x ≤ max (fl_SM h (pm / 10) (pm % 10) (to / 1000) (to % 1000)) (fl_lxM h t hr wt (pm % 10) (pm / 10) (to / 1000) (to % 1000))) ∨ (r = 0 ∧ max (fl_SM h (pm / 10) (pm % 10) (to / 1000) (to % 1000)) (fl_lxM h t hr wt (pm % 10) (pm / 10) (to / 1000) (to % 1000)) < x) := by
  unfold fl_enM at en
  rw [fl_ST_lo f hs lo T e10 ht, fl_lxM_fr f hs] at en
  rcases en with ⟨a, b⟩ | ⟨a, b⟩
  · exact Or.inl ⟨a, by omega⟩
  · exact Or.inr ⟨a, by omega⟩
theorem fl_fsM {S x a b r : Int} {f : Int → Int} (A : fl_up1 (fl_n2 S f) x a r) (hv : x ≤ fl_n2 S f r) (hr : a ≤ r ∧ r ≤ b) : fl_fs (fl_P2 S f x) a b r := by
  have hv2 : x ≤ max S (f r) := hv
  refine Or.inr ⟨hr.1, hr.2, ?_, fun k k0 k1 z => ?_⟩
  · show x ≤ S ∨ x ≤ f r
    omega
  · have q : max S (f k) < x := A k k0 k1
    have z2 : x ≤ S ∨ x ≤ f k := z
    omega
theorem fl_fsN {S x a b r n : Int} {f : Int → Int} (A : fl_up1 (fl_n2 S f) x a n) (hn : b < n) (hr : r = -2) : fl_fs (fl_P2 S f x) a b r := Or.inl ⟨hr, fun k k0 k1 z => by
  have q : max S (f k) < x := A k k0 (by omega)
  have z2 : x ≤ S ∨ x ≤ f k := z
  omega⟩
theorem fl_lsM {S x a b r : Int} {f : Int → Int} (A : fl_dn1 (fl_n2 S f) x r b) (hv : x ≤ fl_n2 S f r) (hr : a ≤ r ∧ r ≤ b) : fl_ls (fl_P2 S f x) a b r := by
  have hv2 : x ≤ max S (f r) := hv
  refine Or.inr ⟨hr.1, hr.2, ?_, fun k k0 k1 z => ?_⟩
  · show x ≤ S ∨ x ≤ f r
    omega
  · have q : max S (f k) < x := A k k0 k1
    have z2 : x ≤ S ∨ x ≤ f k := z
    omega
theorem fl_lsN {S x a b r n : Int} {f : Int → Int} (A : fl_dn1 (fl_n2 S f) x n b) (hn : n < a) (hr : r = -2) : fl_ls (fl_P2 S f x) a b r := Or.inl ⟨hr, fun k k0 k1 z => by
  have q : max S (f k) < x := A k (by omega) k1
  have z2 : x ≤ S ∨ x ≤ f k := z
  omega⟩
theorem fl_en_0 {r x v : Int} (e : (r = 1 ∧ x ≤ v) ∨ (r = 0 ∧ v < x)) (h : r = 0) : v < x := by omega
theorem fl_en_1 {r x v : Int} (e : (r = 1 ∧ x ≤ v) ∨ (r = 0 ∧ v < x)) (h : r = 1) : x ≤ v := by omega
/-! when first, when last -/
def fl_oF (b pm tx wh : Int) : Prop := (0 ≤ pm ∧ pm ≤ 39 ∧ pm % 10 < 5) ∧ (0 ≤ tx ∧ tx / 100 < b) ∧ tx % 100 ≠ 0 ∧ 0 ≤ wh ∧ wh ≤ 1
def fl_fiP (f : Int → Int) (x wh r : Int) : Prop := (wh = 0 ∧ fl_fs (fun k => x ≤ f k) 0 999 r) ∨ (wh = 1 ∧ fl_ls (fun k => x ≤ f k) 0 999 r)
theorem fl_fiP_u {f g : Int → Int} {x wh r q : Int} (e : ∀ k, 0 ≤ k → k ≤ 999 → f k = g k) (a : fl_fiP f x wh r) (b : fl_fiP g x wh q) : r = q := by
  rcases a with ⟨a1, a2⟩ | ⟨a1, a2⟩
  · rcases b with ⟨b1, b2⟩ | ⟨b1, b2⟩
    · exact fl_fs_u (fun k k0 k1 => by rw [e k k0 k1]) a2 b2
    · exfalso; omega
  · rcases b with ⟨b1, b2⟩ | ⟨b1, b2⟩
    · exfalso; omega
    · exact fl_ls_u (fun k k0 k1 => by rw [e k k0 k1]) a2 b2
def fl_fiC (h : fz_H) (pm tx wh r : Int) : Prop := (fl_oF (h 1 7) pm tx wh ∧ fl_fiP (fl_SC h (pm / 10) (pm / 10) (pm % 10) (tx / 100)) (tx % 100) wh r) ∨ (¬ fl_oF (h 1 7) pm tx wh ∧ r = -1)
noncomputable def fl_fiM (h : fz_H) (pm tx wh r : Int) : Prop := (fl_oF (h 53 0) pm tx wh ∧ fl_fiP (fl_SM h (pm / 10) (pm % 10) (tx / 100)) (tx % 100) wh r) ∨ (¬ fl_oF (h 53 0) pm tx wh ∧ r = -1)
theorem fl_fi_eq {h h1 : fz_H} {pm tx wh r q : Int} (R : fl_Rl h) (k : ∀ c s : Nat, 53 ≤ c → h1 c s = h c s) (c : fl_fiC h pm tx wh r) (m : fl_fiM h1 pm tx wh q) : r = q := by
  have n0 := R.2.2.2.2.2.2.2.2.2.2.2.1
  unfold fl_fiM at m
  rw [(fl_hi k).2, k 53 0 (by decide), n0] at m
  rcases c with ⟨c1, c2⟩ | ⟨c1, c2⟩
  · rcases m with ⟨m1, m2⟩ | ⟨m1, m2⟩
    · exact fl_fiP_u (fun j _ _ => fl_Rl_S R ⟨by have := c1.2.1; omega, c1.2.1.2⟩) c2 m2
    · exact absurd c1 m1
  · rcases m with ⟨m1, m2⟩ | ⟨m1, m2⟩
    · exact absurd m1 c1
    · rw [c2, m2]
/-- the class goes one way or the other -/
def fl_dr (wh k : Int) : Int := if wh = 0 then k else 999 - k
theorem fl_dr_0 {wh k : Int} (h : wh = 0) : k = fl_dr wh k := by unfold fl_dr; rw [if_pos h]
theorem fl_dr_1 {wh k : Int} (h : wh ≠ 0) : 999 - k = fl_dr wh k := by unfold fl_dr; rw [if_neg h]
def fl_fc (f : Int → Int) (x wh n : Int) : Prop := ∀ k, 0 ≤ k → k < n → f (fl_dr wh k) < x
theorem fl_fc_s {f : Int → Int} {x wh n y d : Int} (A : fl_fc f x wh n) (ed : d = fl_dr wh n) (e : y = f d) (h : y < x) : fl_fc f x wh (n + 1) := fun k k0 k1 => by
  by_cases q : k = n
  · rw [q, ← ed, ← e]; exact h
  · exact A k k0 (by omega)
theorem fl_fc_y {f : Int → Int} {x wh n y d : Int} (A : fl_fc f x wh n) (hw : 0 ≤ wh ∧ wh ≤ 1) (hn : 0 ≤ n ∧ n ≤ 999) (ed : d = fl_dr wh n) (e : y = f d) (h : x ≤ y) : fl_fiP f x wh d := by
  by_cases w0 : wh = 0
  · have e2 : d = n := by rw [ed]; exact (fl_dr_0 w0).symm
    refine Or.inl ⟨w0, Or.inr ⟨by omega, by omega, show x ≤ f d by rw [← e]; exact h, fun k k0 k1 z => ?_⟩⟩
    have a := A k k0 (by omega)
    rw [← fl_dr_0 w0] at a
    have z2 : x ≤ f k := z
    omega
  · have e2 : d = 999 - n := by rw [ed]; exact (fl_dr_1 w0).symm
    refine Or.inr ⟨by omega, Or.inr ⟨by omega, by omega, show x ≤ f d by rw [← e]; exact h, fun k k0 k1 z => ?_⟩⟩
    have a := A (999 - k) (by omega) (by omega)
    rw [← fl_dr_1 w0, show 999 - (999 - k) = k by omega] at a
    have z2 : x ≤ f k := z
    omega
theorem fl_fc_n {f : Int → Int} {x wh n r : Int} (A : fl_fc f x wh n) (hw : 0 ≤ wh ∧ wh ≤ 1) (hn : 999 < n) (hr : r = -2) : fl_fiP f x wh r := by
  have key : ∀ k, 0 ≤ k → k ≤ 999 → ¬ x ≤ f k := fun k k0 k1 z => by
    by_cases w0 : wh = 0
    · have a := A k k0 (by omega)
      rw [← fl_dr_0 w0] at a
      omega
    · have a := A (999 - k) (by omega) (by omega)
      rw [← fl_dr_1 w0, show 999 - (999 - k) = k by omega] at a
      omega
  by_cases w0 : wh = 0
  · exact Or.inl ⟨w0, Or.inl ⟨hr, key⟩⟩
  · exact Or.inr ⟨by omega, Or.inl ⟨hr, key⟩⟩
/-- the model keeps the last found -/
def fl_lI (f : Int → Int) (x n r : Int) : Prop := (r = -2 ∧ ∀ k, 0 ≤ k → k < n → f k < x) ∨ (0 ≤ r ∧ r < n ∧ x ≤ f r ∧ ∀ k, r < k → k < n → f k < x)
theorem fl_lI_0 {f : Int → Int} {x : Int} : fl_lI f x 0 (-2) := Or.inl ⟨rfl, fun k k0 k1 => by exfalso; omega⟩
theorem fl_lI_n {f : Int → Int} {x n r y : Int} (I : fl_lI f x n r) (h0 : 0 ≤ n) (e : y = f n) (h : y < x) : fl_lI f x (n + 1) r := by
  rcases I with ⟨a, b⟩ | ⟨a, b, c, d⟩
  · refine Or.inl ⟨a, fun k k0 k1 => ?_⟩
    by_cases q : k = n
    · rw [q, ← e]; exact h
    · exact b k k0 (by omega)
  · refine Or.inr ⟨a, by omega, c, fun k k0 k1 => ?_⟩
    by_cases q : k = n
    · rw [q, ← e]; exact h
    · exact d k k0 (by omega)
theorem fl_lI_y {f : Int → Int} {x n r y : Int} (_I : fl_lI f x n r) (h0 : 0 ≤ n) (e : y = f n) (h : x ≤ y) : fl_lI f x (n + 1) n := Or.inr ⟨h0, by omega, by rw [← e]; exact h, fun k k0 k1 => by exfalso; omega⟩
theorem fl_lI_f {f : Int → Int} {x wh n r y : Int} (I : fl_lI f x n r) (hw : wh = 0) (hr : r = -2) (hn : 0 ≤ n ∧ n ≤ 999) (e : y = f n) (h : x ≤ y) : fl_fiP f x wh n := by
  rcases I with ⟨a, b⟩ | ⟨a, b, c, d⟩
  · exact Or.inl ⟨hw, Or.inr ⟨hn.1, hn.2, show x ≤ f n by rw [← e]; exact h, fun k k0 k1 z => by
      have := b k k0 k1
      have z2 : x ≤ f k := z
      omega⟩⟩
  · exfalso; omega
theorem fl_lI_e {f : Int → Int} {x wh n r : Int} (I : fl_lI f x n r) (hw : (wh = 0 ∧ r = -2) ∨ wh = 1) (hn : n = 1000) : fl_fiP f x wh r := by
  subst hn
  have key : ∀ k, ¬ f k < x ↔ x ≤ f k := fun k => by omega
  rcases I with ⟨a, b⟩ | ⟨a, b, c, d⟩
  · rcases hw with ⟨w, _⟩ | w
    · exact Or.inl ⟨w, Or.inl ⟨a, fun k k0 k1 z => (key k).mpr z (b k k0 (by omega))⟩⟩
    · exact Or.inr ⟨w, Or.inl ⟨a, fun k k0 k1 z => (key k).mpr z (b k k0 (by omega))⟩⟩
  · rcases hw with ⟨w, w2⟩ | w
    · exfalso; omega
    · exact Or.inr ⟨w, Or.inr ⟨a, by omega, c, fun k k0 k1 z => (key k).mpr z (d k k0 (by omega))⟩⟩
/-! ===== judged by what is seen ===== -/
def fl_jf (g v : Int → Int) (len r : Int) : Prop := (r = -2 ∧ ∀ k, 0 ≤ k → k < 5 → k < len → g k = v k) ∨ (0 ≤ r ∧ r < 5 ∧ r < len ∧ g r ≠ v r ∧ ∀ k, 0 ≤ k → k < r → g k = v k)
theorem fl_jf_u {g v g' v' : Int → Int} {len len' r q : Int} (el : len' = len) (e : ∀ k, 0 ≤ k → k < 5 → g' k = g k ∧ v' k = v k) (a : fl_jf g v len r) (b : fl_jf g' v' len' q) : r = q := by
  subst el
  rcases a with ⟨a1, a2⟩ | ⟨a1, a2, a3, a4, a5⟩
  · rcases b with ⟨b1, b2⟩ | ⟨b1, b2, b3, b4, b5⟩
    · omega
    · have := a2 q b1 b2 b3
      have x := e q b1 b2
      exact absurd (by rw [x.1, x.2]; exact this) b4
  · rcases b with ⟨b1, b2⟩ | ⟨b1, b2, b3, b4, b5⟩
    · have := b2 r a1 a2 a3
      have x := e r a1 a2
      exact absurd (by rw [← x.1, ← x.2]; exact this) a4
    · by_cases c : r < q
      · have := b5 r a1 c
        have x := e r a1 a2
        exact absurd (by rw [← x.1, ← x.2]; exact this) a4
      · by_cases d : q < r
        · have := a5 q b1 d
          have x := e q b1 b2
          exact absurd (by rw [x.1, x.2]; exact this) b4
        · omega
theorem fl_jf_e {g v g' v' : Int → Int} {len len' r : Int} (el : len' = len) (e : ∀ k, 0 ≤ k → k < 5 → g' k = g k ∧ v' k = v k) (b : fl_jf g' v' len' r) : fl_jf g v len r := by
  subst el
  rcases b with ⟨b1, b2⟩ | ⟨b1, b2, b3, b4, b5⟩
  · exact Or.inl ⟨b1, fun k k0 k1 k2 => by have x := e k k0 k1; rw [← x.1, ← x.2]; exact b2 k k0 k1 k2⟩
  · exact Or.inr ⟨b1, b2, b3, fun z => b4 (by have x := e r b1 b2; rw [x.1, x.2]; exact z), fun k k0 k1 => by have x := e k k0 (by omega); rw [← x.1, ← x.2]; exact b5 k k0 k1⟩
/-- so far all alike -/
def fl_jI (g v : Int → Int) (n : Int) : Prop := ∀ k, 0 ≤ k → k < n → g k = v k
theorem fl_jI_0 {g v : Int → Int} {n : Int} (h : n ≤ 0) : fl_jI g v n := fun k k0 k1 => by exfalso; omega
theorem fl_jI_s {g v : Int → Int} {n x y : Int} (I : fl_jI g v n) (ex : x = g n) (ey : y = v n) (h : x = y) : fl_jI g v (n + 1) := fun k k0 k1 => by
  by_cases q : k = n
  · rw [q, ← ex, ← ey]; exact h
  · exact I k k0 (by omega)
theorem fl_jI_y {g v : Int → Int} {n x y len : Int} (I : fl_jI g v n) (ex : x = g n) (ey : y = v n) (h : x ≠ y) (hn : 0 ≤ n ∧ n < 5 ∧ n < len) : fl_jf g v len n := Or.inr ⟨hn.1, hn.2.1, hn.2.2, by rw [← ex, ← ey]; exact h, I⟩
theorem fl_jI_n {g v : Int → Int} {n len r : Int} (I : fl_jI g v n) (h : 5 ≤ n ∨ len ≤ n) (hr : r = -2) : fl_jf g v len r := Or.inl ⟨hr, fun k k0 k1 k2 => I k k0 (by omega)⟩
def fl_oJ (b s on th : Int) : Prop := (0 ≤ s ∧ s ≤ 5) ∧ (0 ≤ on ∧ on ≤ 3) ∧ 0 ≤ th ∧ th / 1000 < b
/-- what bars it: the class, the model -/
def fl_rfC (h : fz_H) (s on th r : Int) : Prop := (¬ fl_oJ (h 1 7) s on th ∧ r = -1) ∨ (fl_oJ (h 1 7) s on th ∧ h 48 s.toNat = 0 ∧ r = -11) ∨ (fl_oJ (h 1 7) s on th ∧ h 48 s.toNat ≠ 0 ∧ ¬ (h 48 s.toNat = 2 ∧ h 50 s.toNat = 0) ∧ r = -12) ∨ (fl_oJ (h 1 7) s on th ∧ h 48 s.toNat = 2 ∧ h 50 s.toNat = 0 ∧ r = 0)
def fl_gjC (h : fz_H) (s : Int) : Int → Int := fun k => h 52 (60 * s + k).toNat
def fl_gjM (h : fz_H) (s : Int) : Int → Int := fun k => h 85 (60 * s + k).toNat
def fl_jdC (h : fz_H) (s on th r : Int) : Prop := (¬ fl_oJ (h 1 7) s on th ∧ r = -1) ∨ (fl_oJ (h 1 7) s on th ∧ h 48 s.toNat = 0 ∧ r = -11) ∨ (fl_oJ (h 1 7) s on th ∧ h 48 s.toNat ≠ 0 ∧ ¬ (h 48 s.toNat = 2 ∧ h 50 s.toNat = 0) ∧ r = -12) ∨ ((fl_oJ (h 1 7) s on th ∧ h 48 s.toNat = 2 ∧ h 50 s.toNat = 0) ∧ fl_jf (fl_gjC h s) (fun k => fl_SC h on on k (th / 1000) (th % 1000)) (h 51 s.toNat) r)
noncomputable def fl_jdM (h : fz_H) (s on th r : Int) : Prop := (¬ fl_oJ (h 53 0) s on th ∧ r = -1) ∨ (fl_oJ (h 53 0) s on th ∧ h 83 s.toNat = -1 ∧ r = -11) ∨ (fl_oJ (h 53 0) s on th ∧ h 83 s.toNat ≠ -1 ∧ h 83 s.toNat ≠ 0 ∧ r = -12) ∨ ((fl_oJ (h 53 0) s on th ∧ h 83 s.toNat = 0) ∧ fl_jf (fl_gjM h s) (fun k => fl_SM h on k (th / 1000) (th % 1000)) (h 84 s.toNat) r)
theorem fl_jd_r {h : fz_H} {s on th r : Int} (c : fl_rfC h s on th r) (hr : r < 0) : fl_jdC h s on th r := by
  rcases c with c | c | c | c
  · exact Or.inl c
  · exact Or.inr (Or.inl c)
  · exact Or.inr (Or.inr (Or.inl c))
  · exfalso; have := c.2.2.2; omega
theorem fl_rf_0 {h : fz_H} {s on th r : Int} (c : fl_rfC h s on th r) (hr : ¬ r < 0) : fl_oJ (h 1 7) s on th ∧ h 48 s.toNat = 2 ∧ h 50 s.toNat = 0 := by
  rcases c with ⟨_, c⟩ | ⟨_, _, c⟩ | ⟨_, _, _, c⟩ | ⟨c1, c2, c3, _⟩
  · omega
  · omega
  · omega
  · exact ⟨c1, c2, c3⟩
theorem fl_jd_0 {h H Hb : fz_H} {s on th r x : Int} (c : fl_rfC h s on th x) (hx : ¬ x < 0) (vo : ∀ m : Nat, m < 5 → H 29 m = fl_SC Hb on on m (th / 1000) (th % 1000)) (hs : fl_SC Hb = fl_SC h) (e52 : H 52 = h 52) (e51 : H 51 = h 51) (j : fl_jf (fl_gjC H s) (fun k => H 29 k.toNat) (H 51 s.toNat) r) : fl_jdC h s on th r := by
  refine Or.inr (Or.inr (Or.inr ⟨fl_rf_0 c hx, fl_jf_e (congrFun e51 _) (fun k k0 k1 => ⟨by unfold fl_gjC; rw [e52], ?_⟩) j⟩))
  show H 29 k.toNat = fl_SC h on on k (th / 1000) (th % 1000)
  rw [vo k.toNat (by omega), hs, show ((k.toNat : Nat) : Int) = k by omega]
theorem fl_jd_eq {h h1 : fz_H} {s on th r q : Int} (R : fl_Rl h) (hS : fz_RS h) (hP : fz_RP h) (k : ∀ c s : Nat, 53 ≤ c → h1 c s = h c s) (c : fl_jdC h s on th r) (m : fl_jdM h1 s on th q) : r = q := by
  have n0 := R.2.2.2.2.2.2.2.2.2.2.2.1
  unfold fl_jdM fl_gjM at m
  rw [(fl_hi k).2, k 53 0 (by decide), n0, k 83 _ (by decide), k 84 _ (by decide), show h1 85 = h 85 from funext fun z => k 85 z (by decide)] at m
  have key : fl_oJ (h 1 7) s on th → fz_RS1 h s.toNat := fun z => hS s.toNat (by have := z.1; omega)
  unfold fz_RS1 at key
  unfold fz_RP at hP
  rcases c with ⟨c1, c2⟩ | ⟨c1, c2, c3⟩ | ⟨c1, c2, c3, c4⟩ | ⟨⟨c1, c2, c3⟩, c4⟩
  · rcases m with ⟨m1, m2⟩ | ⟨m1, m2⟩ | ⟨m1, m2⟩ | ⟨m1, m2⟩
    · rw [c2, m2]
    · exact absurd m1 c1
    · exact absurd m1 c1
    · exact absurd m1.1 c1
  · have z := key c1
    rcases m with ⟨m1, m2⟩ | ⟨m1, m2, m3⟩ | ⟨m1, m2, m3, m4⟩ | ⟨m1, m2⟩
    · exact absurd c1 m1
    · rw [c3, m3]
    · exfalso; omega
    · exfalso; have := m1.2; omega
  · have z := key c1
    rcases m with ⟨m1, m2⟩ | ⟨m1, m2, m3⟩ | ⟨m1, m2, m3, m4⟩ | ⟨m1, m2⟩
    · exact absurd c1 m1
    · exfalso; omega
    · rw [c4, m4]
    · exfalso; have := m1.2; omega
  · have z := key c1
    rcases m with ⟨m1, m2⟩ | ⟨m1, m2, m3⟩ | ⟨m1, m2, m3, m4⟩ | ⟨m1, m2⟩
    · exact absurd c1 m1
    · exfalso; omega
    · exfalso; omega
    · obtain ⟨z1, z2, z3, z4⟩ := c1
      refine fl_jf_u (by omega) (fun j j0 j1 => ⟨?_, ?_⟩) c4 m2
      · show h 85 _ = h 52 _
        rw [hP]
      · exact (fl_Rl_S R ⟨by omega, z4⟩).symm
/-! ===== two with alike names ===== -/
def fl_l6 : List Nat := [54, 55, 56, 57, 58, 59, 61, 62, 63, 64, 66, 67, 68, 69]
abbrev fl_ok6 (S : List (Nat × Nat)) : Bool := fl_okG fl_l6 fl_l53 S
theorem fl_ST_f6 {S : List (Nat × Nat)} {h H : fz_H} {pe m t hr : Int} (f : fz_fr S h H) (hs : fl_ok6 S = true) (e60 : H 60 = h 60) (T : fl_HTh h H) (ht : 0 ≤ t ∧ t < h 53 0) : fl_ST H pe m t hr = fl_SM h pe m t hr :=
  fl_ST_HT T e60 (fl_okG_c f hs rfl) (fl_okG_c f hs rfl) (fl_okG_c f hs rfl) (fl_okG_c f hs rfl) (fl_okG_c f hs rfl) (fl_okG_c f hs rfl) (fl_okG_c f hs rfl) (fl_okG_s f hs rfl rfl) (fl_okG_s f hs rfl rfl) (fl_okG_s f hs rfl rfl) ht
/-- whoever is said to have done it -/
def fl_SC2 (h : fz_H) (p q m t hr : Int) : Int := fl_SC h p q m t hr
noncomputable def fl_SM2 (h : fz_H) (p q m t hr : Int) : Int := fl_sl (h 60) (h 63) (fl_ldM h p t hr) p q m (h 53 10).toNat
theorem fl_sl_who {wh wh' mk mk' : Nat → Int} {f f' : Int → Int} {p q m : Int} : ∀ {n : Nat}, (∀ k : Nat, k < n → (wh' k = p ↔ (wh k = p ∨ wh k = q)) ∧ mk' k = mk k ∧ f' k = f k) → fl_sl wh' mk' f' p p m n = fl_sl wh mk f p q m n
  | 0, _ => rfl
  | n + 1, h => by
    have a := fl_sl_who (wh := wh) (wh' := wh') (mk := mk) (mk' := mk') (f := f) (f' := f') (p := p) (q := q) (m := m) (n := n) (fun k hk => h k (by omega))
    obtain ⟨b1, b2, b3⟩ := h n (by omega)
    show (if (wh' n = p ∨ wh' n = p) ∧ mk' n = m then max (fl_sl wh' mk' f' p p m n) (f' n) else fl_sl wh' mk' f' p p m n) = (if (wh n = p ∨ wh n = q) ∧ mk n = m then max (fl_sl wh mk f p q m n) (f n) else fl_sl wh mk f p q m n)
    rw [a, b2, b3]
    by_cases c : (wh n = p ∨ wh n = q) ∧ mk n = m
    · rw [if_pos c, if_pos ⟨Or.inl (b1.mpr c.1), c.2⟩]
    · rw [if_neg c, if_neg (fun z => c ⟨b1.mp (z.1.elim id id), z.2⟩)]
theorem fl_Rl_S2 {h : fz_H} {p q m t hr : Int} (R : fl_Rl h) (ht : 0 ≤ t ∧ t < h 1 7) : fl_SC h p q m t hr = fl_SM2 h p q m t hr := by
  have n9 := R.2.2.2.2.2.2.2.2.2.2.2.2.1
  have hL := R.2.2.2.2.2.2.2.1
  have hW := R.2.2.2.2.2.2.2.2.2.1
  unfold fl_SC fl_SM2
  rw [n9]
  refine fl_sl_eq (fun k hk => ⟨?_, ?_, ?_⟩)
  · exact hW k (by omega)
  · exact (hL k (by omega)).2.2.1
  · exact fl_Rl_ld R ⟨by omega, by omega⟩ ht
def fl_alC (h : fz_H) (a b t hr : Int) : Int := fl_al (fun k : Nat => fl_SC h a a (k : Int) t hr) (fun k : Nat => fl_SC h b b (k : Int) t hr) 5
noncomputable def fl_alM (h : fz_H) (a b t hr : Int) : Int := fl_al (fun k : Nat => fl_SM h a (k : Int) t hr) (fun k : Nat => fl_SM h b (k : Int) t hr) 5
theorem fl_alM_in {h H : fz_H} {a b t hr y : Int} (mal : y = fl_al (fun k : Nat => fl_ST H a (k : Int) t hr) (fun k : Nat => fl_ST H b (k : Int) t hr) 5) (E : ∀ pe m, fl_ST H pe m t hr = fl_SM h pe m t hr) : y = fl_alM h a b t hr := mal.trans (fl_al_eq (fun k _ => ⟨E a k, E b k⟩))
theorem fl_alC_fr {h H : fz_H} (e : fl_SC H = fl_SC h) : fl_alC H = fl_alC h := by
  funext a b t hr
  unfold fl_alC
  rw [e]
theorem fl_Rl_al {h : fz_H} {a b t hr : Int} (R : fl_Rl h) (ht : 0 ≤ t ∧ t < h 1 7) : fl_alC h a b t hr = fl_alM h a b t hr := fl_al_eq (fun k _ => ⟨fl_Rl_S R ht, fl_Rl_S R ht⟩)
/-- one voice kept aside -/
theorem fl_cp_5 {h H : fz_H} {k : Nat} (e : H = fz_cp h 29 0 30 0 5) (hk : k < 5) : H 30 k = h 29 k := by
  rw [e]
  unfold fz_cp
  rw [if_pos ⟨rfl, by omega, by omega⟩, Nat.zero_add, Nat.sub_zero]
theorem fl_al_v {h Hb H : fz_H} {p t hr k x : Int} (vo : ∀ m : Nat, m < 5 → H 29 m = fl_SC Hb p p m t hr) (hs : fl_SC Hb = fl_SC h) (q : H 29 k.toNat = x) (hk : 0 ≤ k ∧ k < 5) : x = (fun j : Nat => fl_SC h p p (j : Int) t hr) k.toNat := by
  rw [← q, vo _ (by omega), hs]
theorem fl_al_u {h Hb H1 H2 H3 H : fz_H} {p t hr k x : Int} (vo : ∀ m : Nat, m < 5 → H1 29 m = fl_SC Hb p p m t hr) (hs : fl_SC Hb = fl_SC h) (e : H2 = fz_cp H1 29 0 30 0 5) (e3 : H3 30 = H2 30) (q : H3 30 k.toNat = x) (hk : 0 ≤ k ∧ k < 5) : x = (fun j : Nat => fl_SC h p p (j : Int) t hr) k.toNat := by
  rw [← q, e3, fl_cp_5 e (by omega), vo _ (by omega), hs]
def fl_lt5 (v : Int) : Int := if v < 5 then 1 else 0
theorem fl_lt5_1 {v y : Int} (e : y = v) (h : y < 5) : fl_lt5 v = 1 := by
  rw [← e]
  exact if_pos h
theorem fl_lt5_0 {v y : Int} (e : y = v) (h : ¬ y < 5) : fl_lt5 v = 0 := by
  rw [← e]
  exact if_neg h
def fl_akC (h : fz_H) (pq hr : Int) : Int → Int := fun t => fl_lt5 (fl_alC h (pq / 10) (pq % 10) t hr)
noncomputable def fl_akM (h : fz_H) (pq hr : Int) : Int → Int := fun t => fl_lt5 (fl_alM h (pq / 10) (pq % 10) t hr)
/-- received as if the other's were one's own -/
def fl_rmC (h : fz_H) (p q t hr : Int) : Int := fl_rp (fun m : Nat => fl_SC h p q (m : Int) t hr) (h 28) 5
noncomputable def fl_rmM (h : fz_H) (p q t hr : Int) : Int := fl_rp (fun m : Nat => fl_SM2 h p q (m : Int) t hr) (h 59) 5
theorem fl_rmC_in {h Hb H : fz_H} {p q t hr y : Int} (hs : fl_SC Hb = fl_SC h) (vo : ∀ m : Nat, m < 5 → H 29 m = fl_SC Hb p q m t hr) (e28 : H 28 = h 28) (rc : y = fl_rp (H 29) (H 28) 5) : y = fl_rmC h p q t hr := rc.trans (fl_rp_eq (fun k hk => ⟨by rw [vo k hk, hs], congrFun e28 k⟩))
theorem fl_rmM_in {h H : fz_H} {p q t hr y : Int} (E : ∀ m, fl_ST H p m t hr = fl_SM2 h p q m t hr) (e59 : H 59 = h 59) (rc : y = fl_rp (fun k : Nat => fl_ST H p (k : Int) t hr) (H 59) 5) : y = fl_rmM h p q t hr := rc.trans (fl_rp_eq (fun k _ => ⟨E k, congrFun e59 k⟩))
theorem fl_SM_2 {h : fz_H} {p m t hr : Int} : fl_SM h p m t hr = fl_SM2 h p p m t hr := rfl
/-- with the other's deeds said to be one's -/
theorem fl_ST_mx {S : List (Nat × Nat)} {h G1 G2 H : fz_H} {his p q m t hr n1 n2 : Int} (f : fz_fr S h H) (hs : fl_ok6 S = true) (c : fz_cb (G1 60) q his n1) (e1 : G1 60 = h 60) (g : fz_fgn G2 H n2 his p) (e2 : G2 60 = h 60) (en1 : n1 = h 53 10) (en2 : n2 = h 53 10) (hm : h 53 10 ≤ 11) (T : fl_HTh h H) (ht : 0 ≤ t ∧ t < h 53 0) : fl_ST H p m t hr = fl_SM2 h p q m t hr := by
  have v := fl_vM_e (fl_okG_s (s := 18) f hs rfl rfl) (fl_okG_s (s := 19) f hs rfl rfl) (fl_okG_c (c := 66) f hs rfl) (fl_okG_c (c := 67) f hs rfl) (fl_okG_c (c := 68) f hs rfl) (fl_okG_c (c := 69) f hs rfl)
  unfold fl_ST fl_SM2
  rw [fl_okG_s (s := 10) f hs rfl rfl]
  refine fl_sl_who (fun k hk => ⟨?_, congrFun (fl_okG_c (c := 63) f hs rfl) k, ?_⟩)
  · have z := g k
    have y := c k (by omega)
    rw [e1] at y
    rw [e2] at z
    have yb : fz_bt his k = (decide ((k : Int) < n1) && decide (h 60 k = q)) := y
    by_cases w : h 60 k = q
    · have b : fz_bt his k = true := by rw [yb, decide_eq_true w, decide_eq_true (show (k : Int) < n1 by omega)]; rfl
      rw [if_pos ⟨by omega, b⟩] at z
      exact ⟨fun _ => Or.inr w, fun _ => z⟩
    · have b : ¬ fz_bt his k = true := by rw [yb, decide_eq_false w, Bool.and_false]; decide
      rw [if_neg (fun x => b x.2)] at z
      rw [z]
      exact ⟨Or.inl, fun x => x.elim id (fun x => absurd x w)⟩
  · have x := T k t.toNat (by omega) (by omega)
    rw [show ((t.toNat : Nat) : Int) = t by omega] at x
    unfold fl_ltM fl_ldM fl_lvM
    rw [show (8 * (k : Int) + t).toNat = 8 * k + t.toNat by omega, x, fl_okG_c (c := 62) f hs rfl, fl_okG_c (c := 63) f hs rfl, fl_okG_c (c := 64) f hs rfl, v]
def fl_oK (b pq th wh : Int) : Prop := (0 ≤ pq ∧ pq / 10 ≤ 3 ∧ pq % 10 ≤ 3 ∧ pq / 10 ≠ pq % 10) ∧ (0 ≤ th ∧ th / 1000 < b) ∧ 0 ≤ wh ∧ wh ≤ 2
def fl_akx (a m : Int) (c : Int → Int) (n : Nat) (wh : Int) : Int := if wh = 0 then a else if wh = 2 then m else fl_tb c n
theorem fl_akx_0 {a m : Int} {c : Int → Int} {n : Nat} {wh r : Int} (h : wh = 0) (e : r = a) : r = fl_akx a m c n wh := by
  unfold fl_akx
  rw [if_pos h, e]
theorem fl_akx_2 {a m : Int} {c : Int → Int} {n : Nat} {wh r : Int} (h : wh = 2) (e : r = m) : r = fl_akx a m c n wh := by
  unfold fl_akx
  rw [if_neg (by omega), if_pos h, e]
theorem fl_akx_1 {a m : Int} {c : Int → Int} {n : Nat} {wh r : Int} (h : wh ≠ 0 ∧ wh ≠ 2) (e : r = fl_tb c n) : r = fl_akx a m c n wh := by
  unfold fl_akx
  rw [if_neg h.1, if_neg h.2, e]
def fl_akCC (h : fz_H) (pq th wh r : Int) : Prop := (fl_oK (h 1 7) pq th wh ∧ r = fl_akx (fl_alC h (pq / 10) (pq % 10) (th / 1000) (th % 1000)) (fz_w (fl_rmC h (pq / 10) (pq % 10) (th / 1000) (th % 1000) - fl_rmC h (pq / 10) (pq / 10) (th / 1000) (th % 1000))) (fl_akC h pq (th % 1000)) (h 1 7).toNat wh) ∨ (¬ fl_oK (h 1 7) pq th wh ∧ r = -2000000000)
noncomputable def fl_akMM (h : fz_H) (pq th wh r : Int) : Prop := (fl_oK (h 53 0) pq th wh ∧ r = fl_akx (fl_alM h (pq / 10) (pq % 10) (th / 1000) (th % 1000)) (fz_w (fl_rmM h (pq / 10) (pq % 10) (th / 1000) (th % 1000) - fl_rmM h (pq / 10) (pq / 10) (th / 1000) (th % 1000))) (fl_akM h pq (th % 1000)) (h 53 0).toNat wh) ∨ (¬ fl_oK (h 53 0) pq th wh ∧ r = -2000000000)
theorem fl_hi4 {h h1 : fz_H} (k : ∀ c s : Nat, 53 ≤ c → h1 c s = h c s) : fl_alM h1 = fl_alM h ∧ fl_rmM h1 = fl_rmM h ∧ fl_akM h1 = fl_akM h := by
  have f : ∀ c, 53 ≤ c → h1 c = h c := fun c hc => funext fun s => k c s hc
  have e := (fl_hi k).2
  have l := (fl_hi k).1
  have a : fl_alM h1 = fl_alM h := by
    funext a b t hr
    unfold fl_alM
    rw [e]
  refine ⟨a, ?_, ?_⟩
  · funext p q t hr
    unfold fl_rmM fl_SM2
    rw [l, f 59 (by decide), f 60 (by decide), f 63 (by decide), k 53 10 (by decide)]
  · funext pq hr t
    unfold fl_akM
    rw [a]
theorem fl_ak_eq {h h1 : fz_H} {pq th wh r q : Int} (R : fl_Rl h) (r28 : fz_R28 h) (k : ∀ c s : Nat, 53 ≤ c → h1 c s = h c s) (c : fl_akCC h pq th wh r) (m : fl_akMM h1 pq th wh q) : r = q := by
  have n0 := R.2.2.2.2.2.2.2.2.2.2.2.1
  have rm : ∀ a b t hr, 0 ≤ t ∧ t < h 1 7 → fl_rmC h a b t hr = fl_rmM h a b t hr := fun a b t hr ht => by
    unfold fz_R28 at r28
    exact fl_rp_eq (fun j _ => ⟨fl_Rl_S2 R ht, congrFun r28 j⟩)
  unfold fl_akMM at m
  rw [(fl_hi4 k).1, (fl_hi4 k).2.1, (fl_hi4 k).2.2, k 53 0 (by decide), n0] at m
  refine fl_or c m Iff.rfl (fun z => ?_) rfl
  obtain ⟨_, ⟨z3, z4⟩, _⟩ := z
  rw [fl_Rl_al R ⟨by omega, z4⟩, rm _ _ _ _ ⟨by omega, z4⟩, rm _ _ _ _ ⟨by omega, z4⟩]
  unfold fl_akx
  rw [fl_tb_eq (fun j hj => show fl_akC h pq (th % 1000) (j : Int) = fl_akM h pq (th % 1000) (j : Int) by
    unfold fl_akC fl_akM
    rw [fl_Rl_al R (by omega)])]
/-! ===== what is led ===== -/
def fl_RD (h : fz_H) : Prop := (h 40 2 = h 77 0 ∧ h 40 3 = h 77 1 ∧ h 40 4 = h 77 2 ∧ h 40 5 = h 77 3) ∧ h 43 1 = h 79 0 ∧ h 43 2 = h 79 1 ∧ h 43 3 = h 79 2 ∧ h 43 4 = h 79 3
abbrev fz_RD (h : fz_H) : Prop := fl_RD h
theorem fl_RD_eq {h h' : fz_H} (a2 : h' 40 2 = h 40 2) (a3 : h' 40 3 = h 40 3) (a4 : h' 40 4 = h 40 4) (a5 : h' 40 5 = h 40 5) (e77 : h' 77 = h 77) (b1 : h' 43 1 = h 43 1) (b2 : h' 43 2 = h 43 2) (b3 : h' 43 3 = h 43 3) (b4 : h' 43 4 = h 43 4) (e79 : h' 79 = h 79) (R : fl_RD h) : fl_RD h' := by
  unfold fl_RD
  rw [a2, a3, a4, a5, e77, b1, b2, b3, b4, e79]
  exact R
def fl_ar (S ar : Int) : Int := if 0 < S ∧ ar ≤ S then 1 else 0
theorem fl_ar_in {S ar y d : Int} (ia : (y = 1 ∧ 0 < S ∧ ar ≤ S) ∨ (y = 0 ∧ ¬ (0 < S ∧ ar ≤ S))) (hd : (y = 1 ∧ d = 1) ∨ (y = 0 ∧ d = 0)) : d = fl_ar S ar := by
  unfold fl_ar
  rcases ia with ⟨a, b⟩ | ⟨a, b⟩
  · rw [if_pos b]; omega
  · rw [if_neg b]; omega
/-! walking -/
def fl_wdC (h h' : fz_H) (on rd r : Int) : Prop := (r < 0 ∧ h' 40 2 = h 40 2 ∧ h' 40 3 = h 40 3 ∧ h' 40 4 = h 40 4) ∨ (0 ≤ r ∧ h' 40 2 = fz_w (h 40 2 + 1) ∧ h' 40 3 = fz_w (h 40 3 + h 3 rd.toNat) ∧ h' 40 4 = fz_w (h 40 4 + fl_ar (fl_SC h on on 1 r (h 40 1 + h 3 rd.toNat)) (h 27 8)))
theorem fl_wdC_in {h Hb G H : fz_H} {on rd r now l v d y : Int} (hr : 0 ≤ r) (e2 : H 40 2 = fz_w (h 40 2 + 1)) (e3 : H 40 3 = fz_w (h 40 3 + l)) (hl : l = h 3 rd.toNat) (e4 : H 40 4 = fz_w (v + d)) (hv : v = h 40 4) (vo : ∀ m : Nat, m < 5 → G 29 m = fl_SC Hb on on m r now) (hs : fl_SC Hb = fl_SC h) (hn : now = h 40 1 + h 3 rd.toNat) (e8 : G 27 8 = h 27 8) (ia : (y = 1 ∧ 0 < G 29 1 ∧ G 27 8 ≤ G 29 1) ∨ (y = 0 ∧ ¬ (0 < G 29 1 ∧ G 27 8 ≤ G 29 1))) (hd : (y = 1 ∧ d = 1) ∨ (y = 0 ∧ d = 0)) : fl_wdC h H on rd r := by
  have e := vo 1 (by decide)
  rw [e8, e, hs, hn] at ia
  have z := fl_ar_in ia hd
  subst hl hv
  exact Or.inr ⟨hr, e2, e3, by rw [e4, z]; rfl⟩
def fl_wdM (h h' : fz_H) (on rd r : Int) : Prop := (r < 0 ∧ h' 77 = h 77) ∨ (0 ≤ r ∧ h' 77 0 = fz_w (h 77 0 + 1) ∧ h' 77 1 = fz_w (h 77 1 + h 57 rd.toNat) ∧ h' 77 2 = fz_w (h 77 2 + fl_ar (fl_SM h on 1 r (h 53 34 + h 57 rd.toNat)) (h 53 8)) ∧ h' 77 3 = h 77 3)
theorem fl_SM_fr {S : List (Nat × Nat)} {h H : fz_H} (f : fz_fr S h H) (hs : fl_okS S = true) : fl_SM H = fl_SM h := by
  have e : fz_EM H = fz_EM h := by
    funext ca
    unfold fz_EM
    rw [fl_okG_c (c := 55) f hs rfl, fl_okG_c (c := 56) f hs rfl, fl_okG_c (c := 57) f hs rfl, fl_okG_c (c := 58) f hs rfl, fl_okG_s (s := 2) f hs rfl rfl]
  have v := fl_vM_e (fl_okG_s (s := 18) f hs rfl rfl) (fl_okG_s (s := 19) f hs rfl rfl) (fl_okG_c (c := 66) f hs rfl) (fl_okG_c (c := 67) f hs rfl) (fl_okG_c (c := 68) f hs rfl) (fl_okG_c (c := 69) f hs rfl)
  have l : fl_ldM H = fl_ldM h := by
    funext pe t hr d
    unfold fl_ldM fl_lvM fl_hM
    rw [e, v, fl_okG_s (s := 0) f hs rfl rfl, fl_okG_c (c := 54) f hs rfl, fl_okG_c (c := 61) f hs rfl, fl_okG_c (c := 62) f hs rfl, fl_okG_c (c := 63) f hs rfl, fl_okG_c (c := 64) f hs rfl]
  funext pe m t hr
  unfold fl_SM
  rw [l, fl_okG_c (c := 60) f hs rfl, fl_okG_c (c := 63) f hs rfl, fl_okG_s (s := 10) f hs rfl rfl]
theorem fl_wd_ia {h G A : fz_H} {pe t hr r : Int} (ia : (r = 1 ∧ 0 < fl_ST A pe 1 t hr ∧ A 53 8 ≤ fl_ST A pe 1 t hr) ∨ (r = 0 ∧ ¬ (0 < fl_ST A pe 1 t hr ∧ A 53 8 ≤ fl_ST A pe 1 t hr))) (E : fl_ST A pe 1 t hr = fl_SM G pe 1 t hr) (s : fl_SM G = fl_SM h) (e8 : A 53 8 = h 53 8) : (r = 1 ∧ 0 < fl_SM h pe 1 t hr ∧ h 53 8 ≤ fl_SM h pe 1 t hr) ∨ (r = 0 ∧ ¬ (0 < fl_SM h pe 1 t hr ∧ h 53 8 ≤ fl_SM h pe 1 t hr)) := by
  rw [E, s, e8] at ia
  exact ia
theorem fl_wdM_in {h H0 H1 H2 A H : fz_H} {on rd r a0 a1 l y t now : Int} (hr : 0 ≤ r) (k0 : H0 77 = h 77) (e0 : H1 = fz_up H0 77 0 (fz_w (a0 + 1))) (q0 : H0 77 0 = a0) (e1 : H2 = fz_up H1 77 1 (fz_w (a1 + l))) (q1 : H1 77 1 = a1) (hl : l = h 57 rd.toNat) (kA : A 77 = H2 77) (im : (y = 1 ∧ 0 < fl_SM h on 1 t now ∧ h 53 8 ≤ fl_SM h on 1 t now) ∨ (y = 0 ∧ ¬ (0 < fl_SM h on 1 t now ∧ h 53 8 ≤ fl_SM h on 1 t now))) (ht : t = r) (hn : now = h 53 34 + h 57 rd.toNat) (last : (y = 1 ∧ ∃ (B : fz_H) (a2 : Int), B 77 = A 77 ∧ B 77 2 = a2 ∧ H = fz_up B 77 2 (fz_w (a2 + 1))) ∨ (y = 0 ∧ H 77 = A 77)) (b2 : -2147483648 ≤ h 77 2 ∧ h 77 2 ≤ 2147483647) : fl_wdM h H on rd r := by
  subst ht hn hl
  have z : fl_ar (fl_SM h on 1 t (h 53 34 + h 57 rd.toNat)) (h 53 8) = y := by
    rcases im with ⟨x1, x2⟩ | ⟨x1, x2⟩
    · exact (fl_ar_in (y := y) (d := y) (Or.inl ⟨x1, x2⟩) (by omega)).symm
    · exact (fl_ar_in (y := y) (d := y) (Or.inr ⟨x1, x2⟩) (by omega)).symm
  have A0 : A 77 0 = fz_w (h 77 0 + 1) := by
    rw [kA, e1, fz_up_s (by decide), e0, fz_up_e, ← q0, k0]
  have A1 : A 77 1 = fz_w (h 77 1 + h 57 rd.toNat) := by
    rw [kA, e1, fz_up_e, ← q1, e0, fz_up_s (by decide), k0]
  have A2 : A 77 2 = h 77 2 := by
    rw [kA, e1, fz_up_s (by decide), e0, fz_up_s (by decide), k0]
  have A3 : A 77 3 = h 77 3 := by
    rw [kA, e1, fz_up_s (by decide), e0, fz_up_s (by decide), k0]
  refine Or.inr ⟨hr, ?_⟩
  rw [z]
  rcases last with ⟨y1, B, a2, l1, l2, l3⟩ | ⟨y0, l1⟩
  · rw [l3, fz_up_s (by decide), fz_up_s (by decide), fz_up_e, fz_up_s (by decide), ← l2, l1, A0, A1, A2, A3, y1]
    exact ⟨rfl, rfl, rfl, rfl⟩
  · rw [l1, A0, A1, A2, A3, y0]
    exact ⟨rfl, rfl, (by rw [show h 77 2 + 0 = h 77 2 by omega]; exact (fz_w_id (by omega) (by omega)).symm), rfl⟩
/-- an answer of walk says whether one walked -/
theorem fl_wd_rel {h h1 h2 : fz_H} {on rd r q : Int} (R : fl_Rl h) (D : fl_RD h) (hJ : fz_RJ h) (r3 : fz_R3 h) (rG : fz_RG h) (c : fl_wdC h h1 on rd r) (m : fl_wdM h1 h2 on rd q) (e : r = q) (ht : 0 ≤ r → r < h 1 7) (k : ∀ c s : Nat, 53 ≤ c → h1 c s = h c s) (g : ∀ s, s = 2 ∨ s = 3 ∨ s = 4 → h2 40 s = h1 40 s) (g5 : h2 40 5 = h 40 5) (b1 : h2 43 1 = h 43 1) (b2 : h2 43 2 = h 43 2) (b3 : h2 43 3 = h 43 3) (b4 : h2 43 4 = h 43 4) (e79 : h2 79 = h 79) : fl_RD h2 := by
  obtain ⟨⟨d1, d2, d3, d4⟩, d5, d6, d7, d8⟩ := D
  subst e
  have f77 : h1 77 = h 77 := funext fun s => k 77 s (by decide)
  have f57 : h1 57 = h 57 := funext fun s => k 57 s (by decide)
  unfold fl_wdM at m
  rw [f77, f57, (fl_hi k).2, k 53 34 (by decide), k 53 8 (by decide)] at m
  unfold fz_R3 at r3
  refine ⟨⟨?_, ?_, ?_, ?_⟩, by rw [b1, e79]; exact d5, by rw [b2, e79]; exact d6, by rw [b3, e79]; exact d7, by rw [b4, e79]; exact d8⟩
  · rw [g 2 (Or.inl rfl)]
    rcases c with ⟨c0, c1, c2, c3⟩ | ⟨c0, c1, c2, c3⟩
    · rcases m with ⟨m0, m1⟩ | ⟨m0, m1⟩
      · rw [c1, m1]; exact d1
      · exfalso; omega
    · rcases m with ⟨m0, m1⟩ | ⟨m0, m1, m2, m3, m4⟩
      · exfalso; omega
      · rw [c1, m1, d1]
  · rw [g 3 (Or.inr (Or.inl rfl))]
    rcases c with ⟨c0, c1, c2, c3⟩ | ⟨c0, c1, c2, c3⟩
    · rcases m with ⟨m0, m1⟩ | ⟨m0, m1⟩
      · rw [c2, m1]; exact d2
      · exfalso; omega
    · rcases m with ⟨m0, m1⟩ | ⟨m0, m1, m2, m3, m4⟩
      · exfalso; omega
      · rw [c2, m2, d2, r3]
  · rw [g 4 (Or.inr (Or.inr rfl))]
    rcases c with ⟨c0, c1, c2, c3⟩ | ⟨c0, c1, c2, c3⟩
    · rcases m with ⟨m0, m1⟩ | ⟨m0, m1⟩
      · rw [c3, m1]; exact d3
      · exfalso; omega
    · rcases m with ⟨m0, m1⟩ | ⟨m0, m1, m2, m3, m4⟩
      · exfalso; omega
      · rw [c3, m3, d3, r3, rG.1, hJ.1, fl_Rl_S R ⟨c0, ht c0⟩]
  · rw [g5]
    rcases m with ⟨m0, m1⟩ | ⟨m0, m1, m2, m3, m4⟩
    · rw [m1]; exact d4
    · rw [m4]; exact d4
/-! the image -/
def fl_kiC (h h' : fz_H) : Prop := h' 43 1 = h 40 2 ∧ h' 43 2 = h 40 3 ∧ h' 43 3 = h 40 4 ∧ h' 43 4 = h 40 5
theorem fl_kiC_in {h H1 H2 H3 H4 H5 H6 H7 : fz_H} {a b c d f : Int} (e2 : H2 = fz_up H1 43 0 a) (e3 : H3 = fz_up H2 43 1 b) (e4 : H4 = fz_up H3 43 2 c) (e5 : H5 = fz_up H4 43 3 d) (e6 : H6 = fz_up H5 43 4 f) (e7 : H7 = fz_up H6 40 6 1) (hb : b = h 40 2) (hc : c = h 40 3) (hd : d = h 40 4) (hf : f = h 40 5) : fl_kiC h H7 := by
  subst hb hc hd hf
  refine ⟨?_, ?_, ?_, ?_⟩
  · rw [e7, fz_up_o (by decide), e6, fz_up_s (by decide), e5, fz_up_s (by decide), e4, fz_up_s (by decide), e3, fz_up_e]
  · rw [e7, fz_up_o (by decide), e6, fz_up_s (by decide), e5, fz_up_s (by decide), e4, fz_up_e]
  · rw [e7, fz_up_o (by decide), e6, fz_up_s (by decide), e5, fz_up_e]
  · rw [e7, fz_up_o (by decide), e6, fz_up_e]
def fl_lkC (h h' : fz_H) : Prop := h' 40 2 = h 43 1 ∧ h' 40 3 = h 43 2 ∧ h' 40 4 = h 43 3 ∧ h' 40 5 = h 43 4
theorem fl_lkC_in {h H1 H2 H3 H4 H5 H6 : fz_H} {a b c d f : Int} (e2 : H2 = fz_up H1 40 1 a) (e3 : H3 = fz_up H2 40 2 b) (e4 : H4 = fz_up H3 40 3 c) (e5 : H5 = fz_up H4 40 4 d) (e6 : H6 = fz_up H5 40 5 f) (hb : b = h 43 1) (hc : c = h 43 2) (hd : d = h 43 3) (hf : f = h 43 4) : fl_lkC h H6 := by
  subst hb hc hd hf
  refine ⟨?_, ?_, ?_, ?_⟩
  · rw [e6, fz_up_s (by decide), e5, fz_up_s (by decide), e4, fz_up_s (by decide), e3, fz_up_e]
  · rw [e6, fz_up_s (by decide), e5, fz_up_s (by decide), e4, fz_up_e]
  · rw [e6, fz_up_s (by decide), e5, fz_up_e]
  · rw [e6, fz_up_e]
def fl_bdC (h h' : fz_H) (r : Int) : Prop := (h 40 6 = 0 ∧ h' = h) ∨ (h 40 6 ≠ 0 ∧ fl_lkC h h')
def fl_idM (h h' : fz_H) : Prop := h' 79 = fz_mx (h 77) (h 79) 4
def fl_bdM (h h' : fz_H) (r : Int) : Prop := (h 53 37 = 0 ∧ h' = h) ∨ (h 53 37 ≠ 0 ∧ h' 77 = fz_mx (h 79) (h 77) 4)
theorem fl_mx_i {f g : Nat → Int} {n : Int} {s : Nat} (h : (s : Int) < n) : fz_mx f g n s = f s := if_pos h
theorem fl_id_rel {h h1 h2 : fz_H} (D : fl_RD h) (c : fl_kiC h h1) (m : fl_idM h1 h2) (k : ∀ c s : Nat, 53 ≤ c → h1 c s = h c s) (g : ∀ s, s = 2 ∨ s = 3 ∨ s = 4 ∨ s = 5 → h1 40 s = h 40 s) (fm : ∀ c s : Nat, c < 53 → h2 c s = h1 c s) (e77 : h2 77 = h1 77) : fl_RD h2 := by
  obtain ⟨⟨d1, d2, d3, d4⟩, _⟩ := D
  obtain ⟨c1, c2, c3, c4⟩ := c
  have f77 : h1 77 = h 77 := funext fun s => k 77 s (by decide)
  unfold fl_idM at m
  rw [f77] at m e77
  refine ⟨⟨?_, ?_, ?_, ?_⟩, ?_, ?_, ?_, ?_⟩
  · rw [fm 40 2 (by decide), g 2 (Or.inl rfl), e77]; exact d1
  · rw [fm 40 3 (by decide), g 3 (Or.inr (Or.inl rfl)), e77]; exact d2
  · rw [fm 40 4 (by decide), g 4 (Or.inr (Or.inr (Or.inl rfl))), e77]; exact d3
  · rw [fm 40 5 (by decide), g 5 (Or.inr (Or.inr (Or.inr rfl))), e77]; exact d4
  · rw [fm 43 1 (by decide), c1, m, fl_mx_i (by decide)]; exact d1
  · rw [fm 43 2 (by decide), c2, m, fl_mx_i (by decide)]; exact d2
  · rw [fm 43 3 (by decide), c3, m, fl_mx_i (by decide)]; exact d3
  · rw [fm 43 4 (by decide), c4, m, fl_mx_i (by decide)]; exact d4
theorem fl_bd_rel {h h1 h2 : fz_H} {r q : Int} (D : fl_RD h) (hJ : fz_RJ h) (c : fl_bdC h h1 r) (m : fl_bdM h1 h2 q) (k : ∀ c s : Nat, 53 ≤ c → h1 c s = h c s) (g : h1 43 = h 43) (fm : ∀ c s : Nat, c < 53 → h2 c s = h1 c s) (e79 : h2 79 = h1 79) : fl_RD h2 := by
  have f77 : h1 77 = h 77 := funext fun s => k 77 s (by decide)
  have f79 : h1 79 = h 79 := funext fun s => k 79 s (by decide)
  obtain ⟨⟨d1, d2, d3, d4⟩, d5, d6, d7, d8⟩ := D
  have j := hJ.2.2.1
  unfold fl_bdM at m
  rw [f77, f79, k 53 37 (by decide)] at m
  rw [f79] at e79
  have T : (h2 43 1 = h2 79 0 ∧ h2 43 2 = h2 79 1 ∧ h2 43 3 = h2 79 2 ∧ h2 43 4 = h2 79 3) := by
    rw [fm 43 1 (by decide), fm 43 2 (by decide), fm 43 3 (by decide), fm 43 4 (by decide), g, e79]
    exact ⟨d5, d6, d7, d8⟩
  refine ⟨?_, T⟩
  rcases c with ⟨c1, c2⟩ | ⟨c1, c2, c3, c4, c5⟩
  · rcases m with ⟨m1, m2⟩ | ⟨m1, m2⟩
    · rw [m2, c2]
      exact ⟨d1, d2, d3, d4⟩
    · exfalso; omega
  · rcases m with ⟨m1, m2⟩ | ⟨m1, m2⟩
    · exfalso; omega
    · rw [fm 40 2 (by decide), fm 40 3 (by decide), fm 40 4 (by decide), fm 40 5 (by decide), c2, c3, c4, c5, m2, fl_mx_i (by decide), fl_mx_i (by decide), fl_mx_i (by decide), fl_mx_i (by decide)]
      exact ⟨d5, d6, d7, d8⟩
/-! doing -/
def fl_dd (v v' r : Int) : Prop := (0 ≤ r ∧ v' = fz_w (v + 1)) ∨ (r < 0 ∧ v' = v)
theorem fl_dd_0 {v v' r x : Int} (e : v' = fz_w (x + 0)) (hx : x = v) (b : -2147483648 ≤ v ∧ v ≤ 2147483647) (hr : r < 0) : fl_dd v v' r := by
  subst hx
  refine Or.inr ⟨hr, ?_⟩
  rw [e, show x + 0 = x by omega]
  exact fz_w_id (by omega) (by omega)
theorem fl_dd_1 {v v' r x : Int} (e : v' = fz_w (x + 1)) (hx : x = v) (hr : 0 ≤ r) : fl_dd v v' r := by
  subst hx
  exact Or.inl ⟨hr, e⟩
def fl_ddM (h h' : fz_H) (r : Int) : Prop := (0 ≤ r ∧ h' 77 = fz_up h 77 3 (fz_w (h 77 3 + 1)) 77) ∨ (r < 0 ∧ h' 77 = h 77)
theorem fl_ddM_in {h H1 H : fz_H} {r x : Int} (e : H1 = fz_up h 77 3 (fz_w (x + 1))) (hx : h 77 3 = x) (hr : 0 ≤ r) (f : H 77 = H1 77) : fl_ddM h H r := by
  subst hx
  exact Or.inl ⟨hr, by rw [f, e]⟩
theorem fl_dd_rel {h h1 h2 : fz_H} {r q : Int} (D : fl_RD h) (c : fl_dd (h 40 5) (h1 40 5) r) (m : fl_ddM h1 h2 q) (e : r = q) (k : ∀ c s : Nat, 53 ≤ c → h1 c s = h c s) (g2 : h2 40 2 = h 40 2) (g3 : h2 40 3 = h 40 3) (g4 : h2 40 4 = h 40 4) (g5 : h2 40 5 = h1 40 5) (b1 : h2 43 1 = h 43 1) (b2 : h2 43 2 = h 43 2) (b3 : h2 43 3 = h 43 3) (b4 : h2 43 4 = h 43 4) (e79 : h2 79 = h 79) : fl_RD h2 := by
  obtain ⟨⟨d1, d2, d3, d4⟩, d5, d6, d7, d8⟩ := D
  subst e
  have f77 : h1 77 = h 77 := funext fun s => k 77 s (by decide)
  have T : h2 43 1 = h2 79 0 ∧ h2 43 2 = h2 79 1 ∧ h2 43 3 = h2 79 2 ∧ h2 43 4 = h2 79 3 := by
    rw [b1, b2, b3, b4, e79]
    exact ⟨d5, d6, d7, d8⟩
  refine ⟨?_, T⟩
  rw [g2, g3, g4, g5]
  rcases c with ⟨c0, c1⟩ | ⟨c0, c1⟩
  · rcases m with ⟨m0, m1⟩ | ⟨m0, m1⟩
    · rw [m1, c1, fz_up_s (by decide), fz_up_s (by decide), fz_up_s (by decide), fz_up_e, f77]
      exact ⟨d1, d2, d3, by rw [d4]⟩
    · exfalso; omega
  · rcases m with ⟨m0, m1⟩ | ⟨m0, m1⟩
    · exfalso; omega
    · rw [m1, c1, f77]
      exact ⟨d1, d2, d3, d4⟩
def fl_leC (h : fz_H) (wh r : Int) : Prop := (wh = 0 ∧ r = h 40 2) ∨ (wh = 1 ∧ r = h 40 3) ∨ (wh = 2 ∧ r = h 40 4) ∨ (wh = 3 ∧ r = h 40 5) ∨ (wh = 4 ∧ r = h 40 1) ∨ (¬ (0 ≤ wh ∧ wh ≤ 4) ∧ r = -1)
def fl_leM (h : fz_H) (wh r : Int) : Prop := ((0 ≤ wh ∧ wh ≤ 3) ∧ r = h 77 wh.toNat) ∨ (wh = 4 ∧ r = h 53 34) ∨ (¬ (0 ≤ wh ∧ wh ≤ 4) ∧ r = -1)
theorem fl_le_eq {h : fz_H} {wh r q : Int} (D : fl_RD h) (hJ : fz_RJ h) (c : fl_leC h wh r) (m : fl_leM h wh q) : r = q := by
  obtain ⟨⟨d1, d2, d3, d4⟩, _⟩ := D
  have j : h 40 1 = h 53 34 := hJ.1
  unfold fl_leC at c
  rcases m with ⟨m0, m1⟩ | ⟨m0, m1⟩ | ⟨m0, m1⟩
  · rcases c with ⟨c0, c1⟩ | ⟨c0, c1⟩ | ⟨c0, c1⟩ | ⟨c0, c1⟩ | ⟨c0, c1⟩ | ⟨c0, c1⟩
    · subst c0; rw [c1, m1]; exact d1
    · subst c0; rw [c1, m1]; exact d2
    · subst c0; rw [c1, m1]; exact d3
    · subst c0; rw [c1, m1]; exact d4
    · exfalso; omega
    · exfalso; omega
  · omega
  · omega
/-! ===== sets of deeds ===== -/
def fl_vlx (x : Int) : Nat → Int
  | 0 => 0
  | k + 1 => fl_vlx x k + (if fz_bt x k = true then ((2 ^ k : Nat) : Int) else 0)
def fl_pc (x : Int) : Nat → Int
  | 0 => 0
  | k + 1 => fl_pc x k + (if fz_bt x k = true then 1 else 0)
set_option maxRecDepth 100000 in
theorem fl_tab : (List.range 2048).all (fun n => decide ((n : Int) = fl_vlx (n : Int) 11) && (decide (fl_bc (n : Int) = fl_pc (n : Int) 11) && (List.range 32).all (fun d => Nat.blt d 11 || !(fz_bt (n : Int) d)))) = true := by decide +kernel
theorem fl_tab_i {x : Int} (h : 0 ≤ x ∧ x ≤ 2047) : x = fl_vlx x 11 ∧ fl_bc x = fl_pc x 11 ∧ ∀ d, 11 ≤ d → d < 32 → fz_bt x d = false := by
  have z := List.all_eq_true.mp fl_tab x.toNat (List.mem_range.mpr (by omega))
  have e : ((x.toNat : Nat) : Int) = x := by omega
  simp only [Bool.and_eq_true, decide_eq_true_eq] at z
  rw [e] at z
  refine ⟨z.1, z.2.1, fun d d0 d1 => ?_⟩
  have y := List.all_eq_true.mp z.2.2 d (List.mem_range.mpr d1)
  rw [Bool.or_eq_true] at y
  rcases y with y | y
  · have := Nat.le_of_ble_eq_true y
    omega
  · cases hb : fz_bt x d with
    | false => rfl
    | true => rw [hb] at y; cases y
/-- a set within another -/
def fl_sb (x y : Int) : Prop := ∀ d, d < 11 → fz_bt x d = true → fz_bt y d = true
theorem fl_sb_vl {x y : Int} : ∀ {n : Nat}, (∀ d, d < n → fz_bt x d = true → fz_bt y d = true) → fl_vlx x n ≤ fl_vlx y n ∧ fl_pc x n ≤ fl_pc y n
  | 0, _ => ⟨Int.le_refl _, Int.le_refl _⟩
  | n + 1, h => by
    have a := fl_sb_vl (x := x) (y := y) (n := n) (fun d hd => h d (by omega))
    show fl_vlx x n + (if fz_bt x n = true then ((2 ^ n : Nat) : Int) else 0) ≤ fl_vlx y n + (if fz_bt y n = true then ((2 ^ n : Nat) : Int) else 0) ∧ fl_pc x n + (if fz_bt x n = true then 1 else 0) ≤ fl_pc y n + (if fz_bt y n = true then 1 else 0)
    by_cases c : fz_bt x n = true
    · rw [if_pos c, if_pos (h n (by omega) c), if_pos c, if_pos (h n (by omega) c)]
      omega
    · rw [if_neg c, if_neg c]
      have q : (0 : Int) ≤ ((2 ^ n : Nat) : Int) := Int.natCast_nonneg _
      by_cases d : fz_bt y n = true
      · rw [if_pos d, if_pos d]; omega
      · rw [if_neg d, if_neg d]; omega
theorem fl_sb_le {x y : Int} (hx : 0 ≤ x ∧ x ≤ 2047) (hy : 0 ≤ y ∧ y ≤ 2047) (s : fl_sb x y) : x ≤ y ∧ fl_bc x ≤ fl_bc y := by
  have a := fl_sb_vl (n := 11) s
  have b := fl_tab_i hx
  have c := fl_tab_i hy
  have d := b.1
  have e := c.1
  rw [b.2.1, c.2.1]
  omega
theorem fl_sb_an {x y : Int} (hx : 0 ≤ x ∧ x ≤ 2047) (hy : 0 ≤ y ∧ y ≤ 2047) (s : fl_sb x y) (t : fl_sb y x) : x = y := by
  have a := (fl_sb_le hx hy s).1
  have b := (fl_sb_le hy hx t).1
  omega
theorem fl_and0 {x y : Int} (hx : 0 ≤ x ∧ x ≤ 2047) (s : fl_sb x y) : fz_and x (fz_xor y (-1)) = 0 := by
  have e : fz_and x (fz_xor y (-1)) = (BitVec.ofInt 32 x &&& BitVec.ofInt 32 (fz_xor y (-1))).toInt := rfl
  have z : (BitVec.ofInt 32 x &&& BitVec.ofInt 32 (fz_xor y (-1))) = 0#32 := by
    apply BitVec.eq_of_getLsbD_eq
    intro i hi
    rw [BitVec.getLsbD_and, BitVec.getLsbD_zero]
    cases hb : (BitVec.ofInt 32 x).getLsbD i with
    | false => rfl
    | true =>
      have hb2 : fz_bt x i = true := hb
      have i11 : i < 11 := by
        by_cases c : i < 11
        · exact c
        · have w := (fl_tab_i hx).2.2 i (by omega) hi
          rw [hb2] at w
          cases w
      have n := fz_bt_not (y := y) (d := i) hi
      rw [s i i11 hb2] at n
      have n2 : (BitVec.ofInt 32 (fz_xor y (-1))).getLsbD i = false := n
      rw [n2]
      rfl
  rw [e, z]
  rfl
theorem fl_sb_and {x y : Int} (h : fz_and x (fz_xor y (-1)) = 0) : fl_sb x y := fun d hd b => fz_bt_sub h (by omega) b
/-! ===== walking free ===== -/
theorem fl_sl_ex {wh mk : Nat → Int} {f : Int → Int} {p m ar : Int} : ∀ {n : Nat}, (0 < fl_sl wh mk f p p m n ∧ ar ≤ fl_sl wh mk f p p m n) ↔ ∃ k : Nat, k < n ∧ wh k = p ∧ mk k = m ∧ 0 < f (k : Int) ∧ ar ≤ f (k : Int)
  | 0 => ⟨fun z => absurd z.1 (show ¬ (0 : Int) < 0 by decide), fun ⟨k, hk, _⟩ => by exfalso; omega⟩
  | n + 1 => by
    have a := fl_sl_ex (wh := wh) (mk := mk) (f := f) (p := p) (m := m) (ar := ar) (n := n)
    by_cases c : (wh n = p ∨ wh n = p) ∧ mk n = m
    · have e : fl_sl wh mk f p p m (n + 1) = max (fl_sl wh mk f p p m n) (f (n : Int)) := if_pos c
      rw [e]
      constructor
      · intro z
        by_cases q : 0 < fl_sl wh mk f p p m n ∧ ar ≤ fl_sl wh mk f p p m n
        · obtain ⟨k, k0, k1⟩ := a.mp q
          exact ⟨k, by omega, k1⟩
        · exact ⟨n, by omega, c.1.elim id id, c.2, by omega, by omega⟩
      · rintro ⟨k, k0, k1, k2, k3, k4⟩
        by_cases q : k = n
        · subst q
          omega
        · have := a.mpr ⟨k, by omega, k1, k2, k3, k4⟩
          omega
    · have e : fl_sl wh mk f p p m (n + 1) = fl_sl wh mk f p p m n := if_neg c
      rw [e]
      refine a.trans ⟨fun ⟨k, k0, k1⟩ => ⟨k, by omega, k1⟩, fun ⟨k, k0, k1, k2, k3⟩ => ⟨k, ?_, k1, k2, k3⟩⟩
      by_cases q : k = n
      · subst q
        exact absurd ⟨Or.inl k1, k2⟩ c
      · omega
/-- a deed that by itself has one arrested somewhere -/
def fl_asC (h : fz_H) (hr d : Int) : Prop := ∃ t : Int, 0 ≤ t ∧ t < h 1 7 ∧ 0 < fl_ldC h (h 10 d.toNat) t hr d ∧ h 27 8 ≤ fl_ldC h (h 10 d.toNat) t hr d
def fl_asM (h : fz_H) (hr d : Int) : Prop := ∃ t : Int, 0 ≤ t ∧ t < h 53 0 ∧ 0 < fl_ldM h (h 60 d.toNat) t hr d ∧ h 53 8 ≤ fl_ldM h (h 60 d.toNat) t hr d
def fl_asI (h : fz_H) (hr d n : Int) : Prop := ∀ t : Int, 0 ≤ t → t < n → ¬ (0 < fl_ldC h (h 10 d.toNat) t hr d ∧ h 27 8 ≤ fl_ldC h (h 10 d.toNat) t hr d)
theorem fl_asI_0 {h : fz_H} {hr d : Int} : fl_asI h hr d 0 := fun t t0 t1 => by exfalso; omega
theorem fl_asI_s {h : fz_H} {hr d n v y ar : Int} (I : fl_asI h hr d n) (e : v = fl_ldC h (h 10 d.toNat) n hr d) (ea : ar = h 27 8) (a : (y = 1 ∧ 0 < v ∧ ar ≤ v) ∨ (y = 0 ∧ ¬ (0 < v ∧ ar ≤ v))) (hy : y = 0) : fl_asI h hr d (n + 1) := fun t t0 t1 => by
  subst ea
  by_cases q : t = n
  · rw [q, ← e]; omega
  · exact I t t0 (by omega)
theorem fl_asI_y {h : fz_H} {hr d n v y ar : Int} (e : v = fl_ldC h (h 10 d.toNat) n hr d) (ea : ar = h 27 8) (a : (y = 1 ∧ 0 < v ∧ ar ≤ v) ∨ (y = 0 ∧ ¬ (0 < v ∧ ar ≤ v))) (hy : y ≠ 0) (hn : 0 ≤ n ∧ n < h 1 7) : fl_asC h hr d := by
  subst ea
  exact ⟨n, hn.1, hn.2, by rw [← e]; omega, by rw [← e]; omega⟩
theorem fl_asI_n {h : fz_H} {hr d n : Int} (I : fl_asI h hr d n) (hn : h 1 7 ≤ n) : ¬ fl_asC h hr d := fun ⟨t, t0, t1, t2, t3⟩ => I t t0 (by omega) ⟨t2, t3⟩
theorem fl_as_eq {h : fz_H} {hr d : Int} (R : fl_Rl h) (rG : fz_RG h) (hd : 0 ≤ d ∧ d < h 9 5) : fl_asC h hr d ↔ fl_asM h hr d := by
  have n0 := R.2.2.2.2.2.2.2.2.2.2.2.1
  have hW := R.2.2.2.2.2.2.2.2.2.1
  have w : h 10 d.toNat = h 60 d.toNat := hW d.toNat (by omega)
  unfold fl_asC fl_asM
  rw [n0, w, rG.1]
  constructor
  · rintro ⟨t, t0, t1, t2, t3⟩
    rw [fl_Rl_ld R hd ⟨t0, t1⟩] at t2 t3
    exact ⟨t, t0, t1, t2, t3⟩
  · rintro ⟨t, t0, t1, t2, t3⟩
    rw [← fl_Rl_ld R hd ⟨t0, t1⟩] at t2 t3
    exact ⟨t, t0, t1, t2, t3⟩
/-- deeds of one that must go: as a table of ones -/
noncomputable def fl_g1 (P : Nat → Prop) : Nat → Int := fun d => @ite Int (P d) (Classical.propDecidable _) 1 0
theorem fl_g1_y {P : Nat → Prop} {d : Nat} (h : P d) : fl_g1 P d = 1 := if_pos h
theorem fl_g1_n {P : Nat → Prop} {d : Nat} (h : ¬ P d) : fl_g1 P d ≠ 1 := by
  have e : fl_g1 P d = 0 := if_neg h
  rw [e]
  decide
theorem fl_g1_i {P : Nat → Prop} {d : Nat} (h : fl_g1 P d = 1) : P d := Classical.byContradiction (fun z => fl_g1_n z h)
def fl_fPC (h : fz_H) (on hr : Int) (d : Nat) : Prop := h 10 d = on ∧ h 13 d = 1 ∧ fl_asC h hr (d : Int)
def fl_fPM (h : fz_H) (on hr : Int) (d : Nat) : Prop := h 60 d = on ∧ h 63 d = 1 ∧ fl_asM h hr (d : Int)
def fl_isF (P : Nat → Prop) (n F : Int) : Prop := (0 ≤ F ∧ F ≤ 2047) ∧ fz_cb (fl_g1 P) 1 F n
theorem fl_isF_b {P : Nat → Prop} {n F : Int} (c : fl_isF P n F) {d : Nat} (hd : d < 12) : fz_bt F d = true ↔ ((d : Int) < n ∧ P d) := by
  have z : fz_bt F d = (decide ((d : Int) < n) && decide (fl_g1 P d = 1)) := c.2 d hd
  rw [z, Bool.and_eq_true, decide_eq_true_eq, decide_eq_true_eq]
  exact ⟨fun q => ⟨q.1, fl_g1_i q.2⟩, fun q => ⟨q.1, fl_g1_y q.2⟩⟩
theorem fl_isF_eq {P Q : Nat → Prop} {n F : Int} (e : ∀ d : Nat, (d : Int) < n → (P d ↔ Q d)) (c : fl_isF P n F) : fl_isF Q n F := ⟨c.1, fun d hd => by
  have z : fz_bt F d = true ↔ ((d : Int) < n ∧ P d) := fl_isF_b c hd
  show fz_bt F d = _
  by_cases q : (d : Int) < n
  · by_cases p : P d
    · rw [z.mpr ⟨q, p⟩, decide_eq_true q, decide_eq_true (fl_g1_y ((e d q).mp p))]; rfl
    · rw [decide_eq_false (fl_g1_n (fun y => p ((e d q).mpr y))), Bool.and_false]
      cases hb : fz_bt F d with
      | false => rfl
      | true => exact absurd (z.mp hb).2 p
  · rw [decide_eq_false q, Bool.false_and]
    cases hb : fz_bt F d with
    | false => rfl
    | true => exact absurd (z.mp hb).1 q⟩
def fl_frx (F wh : Int) : Int := if wh = 1 then F else fl_bc F
theorem fl_frx_1 {F wh r : Int} (h : wh = 1) (e : r = F) : r = fl_frx F wh := by
  unfold fl_frx
  rw [if_pos h, e]
theorem fl_frx_0 {F wh r x : Int} (h : wh ≠ 1) (e : x = F) (b : r = fl_bc x) : r = fl_frx F wh := by
  unfold fl_frx
  rw [if_neg h, b, e]
def fl_oFr (on hr wh : Int) : Prop := (0 ≤ on ∧ on ≤ 3) ∧ (0 ≤ hr ∧ hr ≤ 999) ∧ 0 ≤ wh ∧ wh ≤ 1
def fl_frC (h : fz_H) (on hr wh r : Int) : Prop := (fl_oFr on hr wh ∧ ∃ F, fl_isF (fl_fPC h on hr) (h 9 5) F ∧ r = fl_frx F wh) ∨ (¬ fl_oFr on hr wh ∧ r = -1)
def fl_frM (h : fz_H) (on hr wh r : Int) : Prop := (fl_oFr on hr wh ∧ ∀ F, fl_isF (fl_fPM h on hr) (h 53 10) F → r = fl_frx F wh) ∨ (¬ fl_oFr on hr wh ∧ r = -1)
theorem fl_hi5 {h h1 : fz_H} (k : ∀ c s : Nat, 53 ≤ c → h1 c s = h c s) : fl_fPM h1 = fl_fPM h := by
  have f : ∀ c, 53 ≤ c → h1 c = h c := fun c hc => funext fun s => k c s hc
  funext on hr d
  unfold fl_fPM fl_asM
  rw [f 60 (by decide), f 63 (by decide), (fl_hi k).1, k 53 0 (by decide), k 53 8 (by decide)]
theorem fl_fr_eq {h h1 : fz_H} {on hr wh r q : Int} (R : fl_Rl h) (rG : fz_RG h) (k : ∀ c s : Nat, 53 ≤ c → h1 c s = h c s) (c : fl_frC h on hr wh r) (m : fl_frM h1 on hr wh q) : r = q := by
  have n9 := R.2.2.2.2.2.2.2.2.2.2.2.2.1
  have hL := R.2.2.2.2.2.2.2.1
  have hW := R.2.2.2.2.2.2.2.2.2.1
  unfold fl_frM at m
  rw [fl_hi5 k, k 53 10 (by decide), n9] at m
  rcases c with ⟨c1, F, c2, c3⟩ | ⟨c1, c2⟩
  · rcases m with ⟨m1, m2⟩ | ⟨m1, m2⟩
    · have z := m2 F (fl_isF_eq (fun d hd => by
        have a := hW d hd
        have b := (hL d hd).2.2.1
        unfold fl_fPC fl_fPM
        rw [a, b, fl_as_eq R rG ⟨by omega, hd⟩]) c2)
      rw [c3, z]
    · exact absurd c1 m1
  · rcases m with ⟨m1, m2⟩ | ⟨m1, m2⟩
    · exact absurd m1 c1
    · rw [c2, m2]
/-- the model: free everywhere -/
def fl_ifM (h : fz_H) (pe hr r : Int) : Prop := (r = 1 ∧ ∀ t : Int, 0 ≤ t → t < h 53 0 → ¬ (0 < fl_ST h pe 1 t hr ∧ h 53 8 ≤ fl_ST h pe 1 t hr)) ∨ (r = 0 ∧ ∃ t : Int, (0 ≤ t ∧ t < h 53 0) ∧ 0 < fl_ST h pe 1 t hr ∧ h 53 8 ≤ fl_ST h pe 1 t hr)
def fl_ifI (h : fz_H) (pe hr n : Int) : Prop := ∀ t : Int, 0 ≤ t → t < n → ¬ (0 < fl_ST h pe 1 t hr ∧ h 53 8 ≤ fl_ST h pe 1 t hr)
theorem fl_ifI_0 {h : fz_H} {pe hr : Int} : fl_ifI h pe hr 0 := fun t t0 t1 => by exfalso; omega
theorem fl_if_h {S : List (Nat × Nat)} {h H : fz_H} {pe t hr y : Int} (f : fz_fr S h H) (hs : fl_f53 S = true) (e8 : H 53 8 = h 53 8) (ia : (y = 1 ∧ 0 < fl_ST H pe 1 t hr ∧ H 53 8 ≤ fl_ST H pe 1 t hr) ∨ (y = 0 ∧ ¬ (0 < fl_ST H pe 1 t hr ∧ H 53 8 ≤ fl_ST H pe 1 t hr))) : (y = 1 ∧ 0 < fl_ST h pe 1 t hr ∧ h 53 8 ≤ fl_ST h pe 1 t hr) ∨ (y = 0 ∧ ¬ (0 < fl_ST h pe 1 t hr ∧ h 53 8 ≤ fl_ST h pe 1 t hr)) := by
  rw [fl_ST_fr f hs, e8] at ia
  exact ia
theorem fl_ifI_s {h : fz_H} {pe hr n y : Int} (I : fl_ifI h pe hr n) (ia : (y = 1 ∧ 0 < fl_ST h pe 1 n hr ∧ h 53 8 ≤ fl_ST h pe 1 n hr) ∨ (y = 0 ∧ ¬ (0 < fl_ST h pe 1 n hr ∧ h 53 8 ≤ fl_ST h pe 1 n hr))) (hy : y = 0) : fl_ifI h pe hr (n + 1) := fun t t0 t1 => by
  by_cases q : t = n
  · rw [q]
    rcases ia with ia | ia
    · exfalso; omega
    · exact ia.2
  · exact I t t0 (by omega)
theorem fl_ifI_y {h : fz_H} {pe hr n y r : Int} (ia : (y = 1 ∧ 0 < fl_ST h pe 1 n hr ∧ h 53 8 ≤ fl_ST h pe 1 n hr) ∨ (y = 0 ∧ ¬ (0 < fl_ST h pe 1 n hr ∧ h 53 8 ≤ fl_ST h pe 1 n hr))) (hy : y ≠ 0) (hn : 0 ≤ n ∧ n < h 53 0) (hr0 : r = 0) : fl_ifM h pe hr r := by
  rcases ia with ia | ia
  · exact Or.inr ⟨hr0, n, hn, ia.2⟩
  · exact absurd ia.1 hy
theorem fl_ifI_n {h : fz_H} {pe hr n r : Int} (I : fl_ifI h pe hr n) (hn : h 53 0 ≤ n) (hr1 : r = 1) : fl_ifM h pe hr r := Or.inl ⟨hr1, fun t t0 t1 => I t t0 (by omega)⟩
/-- a set is put aside -/
theorem fl_ST_fg {S : List (Nat × Nat)} {h G H : fz_H} {se p m t hr ar n : Int} (f : fz_fr S h H) (hs : fl_ok6 S = true) (g : fz_fgn G H n se (-2)) (e2 : G 60 = h 60) (en : n = h 53 10) (hp : 0 ≤ p) (T : fl_HTh h H) (ht : 0 ≤ t ∧ t < h 53 0) : (0 < fl_ST H p m t hr ∧ ar ≤ fl_ST H p m t hr) ↔ ∃ k : Nat, (k : Int) < h 53 10 ∧ (h 60 k = p ∧ ¬ fz_bt se k = true) ∧ h 63 k = m ∧ 0 < fl_ldM h p t hr (k : Int) ∧ ar ≤ fl_ldM h p t hr (k : Int) := by
  have v := fl_vM_e (fl_okG_s (s := 18) f hs rfl rfl) (fl_okG_s (s := 19) f hs rfl rfl) (fl_okG_c (c := 66) f hs rfl) (fl_okG_c (c := 67) f hs rfl) (fl_okG_c (c := 68) f hs rfl) (fl_okG_c (c := 69) f hs rfl)
  have e10 := fl_okG_s (s := 10) f hs rfl rfl
  have e63 := fl_okG_c (c := 63) f hs rfl
  have L : ∀ k : Nat, (k : Int) < h 53 10 → fl_ltM H p t hr (k : Int) = fl_ldM h p t hr (k : Int) := fun k hk => by
    have x := T k t.toNat hk (by omega)
    rw [show ((t.toNat : Nat) : Int) = t by omega] at x
    unfold fl_ltM fl_ldM fl_lvM
    rw [show (8 * (k : Int) + t).toNat = 8 * k + t.toNat by omega, x, fl_okG_c (c := 62) f hs rfl, e63, fl_okG_c (c := 64) f hs rfl, v]
  have W : ∀ k : Nat, (k : Int) < h 53 10 → (H 60 k = p ↔ (h 60 k = p ∧ ¬ fz_bt se k = true)) := fun k hk => by
    have z := g k
    rw [e2] at z
    by_cases b : fz_bt se k = true
    · rw [if_pos ⟨by omega, b⟩] at z
      exact ⟨fun q => by exfalso; omega, fun q => absurd b q.2⟩
    · rw [if_neg (fun x => b x.2)] at z
      rw [z]
      exact ⟨fun q => ⟨q, b⟩, fun q => q.1⟩
  unfold fl_ST
  rw [e10, fl_sl_ex, e63]
  constructor
  · rintro ⟨k, k0, k1, k2, k3, k4⟩
    have hk : (k : Int) < h 53 10 := by omega
    rw [L k hk] at k3 k4
    exact ⟨k, hk, (W k hk).mp k1, k2, k3, k4⟩
  · rintro ⟨k, hk, k1, k2, k3, k4⟩
    rw [← L k hk] at k3 k4
    exact ⟨k, by omega, (W k hk).mpr k1, k2, k3, k4⟩
theorem fl_fr_1 {S : List (Nat × Nat)} {h G H : fz_H} {se p hr n y F : Int} (f : fz_fr S h H) (hs : fl_ok6 S = true) (g : fz_fgn G H n se (-2)) (e2 : G 60 = h 60) (en : n = h 53 10) (hp : 0 ≤ p) (hm : h 53 10 ≤ 11) (T : fl_HTh h H) (i : fl_ifM H p hr y) (hF : fl_isF (fl_fPM h p hr) (h 53 10) F) : (y = 1 → fl_sb F se) ∧ (y = 0 → ¬ fl_sb F se) := by
  have e0 := fl_okG_s (s := 0) f hs rfl rfl
  have e8 := fl_okG_s (s := 8) f hs rfl rfl
  unfold fl_ifM at i
  rw [e0, e8] at i
  refine ⟨fun hy d hd b => ?_, fun hy sb => ?_⟩
  · rcases i with ⟨_, i⟩ | ⟨i, _⟩
    · obtain ⟨b1, b2, b3, t, t0, t1, t2, t3⟩ := (fl_isF_b hF (d := d) (by omega)).mp b
      refine Classical.byContradiction (fun z => i t t0 t1 ?_)
      rw [show ((d : Nat) : Int).toNat = d by omega, b2] at t2 t3
      exact (fl_ST_fg f hs g e2 en hp T ⟨t0, t1⟩).mpr ⟨d, b1, ⟨b2, z⟩, b3, t2, t3⟩
    · exfalso; omega
  · rcases i with ⟨i, _⟩ | ⟨_, t, tt, i2⟩
    · exfalso; omega
    · obtain ⟨k, hk, ⟨k1, k2⟩, k3, k4, k5⟩ := (fl_ST_fg f hs g e2 en hp T tt).mp i2
      have q : k < 11 := by omega
      refine k2 (sb k q ((fl_isF_b hF (d := k) (by omega)).mpr ⟨hk, k1, k3, t, tt.1, tt.2, ?_⟩))
      rw [show ((k : Nat) : Int).toNat = k by omega, k1]
      exact ⟨k4, k5⟩
/-- all of one's deeds -/
theorem fl_F_all {h G : fz_H} {on hr all n F : Int} (c : fz_cb (G 60) on all n) (e : G 60 = h 60) (en : n = h 53 10) (hF : fl_isF (fl_fPM h on hr) (h 53 10) F) : fl_sb F all := fun d hd b => by
  obtain ⟨b1, b2, _⟩ := (fl_isF_b hF (d := d) (by omega)).mp b
  show (BitVec.ofInt 32 all).getLsbD d = true
  rw [c d (by omega), e, decide_eq_true (show (d : Int) < n by omega), decide_eq_true b2]
  rfl
/-- sets tried one after another -/
def fl_frI (h : fz_H) (on hr all found set : Int) : Prop := ∀ F, fl_isF (fl_fPM h on hr) (h 53 10) F → (found = -2 ∧ ∀ S, 0 ≤ S → S < set → fl_sb S all → ¬ fl_sb F S) ∨ (found = F ∧ F < set)
theorem fl_frI_0 {h : fz_H} {on hr all : Int} : fl_frI h on hr all (-2) 0 := fun F _ => Or.inl ⟨rfl, fun S s0 s1 => by exfalso; omega⟩
theorem fl_frI_a {h : fz_H} {on hr all found set : Int} (I : fl_frI h on hr all found set) (c : fz_and set (fz_xor all (-1)) ≠ 0) (hs : 0 ≤ set ∧ set ≤ 2047) : fl_frI h on hr all found (set + 1) := fun F hF => by
  rcases I F hF with ⟨a, b⟩ | ⟨a, b⟩
  · refine Or.inl ⟨a, fun S s0 s1 s2 => ?_⟩
    by_cases q : S = set
    · subst q
      exact absurd (fl_and0 hs s2) c
    · exact b S s0 (by omega) s2
  · exact Or.inr ⟨a, by omega⟩
theorem fl_frI_b {h : fz_H} {on hr all found set : Int} (I : fl_frI h on hr all found set) (c : found ≠ -2) : fl_frI h on hr all found (set + 1) := fun F hF => by
  rcases I F hF with ⟨a, b⟩ | ⟨a, b⟩
  · exact absurd a c
  · exact Or.inr ⟨a, by omega⟩
theorem fl_frI_y {h : fz_H} {on hr all found set : Int} (I : fl_frI h on hr all found set) (hs : 0 ≤ set ∧ set ≤ 2047) (cb : found = -2 ∨ fl_bc set < fl_bc found) (i : ∀ F, fl_isF (fl_fPM h on hr) (h 53 10) F → fl_sb F set) (ha : ∀ F, fl_isF (fl_fPM h on hr) (h 53 10) F → fl_sb F all) : fl_frI h on hr all set (set + 1) := fun F hF => by
  have s := i F hF
  have l := fl_sb_le hF.1 hs s
  have f0 := hF.1.1
  rcases I F hF with ⟨a, b⟩ | ⟨a, b⟩
  · have e : F = set := by
      by_cases q : F < set
      · exact absurd (fun d _ x => x) (b F f0 q (ha F hF))
      · omega
    exact Or.inr ⟨e.symm, by omega⟩
  · exfalso
    rcases cb with c | c
    · omega
    · rw [a] at c
      omega
theorem fl_frI_n {h : fz_H} {on hr all found set : Int} (I : fl_frI h on hr all found set) (i : ∀ F, fl_isF (fl_fPM h on hr) (h 53 10) F → ¬ fl_sb F set) : fl_frI h on hr all found (set + 1) := fun F hF => by
  rcases I F hF with ⟨a, b⟩ | ⟨a, b⟩
  · refine Or.inl ⟨a, fun S s0 s1 s2 => ?_⟩
    by_cases q : S = set
    · rw [q]
      exact i F hF
    · exact b S s0 (by omega) s2
  · exact Or.inr ⟨a, by omega⟩
theorem fl_frI_e {h : fz_H} {on hr all found set : Int} (I : fl_frI h on hr all found set) (hn : all < set) (ha : ∀ F, fl_isF (fl_fPM h on hr) (h 53 10) F → fl_sb F all) (hl : 0 ≤ all ∧ all ≤ 2047) : ∀ F, fl_isF (fl_fPM h on hr) (h 53 10) F → found = F := fun F hF => by
  rcases I F hF with ⟨a, b⟩ | ⟨a, b⟩
  · have s := ha F hF
    have l := fl_sb_le hF.1 hl s
    exact absurd (fun d _ x => x) (b F hF.1.1 (by omega) s)
  · exact a
/-- the class's cells -/
def fl_lc3 : List Nat := [1, 2, 8, 10, 11, 12, 13, 14, 15, 16, 17, 27]
theorem fl_asC_fr {S : List (Nat × Nat)} {h H : fz_H} (f : fz_fr S h H) (hs : S.all (fun q => !(fl_lc3.any (Nat.beq q.1))) = true) : fl_asC H = fl_asC h := by
  have k : ∀ c, fl_lc3.any (fun x => Nat.beq c x) = true → H c = h c := fun c hc => funext fun s => fl_fr_c f hs hc
  have v := fl_vC_e (h := h) (H := H) (congrFun (k 15 rfl) 4) (k 16 rfl) (k 17 rfl)
  have l : fl_ldC H = fl_ldC h := by
    funext on t hr d
    unfold fl_ldC fz_haC
    rw [k 2 rfl, k 8 rfl, k 11 rfl, k 12 rfl, k 13 rfl, k 14 rfl, v]
  funext hr d
  unfold fl_asC
  rw [l, k 1 rfl, k 10 rfl, k 27 rfl]
/-! ===== which deeds it was ===== -/
noncomputable def fl_cn (Q : Int → Prop) : Nat → Int
  | 0 => 0
  | k + 1 => fl_cn Q k + (@ite Int (Q (k : Int)) (Classical.propDecidable _) 1 0)
theorem fl_cn_y {Q : Int → Prop} {n : Int} (h0 : 0 ≤ n) (q : Q n) : fl_cn Q (n + 1).toNat = fl_cn Q n.toNat + 1 := by
  rw [show (n + 1).toNat = n.toNat + 1 by omega]
  show fl_cn Q n.toNat + (@ite Int (Q ((n.toNat : Nat) : Int)) (Classical.propDecidable _) 1 0) = _
  rw [show ((n.toNat : Nat) : Int) = n by omega, if_pos q]
theorem fl_cn_n {Q : Int → Prop} {n : Int} (h0 : 0 ≤ n) (q : ¬ Q n) : fl_cn Q (n + 1).toNat = fl_cn Q n.toNat := by
  rw [show (n + 1).toNat = n.toNat + 1 by omega]
  show fl_cn Q n.toNat + (@ite Int (Q ((n.toNat : Nat) : Int)) (Classical.propDecidable _) 1 0) = _
  rw [show ((n.toNat : Nat) : Int) = n by omega, if_neg q]
  omega
theorem fl_cn_hi {Q : Int → Prop} {a : Nat} (q : ∀ k : Int, (a : Int) ≤ k → ¬ Q k) : ∀ {n : Nat}, fl_cn Q (a + n) = fl_cn Q a
  | 0 => rfl
  | n + 1 => by
    have e := fl_cn_n (Q := Q) (n := ((a + n : Nat) : Int)) (Int.natCast_nonneg _) (q _ (by omega))
    rw [show (((a + n : Nat) : Int) + 1).toNat = a + (n + 1) by omega, show ((a + n : Nat) : Int).toNat = a + n by omega] at e
    rw [e]
    exact fl_cn_hi q
theorem fl_cn_0 {Q : Int → Prop} : ∀ {n : Nat}, 0 ≤ fl_cn Q n
  | 0 => Int.le_refl _
  | n + 1 => by
    have a := fl_cn_0 (Q := Q) (n := n)
    by_cases q : Q (n : Int)
    · have e : fl_cn Q (n + 1) = fl_cn Q n + 1 := congrArg (fl_cn Q n + ·) (if_pos q)
      omega
    · have e : fl_cn Q (n + 1) = fl_cn Q n + 0 := congrArg (fl_cn Q n + ·) (if_neg q)
      omega
/-- the class goes upward -/
def fl_wcI (Q : Int → Prop) (n cnt least inAll : Int) : Prop := cnt = fl_cn Q n.toNat ∧ ((cnt = 0 ∧ least = -2 ∧ inAll = -2 ∧ ∀ k, 0 ≤ k → k < n → ¬ Q k) ∨ (cnt ≠ 0 ∧ (0 ≤ least ∧ least < n ∧ Q least ∧ ∀ k, 0 ≤ k → k < least → ¬ Q k) ∧ (0 ≤ inAll ∧ inAll ≤ 2047) ∧ ∀ d, d < 11 → (fz_bt inAll d = true ↔ ∀ k, 0 ≤ k → k < n → Q k → fz_bt k d = true)))
theorem fl_wcI_0 {Q : Int → Prop} : fl_wcI Q 0 0 (-2) (-2) := ⟨rfl, Or.inl ⟨rfl, rfl, rfl, fun k k0 k1 => by exfalso; omega⟩⟩
theorem fl_wcI_n {Q : Int → Prop} {n cnt least inAll : Int} (I : fl_wcI Q n cnt least inAll) (h0 : 0 ≤ n) (q : ¬ Q n) : fl_wcI Q (n + 1) cnt least inAll := by
  obtain ⟨i1, i2⟩ := I
  refine ⟨by rw [fl_cn_n h0 q]; exact i1, ?_⟩
  rcases i2 with ⟨a, b, c, d⟩ | ⟨a, ⟨b1, b2, b3, b4⟩, c, d⟩
  · refine Or.inl ⟨a, b, c, fun k k0 k1 => ?_⟩
    by_cases e : k = n
    · rw [e]; exact q
    · exact d k k0 (by omega)
  · refine Or.inr ⟨a, ⟨b1, by omega, b3, b4⟩, c, fun x hx => (d x hx).trans ⟨fun z k k0 k1 k2 => ?_, fun z k k0 k1 k2 => z k k0 (by omega) k2⟩⟩
    by_cases e : k = n
    · rw [e] at k2
      exact absurd k2 q
    · exact z k k0 (by omega) k2
theorem fl_wcI_y1 {Q : Int → Prop} {n cnt least inAll : Int} (I : fl_wcI Q n cnt least inAll) (h0 : 0 ≤ n ∧ n ≤ 2047) (q : Q n) (c0 : cnt = 0) : fl_wcI Q (n + 1) (cnt + 1) n n := by
  obtain ⟨i1, i2⟩ := I
  refine ⟨by rw [fl_cn_y h0.1 q, i1], ?_⟩
  rcases i2 with ⟨a, b, c, d⟩ | ⟨a, _⟩
  · refine Or.inr ⟨by omega, ⟨h0.1, by omega, q, d⟩, h0, fun x hx => ⟨fun z k k0 k1 k2 => ?_, fun z => z n h0.1 (by omega) q⟩⟩
    by_cases e : k = n
    · rw [e]; exact z
    · exact absurd k2 (d k k0 (by omega))
  · exact absurd c0 a
theorem fl_wcI_y2 {Q : Int → Prop} {n cnt least inAll : Int} (I : fl_wcI Q n cnt least inAll) (h0 : 0 ≤ n ∧ n ≤ 2047) (q : Q n) (c0 : cnt ≠ 0) : fl_wcI Q (n + 1) (cnt + 1) least (fz_and inAll n) := by
  obtain ⟨i1, i2⟩ := I
  have nn : 0 ≤ cnt := by rw [i1]; exact fl_cn_0
  refine ⟨by rw [fl_cn_y h0.1 q, i1], ?_⟩
  rcases i2 with ⟨a, _⟩ | ⟨a, ⟨b1, b2, b3, b4⟩, c, d⟩
  · exact absurd a c0
  · have m := fz_and_m (x := inAll) (y := n) (by omega) (by omega)
    refine Or.inr ⟨by omega, ⟨b1, by omega, b3, b4⟩, ⟨m.1, by omega⟩, fun x hx => ?_⟩
    rw [fz_bt_and, Bool.and_eq_true, d x hx]
    constructor
    · rintro ⟨z1, z2⟩ k k0 k1 k2
      by_cases e : k = n
      · rw [e]; exact z2
      · exact z1 k k0 (by omega) k2
    · intro z
      exact ⟨fun k k0 k1 k2 => z k k0 (by omega) k2, z n h0.1 (by omega) q⟩
/-- the model downward -/
def fl_mI (Q : Int → Prop) (all set many least surely : Int) : Prop := many = fl_cn Q (all + 1).toNat - fl_cn Q (set + 1).toNat ∧ ((many = 0 ∧ least = -2 ∧ ∀ k, set < k → k ≤ all → ¬ Q k) ∨ (many ≠ 0 ∧ set < least ∧ least ≤ all ∧ Q least ∧ ∀ k, set < k → k < least → ¬ Q k)) ∧ (0 ≤ surely ∧ surely ≤ 2047) ∧ ∀ d, d < 11 → (fz_bt surely d = true ↔ fz_bt all d = true ∧ ∀ k, set < k → k ≤ all → Q k → fz_bt k d = true)
theorem fl_mI_0 {Q : Int → Prop} {all : Int} (h : 0 ≤ all ∧ all ≤ 2047) : fl_mI Q all all 0 (-2) all := ⟨by omega, Or.inl ⟨rfl, rfl, fun k k0 k1 => by exfalso; omega⟩, h, fun d _ => ⟨fun z => ⟨z, fun k k0 k1 => by exfalso; omega⟩, fun z => z.1⟩⟩
theorem fl_mI_n {Q : Int → Prop} {all set many least surely m : Int} (I : fl_mI Q all set many least surely) (h0 : 0 ≤ set) (q : ¬ Q set) (em : m = set - 1) : fl_mI Q all m many least surely := by
  subst em
  obtain ⟨i1, i2, i3, i4⟩ := I
  refine ⟨by rw [show set - 1 + 1 = set by omega, ← fl_cn_n h0 q]; exact i1, ?_, i3, fun d hd => (i4 d hd).trans ⟨fun ⟨z1, z2⟩ => ⟨z1, fun k k0 k1 k2 => ?_⟩, fun ⟨z1, z2⟩ => ⟨z1, fun k k0 k1 k2 => z2 k (by omega) k1 k2⟩⟩⟩
  · rcases i2 with ⟨a, b, c⟩ | ⟨a, b, c, d, e⟩
    · refine Or.inl ⟨a, b, fun k k0 k1 => ?_⟩
      by_cases y : k = set
      · rw [y]; exact q
      · exact c k (by omega) k1
    · refine Or.inr ⟨a, by omega, c, d, fun k k0 k1 => ?_⟩
      by_cases y : k = set
      · rw [y]; exact q
      · exact e k (by omega) k1
  · by_cases y : k = set
    · rw [y] at k2
      exact absurd k2 q
    · exact z2 k (by omega) k1 k2
theorem fl_mI_y {Q : Int → Prop} {all set many least surely m : Int} (I : fl_mI Q all set many least surely) (h0 : 0 ≤ set ∧ set ≤ all ∧ all ≤ 2047) (q : Q set) (hm : 0 ≤ many) (em : m = set - 1) : fl_mI Q all m (many + 1) set (fz_and surely set) := by
  subst em
  obtain ⟨i1, i2, i3, i4⟩ := I
  have z := fz_and_m (x := surely) (y := set) (by omega) (by omega)
  refine ⟨?_, Or.inr ⟨by omega, by omega, h0.2.1, q, fun k k0 k1 => by exfalso; omega⟩, ⟨z.1, by omega⟩, fun d hd => ?_⟩
  · have e := fl_cn_y h0.1 q
    rw [show set - 1 + 1 = set by omega]
    omega
  · rw [fz_bt_and, Bool.and_eq_true, i4 d hd]
    constructor
    · rintro ⟨⟨a, b⟩, c⟩
      refine ⟨a, fun k k0 k1 k2 => ?_⟩
      by_cases y : k = set
      · rw [y]; exact c
      · exact b k (by omega) k1 k2
    · rintro ⟨a, b⟩
      exact ⟨⟨a, fun k k0 k1 k2 => b k (by omega) k1 k2⟩, b set (by omega) h0.2.1 q⟩
def fl_wx (cnt least inAll wh : Int) : Int := if wh = 0 then cnt else if wh = 1 then least else inAll
def fl_mx3 (many least surely wh : Int) : Int := if wh = 0 then many else if wh = 1 ∨ many = 0 then least else surely
theorem fl_w_eq {Q : Int → Prop} {n cnt least inAll all many least' surely wh : Int} (a : fl_wcI Q n cnt least inAll) (b : fl_mI Q all (-1) many least' surely) (hQ : ∀ k, Q k → 0 ≤ k ∧ k ≤ all ∧ fl_sb k all) (hn : 0 ≤ all ∧ all < n) : fl_wx cnt least inAll wh = fl_mx3 many least' surely wh := by
  obtain ⟨a1, a2⟩ := a
  obtain ⟨b1, b2, b3, b4⟩ := b
  have e : cnt = many := by
    have z := fl_cn_hi (Q := Q) (a := (all + 1).toNat) (fun k k0 k1 => by have := (hQ k k1).2.1; omega) (n := (n - (all + 1)).toNat)
    rw [show (all + 1).toNat + (n - (all + 1)).toNat = n.toNat by omega] at z
    rw [a1, z, b1]
    show _ = _ - fl_cn Q 0
    show _ = _ - (0 : Int)
    omega
  subst e
  unfold fl_wx fl_mx3
  rcases a2 with ⟨c0, c1, c2, c3⟩ | ⟨c0, ⟨c1, c2, c3, c4⟩, c5, c6⟩
  · rcases b2 with ⟨d0, d1, d2⟩ | ⟨d0, _⟩
    · rw [c1, c2, d1]
      by_cases w0 : wh = 0
      · rw [if_pos w0, if_pos w0]
      · rw [if_neg w0, if_neg w0, if_pos (Or.inr c0)]
        by_cases w1 : wh = 1
        · rw [if_pos w1]
        · rw [if_neg w1]
    · exact absurd c0 d0
  · rcases b2 with ⟨d0, _⟩ | ⟨d0, d1, d2, d3, d4⟩
    · exact absurd d0 c0
    · have el : least = least' := by
        by_cases x : least < least'
        · exact absurd c3 (d4 least (by omega) x)
        · by_cases y : least' < least
          · exact absurd d3 (c4 least' (by omega) y)
          · omega
      have ei : inAll = surely := by
        refine fl_sb_an c5 b3 (fun d hd z => ?_) (fun d hd z => ?_)
        · have w := (c6 d hd).mp z
          refine (b4 d hd).mpr ⟨?_, fun k k0 k1 k2 => w k (by omega) (by omega) k2⟩
          exact (hQ least c3).2.2 d hd (w least c1 c2 c3)
        · refine (c6 d hd).mpr (fun k k0 k1 k2 => ?_)
          exact ((b4 d hd).mp z).2 k (by omega) (hQ k k2).2.1 k2
      rw [el, ei]
      by_cases w0 : wh = 0
      · rw [if_pos w0, if_pos w0]
      · rw [if_neg w0, if_neg w0]
        by_cases w1 : wh = 1
        · rw [if_pos w1, if_pos (Or.inl w1)]
        · rw [if_neg w1, if_neg (fun z => z.elim w1 c0)]
theorem fl_wcI_eq {Q P : Int → Prop} {n cnt least inAll : Int} (e : ∀ k, Q k ↔ P k) (I : fl_wcI Q n cnt least inAll) : fl_wcI P n cnt least inAll := by
  have : Q = P := funext fun k => propext (e k)
  rw [← this]
  exact I
/-! what one set would tell -/
def fl_b1s (se : Int) : Nat → Int := fun d => if fz_bt se d = true then 1 else 0
theorem fl_b1s_i {se : Int} {d : Nat} : fl_b1s se d = 1 ↔ fz_bt se d = true := by
  unfold fl_b1s
  by_cases c : fz_bt se d = true
  · rw [if_pos c]; exact ⟨fun _ => c, fun _ => rfl⟩
  · rw [if_neg c]; exact ⟨fun z => absurd z (by decide), fun z => absurd z c⟩
theorem fl_sl_c2 {wh wh' mk mk' : Nat → Int} {f f' : Int → Int} {p p2 m : Int} : ∀ {n : Nat}, (∀ k : Nat, k < n → (wh' k = p ↔ wh k = p2) ∧ mk' k = mk k ∧ (wh k = p2 → f' (k : Int) = f (k : Int))) → fl_sl wh' mk' f' p p m n = fl_sl wh mk f p2 p2 m n
  | 0, _ => rfl
  | n + 1, h => by
    have a := fl_sl_c2 (wh := wh) (wh' := wh') (mk := mk) (mk' := mk') (f := f) (f' := f') (p := p) (p2 := p2) (m := m) (n := n) (fun k hk => h k (by omega))
    obtain ⟨b1, b2, b3⟩ := h n (by omega)
    show (if (wh' n = p ∨ wh' n = p) ∧ mk' n = m then max (fl_sl wh' mk' f' p p m n) (f' (n : Int)) else fl_sl wh' mk' f' p p m n) = (if (wh n = p2 ∨ wh n = p2) ∧ mk n = m then max (fl_sl wh mk f p2 p2 m n) (f (n : Int)) else fl_sl wh mk f p2 p2 m n)
    rw [a, b2]
    by_cases c : wh n = p2
    · rw [b3 c]
      by_cases d : mk n = m
      · rw [if_pos ⟨Or.inl (b1.mpr c), d⟩, if_pos ⟨Or.inl c, d⟩]
      · rw [if_neg (fun z => d z.2), if_neg (fun z => d z.2)]
    · rw [if_neg (fun z => c (b1.mp (z.1.elim id id))), if_neg (fun z => c (z.1.elim id id))]
def fl_sn (g v : Int → Int) (len : Int) : Prop := ∀ m, 0 ≤ m → m < 5 → m < len → g m = v m
theorem fl_jf_sn {g v : Int → Int} {len x : Int} (j : fl_jf g v len x) : x = -2 ↔ fl_sn g v len := by
  rcases j with ⟨a, b⟩ | ⟨a, b, c, d, e⟩
  · exact ⟨fun _ => b, fun _ => a⟩
  · exact ⟨fun z => by exfalso; omega, fun z => absurd (z x a b c) d⟩
theorem fl_sn_eq {g v g' v' : Int → Int} {len len' : Int} (el : len' = len) (e : ∀ k, 0 ≤ k → k < 5 → g' k = g k ∧ v' k = v k) : fl_sn g' v' len' ↔ fl_sn g v len := by
  subst el
  exact ⟨fun z k k0 k1 k2 => by have x := e k k0 k1; rw [← x.1, ← x.2]; exact z k k0 k1 k2, fun z k k0 k1 k2 => by have x := e k k0 k1; rw [x.1, x.2]; exact z k k0 k1 k2⟩
/-- the class: how loud each of one's is -/
def fl_vI (h H : fz_H) (on t hr n : Int) : Prop := ∀ d : Nat, (d : Int) < n → h 10 d = on → H 31 d = fl_ldC h on t hr (d : Int)
theorem fl_vI_0 {h H : fz_H} {on t hr : Int} : fl_vI h H on t hr 0 := fun d hd => by exfalso; omega
theorem fl_vI_y {h H H1 H2 : fz_H} {on t hr n v : Int} (I : fl_vI h H on t hr n) (h0 : 0 ≤ n) (e : H2 = fz_up H1 31 n.toNat v) (e1 : H1 31 = H 31) (ev : v = fl_ldC h on t hr n) : fl_vI h H2 on t hr (n + 1) := fun d hd w => by
  rw [e]
  by_cases q : d = n.toNat
  · rw [q, fz_up_e, ev, show ((n.toNat : Nat) : Int) = n by omega]
  · rw [fz_up_s q, e1]
    exact I d (by omega) w
theorem fl_vI_n {h H : fz_H} {on t hr n : Int} (I : fl_vI h H on t hr n) (h0 : 0 ≤ n) (c : h 10 n.toNat ≠ on) : fl_vI h H on t hr (n + 1) := fun d hd w => by
  by_cases q : d = n.toNat
  · rw [q] at w
    exact absurd w c
  · exact I d (by omega) w
theorem fl_vI_e {h H : fz_H} {on t hr n m : Int} (I : fl_vI h H on t hr n) (e : n = m) : fl_vI h H on t hr m := by rw [← e]; exact I
/-- listening to a set -/
def fl_vS (h : fz_H) (se m : Int) : Int := fl_sl (fl_b1s se) (h 13) (fun d => h 31 d.toNat) 1 1 m (h 9 5).toNat
def fl_lsI (h H : fz_H) (se n : Int) : Prop := ∀ m : Nat, m < 5 → H 29 m = fl_sl (fl_b1s se) (h 13) (fun d => h 31 d.toNat) 1 1 m n.toNat
theorem fl_lsI_0 {h H : fz_H} {se v : Int} (z : ∀ s : Nat, s < 5 → H 29 s = v) (hv : v = 0) : fl_lsI h H se 0 := fun m hm => by
  rw [z m hm, hv]
  rfl
theorem fl_lsI_y {h H H2 : fz_H} {se n mk v : Int} (I : fl_lsI h H se n) (h0 : 0 ≤ n ∧ n < 12) (c : fz_and (fz_shr se n) 1 = 1) (em : mk = h 13 n.toNat) (hm : 0 ≤ mk) (ev : v = h 31 n.toNat) (r : ∀ s : Nat, H2 29 s = if s = mk.toNat then max (H 29 mk.toNat) v else H 29 s) : fl_lsI h H2 se (n + 1) := fun m hm5 => by
  have b : fl_b1s se n.toNat = 1 := by
    rw [fz_bt_1 h0] at c
    refine fl_b1s_i.mpr ?_
    cases hy : fz_bt se n.toNat with
    | true => rfl
    | false => rw [hy] at c; cases c
  rw [r]
  by_cases q : m = mk.toNat
  · subst q
    rw [if_pos rfl]
    exact fl_sl_y (I _ hm5) h0.1 ⟨Or.inl b, by omega⟩ ev
  · rw [if_neg q]
    exact fl_sl_n (I m hm5) h0.1 (fun z => q (by omega))
theorem fl_lsI_n {h H : fz_H} {se n : Int} (I : fl_lsI h H se n) (h0 : 0 ≤ n ∧ n < 12) (c : fz_and (fz_shr se n) 1 ≠ 1) : fl_lsI h H se (n + 1) := fun m hm5 => fl_sl_n (I m hm5) h0.1 (fun z => c (by
  have b := fl_b1s_i.mp (z.1.elim id id)
  rw [fz_bt_1 h0, b]
  rfl))
theorem fl_lsI_e {h H : fz_H} {se n : Int} (I : fl_lsI h H se n) (e : n = h 9 5) : ∀ m : Nat, m < 5 → H 29 m = fl_vS h se m := fun m hm => by
  subst e
  exact I m hm
def fl_asS (h : fz_H) (s se : Int) : Prop := fl_sn (fl_gjC h s) (fun m => fl_vS h se m) (h 51 s.toNat)
theorem fl_asS_in {h H : fz_H} {s se x r : Int} (l : ∀ m : Nat, m < 5 → H 29 m = fl_vS h se m) (e52 : H 52 = h 52) (e51 : H 51 = h 51) (j : fl_jf (fl_gjC H s) (fun k => H 29 k.toNat) (H 51 s.toNat) x) (c : (x = -2 ∧ r = 1) ∨ (x ≠ -2 ∧ r = 0)) : (r = 1 ∧ fl_asS h s se) ∨ (r = 0 ∧ ¬ fl_asS h s se) := by
  have z := (fl_jf_sn j).trans (fl_sn_eq (g := fl_gjC h s) (v := fun m => fl_vS h se m) (congrFun e51 _) (fun k k0 k1 => ⟨by unfold fl_gjC; rw [e52], by
    show H 29 k.toNat = fl_vS h se k
    rw [l k.toNat (by omega), show ((k.toNat : Nat) : Int) = k by omega]⟩))
  rcases c with ⟨c1, c2⟩ | ⟨c1, c2⟩
  · exact Or.inl ⟨c2, z.mp c1⟩
  · exact Or.inr ⟨c2, fun y => c1 (z.mpr y)⟩
/-- sets that would be seen so -/
def fl_QC (h : fz_H) (s on t hr own k : Int) : Prop := (0 ≤ k ∧ k ≤ 2047) ∧ fl_sb k own ∧ fl_sn (fl_gjC h s) (fun m => fl_sl (fl_b1s k) (h 13) (fl_ldC h on t hr) 1 1 m (h 9 5).toNat) (h 51 s.toNat)
def fl_QM (h : fz_H) (s on t hr own k : Int) : Prop := (0 ≤ k ∧ k ≤ 2047) ∧ fl_sb k own ∧ fl_sn (fl_gjM h s) (fun m => fl_sl (fl_b1s k) (h 63) (fl_ldM h on t hr) 1 1 m (h 53 10).toNat) (h 84 s.toNat)
def fl_own (g : Nat → Int) (on own n : Int) : Prop := (0 ≤ own ∧ own ≤ 2047) ∧ fz_cb g on own n
theorem fl_own_b {g : Nat → Int} {on own n : Int} (c : fl_own g on own n) {d : Nat} (hd : d < 12) : fz_bt own d = true ↔ ((d : Int) < n ∧ g d = on) := by
  have z : fz_bt own d = (decide ((d : Int) < n) && decide (g d = on)) := c.2 d hd
  rw [z, Bool.and_eq_true, decide_eq_true_eq, decide_eq_true_eq]
theorem fl_own_u {g g' : Nat → Int} {on own own' n : Int} (e : ∀ d : Nat, (d : Int) < n → g' d = g d) (a : fl_own g on own n) (b : fl_own g' on own' n) : own = own' := by
  refine fl_sb_an a.1 b.1 (fun d hd z => ?_) (fun d hd z => ?_)
  · have w := (fl_own_b a (d := d) (by omega)).mp z
    exact (fl_own_b b (d := d) (by omega)).mpr ⟨w.1, by rw [e d w.1]; exact w.2⟩
  · have w := (fl_own_b b (d := d) (by omega)).mp z
    exact (fl_own_b a (d := d) (by omega)).mpr ⟨w.1, by rw [← e d w.1]; exact w.2⟩
/-- the class, at one set -/
theorem fl_QC_1 {h H G : fz_H} {s on t hr own k : Int} (V : fl_vI h G on t hr (h 9 5)) (e31 : H 31 = G 31) (e13 : H 13 = h 13) (e9 : H 9 5 = h 9 5) (e52 : H 52 = h 52) (e51 : H 51 = h 51) (O : fl_own (h 10) on own (h 9 5)) (hn : h 9 5 ≤ 11) (sb : fl_sb k own) : fl_asS H s k ↔ fl_sn (fl_gjC h s) (fun m => fl_sl (fl_b1s k) (h 13) (fl_ldC h on t hr) 1 1 m (h 9 5).toNat) (h 51 s.toNat) := by
  unfold fl_asS
  refine fl_sn_eq (congrFun e51 _) (fun m m0 m1 => ⟨by unfold fl_gjC; rw [e52], ?_⟩)
  show fl_vS H k m = _
  unfold fl_vS
  rw [e13, e9]
  refine fl_sl_c2 (fun d hd => ⟨Iff.rfl, rfl, fun w => ?_⟩)
  have b := fl_b1s_i.mp w
  have o := (fl_own_b O (d := d) (by omega)).mp (sb d (by omega) b)
  show H 31 ((d : Nat) : Int).toNat = _
  rw [show ((d : Nat) : Int).toNat = d by omega, e31]
  exact V d o.1 o.2
theorem fl_QC_y {h H G : fz_H} {s on t hr own k y : Int} (V : fl_vI h G on t hr (h 9 5)) (e31 : H 31 = G 31) (e13 : H 13 = h 13) (e9 : H 9 5 = h 9 5) (e52 : H 52 = h 52) (e51 : H 51 = h 51) (O : fl_own (h 10) on own (h 9 5)) (hn : h 9 5 ≤ 11) (hk : 0 ≤ k ∧ k ≤ 2047) (c : fz_and k (fz_xor own (-1)) = 0) (a : (y = 1 ∧ fl_asS H s k) ∨ (y = 0 ∧ ¬ fl_asS H s k)) : (y = 1 ∧ fl_QC h s on t hr own k) ∨ (y = 0 ∧ ¬ fl_QC h s on t hr own k) := by
  have sb := fl_sb_and c
  have z := fl_QC_1 (s := s) V e31 e13 e9 e52 e51 O hn sb
  rcases a with ⟨a, b⟩ | ⟨a, b⟩
  · exact Or.inl ⟨a, hk, sb, z.mp b⟩
  · exact Or.inr ⟨a, fun q => b (z.mpr q.2.2)⟩
theorem fl_QC_n {h : fz_H} {s on t hr own k : Int} (c : fz_and k (fz_xor own (-1)) ≠ 0) : ¬ fl_QC h s on t hr own k := fun q => c (fl_and0 q.1 q.2.1)
theorem fl_QM_n {h : fz_H} {s on t hr own k : Int} (c : fz_and k (fz_xor own (-1)) ≠ 0) : ¬ fl_QM h s on t hr own k := fun q => c (fl_and0 q.1 q.2.1)
/-- the model, at one set -/
theorem fl_ST_wh {S : List (Nat × Nat)} {h G H : fz_H} {all k p m t hr n : Int} (f : fz_fr S h H) (hs : fl_ok6 S = true) (g : fz_fgn G H n (fz_and all (fz_xor k (-1))) (-2)) (e2 : G 60 = h 60) (en : n = h 53 10) (hm : h 53 10 ≤ 11) (hp : 0 ≤ p) (O : fl_own (h 60) p all (h 53 10)) (sb : fl_sb k all) (T : fl_HTh h H) (ht : 0 ≤ t ∧ t < h 53 0) : fl_ST H p m t hr = fl_sl (fl_b1s k) (h 63) (fl_ldM h p t hr) 1 1 m (h 53 10).toNat := by
  have v := fl_vM_e (fl_okG_s (s := 18) f hs rfl rfl) (fl_okG_s (s := 19) f hs rfl rfl) (fl_okG_c (c := 66) f hs rfl) (fl_okG_c (c := 67) f hs rfl) (fl_okG_c (c := 68) f hs rfl) (fl_okG_c (c := 69) f hs rfl)
  unfold fl_ST
  rw [fl_okG_s (s := 10) f hs rfl rfl]
  refine fl_sl_c2 (fun d hd => ⟨?_, congrFun (fl_okG_c (c := 63) f hs rfl) d, fun _ => ?_⟩)
  · have z := g d
    rw [e2] at z
    have o := fl_own_b O (d := d) (by omega)
    rw [fl_b1s_i]
    by_cases w : h 60 d = p
    · have ob : fz_bt all d = true := o.mpr ⟨by omega, w⟩
      have nb : fz_bt (fz_and all (fz_xor k (-1))) d = !fz_bt k d := by
        rw [fz_bt_and, ob, fz_bt_not (by omega), Bool.true_and]
      by_cases b : fz_bt k d = true
      · rw [nb, b] at z
        rw [if_neg (fun x => absurd x.2 (by decide))] at z
        rw [z]
        exact ⟨fun _ => b, fun _ => w⟩
      · have b2 : fz_bt k d = false := by
          cases hy : fz_bt k d with
          | true => exact absurd hy b
          | false => rfl
        rw [nb, b2, if_pos ⟨by omega, rfl⟩] at z
        exact ⟨fun y => by exfalso; omega, fun y => absurd y b⟩
    · have nk : ¬ fz_bt k d = true := fun y => w (o.mp (sb d (by omega) y)).2
      have na : ¬ fz_bt (fz_and all (fz_xor k (-1))) d = true := fun y => w (o.mp (fz_bt_l y)).2
      rw [if_neg (fun x => na x.2)] at z
      rw [z]
      exact ⟨fun y => absurd y w, fun y => absurd y nk⟩
  · have x := T d t.toNat (by omega) (by omega)
    rw [show ((t.toNat : Nat) : Int) = t by omega] at x
    unfold fl_ltM fl_ldM fl_lvM
    rw [show (8 * (d : Int) + t).toNat = 8 * d + t.toNat by omega, x, fl_okG_c (c := 62) f hs rfl, fl_okG_c (c := 63) f hs rfl, fl_okG_c (c := 64) f hs rfl, v]
theorem fl_QM_y {S : List (Nat × Nat)} {h G H : fz_H} {s all k p t hr n x : Int} (f : fz_fr S h H) (hs : fl_ok6 S = true) (g : fz_fgn G H n (fz_and all (fz_xor k (-1))) (-2)) (e2 : G 60 = h 60) (en : n = h 53 10) (hm : h 53 10 ≤ 11) (hp : 0 ≤ p) (O : fl_own (h 60) p all (h 53 10)) (hk : 0 ≤ k ∧ k ≤ 2047) (c : fz_and k (fz_xor all (-1)) = 0) (T : fl_HTh h H) (ht : 0 ≤ t ∧ t < h 53 0) (e85 : H 85 = h 85) (e84 : H 84 = h 84) (j : fl_jf (fl_gjM H s) (fun m => fl_ST H p m t hr) (H 84 s.toNat) x) : x = -2 ↔ fl_QM h s p t hr all k := by
  have sb := fl_sb_and c
  have z := (fl_jf_sn j).trans (fl_sn_eq (g := fl_gjM h s) (v := fun m => fl_sl (fl_b1s k) (h 63) (fl_ldM h p t hr) 1 1 m (h 53 10).toNat) (congrFun e84 _) (fun m _ _ => ⟨by unfold fl_gjM; rw [e85], fl_ST_wh f hs g e2 en hm hp O sb T ht⟩))
  exact z.trans ⟨fun y => ⟨hk, sb, y⟩, fun y => y.2.2⟩
def fl_oW (b s on th wh : Int) : Prop := fl_oJ b s on th ∧ 0 ≤ wh ∧ wh ≤ 2
def fl_whC (h : fz_H) (s on th wh r : Int) : Prop := (¬ fl_oW (h 1 7) s on th wh ∧ r = -1) ∨ (fl_oW (h 1 7) s on th wh ∧ h 48 s.toNat = 0 ∧ r = -11) ∨ (fl_oW (h 1 7) s on th wh ∧ h 48 s.toNat ≠ 0 ∧ ¬ (h 48 s.toNat = 2 ∧ h 50 s.toNat = 0) ∧ r = -12) ∨ ((fl_oW (h 1 7) s on th wh ∧ h 48 s.toNat = 2 ∧ h 50 s.toNat = 0) ∧ ∃ own cnt least inAll : Int, fl_own (h 10) on own (h 9 5) ∧ fl_wcI (fl_QC h s on (th / 1000) (th % 1000) own) (fz_shl 1 (h 9 5)) cnt least inAll ∧ r = fl_wx cnt least inAll wh)
def fl_whM (h : fz_H) (s on th wh r : Int) : Prop := (¬ fl_oW (h 53 0) s on th wh ∧ r = -1) ∨ (fl_oW (h 53 0) s on th wh ∧ h 83 s.toNat = -1 ∧ r = -11) ∨ (fl_oW (h 53 0) s on th wh ∧ h 83 s.toNat ≠ -1 ∧ h 83 s.toNat ≠ 0 ∧ r = -12) ∨ ((fl_oW (h 53 0) s on th wh ∧ h 83 s.toNat = 0) ∧ ∃ own cnt least inAll : Int, fl_own (h 60) on own (h 53 10) ∧ fl_mI (fl_QM h s on (th / 1000) (th % 1000) own) own (-1) cnt least inAll ∧ r = fl_mx3 cnt least inAll wh)
theorem fl_wh_r {h : fz_H} {s on th wh r : Int} (c : fl_rfC h s on th r) (hr : r < 0) (hw : 0 ≤ wh ∧ wh ≤ 2) : fl_whC h s on th wh r := by
  rcases c with ⟨c1, c⟩ | ⟨c1, c⟩ | ⟨c1, c⟩ | c
  · exact Or.inl ⟨fun z => c1 z.1, c⟩
  · exact Or.inr (Or.inl ⟨⟨c1, hw⟩, c⟩)
  · exact Or.inr (Or.inr (Or.inl ⟨⟨c1, hw⟩, c⟩))
  · exfalso; have := c.2.2.2; omega
theorem fl_shl_own {g : Nat → Int} {on own n : Int} (O : fl_own g on own n) (hn : 0 ≤ n ∧ n ≤ 10) : own < fz_shl 1 n := by
  have key : ∀ m : Fin 11, ((2 ^ m.val : Nat) : Int) = fz_shl 1 (m.val : Int) := by decide
  have e := key ⟨n.toNat, by omega⟩
  simp only at e
  rw [show ((n.toNat : Nat) : Int) = n by omega] at e
  rw [← e]
  have b := (fl_tab_i O.1).1
  have up : ∀ q : Nat, (∀ d, d < q → n.toNat ≤ d → ¬ fz_bt own d = true) → fl_vlx own q < ((2 ^ n.toNat : Nat) : Int) ∧ (q ≤ n.toNat → fl_vlx own q < ((2 ^ q : Nat) : Int)) := by
    intro q
    induction q with
    | zero =>
      intro _
      have p : 0 < 2 ^ n.toNat := Nat.two_pow_pos _
      exact ⟨show (0 : Int) < _ by omega, fun _ => show (0 : Int) < ((2 ^ 0 : Nat) : Int) by decide⟩
    | succ q ih =>
      intro hq
      have i := ih (fun d hd => hq d (by omega))
      by_cases c : n.toNat ≤ q
      · have nb := hq q (by omega) c
        have e2 : fl_vlx own (q + 1) = fl_vlx own q + 0 := congrArg (fl_vlx own q + ·) (if_neg nb)
        exact ⟨by omega, fun z => by exfalso; omega⟩
      · have j := i.2 (by omega)
        have p2 : 2 ^ (q + 1) = 2 ^ q + 2 ^ q := by rw [Nat.pow_succ]; omega
        have le : fl_vlx own (q + 1) ≤ fl_vlx own q + ((2 ^ q : Nat) : Int) := by
          show fl_vlx own q + (if fz_bt own q = true then ((2 ^ q : Nat) : Int) else 0) ≤ _
          have pq : (0 : Int) ≤ ((2 ^ q : Nat) : Int) := Int.natCast_nonneg _
          split
          · exact Int.le_refl _
          · omega
        have f1 : fl_vlx own (q + 1) < ((2 ^ (q + 1) : Nat) : Int) := by omega
        have mono : 2 ^ (q + 1) ≤ 2 ^ n.toNat := Nat.pow_le_pow_right (by decide) (by omega)
        exact ⟨by omega, fun _ => f1⟩
  have z := (up 11 (fun d hd hd2 y => by
    have := ((fl_own_b O (d := d) (by omega)).mp y).1
    omega)).1
  rw [← b] at z
  exact z
theorem fl_hi6 {h h1 : fz_H} (k : ∀ c s : Nat, 53 ≤ c → h1 c s = h c s) : fl_QM h1 = fl_QM h := by
  have f : ∀ c, 53 ≤ c → h1 c = h c := fun c hc => funext fun s => k c s hc
  funext s on t hr own x
  unfold fl_QM fl_gjM
  rw [f 85 (by decide), f 84 (by decide), f 63 (by decide), (fl_hi k).1, k 53 10 (by decide)]
theorem fl_wh_eq {h h1 : fz_H} {s on th wh r q : Int} (R : fl_Rl h) (hS : fz_RS h) (hP : fz_RP h) (k : ∀ c s : Nat, 53 ≤ c → h1 c s = h c s) (hn : 0 ≤ h 9 5 ∧ h 9 5 ≤ 10) (c : fl_whC h s on th wh r) (m : fl_whM h1 s on th wh q) : r = q := by
  have n0 := R.2.2.2.2.2.2.2.2.2.2.2.1
  have n9 := R.2.2.2.2.2.2.2.2.2.2.2.2.1
  have hL := R.2.2.2.2.2.2.2.1
  have hW := R.2.2.2.2.2.2.2.2.2.1
  unfold fl_whM at m
  rw [fl_hi6 k, k 53 0 (by decide), n0, k 83 _ (by decide), k 53 10 (by decide), n9, show h1 60 = h 60 from funext fun z => k 60 z (by decide)] at m
  have key : fl_oW (h 1 7) s on th wh → fz_RS1 h s.toNat := fun z => hS s.toNat (by have := z.1.1; omega)
  unfold fz_RS1 at key
  unfold fz_RP at hP
  rcases c with ⟨c1, c2⟩ | ⟨c1, c2, c3⟩ | ⟨c1, c2, c3, c4⟩ | ⟨⟨c1, c2, c3⟩, own, cnt, least, inAll, c4, c5, c6⟩
  · rcases m with ⟨m1, m2⟩ | ⟨m1, m2⟩ | ⟨m1, m2⟩ | ⟨m1, m2⟩
    · rw [c2, m2]
    · exact absurd m1 c1
    · exact absurd m1 c1
    · exact absurd m1.1 c1
  · have z := key c1
    rcases m with ⟨m1, m2⟩ | ⟨m1, m2, m3⟩ | ⟨m1, m2, m3, m4⟩ | ⟨m1, m2⟩
    · exact absurd c1 m1
    · rw [c3, m3]
    · exfalso; omega
    · exfalso; have := m1.2; omega
  · have z := key c1
    rcases m with ⟨m1, m2⟩ | ⟨m1, m2, m3⟩ | ⟨m1, m2, m3, m4⟩ | ⟨m1, m2⟩
    · exact absurd c1 m1
    · exfalso; omega
    · rw [c4, m4]
    · exfalso; have := m1.2; omega
  · have z := key c1
    rcases m with ⟨m1, m2⟩ | ⟨m1, m2, m3⟩ | ⟨m1, m2, m3, m4⟩ | ⟨m1, own2, cnt2, least2, inAll2, m4, m5, m6⟩
    · exact absurd c1 m1
    · exfalso; omega
    · exfalso; omega
    · have eo : own = own2 := fl_own_u (fun d hd => (hW d hd).symm) c4 m4
      subst eo
      obtain ⟨⟨z1, z2, z3, z4⟩, _⟩ := c1
      have I := fl_wcI_eq (P := fl_QM h s on (th / 1000) (th % 1000) own) (fun x => by
        unfold fl_QC fl_QM
        refine and_congr Iff.rfl (and_congr Iff.rfl ?_)
        refine fl_sn_eq (by omega) (fun y y0 y1 => ⟨by unfold fl_gjC fl_gjM; rw [hP], ?_⟩)
        rw [n9]
        exact fl_sl_c2 (fun d hd => ⟨Iff.rfl, (hL d (by omega)).2.2.1, fun _ => fl_Rl_ld R ⟨by omega, by omega⟩ ⟨by omega, z4⟩⟩)) c5
      rw [c6, m6]
      exact fl_w_eq I m5 (fun x hx => ⟨hx.1.1, (fl_sb_le hx.1 c4.1 hx.2.1).1, hx.2.1⟩) ⟨c4.1.1, fl_shl_own c4 hn⟩
theorem fl_wcI_e {Q : Int → Prop} {n m cnt least inAll : Int} (I : fl_wcI Q n cnt least inAll) (e : n = m) : fl_wcI Q m cnt least inAll := by rw [← e]; exact I
theorem fl_mI_e {Q : Int → Prop} {all set m many least surely : Int} (I : fl_mI Q all set many least surely) (e : set = m) : fl_mI Q all m many least surely := by rw [← e]; exact I
theorem fl_wx_0 {cnt least inAll wh : Int} (h : wh = 0) : cnt = fl_wx cnt least inAll wh := (if_pos h).symm
theorem fl_wx_1 {cnt least inAll wh : Int} (h : wh = 1) : least = fl_wx cnt least inAll wh := by
  unfold fl_wx
  rw [if_neg (by omega), if_pos h]
theorem fl_wx_2 {cnt least inAll wh : Int} (h : wh ≠ 0 ∧ wh ≠ 1) : inAll = fl_wx cnt least inAll wh := by
  unfold fl_wx
  rw [if_neg h.1, if_neg h.2]
theorem fl_mx3_0 {many least surely wh : Int} (h : wh = 0) : many = fl_mx3 many least surely wh := (if_pos h).symm
theorem fl_mx3_1 {many least surely wh : Int} (h : wh ≠ 0) (c : wh = 1 ∨ many = 0) : least = fl_mx3 many least surely wh := by
  unfold fl_mx3
  rw [if_neg h, if_pos c]
theorem fl_mx3_2 {many least surely wh : Int} (h : wh ≠ 0) (c : ¬ (wh = 1 ∨ many = 0)) : surely = fl_mx3 many least surely wh := by
  unfold fl_mx3
  rw [if_neg h, if_neg c]
