/-! ===== the quickest way as a number ===== -/
theorem fl_min {P : Int → Prop} (nn : ∀ L, P L → 0 ≤ L) : ∀ (k : Nat) (L : Int), P L → L ≤ k → ∃ L0, P L0 ∧ L0 ≤ L ∧ ∀ L', P L' → L0 ≤ L'
  | 0, L, h, hk => ⟨L, h, Int.le_refl _, fun L' h' => by have := nn L' h'; omega⟩
  | k + 1, L, h, hk => by
    by_cases c : ∃ L', P L' ∧ L' ≤ k
    · obtain ⟨L', c1, c2⟩ := c
      obtain ⟨L0, a1, a2, a3⟩ := fl_min nn k L' c1 c2
      exact ⟨L0, a1, a3 L h, a3⟩
    · refine ⟨L, h, Int.le_refl _, fun L' h' => ?_⟩
      by_cases e : L' ≤ k
      · exact absurd ⟨L', h', e⟩ c
      · omega
def fl_fp (E : Nat → Nat → Int → Prop) (n a b : Nat) : Prop := ∃ L : Int, L < 1000000 ∧ (∃ m, fz_wk E n m a b L) ∧ ∀ (m : Nat) (L' : Int), fz_wk E n m a b L' → L ≤ L'
noncomputable def fl_fm (E : Nat → Nat → Int → Prop) (n a b : Nat) : Int := @dite Int (fl_fp E n a b) (Classical.propDecidable _) (fun h => Classical.choose h) (fun _ => 1000000)
theorem fl_fm_y {E : Nat → Nat → Int → Prop} {n a b : Nat} (h : fl_fp E n a b) : fl_fm E n a b < 1000000 ∧ (∃ m, fz_wk E n m a b (fl_fm E n a b)) ∧ ∀ (m : Nat) (L' : Int), fz_wk E n m a b L' → fl_fm E n a b ≤ L' := by
  have e : fl_fm E n a b = Classical.choose h := dif_pos h
  rw [e]
  exact Classical.choose_spec h
theorem fl_fm_n {E : Nat → Nat → Int → Prop} {n a b : Nat} (h : ¬ fl_fp E n a b) : fl_fm E n a b = 1000000 := dif_neg h
theorem fl_fm_M {E : Nat → Nat → Int → Prop} {n a b : Nat} {M : Nat → Int} (D : fz_Di E n M) (ha : a < n) (hb : b < n) : fl_fm E n a b = M (8 * a + b) := by
  obtain ⟨d1, d2, d3, d4, d5⟩ := D
  by_cases h : fl_fp E n a b
  · obtain ⟨h1, ⟨m, h2⟩, h3⟩ := fl_fm_y h
    have x := d3 m a b _ ha hb h2
    rcases d4 a b ha hb with y | ⟨y1, m2, y2⟩
    · exfalso; omega
    · have z := h3 m2 _ y2
      omega
  · rw [fl_fm_n h]
    rcases d4 a b ha hb with y | ⟨y1, m2, y2⟩
    · exact y.symm
    · exact absurd ⟨_, y1, ⟨m2, y2⟩, fun m L' w => d3 m a b L' ha hb w⟩ h
theorem fl_fm_Di {E : Nat → Nat → Int → Prop} {n : Nat} (hE : fz_Ed E n) (hn : n ≤ 8) : fz_Di E n (fun s => fl_fm E n (s / 8) (s % 8)) := by
  have nn : ∀ a b L, (∃ m, fz_wk E n m a b L) → 0 ≤ L := fun a b L ⟨m, h⟩ => fz_wk_nn (fun a b w q => (hE a b w q).1) h
  have e : ∀ a b : Nat, b < n → (8 * a + b) / 8 = a ∧ (8 * a + b) % 8 = b := fun a b hb => ⟨by omega, by omega⟩
  have fp : ∀ (m a b : Nat) (L : Int), fz_wk E n m a b L → L < 1000000 → fl_fp E n a b := fun m a b L h hL => by
    have h0 := nn a b L ⟨m, h⟩
    obtain ⟨L0, x1, x2, x3⟩ := fl_min (P := fun L => ∃ m, fz_wk E n m a b L) (nn a b) L.toNat L ⟨m, h⟩ (by omega)
    exact ⟨L0, by omega, x1, fun m' L' w => x3 L' ⟨m', w⟩⟩
  have up : ∀ a b, 0 ≤ fl_fm E n a b ∧ fl_fm E n a b ≤ 1000000 := fun a b => by
    by_cases h : fl_fp E n a b
    · obtain ⟨h1, h2, h3⟩ := fl_fm_y h
      exact ⟨nn a b _ h2, by omega⟩
    · rw [fl_fm_n h]; decide
  refine ⟨hE, hn, fun m a b L ha hb h => ?_, fun a b ha hb => ?_, fun s => up _ _⟩
  · show fl_fm E n ((8 * a + b) / 8) ((8 * a + b) % 8) ≤ L
    rw [(e a b hb).1, (e a b hb).2]
    by_cases c : L < 1000000
    · exact (fl_fm_y (fp m a b L h c)).2.2 m L h
    · have := (up a b).2
      omega
  · show fl_fm E n ((8 * a + b) / 8) ((8 * a + b) % 8) = 1000000 ∨ (fl_fm E n ((8 * a + b) / 8) ((8 * a + b) % 8) < 1000000 ∧ ∃ m, fz_wk E n m a b (fl_fm E n ((8 * a + b) / 8) ((8 * a + b) % 8)))
    rw [(e a b hb).1, (e a b hb).2]
    by_cases h : fl_fp E n a b
    · obtain ⟨h1, h2, h3⟩ := fl_fm_y h
      exact Or.inr ⟨h1, h2⟩
    · exact Or.inl (fl_fm_n h)
/-- the model's roads in the class's places -/
def fl_sw (h : fz_H) : fz_H := fun c s => if c = 1 then (if s = 8 then h 53 2 else if s = 7 then h 53 0 else 0) else if c = 5 then h 55 s else if c = 6 then h 56 s else if c = 3 then h 57 s else if c = 4 then h 58 s else 0
theorem fl_sw_E {h : fz_H} {ca : Int} : fz_EC (fl_sw h) ca = fz_EM h ca := rfl
theorem fl_gf_fm {h1 h2 : fz_H} {t ca b : Int} (g : fz_gf h1 h2 t ca) (hE : fz_Ed (fz_EM h1 ca) (h1 53 0).toNat) (hn : h1 53 0 ≤ 8) (hb : ∀ q, 0 ≤ h1 55 q ∧ 0 ≤ h1 56 q) (ht : 0 ≤ t ∧ t < h1 53 0) (hb0 : 0 ≤ b ∧ b < h1 53 0) : h2 86 b.toNat = fz_hr (fl_fm (fz_EM h1 ca) (h1 53 0).toNat t.toNat b.toNat) ∧ (h2 86 b.toNat ≠ -2 → h2 87 b.toNat = fz_rr (fl_fm (fz_EM h1 ca) (h1 53 0).toNat t.toNat b.toNat)) := by
  have D := fl_fm_Di hE (by omega)
  have z := fz_gf_v (h := fl_sw h1) (M := fun s => fl_fm (fz_EM h1 ca) (h1 53 0).toNat (s / 8) (s % 8)) D rfl rfl g hb ht hb0
  have e1 : (8 * t + b).toNat / 8 = t.toNat := by omega
  have e2 : (8 * t + b).toNat % 8 = b.toNat := by omega
  simp only [e1, e2] at z
  exact z
/-! ===== how loud ===== -/
noncomputable def fl_hM (h : fz_H) (d t : Int) : Int := fz_hh (fz_hr (fl_fm (fz_EM h 1) (h 53 0).toNat (h 61 d.toNat).toNat t.toNat)) (h 62 d.toNat) (h 54 t.toNat)
/-- what both hear -/
theorem fl_ha_eq {h : fz_H} {a t hr : Int} (V : fz_RV h) (r5 : fz_R5 h) (r6 : fz_R6 h) (r3 : fz_R3 h) (r4 : fz_R4 h) (r2 : fz_R2 h) (n2 : h 53 2 = h 1 8) (n0 : h 53 0 = h 1 7) (ha : 0 ≤ a ∧ a < h 1 7) (ht : 0 ≤ t ∧ t < h 1 7) : fz_hh (fz_hr (h 8 (8 * a + t).toNat)) hr (h 2 t.toNat) = fz_hh (fz_hr (fl_fm (fz_EM h 1) (h 53 0).toNat a.toNat t.toNat)) hr (h 54 t.toNat) := by
  have e := fz_EM_EC (h := h) (h1 := h) (ca := 1) r5 r6 r3 r4 n2 rfl rfl rfl rfl
  rw [e, n0, fl_fm_M V.2 (by omega) (by omega), show 8 * a.toNat + t.toNat = (8 * a + t).toNat by omega]
  unfold fz_R2 at r2
  rw [r2]
theorem fl_ha_ge {h : fz_H} {d t : Int} (h2 : 0 ≤ h 2 t.toNat) (p : 0 ≤ fz_haC h d t) : h 12 d.toNat ≤ fz_haC h d t := by
  unfold fz_haC fz_hh at *
  split at p
  · exact absurd p (by decide)
  · next c => rw [if_neg c]; omega
theorem fl_hM_ge {h : fz_H} {d t : Int} (h2 : 0 ≤ h 54 t.toNat) (p : fl_hM h d t ≠ -2) : h 62 d.toNat ≤ fl_hM h d t := by
  unfold fl_hM fz_hh at *
  split at p
  · exact absurd rfl p
  · next c => rw [if_neg c]; omega
/-- the class: a deed, whose it is said to be, where, when -/
def fl_ldC (h : fz_H) (on t hr d : Int) : Int := if fz_haC h d t < 0 ∨ hr < fz_haC h d t then 0 else fl_vC h (h 14 d.toNat) (hr - fz_haC h d t) (fz_haC h d t - h 12 d.toNat) (h 13 d.toNat) t on
theorem fl_ld_0 {h : fz_H} {d t on hr y : Int} (e : y = fz_haC h d t) (c : y < 0 ∨ hr < y) : 0 = fl_ldC h on t hr d := by
  subst e
  unfold fl_ldC
  rw [if_pos c]
theorem fl_ld_1 {h : fz_H} {d t on hr y r : Int} (e : y = fz_haC h d t) (c : ¬ (y < 0 ∨ hr < y)) (v : r = fl_vC h (h 14 d.toNat) (hr - y) (y - h 12 d.toNat) (h 13 d.toNat) t on) : r = fl_ldC h on t hr d := by
  subst e
  unfold fl_ldC
  rw [if_neg c]
  exact v
/-- cells that loudness rests on -/
def fl_lc : List Nat := [2, 8, 11, 12, 13, 14, 15, 16, 17]
theorem fl_fr_c {S : List (Nat × Nat)} {L : List Nat} {h H : fz_H} (f : fz_fr S h H) (hs : S.all (fun q => !(L.any (Nat.beq q.1))) = true) {c s : Nat} (hc : L.any (fun x => Nat.beq c x) = true) : H c s = h c s := by
  refine f c s ?_
  cases hm : fz_me S c s with
  | false => rfl
  | true =>
    exfalso
    obtain ⟨q, hq, h1⟩ := List.any_eq_true.mp hm
    have h2 := List.all_eq_true.mp hs q hq
    rw [Bool.and_eq_true] at h1
    have e := Nat.eq_of_beq_eq_true h1.1
    obtain ⟨x, hx, h3⟩ := List.any_eq_true.mp hc
    have e3 := Nat.eq_of_beq_eq_true h3
    have : L.any (Nat.beq q.1) = true := List.any_eq_true.mpr ⟨x, hx, by rw [e, e3]; exact Nat.beq_refl x⟩
    rw [this] at h2
    cases h2
theorem fl_vC_e {h H : fz_H} (e4 : H 15 4 = h 15 4) (e16 : H 16 = h 16) (e17 : H 17 = h 17) : fl_vC H = fl_vC h := by
  funext w a d m t p
  unfold fl_vC
  rw [e4, e16, e17]
theorem fl_ldC_fr {S : List (Nat × Nat)} {h H : fz_H} (f : fz_fr S h H) (hs : S.all (fun q => !(fl_lc.any (Nat.beq q.1))) = true) : fl_ldC H = fl_ldC h := by
  have k : ∀ c, fl_lc.any (fun x => Nat.beq c x) = true → H c = h c := fun c hc => funext fun s => fl_fr_c f hs hc
  have v := fl_vC_e (h := h) (H := H) (congrFun (k 15 rfl) 4) (k 16 rfl) (k 17 rfl)
  funext on t hr d
  unfold fl_ldC fz_haC
  rw [k 2 rfl, k 8 rfl, k 11 rfl, k 12 rfl, k 13 rfl, k 14 rfl, v]
theorem fl_ldC_b {h : fz_H} {on t hr d : Int} (h2 : 0 ≤ h 2 t.toNat) (h14 : h 14 d.toNat ≤ 9) : 0 ≤ fl_ldC h on t hr d ∧ fl_ldC h on t hr d ≤ 99 := by
  unfold fl_ldC
  split
  · exact ⟨by decide, by decide⟩
  · next c => exact fl_vC_b h _ _ _ _ _ _ h14 (by omega) (by have := fl_ha_ge (d := d) h2 (by omega); omega)
/-- the model: with what the deed is heard at -/
def fl_lvM (h : fz_H) (x pe t hr d : Int) : Int := if x = -2 ∨ hr < x then 0 else fl_vM h (h 64 d.toNat) (hr - x) (x - h 62 d.toNat) (h 63 d.toNat) t pe
noncomputable def fl_ldM (h : fz_H) (pe t hr d : Int) : Int := fl_lvM h (fl_hM h d t) pe t hr d
/-- both are as loud -/
theorem fl_ld_eq {h : fz_H} {on t hr d : Int} (U : fl_RU h) (V : fz_RV h) (r5 : fz_R5 h) (r6 : fz_R6 h) (r3 : fz_R3 h) (r4 : fz_R4 h) (r2 : fz_R2 h) (hL : fz_RL h) (hP : fz_RP2 h) (n2 : h 53 2 = h 1 8) (n0 : h 53 0 = h 1 7) (b11 : ∀ q, 0 ≤ h 11 q) (b12 : ∀ q, 0 ≤ h 12 q) (b2 : ∀ q, 0 ≤ h 2 q) (hd : 0 ≤ d ∧ d < h 9 5) (ht : 0 ≤ t ∧ t < h 1 7) : fl_ldC h on t hr d = fl_ldM h on t hr d := by
  have l := hL d.toNat (by omega)
  have p := hP d.toNat (by omega)
  have b := b11 d.toNat
  have e : fz_haC h d t = fl_hM h d t := by
    unfold fz_haC fl_hM
    rw [← l.1, ← l.2.1]
    exact fl_ha_eq V r5 r6 r3 r4 r2 n2 n0 (by omega) ht
  unfold fl_ldC fl_ldM fl_lvM
  rw [e, l.2.1, l.2.2.1, l.2.2.2, U]
  by_cases c : fl_hM h d t = -2
  · rw [if_pos (by omega), if_pos (by omega)]
  · have c2 : 0 ≤ fl_hM h d t := by
      rw [← e]
      rw [← e] at c
      unfold fz_haC fz_hh at *
      split at c
      · exact absurd rfl c
      · next q =>
        have x1 := b12 d.toNat
        have x2 := b2 t.toNat
        rw [if_neg q]; omega
    by_cases c3 : hr < fl_hM h d t
    · rw [if_pos (by omega), if_pos (by omega)]
    · rw [if_neg (by omega), if_neg (by omega)]
/-! ===== what is said ===== -/
def fl_sl (wh mk : Nat → Int) (f : Int → Int) (p q m : Int) : Nat → Int
  | 0 => 0
  | k + 1 => if (wh k = p ∨ wh k = q) ∧ mk k = m then max (fl_sl wh mk f p q m k) (f k) else fl_sl wh mk f p q m k
theorem fl_sl_b {wh mk : Nat → Int} {f : Int → Int} {p q m : Int} : ∀ {n : Nat}, (∀ k : Nat, k < n → 0 ≤ f k ∧ f k ≤ 99) → 0 ≤ fl_sl wh mk f p q m n ∧ fl_sl wh mk f p q m n ≤ 99
  | 0, _ => ⟨Int.le_refl 0, show (0 : Int) ≤ 99 by decide⟩
  | n + 1, h => by
    have a := fl_sl_b (wh := wh) (mk := mk) (f := f) (p := p) (q := q) (m := m) (n := n) (fun k hk => h k (by omega))
    have b := h n (by omega)
    show (0 : Int) ≤ (if _ then _ else _) ∧ (if _ then _ else _) ≤ (99 : Int)
    split
    · exact ⟨Int.le_trans a.1 (Int.le_max_left _ _), Int.max_le.mpr ⟨a.2, b.2⟩⟩
    · exact a
theorem fl_sl_eq {wh mk wh' mk' : Nat → Int} {f f' : Int → Int} {p q m : Int} : ∀ {n : Nat}, (∀ k : Nat, k < n → wh' k = wh k ∧ mk' k = mk k ∧ f' k = f k) → fl_sl wh' mk' f' p q m n = fl_sl wh mk f p q m n
  | 0, _ => rfl
  | n + 1, h => by
    have a := fl_sl_eq (wh := wh) (mk := mk) (f := f) (wh' := wh') (mk' := mk') (f' := f') (p := p) (q := q) (m := m) (n := n) (fun k hk => h k (by omega))
    have b := h n (by omega)
    show (if _ then _ else _) = (if _ then _ else _)
    rw [a, b.1, b.2.1, b.2.2]
theorem fl_sl_y {wh mk : Nat → Int} {f : Int → Int} {p q m M v k : Int} (e : M = fl_sl wh mk f p q m k.toNat) (h0 : 0 ≤ k) (c : (wh k.toNat = p ∨ wh k.toNat = q) ∧ mk k.toNat = m) (ev : v = f k) : max M v = fl_sl wh mk f p q m (k + 1).toNat := by
  rw [show (k + 1).toNat = k.toNat + 1 by omega]
  show _ = (if _ then _ else _)
  rw [if_pos c, e, ev, show ((k.toNat : Nat) : Int) = k by omega]
theorem fl_sl_n {wh mk : Nat → Int} {f : Int → Int} {p q m M k : Int} (e : M = fl_sl wh mk f p q m k.toNat) (h0 : 0 ≤ k) (c : ¬ ((wh k.toNat = p ∨ wh k.toNat = q) ∧ mk k.toNat = m)) : M = fl_sl wh mk f p q m (k + 1).toNat := by
  rw [show (k + 1).toNat = k.toNat + 1 by omega]
  show _ = (if _ then _ else _)
  rw [if_neg c, e]
theorem fl_sl_e {wh mk : Nat → Int} {f : Int → Int} {p q m M k n : Int} (e : M = fl_sl wh mk f p q m k.toNat) (h : k = n) : M = fl_sl wh mk f p q m n.toNat := by
  subst h
  exact e
/-- voices -/
def fl_SC (h : fz_H) (p q m t hr : Int) : Int := fl_sl (h 10) (h 13) (fl_ldC h p t hr) p q m (h 9 5).toNat
def fl_voI (h H : fz_H) (on ot t hr k : Int) : Prop := ∀ m : Nat, m < 5 → H 29 m = fl_sl (h 10) (h 13) (fl_ldC h on t hr) on ot m k.toNat
theorem fl_voI_0 {h H : fz_H} {on ot t hr v : Int} (z : ∀ s : Nat, s < 5 → H 29 s = v) (hv : v = 0) : fl_voI h H on ot t hr 0 := fun m hm => by
  rw [z m hm, hv]
  rfl
theorem fl_voI_y {h H H1 H2 : fz_H} {on ot t hr k mk v : Int} (I : fl_voI h H on ot t hr k) (h0 : 0 ≤ k) (c : h 10 k.toNat = on ∨ h 10 k.toNat = ot) (em : mk = h 13 k.toNat) (hm : 0 ≤ mk) (e1 : H1 29 = H 29) (ev : v = fl_ldC h on t hr k) (r : ∀ s : Nat, H2 29 s = if s = mk.toNat then max (H1 29 mk.toNat) v else H1 29 s) : fl_voI h H2 on ot t hr (k + 1) := fun m hm5 => by
  rw [r, e1]
  by_cases q : m = mk.toNat
  · subst q
    rw [if_pos rfl]
    exact fl_sl_y (I _ hm5) h0 ⟨c, by omega⟩ ev
  · rw [if_neg q]
    exact fl_sl_n (I m hm5) h0 (fun z => q (by omega))
theorem fl_voI_n {h H : fz_H} {on ot t hr k : Int} (I : fl_voI h H on ot t hr k) (h0 : 0 ≤ k) (c : ¬ (h 10 k.toNat = on ∨ h 10 k.toNat = ot)) : fl_voI h H on ot t hr (k + 1) := fun m hm5 => fl_sl_n (I m hm5) h0 (fun z => c z.1)
theorem fl_voI_e {h H : fz_H} {on ot t hr k : Int} (I : fl_voI h H on ot t hr k) (e : k = h 9 5) : ∀ m : Nat, m < 5 → H 29 m = fl_SC h on ot m t hr := fun m hm => by
  subst e
  exact I m hm
theorem fl_voI_f {h H H2 : fz_H} {on ot t hr k : Int} (I : fl_voI h H on ot t hr k) (e : H2 29 = H 29) : fl_voI h H2 on ot t hr k := fun m hm => by
  rw [e]
  exact I m hm
def fl_rp (v w : Nat → Int) : Nat → Int
  | 0 => 0
  | k + 1 => fz_w (fl_rp v w k + fz_w (v k * w k))
theorem fl_rp_s {v w : Nat → Int} {M k x y : Int} (e : M = fl_rp v w k.toNat) (h0 : 0 ≤ k) (ex : x = v k.toNat) (ey : y = w k.toNat) : fz_w (M + fz_w (x * y)) = fl_rp v w (k + 1).toNat := by
  rw [show (k + 1).toNat = k.toNat + 1 by omega, e, ex, ey]
  rfl
theorem fl_rp_eq {v w v' w' : Nat → Int} : ∀ {n : Nat}, (∀ k, k < n → v' k = v k ∧ w' k = w k) → fl_rp v' w' n = fl_rp v w n
  | 0, _ => rfl
  | n + 1, h => by
    show fz_w (fl_rp v' w' n + fz_w (v' n * w' n)) = fz_w (fl_rp v w n + fz_w (v n * w n))
    rw [fl_rp_eq (fun k hk => h k (by omega)), (h n (by omega)).1, (h n (by omega)).2]
def fl_ms (v : Nat → Int) : Nat → Int
  | 0 => 0
  | k + 1 => fl_ms v k + (if 0 < v k then 1 else 0)
theorem fl_ms_s {v : Nat → Int} {M N k x : Int} (e : M = fl_ms v k.toNat) (h0 : 0 ≤ k) (ex : x = v k.toNat) (eN : (0 < x ∧ N = M + 1) ∨ (¬ 0 < x ∧ N = M)) : N = fl_ms v (k + 1).toNat := by
  rw [show (k + 1).toNat = k.toNat + 1 by omega]
  show N = fl_ms v k.toNat + (if 0 < v k.toNat then 1 else 0)
  rw [← e, ← ex]
  rcases eN with ⟨a, b⟩ | ⟨a, b⟩
  · rw [if_pos a, b]
  · rw [if_neg a, b]; omega
theorem fl_ms_eq {v v' : Nat → Int} : ∀ {n : Nat}, (∀ k, k < n → v' k = v k) → fl_ms v' n = fl_ms v n
  | 0, _ => rfl
  | n + 1, h => by
    show fl_ms v' n + (if 0 < v' n then 1 else 0) = fl_ms v n + (if 0 < v n then 1 else 0)
    rw [fl_ms_eq (fun k hk => h k (by omega)), h n (by omega)]
def fl_lm (v : Nat → Int) : Nat → Int × Int
  | 0 => (-2, 0)
  | k + 1 => if (fl_lm v k).2 < v k then (k, v k) else fl_lm v k
theorem fl_lm_y {v : Nat → Int} {L M k x : Int} (e : (L, M) = fl_lm v k.toNat) (h0 : 0 ≤ k) (ex : x = v k.toNat) (c : M < x) : (k, x) = fl_lm v (k + 1).toNat := by
  rw [show (k + 1).toNat = k.toNat + 1 by omega]
  show _ = (if (fl_lm v k.toNat).2 < v k.toNat then _ else _)
  rw [← e, ← ex, if_pos c, show ((k.toNat : Nat) : Int) = k by omega]
theorem fl_lm_n {v : Nat → Int} {L M k x : Int} (e : (L, M) = fl_lm v k.toNat) (h0 : 0 ≤ k) (ex : x = v k.toNat) (c : ¬ M < x) : (L, M) = fl_lm v (k + 1).toNat := by
  rw [show (k + 1).toNat = k.toNat + 1 by omega]
  show _ = (if (fl_lm v k.toNat).2 < v k.toNat then _ else _)
  rw [← e, ← ex, if_neg c]
theorem fl_lm_eq {v v' : Nat → Int} : ∀ {n : Nat}, (∀ k, k < n → v' k = v k) → fl_lm v' n = fl_lm v n
  | 0, _ => rfl
  | n + 1, h => by
    show (if (fl_lm v' n).2 < v' n then ((n : Int), v' n) else fl_lm v' n) = (if (fl_lm v n).2 < v n then ((n : Int), v n) else fl_lm v n)
    rw [fl_lm_eq (fun k hk => h k (by omega)), h n (by omega)]
/-- two alike -/
def fl_al (v u : Nat → Int) : Nat → Int
  | 0 => 0
  | k + 1 => fl_al v u k + (if v k = u k then 1 else 0)
theorem fl_al_s {v u : Nat → Int} {M N k x y : Int} (e : M = fl_al v u k.toNat) (h0 : 0 ≤ k) (ex : x = v k.toNat) (ey : y = u k.toNat) (eN : (x = y ∧ N = M + 1) ∨ (¬ x = y ∧ N = M)) : N = fl_al v u (k + 1).toNat := by
  rw [show (k + 1).toNat = k.toNat + 1 by omega]
  show N = fl_al v u k.toNat + (if v k.toNat = u k.toNat then 1 else 0)
  rw [← e, ← ex, ← ey]
  rcases eN with ⟨a, b⟩ | ⟨a, b⟩
  · rw [if_pos a, b]
  · rw [if_neg a, b]; omega
theorem fl_al_eq {v u v' u' : Nat → Int} : ∀ {n : Nat}, (∀ k, k < n → v' k = v k ∧ u' k = u k) → fl_al v' u' n = fl_al v u n
  | 0, _ => rfl
  | n + 1, h => by
    show fl_al v' u' n + (if v' n = u' n then 1 else 0) = fl_al v u n + (if v n = u n then 1 else 0)
    rw [fl_al_eq (fun k hk => h k (by omega)), (h n (by omega)).1, (h n (by omega)).2]
/-! the model's -/
def fl_ltM (h : fz_H) (pe t hr d : Int) : Int := fl_lvM h (h 88 (8 * d + t).toNat) pe t hr d
def fl_ST (h : fz_H) (pe m t hr : Int) : Int := fl_sl (h 60) (h 63) (fl_ltM h pe t hr) pe pe m (h 53 10).toNat
noncomputable def fl_SM (h : fz_H) (pe m t hr : Int) : Int := fl_sl (h 60) (h 63) (fl_ldM h pe t hr) pe pe m (h 53 10).toNat
/-- what is heard has been worked out -/
def fl_HT (h H : fz_H) (k : Int) : Prop := ∀ d t : Nat, (d : Int) < k → (t : Int) < h 53 0 → H 88 (8 * d + t) = fl_hM h d t
theorem fl_vM_e {h H : fz_H} (e18 : H 53 18 = h 53 18) (e19 : H 53 19 = h 53 19) (e66 : H 66 = h 66) (e67 : H 67 = h 67) (e68 : H 68 = h 68) (e69 : H 69 = h 69) : fl_vM H = fl_vM h := by
  funext w a d m t p
  unfold fl_vM
  rw [e18, e19, e66, e67, e68, e69]
/-- cells that the model's loudness rests on, but the places of 53 -/
def fl_lcM : List Nat := [60, 61, 62, 63, 64, 66, 67, 68, 69, 88]
def fl_f53 (S : List (Nat × Nat)) : Bool := S.all (fun q => !(fl_lcM.any (Nat.beq q.1)) && !(Nat.beq q.1 53 && (Nat.beq q.2 99999 || Nat.beq q.2 18 || Nat.beq q.2 19 || Nat.beq q.2 10 || Nat.beq q.2 0)))
theorem fl_fr_53 {S : List (Nat × Nat)} {h H : fz_H} (f : fz_fr S h H) (hs : fl_f53 S = true) : (∀ c, fl_lcM.any (fun x => Nat.beq c x) = true → H c = h c) ∧ H 53 18 = h 53 18 ∧ H 53 19 = h 53 19 ∧ H 53 10 = h 53 10 ∧ H 53 0 = h 53 0 := by
  have a : S.all (fun q => !(fl_lcM.any (Nat.beq q.1))) = true := List.all_eq_true.mpr (fun q hq => by
    have := List.all_eq_true.mp hs q hq
    rw [Bool.and_eq_true] at this
    exact this.1)
  have b : ∀ s, s = 18 ∨ s = 19 ∨ s = 10 ∨ s = 0 → fz_me S 53 s = false := fun s hsx => by
    cases hm : fz_me S 53 s with
    | false => rfl
    | true =>
      exfalso
      obtain ⟨q, hq, h1⟩ := List.any_eq_true.mp hm
      have h2 := List.all_eq_true.mp hs q hq
      rw [Bool.and_eq_true] at h1 h2
      have e := Nat.eq_of_beq_eq_true h1.1
      have h3 := h2.2
      rw [e, Bool.not_eq_true'] at h3
      have h4 := h1.2
      rcases hsx with rfl | rfl | rfl | rfl
      · rw [Bool.or_eq_true] at h4
        rcases h4 with h4 | h4 <;> simp [h4] at h3
      · rw [Bool.or_eq_true] at h4
        rcases h4 with h4 | h4 <;> simp [h4] at h3
      · rw [Bool.or_eq_true] at h4
        rcases h4 with h4 | h4 <;> simp [h4] at h3
      · rw [Bool.or_eq_true] at h4
        rcases h4 with h4 | h4 <;> simp [h4] at h3
  exact ⟨fun c hc => funext fun s => fl_fr_c f a hc, f 53 18 (b 18 (Or.inl rfl)), f 53 19 (b 19 (Or.inr (Or.inl rfl))), f 53 10 (b 10 (Or.inr (Or.inr (Or.inl rfl)))), f 53 0 (b 0 (Or.inr (Or.inr (Or.inr rfl))))⟩
theorem fl_lvM_e {h H : fz_H} (k : ∀ c, fl_lcM.any (fun x => Nat.beq c x) = true → H c = h c) (e18 : H 53 18 = h 53 18) (e19 : H 53 19 = h 53 19) : fl_lvM H = fl_lvM h := by
  have v := fl_vM_e e18 e19 (k 66 rfl) (k 67 rfl) (k 68 rfl) (k 69 rfl)
  funext x pe t hr d
  unfold fl_lvM
  rw [k 62 rfl, k 63 rfl, k 64 rfl, v]
theorem fl_ltM_fr {S : List (Nat × Nat)} {h H : fz_H} (f : fz_fr S h H) (hs : fl_f53 S = true) : fl_ltM H = fl_ltM h := by
  obtain ⟨k, e18, e19, e10, e0⟩ := fl_fr_53 f hs
  have v := fl_lvM_e k e18 e19
  funext pe t hr d
  unfold fl_ltM
  rw [v, k 88 rfl]
theorem fl_ST_fr {S : List (Nat × Nat)} {h H : fz_H} (f : fz_fr S h H) (hs : fl_f53 S = true) : fl_ST H = fl_ST h := by
  obtain ⟨k, e18, e19, e10, e0⟩ := fl_fr_53 f hs
  have v := fl_ltM_fr f hs
  funext pe m t hr
  unfold fl_ST
  rw [v, k 60 rfl, k 63 rfl, e10]
/-- after all has been heard -/
def fl_fH (S : List (Nat × Nat)) : Bool := S.all (fun q => !((Nat.beq q.1 60 || Nat.beq q.1 62 || Nat.beq q.1 63 || Nat.beq q.1 64 || Nat.beq q.1 66 || Nat.beq q.1 67 || Nat.beq q.1 68 || Nat.beq q.1 69)) && !(Nat.beq q.1 53))
theorem fl_ST_HT {h H : fz_H} {pe m t hr : Int} (T : fl_HT h H (h 53 10)) (e60 : H 60 = h 60) (e62 : H 62 = h 62) (e63 : H 63 = h 63) (e64 : H 64 = h 64) (e66 : H 66 = h 66) (e67 : H 67 = h 67) (e68 : H 68 = h 68) (e69 : H 69 = h 69) (e10 : H 53 10 = h 53 10) (e18 : H 53 18 = h 53 18) (e19 : H 53 19 = h 53 19) (ht : 0 ≤ t ∧ t < h 53 0) : fl_ST H pe m t hr = fl_SM h pe m t hr := by
  unfold fl_ST fl_SM
  rw [e60, e63, e10]
  refine fl_sl_eq (fun k hk => ⟨rfl, rfl, ?_⟩)
  have v := fl_vM_e e18 e19 e66 e67 e68 e69
  have x := T k t.toNat (by omega) (by omega)
  rw [show ((t.toNat : Nat) : Int) = t by omega] at x
  unfold fl_ltM fl_ldM fl_lvM
  rw [show (8 * (k : Int) + t).toNat = 8 * k + t.toNat by omega, x, e62, e63, e64, v]
/-- one more town of a deed; one more deed -/
theorem fl_HT_st {h H H2 : fz_H} {d : Int} (T : fl_HT h H d) (h0 : 0 ≤ d) (h8 : h 53 0 ≤ 8) (r : ∀ t : Nat, (t : Int) < h 53 0 → H2 88 (8 * d.toNat + t) = fl_hM h d t) (o : ∀ s : Nat, s < 8 * d.toNat → H2 88 s = H 88 s) : fl_HT h H2 (d + 1) := fun k t hk ht => by
  by_cases e : (k : Int) = d
  · have e2 : k = d.toNat := by omega
    subst e2
    rw [r t ht, show ((d.toNat : Nat) : Int) = d by omega]
  · rw [o _ (by omega)]
    exact T k t (by omega) ht
theorem fl_HT_0 {h H : fz_H} : fl_HT h H 0 := fun k t hk => by exfalso; omega
/-! ===== what is said, both ===== -/
theorem fl_at {f : Nat → Int} {M k n : Int} (e : M = f k.toNat) (h : k = n) : M = f n.toNat := by
  subst h
  exact e
theorem fl_lm_e {v : Nat → Int} {L M k : Int} (e : (L, M) = fl_lm v k.toNat) (h : k = 5) : L = (fl_lm v 5).1 := by
  subst h
  exact congrArg Prod.fst e
def fl_lc2 : List Nat := [2, 8, 9, 10, 11, 12, 13, 14, 15, 16, 17]
theorem fl_SC_fr {S : List (Nat × Nat)} {h H : fz_H} (f : fz_fr S h H) (hs : S.all (fun q => !(fl_lc2.any (Nat.beq q.1))) = true) : fl_SC H = fl_SC h := by
  have k : ∀ c, fl_lc2.any (fun x => Nat.beq c x) = true → H c = h c := fun c hc => funext fun s => fl_fr_c f hs hc
  have v := fl_vC_e (h := h) (H := H) (congrFun (k 15 rfl) 4) (k 16 rfl) (k 17 rfl)
  have l : fl_ldC H = fl_ldC h := by
    funext on t hr d
    unfold fl_ldC fz_haC
    rw [k 2 rfl, k 8 rfl, k 11 rfl, k 12 rfl, k 13 rfl, k 14 rfl, v]
  funext p q m t hr
  unfold fl_SC
  rw [l, k 10 rfl, k 13 rfl, k 9 rfl]
/-- what the two sides share between calls -/
def fl_Rl (h : fz_H) : Prop := fl_RU h ∧ fz_RV h ∧ fz_R5 h ∧ fz_R6 h ∧ fz_R3 h ∧ fz_R4 h ∧ fz_R2 h ∧ fz_RL h ∧ fz_RP2 h ∧ fz_RW h ∧ h 53 2 = h 1 8 ∧ h 53 0 = h 1 7 ∧ h 53 10 = h 9 5 ∧ (∀ q, 0 ≤ h 11 q) ∧ (∀ q, 0 ≤ h 12 q) ∧ ∀ q, 0 ≤ h 2 q
theorem fl_Rl_ld {h : fz_H} {on t hr d : Int} (R : fl_Rl h) (hd : 0 ≤ d ∧ d < h 9 5) (ht : 0 ≤ t ∧ t < h 1 7) : fl_ldC h on t hr d = fl_ldM h on t hr d := by
  obtain ⟨U, V, r5, r6, r3, r4, r2, hL, hP, hW, n2, n0, n9, b11, b12, b2⟩ := R
  exact fl_ld_eq U V r5 r6 r3 r4 r2 hL hP n2 n0 b11 b12 b2 hd ht
theorem fl_Rl_S {h : fz_H} {p m t hr : Int} (R : fl_Rl h) (ht : 0 ≤ t ∧ t < h 1 7) : fl_SC h p p m t hr = fl_SM h p m t hr := by
  have n9 := R.2.2.2.2.2.2.2.2.2.2.2.2.1
  have hL := R.2.2.2.2.2.2.2.1
  have hW := R.2.2.2.2.2.2.2.2.2.1
  unfold fl_SC fl_SM
  rw [n9]
  refine fl_sl_eq (fun k hk => ⟨?_, ?_, ?_⟩)
  · exact hW k (by omega)
  · exact (hL k (by omega)).2.2.1
  · exact fl_Rl_ld R ⟨by omega, by omega⟩ ht
/-- the model's part of it, over a call of the class -/
theorem fl_hi {h h1 : fz_H} (k : ∀ c s : Nat, 53 ≤ c → h1 c s = h c s) : fl_ldM h1 = fl_ldM h ∧ fl_SM h1 = fl_SM h := by
  have f : ∀ c, 53 ≤ c → h1 c = h c := fun c hc => funext fun s => k c s hc
  have e : fz_EM h1 = fz_EM h := by
    funext ca
    unfold fz_EM
    rw [f 55 (by decide), f 56 (by decide), f 57 (by decide), f 58 (by decide), k 53 2 (by decide)]
  have v := fl_vM_e (h := h) (H := h1) (k 53 18 (by decide)) (k 53 19 (by decide)) (f 66 (by decide)) (f 67 (by decide)) (f 68 (by decide)) (f 69 (by decide))
  have l : fl_ldM h1 = fl_ldM h := by
    funext pe t hr d
    unfold fl_ldM fl_lvM fl_hM
    rw [e, v, k 53 0 (by decide), f 54 (by decide), f 61 (by decide), f 62 (by decide), f 63 (by decide), f 64 (by decide)]
  refine ⟨l, ?_⟩
  funext pe m t hr
  unfold fl_SM
  rw [l, f 60 (by decide), f 63 (by decide), k 53 10 (by decide)]
/-- two answers -/
theorem fl_or {A B : Prop} {r q x y v w : Int} (c : (A ∧ r = x) ∨ (¬ A ∧ r = v)) (m : (B ∧ q = y) ∨ (¬ B ∧ q = w)) (e : A ↔ B) (h : A → x = y) (hv : v = w) : r = q := by
  rcases c with ⟨c1, c2⟩ | ⟨c1, c2⟩
  · rcases m with ⟨m1, m2⟩ | ⟨m1, m2⟩
    · rw [c2, m2, h c1]
    · exact absurd (e.mp c1) m1
  · rcases m with ⟨m1, m2⟩ | ⟨m1, m2⟩
    · exact absurd (e.mpr m1) c1
    · rw [c2, m2, hv]
/-- what is asked of the numbers: a deed, a town and hour; one and a mark -/
def fl_oL (a b d th : Int) : Prop := (0 ≤ d ∧ d < a) ∧ 0 ≤ th ∧ th / 1000 < b
def fl_oS_ (b pm th : Int) : Prop := (0 ≤ pm ∧ pm ≤ 39 ∧ pm % 10 < 5) ∧ 0 ≤ th ∧ th / 1000 < b
def fl_oR (b on th wh : Int) : Prop := (0 ≤ on ∧ on < 4) ∧ (0 ≤ th ∧ th / 1000 < b) ∧ 0 ≤ wh ∧ wh ≤ 3
/-- loud -/
def fl_loC (h : fz_H) (d th r : Int) : Prop := (fl_oL (h 9 5) (h 1 7) d th ∧ r = fl_ldC h (h 10 d.toNat) (th / 1000) (th % 1000) d) ∨ (¬ fl_oL (h 9 5) (h 1 7) d th ∧ r = -1)
noncomputable def fl_loM (h : fz_H) (d th r : Int) : Prop := (fl_oL (h 53 10) (h 53 0) d th ∧ r = fl_ldM h (h 60 d.toNat) (th / 1000) (th % 1000) d) ∨ (¬ fl_oL (h 53 10) (h 53 0) d th ∧ r = -1)
theorem fl_lo_eq {h h1 : fz_H} {d th r q : Int} (R : fl_Rl h) (k : ∀ c s : Nat, 53 ≤ c → h1 c s = h c s) (c : fl_loC h d th r) (m : fl_loM h1 d th q) : r = q := by
  have n0 := R.2.2.2.2.2.2.2.2.2.2.2.1
  have n9 := R.2.2.2.2.2.2.2.2.2.2.2.2.1
  have hW := R.2.2.2.2.2.2.2.2.2.1
  unfold fl_loM at m
  rw [k 53 10 (by decide), k 53 0 (by decide), k 60 _ (by decide), (fl_hi k).1, n9, n0] at m
  refine fl_or c m Iff.rfl (fun z => ?_) rfl
  obtain ⟨⟨z1, z2⟩, z3, z4⟩ := z
  rw [hW d.toNat (by omega)]
  exact fl_Rl_ld R ⟨z1, z2⟩ ⟨by omega, z4⟩
/-- said -/
def fl_saC (h : fz_H) (pm th r : Int) : Prop := (fl_oS_ (h 1 7) pm th ∧ r = fl_SC h (pm / 10) (pm / 10) (pm % 10) (th / 1000) (th % 1000)) ∨ (¬ fl_oS_ (h 1 7) pm th ∧ r = -1)
noncomputable def fl_saM (h : fz_H) (pm th r : Int) : Prop := (fl_oS_ (h 53 0) pm th ∧ r = fl_SM h (pm / 10) (pm % 10) (th / 1000) (th % 1000)) ∨ (¬ fl_oS_ (h 53 0) pm th ∧ r = -1)
theorem fl_sa_eq {h h1 : fz_H} {pm th r q : Int} (R : fl_Rl h) (k : ∀ c s : Nat, 53 ≤ c → h1 c s = h c s) (c : fl_saC h pm th r) (m : fl_saM h1 pm th q) : r = q := by
  have n0 := R.2.2.2.2.2.2.2.2.2.2.2.1
  unfold fl_saM at m
  rw [k 53 0 (by decide), (fl_hi k).2, n0] at m
  refine fl_or c m Iff.rfl (fun z => ?_) rfl
  obtain ⟨_, z3, z4⟩ := z
  exact fl_Rl_S R ⟨by omega, z4⟩
/-- received: the worth of voices, by what is asked -/
def fl_re (v w : Nat → Int) (ar wh : Int) : Int := if wh = 0 then fl_rp v w 5 else if wh = 1 then (if 0 < v 1 ∧ ar ≤ v 1 then 1 else 0) else if wh = 2 then fl_ms v 5 else (fl_lm v 5).1
theorem fl_re_eq {v w v' w' : Nat → Int} {ar wh : Int} (hv : ∀ k, k < 5 → v' k = v k) (hw : w' = w) : fl_re v' w' ar wh = fl_re v w ar wh := by
  subst hw
  unfold fl_re
  rw [fl_rp_eq (fun k hk => ⟨hv k hk, rfl⟩), fl_ms_eq hv, fl_lm_eq hv, hv 1 (by decide)]
theorem fl_re_0 {v w : Nat → Int} {ar wh : Int} (h : wh = 0) : fl_re v w ar wh = fl_rp v w 5 := if_pos h
theorem fl_re_1 {v w : Nat → Int} {ar wh r : Int} (h : wh = 1) (e : (r = 1 ∧ 0 < v 1 ∧ ar ≤ v 1) ∨ (r = 0 ∧ ¬ (0 < v 1 ∧ ar ≤ v 1))) : r = fl_re v w ar wh := by
  unfold fl_re
  rw [if_neg (by omega), if_pos h]
  rcases e with ⟨a, b⟩ | ⟨a, b⟩
  · rw [a, if_pos b]
  · rw [a, if_neg b]
theorem fl_re_2 {v w : Nat → Int} {ar wh : Int} (h : wh = 2) : fl_re v w ar wh = fl_ms v 5 := by
  unfold fl_re
  rw [if_neg (by omega), if_neg (by omega), if_pos h]
theorem fl_re_3 {v w : Nat → Int} {ar wh : Int} (h : wh = 3) : fl_re v w ar wh = (fl_lm v 5).1 := by
  unfold fl_re
  rw [if_neg (by omega), if_neg (by omega), if_neg (by omega)]
def fl_rcC (h : fz_H) (on th wh r : Int) : Prop := (fl_oR (h 1 7) on th wh ∧ r = fl_re (fun m => fl_SC h on on m (th / 1000) (th % 1000)) (h 28) (h 27 8) wh) ∨ (¬ fl_oR (h 1 7) on th wh ∧ r = -2000000000)
noncomputable def fl_rcM (h : fz_H) (on th wh r : Int) : Prop := (fl_oR (h 53 0) on th wh ∧ r = fl_re (fun m => fl_SM h on m (th / 1000) (th % 1000)) (h 59) (h 53 8) wh) ∨ (¬ fl_oR (h 53 0) on th wh ∧ r = -2000000000)
theorem fl_rc_eq {h h1 : fz_H} {on th wh r q : Int} (R : fl_Rl h) (r28 : fz_R28 h) (rG : fz_RG h) (k : ∀ c s : Nat, 53 ≤ c → h1 c s = h c s) (c : fl_rcC h on th wh r) (m : fl_rcM h1 on th wh q) : r = q := by
  have n0 := R.2.2.2.2.2.2.2.2.2.2.2.1
  have e59 : h1 59 = h 59 := funext fun s => k 59 s (by decide)
  unfold fl_rcM at m
  rw [k 53 0 (by decide), (fl_hi k).2, n0, e59, k 53 8 (by decide), ← rG.1] at m
  unfold fz_R28 at r28
  refine fl_or c m Iff.rfl (fun z => ?_) rfl
  obtain ⟨_, ⟨z3, z4⟩, _⟩ := z
  exact fl_re_eq (fun j hj => fl_Rl_S R ⟨by omega, z4⟩) r28
/-! ===== the model's loudness, what is heard ===== -/
theorem fl_S1_of {f : Nat → Int} {a b : Int} (s : fz_Sg f a b) (h : a < b) : fl_S1 f a b := by
  obtain ⟨e, h1, h2⟩ := s
  unfold fl_S1
  rw [h1, h2 h]
theorem fl_wk_use {H h : fz_H} {nm : Nat → Int} {a b r : Int} (z : fl_S1 (H 69) a b → r = fl_wk (fl_n6 (H 75)) (H 69) a b) (e69 : H 69 = h 69) (n : fl_n6 (H 75) = nm) (s : fz_Sg (h 69) a b) (lt : a < b) : r = fl_wk nm (h 69) a b := by
  rw [e69, n] at z
  exact z (fl_S1_of s lt)
theorem fl_n6_k {f : Nat → Int} {w a d m t p : Int} (e : fl_n6 f = fl_nv w a d m t p) : f 0 = w ∧ f 1 = a ∧ f 2 = d := ⟨congrFun e 0, congrFun e 1, congrFun e 2⟩
/-- entries of the table are as a deed is heard -/
def fl_HB (h : fz_H) : Prop := ∀ d t : Nat, (d : Int) < h 53 10 → (t : Int) < h 53 0 → h 88 (8 * d + t) = -2 ∨ h 62 d ≤ h 88 (8 * d + t)
theorem fl_HB_eq {h h' : fz_H} (e88 : h' 88 = h 88) (e62 : h' 62 = h 62) (e10 : h' 53 10 = h 53 10) (e0 : h' 53 0 = h 53 0) (B : fl_HB h) : fl_HB h' := by
  intro d t hd ht
  rw [e88, e62]
  exact B d t (by omega) (by omega)
theorem fl_HB_i {h : fz_H} {d t : Int} (B : fl_HB h) (hd : 0 ≤ d ∧ d < h 53 10) (ht : 0 ≤ t ∧ t < h 53 0) : h 88 (8 * d + t).toNat = -2 ∨ h 62 d.toNat ≤ h 88 (8 * d + t).toNat := by
  have z := B d.toNat t.toNat (by omega) (by omega)
  rw [show 8 * d.toNat + t.toNat = (8 * d + t).toNat by omega] at z
  exact z
theorem fl_HB_of {h H : fz_H} (T : fl_HT h H (h 53 10)) (e62 : H 62 = h 62) (e10 : H 53 10 = h 53 10) (e0 : H 53 0 = h 53 0) (b54 : ∀ q, 0 ≤ h 54 q) : fl_HB H := fun d t hd ht => by
  rw [T d t (by omega) (by omega), e62]
  by_cases c : fl_hM h d t = -2
  · exact Or.inl c
  · have z := fl_hM_ge (h := h) (d := d) (t := t) (b54 _) c
    exact Or.inr (by rw [show ((d : Nat) : Int).toNat = d by omega] at z; exact z)
/-- the lines, one after another -/
def fl_lT (h : fz_H) (nm : Nat → Int) : Int := fl_lM (h 66) (h 67) (h 68) (h 69) (h 53 19) nm ((h 53 19).toNat + 1) 0
def fl_li (h : fz_H) (nm : Nat → Int) (i : Int) : Prop := fl_lM (h 66) (h 67) (h 68) (h 69) (h 53 19) nm ((h 53 19 - i).toNat + 1) i = fl_lT h nm
theorem fl_li_0 {h : fz_H} {nm : Nat → Int} : fl_li h nm 0 := by
  unfold fl_li fl_lT
  rw [show h 53 19 - 0 = h 53 19 by omega]
theorem fl_li_end {h : fz_H} {nm : Nat → Int} {i : Int} (I : fl_li h nm i) (c : h 53 19 ≤ i) : 0 = fl_lT h nm := by
  unfold fl_li at I
  rw [← I]
  show 0 = (if h 53 19 ≤ i then _ else _)
  rw [if_pos c]
theorem fl_li_B {h : fz_H} {nm : Nat → Int} {i : Int} (I : fl_li h nm i) (c : i < h 53 19) : (if h 66 i.toNat < h 67 i.toNat ∧ fl_wk nm (h 69) (h 66 i.toNat) (h 67 i.toNat) = 0 then fl_lM (h 66) (h 67) (h 68) (h 69) (h 53 19) nm ((h 53 19 - (i + 1)).toNat + 1) (i + 1) else max 0 (min 99 (fl_wk nm (h 69) (h 67 i.toNat) (h 68 i.toNat)))) = fl_lT h nm := by
  unfold fl_li at I
  rw [show (h 53 19 - i).toNat = (h 53 19 - (i + 1)).toNat + 1 by omega] at I
  rw [← I]
  show _ = (if h 53 19 ≤ i then _ else _)
  rw [if_neg (show ¬ h 53 19 ≤ i by omega)]
theorem fl_li_skip {h : fz_H} {nm : Nat → Int} {i w : Int} (I : fl_li h nm i) (c : i < h 53 19) (lt : h 66 i.toNat < h 67 i.toNat) (e : w = fl_wk nm (h 69) (h 66 i.toNat) (h 67 i.toNat)) (z : w = 0) : fl_li h nm (i + 1) := by
  have B := fl_li_B I c
  rw [if_pos ⟨lt, by rw [← e]; exact z⟩] at B
  exact B
theorem fl_li_say {h : fz_H} {nm : Nat → Int} {i v r : Int} (I : fl_li h nm i) (c : i < h 53 19) (n : ¬ h 66 i.toNat < h 67 i.toNat ∨ ∃ w, w = fl_wk nm (h 69) (h 66 i.toNat) (h 67 i.toNat) ∧ w ≠ 0) (e : v = fl_wk nm (h 69) (h 67 i.toNat) (h 68 i.toNat)) (er : r = max 0 (min 99 v)) : r = fl_lT h nm := by
  have B := fl_li_B I c
  rw [if_neg (by
    rintro ⟨z1, z2⟩
    rcases n with n | ⟨w, n1, n2⟩
    · exact n z1
    · exact n2 (n1.trans z2))] at B
  rw [← B, er, e]
theorem fl_lv_n {h : fz_H} {x pe t hr d : Int} (c : x = -2 ∨ hr < x) : 0 = fl_lvM h x pe t hr d := by
  unfold fl_lvM
  rw [if_pos c]
theorem fl_lv_0 {h : fz_H} {x pe t hr d r : Int} (c : ¬ (x = -2 ∨ hr < x)) (u : h 53 18 = 0) (e : r = max 0 (4 * h 64 d.toNat - (hr - x) / 8 - (x - h 62 d.toNat) / 4)) : r = fl_lvM h x pe t hr d := by
  unfold fl_lvM fl_vM fl_v0
  rw [if_neg c, if_pos u]
  exact e
theorem fl_lv_1 {h : fz_H} {x pe t hr d r : Int} (c : ¬ (x = -2 ∨ hr < x)) (u : h 53 18 ≠ 0) (e : r = fl_lT h (fl_nv (h 64 d.toNat) (hr - x) (x - h 62 d.toNat) (h 63 d.toNat) t pe)) : r = fl_lvM h x pe t hr d := by
  unfold fl_lvM fl_vM
  rw [if_neg c, if_neg u]
  exact e
/-- the deeds' places are towns -/
def fl_RPm (h : fz_H) : Prop := ∀ j : Nat, (j : Int) < h 53 10 → h 61 j < h 53 0
theorem fl_RPm_eq {h h' : fz_H} (e61 : h' 61 = h 61) (e10 : h' 53 10 = h 53 10) (e0 : h' 53 0 = h 53 0) (R : fl_RPm h) : fl_RPm h' := by
  intro j hj
  rw [e61, e0]
  exact R j (by omega)
theorem fl_RPm_of {h : fz_H} (hL : fz_RL h) (hP : fz_RP2 h) (n0 : h 53 0 = h 1 7) (n9 : h 53 10 = h 9 5) : fl_RPm h := fun j hj => by
  have a := hL j (by omega)
  have b := hP j (by omega)
  rw [← a.1, n0]
  exact b
/-- a town of a deed -/
def fl_hrI (h H : fz_H) (d : Int) (k : Int) : Prop := (∀ t : Nat, (t : Int) < k → H 88 (8 * d.toNat + t) = fl_hM h d t) ∧ ∀ s : Nat, s < 8 * d.toNat → H 88 s = h 88 s
theorem fl_hrI_0 {h H : fz_H} {d : Int} (e : H 88 = h 88) : fl_hrI h H d 0 := ⟨fun t ht => by exfalso; omega, fun s _ => by rw [e]⟩
theorem fl_hrI_st {h H H2 G : fz_H} {d t i v x : Int} (I : fl_hrI h H d t) (ht : 0 ≤ t ∧ t < h 53 0) (hd : 0 ≤ d) (hp : 0 ≤ h 61 d.toNat ∧ h 61 d.toNat < h 53 0) (hn : h 53 0 ≤ 8) (g : fz_gf h G (h 61 d.toNat) 1) (hE : fz_Ed (fz_EM h 1) (h 53 0).toNat) (hb : ∀ q, 0 ≤ h 55 q ∧ 0 ≤ h 56 q) (ex : x = G 86 t.toNat) (hi : i = 8 * d + t) (e : H2 = fz_up H 88 i.toNat v) (hv : (x = -2 ∧ v = -2) ∨ (0 ≤ x ∧ v = h 62 d.toNat + x + h 54 t.toNat)) : fl_hrI h H2 d (t + 1) := by
  subst hi
  have z := (fl_gf_fm g hE hn hb hp ht).1
  have ev : v = fl_hM h d t := by
    unfold fl_hM
    rw [← z, ← ex]
    unfold fz_hh
    rcases hv with ⟨a, b⟩ | ⟨a, b⟩
    · rw [if_pos (by omega), b]
    · rw [if_neg (by omega), b]
  refine ⟨fun k hk => ?_, fun s hs => ?_⟩
  · by_cases q : (k : Int) = t
    · have q2 : 8 * d.toNat + k = (8 * d + t).toNat := by omega
      rw [q2, e, fz_up_e, ev, q]
    · rw [e, fz_up_s (by omega)]
      exact I.1 k (by omega)
  · rw [e, fz_up_s (by omega)]
    exact I.2 s hs
/-- one deed is heard -/
def fl_he1 (h h' : fz_H) (d : Int) : Prop := (∀ t : Nat, (t : Int) < h 53 0 → h' 88 (8 * d.toNat + t) = fl_hM h d t) ∧ ∀ s : Nat, s < 8 * d.toNat → h' 88 s = h 88 s
theorem fl_he1_in {h H : fz_H} {d k : Int} (I : fl_hrI h H d k) (e : h 53 0 ≤ k) : fl_he1 h H d := ⟨fun t ht => I.1 t (by omega), I.2⟩
theorem fl_hM_e {h H : fz_H} (e55 : H 55 = h 55) (e56 : H 56 = h 56) (e57 : H 57 = h 57) (e58 : H 58 = h 58) (a2 : H 53 2 = h 53 2) (a0 : H 53 0 = h 53 0) (e54 : H 54 = h 54) (e61 : H 61 = h 61) (e62 : H 62 = h 62) : fl_hM H = fl_hM h := by
  have e : fz_EM H = fz_EM h := by
    funext ca
    unfold fz_EM
    rw [e55, e56, e57, e58, a2]
  funext d t
  unfold fl_hM
  rw [e, a0, e54, e61, e62]
theorem fl_HT_nx {h H H2 : fz_H} {d : Int} (T : fl_HT h H d) (h0 : 0 ≤ d) (h8 : h 53 0 ≤ 8) (m : fl_hM H = fl_hM h) (a0 : H 53 0 = h 53 0) (r : fl_he1 H H2 d) : fl_HT h H2 (d + 1) := by
  obtain ⟨r1, r2⟩ := r
  rw [m, a0] at r1
  exact fl_HT_st T h0 h8 r1 r2
/-! more of the model's -/
theorem fl_bsM {c x y r : Int} (h : (c = 6 ∧ (((x ≠ 0 ∨ y ≠ 0) ∧ r = 1) ∨ (¬ (x ≠ 0 ∨ y ≠ 0) ∧ r = 0))) ∨ (c = 7 ∧ (((x ≠ 0 ∧ y ≠ 0) ∧ r = 1) ∨ (¬ (x ≠ 0 ∧ y ≠ 0) ∧ r = 0))) ∨ (c = 8 ∧ ((x < y ∧ r = 1) ∨ (¬ x < y ∧ r = 0))) ∨ (c = 9 ∧ ((x = y ∧ r = 1) ∨ (¬ x = y ∧ r = 0))) ∨ (c = 10 ∧ ((y < x ∧ r = 1) ∨ (¬ y < x ∧ r = 0))) ∨ (c = 11 ∧ r = fz_w (x + y)) ∨ (c = 12 ∧ r = fz_w (x - y)) ∨ (c = 13 ∧ r = fz_w (x * y)) ∨ (c = 14 ∧ ((y = 0 ∧ r = 0) ∨ (¬ y = 0 ∧ r = fz_w (Int.tdiv x y)))) ∨ (c = 15 ∧ ((y = 0 ∧ r = 0) ∨ (¬ y = 0 ∧ r = fz_w (Int.tmod x y))))) : r = fl_bs (fl_st c) x y := by
  rcases h with ⟨rfl, h⟩ | ⟨rfl, h⟩ | ⟨rfl, h⟩ | ⟨rfl, h⟩ | ⟨rfl, h⟩ | ⟨rfl, h⟩ | ⟨rfl, h⟩ | ⟨rfl, h⟩ | ⟨rfl, h⟩ | ⟨rfl, h⟩
  · rcases h with ⟨a, b⟩ | ⟨a, b⟩
    · exact b.trans ((fl_bs_or rfl).1 a)
    · exact b.trans ((fl_bs_or rfl).2 a)
  · rcases h with ⟨a, b⟩ | ⟨a, b⟩
    · exact b.trans ((fl_bs_an rfl).1 a)
    · exact b.trans ((fl_bs_an rfl).2 a)
  · rcases h with ⟨a, b⟩ | ⟨a, b⟩
    · exact b.trans ((fl_bs_lt rfl).1 a)
    · exact b.trans ((fl_bs_lt rfl).2 a)
  · rcases h with ⟨a, b⟩ | ⟨a, b⟩
    · exact b.trans ((fl_bs_eq rfl).1 a)
    · exact b.trans ((fl_bs_eq rfl).2 a)
  · rcases h with ⟨a, b⟩ | ⟨a, b⟩
    · exact b.trans ((fl_bs_gt rfl).1 a)
    · exact b.trans ((fl_bs_gt rfl).2 a)
  · exact h.trans (fl_bs_ad rfl)
  · exact h.trans (fl_bs_su rfl)
  · exact h.trans (fl_bs_mu rfl)
  · rcases h with ⟨a, b⟩ | ⟨a, b⟩
    · exact b.trans ((fl_bs_di rfl).1 a)
    · exact b.trans ((fl_bs_di rfl).2 a)
  · rcases h with ⟨a, b⟩ | ⟨a, b⟩
    · exact b.trans ((fl_bs_re rfl).1 a)
    · exact b.trans ((fl_bs_re rfl).2 a)
theorem fl_lv_v {h : fz_H} {f : Nat → Int} {x pe t hr d r v1 v2 v3 w a d2 : Int} (k : f 0 = w ∧ f 1 = a ∧ f 2 = d2) (q0 : f 0 = v1) (q1 : f 1 = v2) (q2 : f 2 = v3) (ew : w = h 64 d.toNat) (ea : a = hr - x) (ed : d2 = x - h 62 d.toNat) (c : ¬ (x = -2 ∨ hr < x)) (u : h 53 18 = 0) (e : r = max 0 (4 * v1 - v2 / 8 - v3 / 4)) : r = fl_lvM h x pe t hr d := by
  obtain ⟨k0, k1, k2⟩ := k
  subst ew ea ed
  refine fl_lv_0 c u ?_
  rw [e, ← q0, ← q1, ← q2, k0, k1, k2]
theorem fl_he_b {h H : fz_H} {d t : Int} (E : fl_he1 h H d) (e62 : H 62 = h 62) (b54 : ∀ q, 0 ≤ h 54 q) (hd : 0 ≤ d) (ht : 0 ≤ t ∧ t < h 53 0) : H 88 (8 * d + t).toNat = -2 ∨ H 62 d.toNat ≤ H 88 (8 * d + t).toNat := by
  have z := E.1 t.toNat (by omega)
  rw [show 8 * d.toNat + t.toNat = (8 * d + t).toNat by omega, show ((t.toNat : Nat) : Int) = t by omega] at z
  rw [z, e62]
  by_cases c : fl_hM h d t = -2
  · exact Or.inl c
  · exact Or.inr (fl_hM_ge (b54 _) c)
theorem fl_lt_he {h H : fz_H} {d t pe hr : Int} (E : fl_he1 h H d) (e62 : H 62 = h 62) (e63 : H 63 = h 63) (e64 : H 64 = h 64) (e66 : H 66 = h 66) (e67 : H 67 = h 67) (e68 : H 68 = h 68) (e69 : H 69 = h 69) (e18 : H 53 18 = h 53 18) (e19 : H 53 19 = h 53 19) (hd : 0 ≤ d) (ht : 0 ≤ t ∧ t < h 53 0) : fl_ltM H pe t hr d = fl_ldM h pe t hr d := by
  have v := fl_vM_e e18 e19 e66 e67 e68 e69
  have z := E.1 t.toNat (by omega)
  rw [show 8 * d.toNat + t.toNat = (8 * d + t).toNat by omega, show ((t.toNat : Nat) : Int) = t by omega] at z
  unfold fl_ltM fl_ldM fl_lvM
  rw [z, e62, e63, e64, v]
theorem fl_HT_le {h H : fz_H} {k n : Int} (T : fl_HT h H k) (l : n ≤ k) : fl_HT h H n := fun d t hd ht => T d t (by omega) ht
theorem fl_RPm_i {h : fz_H} {d : Int} (R : fl_RPm h) (hd : 0 ≤ d ∧ d < h 53 10) : h 61 d.toNat < h 53 0 := R d.toNat (by omega)
theorem fl_stk {h : fz_H} {pe t hr r k : Int} (e : r = fl_ST h pe k t hr) (hk : 0 ≤ k) : r = (fun j : Nat => fl_ST h pe (j : Int) t hr) k.toNat := by
  show r = fl_ST h pe ((k.toNat : Nat) : Int) t hr
  rw [e, show ((k.toNat : Nat) : Int) = k by omega]
theorem fl_HB_of2 {h H : fz_H} (T : fl_HT h H (h 53 10)) (e62 : H 62 = h 62) (e10 : H 53 10 = h 53 10) (e0 : H 53 0 = h 53 0) (e54 : H 54 = h 54) (b54 : ∀ q, 0 ≤ H 54 q) : fl_HB H := fl_HB_of T e62 e10 e0 (fun q => by rw [← e54]; exact b54 q)
theorem fl_ia {y r v a : Int} (e : (y = 1 ∧ 0 < v ∧ a ≤ v) ∨ (y = 0 ∧ ¬ (0 < v ∧ a ≤ v))) (k : (y = 1 ∧ r = 1) ∨ (y = 0 ∧ r = 0)) : (r = 1 ∧ 0 < v ∧ a ≤ v) ∨ (r = 0 ∧ ¬ (0 < v ∧ a ≤ v)) := by
  rcases e with ⟨a1, a2⟩ | ⟨a1, a2⟩
  · exact Or.inl ⟨by omega, a2⟩
  · exact Or.inr ⟨by omega, a2⟩
