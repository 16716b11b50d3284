/-! ===== the model's run ===== -/
def fl_evf (nm f : Nat → Int) (n : Nat) : Nat → List Int → List Int
  | 0, s => s
  | m + 1, s => fl_s1 nm (f (n + m)) (fl_evf nm f n m s)
theorem fl_evf_c {nm f : Nat → Int} : ∀ (m n : Nat) (s : List Int), fl_evf nm f n (m + 1) s = fl_evf nm f (n + 1) m (fl_s1 nm (f n) s)
  | 0, n, s => rfl
  | m + 1, n, s => by
    show fl_s1 nm (f (n + (m + 1))) (fl_evf nm f n (m + 1) s) = fl_s1 nm (f (n + 1 + m)) (fl_evf nm f (n + 1) m (fl_s1 nm (f n) s))
    rw [fl_evf_c m n s, show n + (m + 1) = n + 1 + m by omega]
theorem fl_evf_ev {nm f : Nat → Int} : ∀ (l : List Int) (n : Nat) (s : List Int), fl_sg f n l → fl_evf nm f n l.length s = fl_ev nm l s
  | [], n, s, _ => rfl
  | c :: l, n, s, h => by
    show fl_evf nm f n (l.length + 1) s = fl_ev nm l (fl_s1 nm c s)
    rw [fl_evf_c, h.1]
    exact fl_evf_ev l (n + 1) _ h.2
/-- what is worked out from one place to another -/
def fl_wk (nm f : Nat → Int) (a b : Int) : Int := (fl_evf nm f a.toNat (b.toNat - a.toNat) []).headD 0
theorem fl_wk_vl {nm f : Nat → Int} {l : List Int} {a b : Int} {n : Nat} (h : fl_sg f n l) (ha : a = n) (hb : b = n + l.length) : fl_wk nm f a b = fl_vl nm l := by
  unfold fl_wk fl_vl
  rw [show a.toNat = n by omega, show b.toNat - n = l.length by omega, fl_evf_ev l n [] h]
/-- the lines from one on -/
def fl_lM (as sy en f : Nat → Int) (n : Int) (nm : Nat → Int) : Nat → Int → Int
  | 0, _ => 0
  | k + 1, i => if n ≤ i then 0 else if as i.toNat < sy i.toNat ∧ fl_wk nm f (as i.toNat) (sy i.toNat) = 0 then fl_lM as sy en f n nm k (i + 1) else max 0 (min 99 (fl_wk nm f (sy i.toNat) (en i.toNat)))
/-- how the model keeps lines -/
def fl_my (as sy en f : Nat → Int) : Nat → Nat → List (List Int × List Int) → Prop
  | _, _, [] => True
  | i, c, q :: L => (as i = c ∧ sy i = ((c + q.1.length : Nat) : Int) ∧ en i = ((c + q.1.length + q.2.length : Nat) : Int) ∧ fl_sg f c q.1 ∧ fl_sg f (c + q.1.length) q.2) ∧ fl_my as sy en f (i + 1) (c + q.1.length + q.2.length) L
theorem fl_run_M {as sy en f : Nat → Int} {n : Int} {nm : Nat → Int} : ∀ (L : List (List Int × List Int)) (i c K : Nat), (∀ q ∈ L, fl_lx q) → fl_my as sy en f i c L → n = i + L.length → L.length < K → fl_lM as sy en f n nm K i = max 0 (min 99 (fl_lw nm L))
  | [], i, c, K, _, _, hn, hk => by
    obtain ⟨K, rfl⟩ : ∃ k, K = k + 1 := ⟨K - 1, by omega⟩
    show (if n ≤ (i : Int) then (0 : Int) else _) = max 0 (min 99 0)
    rw [if_pos (by have : n = i + ((0 : Nat) : Int) := hn; omega)]
    rfl
  | q :: L, i, c, K, hx, hm, hn, hk => by
    have hn' : n = i + ((L.length + 1 : Nat) : Int) := hn
    have hk' : L.length + 1 < K := hk
    obtain ⟨K, rfl⟩ : ∃ k, K = k + 1 := ⟨K - 1, by omega⟩
    obtain ⟨⟨m1, m2, m3, m4, m5⟩, m6⟩ := hm
    have hq := hx q (List.mem_cons_self)
    show (if n ≤ (i : Int) then (0 : Int) else if as (i : Int).toNat < sy (i : Int).toNat ∧ fl_wk nm f (as (i : Int).toNat) (sy (i : Int).toNat) = 0 then fl_lM as sy en f n nm K ((i : Int) + 1) else max 0 (min 99 (fl_wk nm f (sy (i : Int).toNat) (en (i : Int).toNat)))) = max 0 (min 99 (if q.1 ≠ [] ∧ fl_vl nm q.1 = 0 then fl_lw nm L else fl_vl nm q.2))
    rw [if_neg (by omega), show (i : Int).toNat = i by omega, fl_wk_vl m4 m1 (by omega), fl_wk_vl m5 m2 (by omega)]
    have e : as i < sy i ↔ q.1 ≠ [] := by
      rw [m1, m2]
      constructor
      · intro z y
        rw [y] at z
        have : (c : Int) < ((c + 0 : Nat) : Int) := z
        omega
      · intro z
        have : 0 < q.1.length := List.length_pos_iff.mpr z
        omega
    by_cases v : q.1 ≠ [] ∧ fl_vl nm q.1 = 0
    · rw [if_pos v, if_pos ⟨e.mpr v.1, v.2⟩]
      have r := fl_run_M (as := as) (sy := sy) (en := en) (f := f) (n := n) (nm := nm) L (i + 1) (c + q.1.length + q.2.length) K (fun y hy => hx y (List.mem_cons_of_mem _ hy)) m6 (by omega) (by omega)
      rw [show ((i : Int) + 1) = ((i + 1 : Nat) : Int) by omega]
      exact r
    · rw [if_neg v, if_neg (fun z => v ⟨e.mp z.1, z.2⟩)]
def fl_vM (h : fz_H) (w a d m t p : Int) : Int := if h 53 18 = 0 then fl_v0 w a d else fl_lM (h 66) (h 67) (h 68) (h 69) (h 53 19) (fl_nv w a d m t p) ((h 53 19).toNat + 1) 0
/-- both say alike -/
def fl_RU (h : fz_H) : Prop := ∀ w a d m t p, fl_vC h w a d m t p = fl_vM h w a d m t p
theorem fl_RU_eq {h h' : fz_H} (e4 : h' 15 4 = h 15 4) (e16 : h' 16 = h 16) (e17 : h' 17 = h 17) (a18 : h' 53 18 = h 53 18) (a19 : h' 53 19 = h 53 19) (e66 : h' 66 = h 66) (e67 : h' 67 = h 67) (e68 : h' 68 = h 68) (e69 : h' 69 = h 69) (R : fl_RU h) : fl_RU h' := by
  intro w a d m t p
  unfold fl_vC fl_vM
  rw [e4, e16, e17, a18, a19, e66, e67, e68, e69]
  exact R w a d m t p
theorem fl_ct_len : ∀ (L : List (List Int × List Int)) (a : Nat), L ≠ [] → 1 ≤ (fl_ct a L).length
  | [], a, h => absurd rfl h
  | q :: L, a, _ => by
    show 1 ≤ (fl_cl a q ++ fl_ct (a + (fl_cl a q).length) L).length
    rw [List.length_append]
    by_cases c : q.1 = []
    · rw [fl_cl_len0 c]; omega
    · rw [fl_cl_len1 c]; omega
/-- from the lines that both have kept -/
theorem fl_RU_in {h : fz_H} {L : List (List Int × List Int)} (hx : ∀ q ∈ L, fl_lx q) (ne : L ≠ []) (n1 : h 15 4 = (fl_ct 0 L).length) (s : fl_s2 (h 16) (h 17) 0 (fl_ct 0 L)) (hn : h 15 4 ≤ 128) (t : h 53 18 = 1) (l : h 53 19 = L.length) (m : fl_my (h 66) (h 67) (h 68) (h 69) 0 0 L) : fl_RU h := by
  intro w a d m' t' p
  have z := fl_ct_len L 0 ne
  unfold fl_vC fl_vM
  rw [if_neg (by omega), if_neg (by omega)]
  rw [fl_run_C L ((h 15 4).toNat + 1) 0 0 hx s (by decide) (by decide) (by rw [n1]; show ((fl_ct 0 L).length : Int) = 0 + ((fl_ct 0 L).length : Int); omega) hn (by show (fl_ct 0 L).length < _; omega)]
  exact (fl_run_M L 0 0 ((h 53 19).toNat + 1) hx m (by omega) (by omega)).symm
/-! the model's loops -/
def fl_wI (h H : fz_H) (a i t : Int) : Prop := fl_sk (H 74) t.toNat = fl_evf (fl_n6 (h 75)) (h 69) a.toNat (i.toNat - a.toNat) []
theorem fl_wI_0 {h H : fz_H} {a : Int} : fl_wI h H a a 0 := by
  unfold fl_wI
  rw [Nat.sub_self]
  rfl
theorem fl_wI_st {h H : fz_H} {a i t c : Int} (I : fl_wI h H a i t) (hi : 0 ≤ a ∧ a ≤ i) (ec : h 69 i.toNat = c) : fl_evf (fl_n6 (h 75)) (h 69) a.toNat ((i + 1).toNat - a.toNat) [] = fl_s1 (fl_n6 (h 75)) c (fl_sk (H 74) t.toNat) := by
  rw [show (i + 1).toNat - a.toNat = (i.toNat - a.toNat) + 1 by omega]
  show fl_s1 _ (h 69 (a.toNat + (i.toNat - a.toNat))) (fl_evf _ _ _ (i.toNat - a.toNat) []) = _
  rw [show a.toNat + (i.toNat - a.toNat) = i.toNat by omega, ec, ← I]
theorem fl_wI_num {h H H' : fz_H} {a i t c v : Int} (I : fl_wI h H a i t) (hi : 0 ≤ a ∧ a ≤ i) (ec : h 69 i.toNat = c) (e : H' = fz_up H 74 t.toNat v) (ht : 0 ≤ t) (hc : 18 ≤ c) (hv : v = c - 18) : fl_wI h H' a (i + 1) (t + 1) := by
  unfold fl_wI
  rw [fl_wI_st I hi ec, fl_sk_pu e ht, hv]
  unfold fl_s1
  rw [if_pos hc]
theorem fl_wI_nam {h H H' : fz_H} {a i t c v : Int} (I : fl_wI h H a i t) (hi : 0 ≤ a ∧ a ≤ i) (ec : h 69 i.toNat = c) (e : H' = fz_up H 74 t.toNat v) (ht : 0 ≤ t) (hc : 0 ≤ c ∧ c ≤ 5) (hv : v = h 75 c.toNat) : fl_wI h H' a (i + 1) (t + 1) := by
  have e6 : fl_n6 (h 75) c.toNat = h 75 c.toNat := if_pos (by omega)
  unfold fl_wI
  rw [fl_wI_st I hi ec, fl_sk_pu e ht, hv]
  unfold fl_s1
  rw [if_neg (by omega), if_pos hc.2, e6]
theorem fl_wI_u {h H H' : fz_H} {a i t c j y v : Int} (I : fl_wI h H a i t) (hi : 0 ≤ a ∧ a ≤ i) (ec : h 69 i.toNat = c) (e : H' = fz_up H 74 j.toNat v) (hj : j = t - 1) (ht : 1 ≤ t) (ey : H 74 (t - 1).toNat = y) (hv : (c = 17 ∧ v = fz_w (-y)) ∨ (c = 16 ∧ y = 0 ∧ v = 1) ∨ (c = 16 ∧ y ≠ 0 ∧ v = 0)) : fl_wI h H' a (i + 1) t := by
  unfold fl_wI
  rw [fl_wI_st I hi ec, fl_sk_re e hj ht, fl_sk_s ht, ey]
  unfold fl_s1
  rw [if_neg (by omega), if_neg (by omega)]
  show _ = (if c = 16 then _ else if c = 17 then _ else _)
  rcases hv with ⟨h1, h2⟩ | ⟨h1, h2, h3⟩ | ⟨h1, h2, h3⟩
  · rw [if_neg (by omega), if_pos h1, h2]
  · rw [if_pos h1, if_pos h2, h3]
  · rw [if_pos h1, if_neg h2, h3]
theorem fl_wI_b {h H H' : fz_H} {a i t c j y z v t2 i1 i2 : Int} (ht2 : t2 = t - 1) (hi1 : i1 = t - 1) (hi2 : i2 = t - 1 - 1) (I : fl_wI h H a i t) (hi : 0 ≤ a ∧ a ≤ i) (ec : h 69 i.toNat = c) (e : H' = fz_up H 74 j.toNat v) (hj : j = t - 1 - 1) (ht : 2 ≤ t) (hc : 6 ≤ c ∧ c ≤ 15) (ey : H 74 i1.toNat = y) (ez : H 74 i2.toNat = z) (hv : v = fl_bs (fl_st c) z y) : fl_wI h H' a (i + 1) t2 := by
  subst ht2 hi1 hi2
  unfold fl_wI
  rw [fl_wI_st I hi ec, fl_sk_re e hj (by omega), fl_sk_s (show 1 ≤ t by omega), fl_sk_s (show 1 ≤ t - 1 by omega), ey, ez]
  unfold fl_s1
  rw [if_neg (by omega), if_neg (by omega)]
  show _ = (if c = 16 then _ else if c = 17 then _ else _)
  rw [if_neg (by omega), if_neg (by omega), hv]
/-- the depth is what the run of the code says -/
theorem fl_wI_d {nm f : Nat → Int} {n : Nat} : ∀ (m d : Nat), fz_rn f n m 0 = some d → (fl_evf nm f n m []).length = d
  | 0, d, h => by have h' : some 0 = some d := h; cases h'; rfl
  | m + 1, d, h => by
    unfold fz_rn at h
    cases hk : fz_rn f n m 0 with
    | none => rw [hk] at h; cases h
    | some e =>
      rw [hk] at h
      have r := fl_wI_d (nm := nm) m e hk
      have g : fl_dl [f (n + m)] (fl_evf nm f n m []).length = some d := by
        rw [r]
        unfold fl_dl
        exact h
      have q := (fl_s1_fr (nm := nm) (t := []) g).2
      exact q
/-- a code that leaves one -/
def fl_S1 (f : Nat → Int) (a b : Int) : Prop := fz_rn f a.toNat (b.toNat - a.toNat) 0 = some 1
theorem fl_wI_e {h H : fz_H} {a b i t v : Int} (I : fl_wI h H a i t) (hb : i = b) (s : fl_S1 (h 69) a b) (ht : 0 ≤ t) (ev : H 74 0 = v) : v = fl_wk (fl_n6 (h 75)) (h 69) a b := by
  subst hb
  have d := fl_wI_d (nm := fl_n6 (h 75)) _ _ s
  unfold fl_wI at I
  rw [← I, fl_sk_len] at d
  rw [d] at I
  unfold fl_wk
  rw [← I, ← ev]
  rfl
/-! ===== the model's reader ===== -/
def fl_gM (h : fz_H) : Int → Int := fl_lt (h 65) (h 53 16)
theorem fl_gM_e {h H : fz_H} (e65 : H 65 = h 65) (e16 : H 53 16 = h 53 16) : fl_gM H = fl_gM h := by
  unfold fl_gM
  rw [e65, e16]
theorem fl_gM_y {h : fz_H} {a y : Int} (c : 0 ≤ a ∧ a < h 53 16) (e : h 65 a.toNat = y) : fl_gM h a = y := by
  rw [← e]
  exact fl_lt_y c
theorem fl_gM_s {h : fz_H} {y : Int} (h0 : 0 ≤ h 53 24) (s : (h 53 24 < h 53 16 ∧ y = h 65 (h 53 24).toNat) ∨ (h 53 16 ≤ h 53 24 ∧ y = -1)) : fl_gM h (h 53 24) = y := by
  rcases s with ⟨s1, s2⟩ | ⟨s1, s2⟩
  · rw [s2]; exact fl_lt_y ⟨h0, s1⟩
  · rw [s2]; exact fl_lt_n s1
theorem fl_gMe2 {h H : fz_H} {a : Int} (e65 : H 65 = h 65) (e16 : H 53 16 = h 53 16) : fl_gM H a = fl_gM h a := by rw [fl_gM_e e65 e16]
theorem fl_gMs {h H : fz_H} (e65 : H 65 = h 65) (e16 : H 53 16 = h 53 16) (e24 : H 53 24 = h 53 24) : fl_gM H (H 53 24) = fl_gM h (h 53 24) := by rw [fl_gM_e e65 e16, e24]
theorem fl_gM_nd {h H : fz_H} (e65 : H 65 = h 65) (e16 : H 53 16 = h 53 16) (h0 : 0 ≤ H 53 24) (n : ¬ (H 53 24 < H 53 16 ∧ 48 ≤ H 65 (H 53 24).toNat ∧ H 65 (H 53 24).toNat ≤ 57)) : ¬ (48 ≤ fl_gM h (H 53 24) ∧ fl_gM h (H 53 24) ≤ 57) := by
  rw [← fl_gMe2 (h := h) (H := H) e65 e16]
  intro z
  by_cases c : H 53 24 < H 53 16
  · rw [fl_gM_y ⟨h0, c⟩ rfl] at z
    exact n ⟨c, z⟩
  · have e : fl_gM H (H 53 24) = -1 := fl_lt_n (by omega)
    omega
def fl_dM (h h' : fz_H) (L : List Int) : Prop := h' 53 26 = h 53 26 + L.length ∧ (∀ k : Nat, (k : Int) < h 53 26 → h' 73 k = h 73 k) ∧ fl_sg (h' 73) (h 53 26).toNat L
theorem fl_dM_0 {h h' : fz_H} (e : h' 53 26 = h 53 26) (e73 : h' 73 = h 73) : fl_dM h h' [] :=
  ⟨by rw [e]; show _ = _ + ((0 : Nat) : Int); omega, fun k _ => by rw [e73], trivial⟩
theorem fl_dM_1 {h h' : fz_H} {c : Int} (d : fz_Cd h h' c) : fl_dM h h' [c] := ⟨d.2.2, d.1, d.2.1, trivial⟩
theorem fl_dM_app {h h1 h2 : fz_H} {L M : List Int} (h0 : 0 ≤ h 53 26) (a : fl_dM h h1 L) (b : fl_dM h1 h2 M) : fl_dM h h2 (L ++ M) := by
  obtain ⟨a1, a2, a3⟩ := a
  obtain ⟨b1, b2, b3⟩ := b
  refine ⟨by rw [b1, a1, List.length_append]; omega, fun k hk => (b2 k (by omega)).trans (a2 k hk), fl_sg_app.mpr ⟨?_, ?_⟩⟩
  · exact fl_sg_eq (fun k k1 k2 => b2 k (by omega)) a3
  · rw [show (h1 53 26).toNat = (h 53 26).toNat + L.length by omega] at b3
    exact b3
theorem fl_dM_b {h h1 h2 : fz_H} {L : List Int} (a : fl_dM h1 h2 L) (e : h1 53 26 = h 53 26) (e73 : h1 73 = h 73) : fl_dM h h2 L := by
  unfold fl_dM at *
  rw [e, e73] at a
  exact a
theorem fl_dM_f {h h1 h2 : fz_H} {L : List Int} (a : fl_dM h h1 L) (e : h2 53 26 = h1 53 26) (e73 : h2 73 = h1 73) : fl_dM h h2 L := by
  unfold fl_dM
  rw [e, e73]
  exact a
/-- what a reading does, and answers -/
def fl_rdM (h h' : fz_H) (q : fl_A) (r : Int) : Prop := h' 53 24 = q.1 ∧ ((r = 1 ∧ q.2.1 = true ∧ fl_dM h h' q.2.2) ∨ (r = 0 ∧ q.2.1 = false))
theorem fl_rdM_y {h h' : fz_H} {q : fl_A} {r : Int} (m : fl_rdM h h' q r) (c : r ≠ 0) : q.2.1 = true ∧ fl_dM h h' q.2.2 := by
  rcases m.2 with a | a
  · exact a.2
  · exact absurd a.1 c
theorem fl_rdM_n {h h' : fz_H} {q : fl_A} {r : Int} (m : fl_rdM h h' q r) (c : r = 0) : q.2.1 = false := by
  rcases m.2 with a | a
  · exfalso; omega
  · exact a.2
theorem fl_rdM_f {h h1 h2 : fz_H} {q : fl_A} {r : Int} (m : fl_rdM h h1 q r) (e24 : h2 53 24 = h1 53 24) (e26 : h2 53 26 = h1 53 26) (e73 : h2 73 = h1 73) : fl_rdM h h2 q r := by
  refine ⟨e24.trans m.1, ?_⟩
  rcases m.2 with a | a
  · exact Or.inl ⟨a.1, a.2.1, fl_dM_f a.2.2 e26 e73⟩
  · exact Or.inr a
/-! the signs between: j counts them -/
def fl_sL (h H : fz_H) (tot : fl_A) (op : Int → Int) (Q : fl_P) (g : Int → Int) (K : Nat) : Prop := ∃ (j : Nat) (L : List Int), fl_dM h H L ∧ (j : Int) + h 53 24 + 1 ≤ H 53 24 ∧ tot = fl_ap L (fl_ch op Q g (K - j) (H 53 24))
theorem fl_sL_0 {h H : fz_H} {op : Int → Int} {Q Q' : fl_P} {g : Int → Int} {K : Nat} {r : Int} (m : fl_rdM h H (Q' (h 53 24)) r) (hQ : Q' = Q) (c : r ≠ 0) (hat : h 53 24 + 1 ≤ H 53 24) : fl_sL h H (fl_lv op K g Q (h 53 24)) op Q g K := by
  subst hQ
  have y := fl_rdM_y m c
  refine ⟨0, _, y.2, by omega, ?_⟩
  unfold fl_lv fl_sq
  rw [if_pos y.1, m.1]
  rfl
theorem fl_sL_n0 {h H : fz_H} {op : Int → Int} {Q Q' : fl_P} {g : Int → Int} {K : Nat} {r : Int} (m : fl_rdM h H (Q' (h 53 24)) r) (hQ : Q' = Q) (c : r = 0) : fl_rdM h H (fl_lv op K g Q (h 53 24)) 0 := by
  subst hQ
  have y := fl_rdM_n m c
  unfold fl_lv fl_sq
  rw [if_neg (by rw [y]; decide)]
  exact ⟨m.1, Or.inr ⟨rfl, y⟩⟩
theorem fl_sL_x {h H H2 : fz_H} {tot : fl_A} {op : Int → Int} {Q : fl_P} {g : Int → Int} {K : Nat} (s : fl_sL h H tot op Q g K) (c : op (g (H 53 24)) < 0) (e24 : H2 53 24 = H 53 24) (e26 : H2 53 26 = H 53 26) (e73 : H2 73 = H 73) : fl_rdM h H2 tot 1 := by
  obtain ⟨j, L, s1, s2, s3⟩ := s
  have e : fl_ch op Q g (K - j) (H 53 24) = (H 53 24, true, []) := by
    match K - j with
    | 0 => rfl
    | k + 1 =>
      show (if op (g (H 53 24)) < 0 then _ else _) = _
      rw [if_pos c]
  rw [e] at s3
  rw [s3]
  refine ⟨e24, Or.inl ⟨rfl, rfl, ?_⟩⟩
  show fl_dM h H2 (L ++ [])
  rw [List.append_nil]
  exact fl_dM_f s1 e26 e73
theorem fl_sL_ch {h H : fz_H} {tot : fl_A} {op : Int → Int} {Q : fl_P} {g : Int → Int} {K : Nat} (s : fl_sL h H tot op Q g K) (hK : 120 ≤ K) (hb : H 53 24 ≤ 120 ∧ 0 ≤ h 53 24) (c : 0 ≤ op (g (H 53 24))) : ∃ (j : Nat) (L : List Int), fl_dM h H L ∧ (j : Int) + h 53 24 + 1 ≤ H 53 24 ∧ tot = fl_ap L (if (Q (H 53 24 + 1)).2.1 = true then fl_ap ((Q (H 53 24 + 1)).2.2 ++ [op (g (H 53 24))]) (fl_ch op Q g (K - (j + 1)) (Q (H 53 24 + 1)).1) else Q (H 53 24 + 1)) := by
  obtain ⟨j, L, s1, s2, s3⟩ := s
  refine ⟨j, L, s1, s2, ?_⟩
  rw [s3, show K - j = (K - (j + 1)) + 1 by omega]
  show fl_ap L (if op (g (H 53 24)) < 0 then _ else _) = _
  rw [if_neg (by omega)]
theorem fl_sL_st {h H H1 H2 H3 : fz_H} {tot : fl_A} {op : Int → Int} {Q Q' : fl_P} {g : Int → Int} {K : Nat} {l r : Int} (s : fl_sL h H tot op Q g K) (hK : 120 ≤ K) (hb : H 53 24 ≤ 120 ∧ 0 ≤ h 53 24 ∧ 0 ≤ h 53 26 ∧ 0 ≤ H1 53 26) (el : l = op (g (H 53 24))) (c : 0 ≤ l) (f24 : H1 53 24 = H 53 24 + 1) (f26 : H1 53 26 = H 53 26) (f73 : H1 73 = H 73) (m : fl_rdM H1 H2 (Q' (H1 53 24)) r) (hQ : Q' = Q) (hr : r ≠ 0) (d : fz_Cd H2 H3 l) (hat : H1 53 24 + 1 ≤ H2 53 24) (e24 : H3 53 24 = H2 53 24) : fl_sL h H3 tot op Q g K := by
  subst hQ el
  obtain ⟨j, L, s1, s2, s3⟩ := fl_sL_ch s hK ⟨hb.1, hb.2.1⟩ c
  have y := fl_rdM_y m hr
  rw [← f24, if_pos y.1, fl_ap_ap] at s3
  refine ⟨j + 1, L ++ ((Q' (H1 53 24)).2.2 ++ [op (g (H 53 24))]), ?_, by omega, ?_⟩
  · exact fl_dM_app hb.2.2.1 s1 (fl_dM_b (fl_dM_app hb.2.2.2 y.2 (fl_dM_1 d)) f26 f73)
  · rw [s3, e24, m.1]
theorem fl_sL_no {h H H1 H2 : fz_H} {tot : fl_A} {op : Int → Int} {Q Q' : fl_P} {g : Int → Int} {K : Nat} {l r : Int} (s : fl_sL h H tot op Q g K) (hK : 120 ≤ K) (hb : H 53 24 ≤ 120 ∧ 0 ≤ h 53 24) (el : l = op (g (H 53 24))) (c : 0 ≤ l) (f24 : H1 53 24 = H 53 24 + 1) (f26 : H1 53 26 = H 53 26) (f73 : H1 73 = H 73) (m : fl_rdM H1 H2 (Q' (H1 53 24)) r) (hQ : Q' = Q) (hr : r = 0) : fl_rdM h H2 tot 0 := by
  subst hQ el
  obtain ⟨j, L, s1, s2, s3⟩ := fl_sL_ch s hK hb c
  have y := fl_rdM_n m hr
  rw [← f24, if_neg (by rw [y]; decide)] at s3
  rw [s3]
  exact ⟨m.1, Or.inr ⟨rfl, y⟩⟩
/-- the one comparison -/
theorem fl_sB_1 {h H H1 H2 H3 : fz_H} {Q Q' : fl_P} {g : Int → Int} {l r r0 : Int} (m0 : fl_rdM h H (Q' (h 53 24)) r0) (hQ0 : Q' = Q) (c0 : r0 ≠ 0) (hb : 0 ≤ h 53 26 ∧ 0 ≤ H1 53 26) (el : l = fl_oB (g (H 53 24))) (c : 0 ≤ l) (f24 : H1 53 24 = H 53 24 + 1) (f26 : H1 53 26 = H 53 26) (f73 : H1 73 = H 73) {Q2 : fl_P} (m : fl_rdM H1 H2 (Q2 (H1 53 24)) r) (hQ : Q2 = Q) (hr : r ≠ 0) (d : fz_Cd H2 H3 l) (e24 : H3 53 24 = H2 53 24) : fl_rdM h H3 (fl_lv fl_oB 1 g Q (h 53 24)) 1 := by
  subst hQ0 hQ el
  have y0 := fl_rdM_y m0 c0
  have y := fl_rdM_y m hr
  have et : fl_lv fl_oB 1 g Q2 (h 53 24) = fl_ap (Q2 (h 53 24)).2.2 (fl_ap ((Q2 (H1 53 24)).2.2 ++ [fl_oB (g (H 53 24))]) ((Q2 (H1 53 24)).1, true, [])) := by
    unfold fl_lv fl_sq
    rw [if_pos y0.1, ← m0.1]
    congr 1
    show (if fl_oB (g (H 53 24)) < 0 then _ else if (Q2 (H 53 24 + 1)).2.1 = true then _ else _) = _
    rw [← f24, if_neg (by omega), if_pos y.1]
    rfl
  rw [et, fl_ap_ap]
  refine ⟨by rw [e24, m.1]; rfl, Or.inl ⟨rfl, rfl, ?_⟩⟩
  show fl_dM h H3 (((Q2 (h 53 24)).2.2 ++ ((Q2 (H1 53 24)).2.2 ++ [fl_oB (g (H 53 24))])) ++ [])
  rw [List.append_nil]
  exact fl_dM_app hb.1 y0.2 (fl_dM_b (fl_dM_app hb.2 y.2 (fl_dM_1 d)) f26 f73)
theorem fl_sB_0 {h H H1 H2 : fz_H} {Q Q' : fl_P} {g : Int → Int} {l r r0 : Int} (m0 : fl_rdM h H (Q' (h 53 24)) r0) (hQ0 : Q' = Q) (c0 : r0 ≠ 0) (el : l = fl_oB (g (H 53 24))) (c : 0 ≤ l) (f24 : H1 53 24 = H 53 24 + 1) (f26 : H1 53 26 = H 53 26) (f73 : H1 73 = H 73) {Q2 : fl_P} (m : fl_rdM H1 H2 (Q2 (H1 53 24)) r) (hQ : Q2 = Q) (hr : r = 0) : fl_rdM h H2 (fl_lv fl_oB 1 g Q (h 53 24)) 0 := by
  subst hQ0 hQ el
  have y0 := fl_rdM_y m0 c0
  have y := fl_rdM_n m hr
  have et : fl_lv fl_oB 1 g Q2 (h 53 24) = fl_ap (Q2 (h 53 24)).2.2 (Q2 (H1 53 24)) := by
    unfold fl_lv fl_sq
    rw [if_pos y0.1, ← m0.1]
    congr 1
    show (if fl_oB (g (H 53 24)) < 0 then _ else if (Q2 (H 53 24 + 1)).2.1 = true then _ else _) = _
    rw [← f24, if_neg (by omega), if_neg (by rw [y]; decide)]
  rw [et]
  exact ⟨m.1, Or.inr ⟨rfl, y⟩⟩
/-! an O -/
theorem fl_mO_num {h H h' : fz_H} {k : Nat} {v a c : Int} (dg : 48 ≤ fl_gM h (h 53 24) ∧ fl_gM h (h 53 24) ≤ 57) (t : fl_dg (fl_gM h) 4 (0, h 53 24) = (v, a)) (ha : H 53 24 = a) (d : fz_Cd H h' c) (hc : c = 18 + v) (e24 : h' 53 24 = H 53 24) (e26 : H 53 26 = h 53 26) (e73 : H 73 = h 73) : fl_rdM h h' (fl_pO (fl_gM h) k (h 53 24)) 1 := by
  obtain ⟨R, er⟩ := fl_pO_bs (g := fl_gM h) k
  rw [er]
  unfold fl_bs0
  rw [if_pos dg, t, ← hc]
  exact ⟨e24.trans ha, Or.inl ⟨rfl, rfl, fl_dM_b (fl_dM_1 d) e26 e73⟩⟩
theorem fl_mO_nam {h H h' : fz_H} {k : Nat} {y n v : Int} (ey : fl_gM h (h 53 24) = y) (en : n = fl_nm y) (c : ¬ (48 ≤ y ∧ y ≤ 57)) (hn : 0 ≤ n) (e : H = fz_up h 53 24 v) (hv : v = h 53 24 + 1) (d : fz_Cd H h' n) (e24 : h' 53 24 = H 53 24) : fl_rdM h h' (fl_pO (fl_gM h) k (h 53 24)) 1 := by
  obtain ⟨R, er⟩ := fl_pO_bs (g := fl_gM h) k
  rw [er]
  unfold fl_bs0
  rw [ey, if_neg c, ← en, if_pos hn]
  exact ⟨by rw [e24, e, fz_up_e, hv], Or.inl ⟨rfl, rfl, fl_dM_b (fl_dM_1 d) (by rw [e, fz_up_s (by decide)]) (by rw [e, fz_up_ne (by decide)])⟩⟩
theorem fl_mO_full {h : fz_H} {y n : Int} (ey : fl_gM h (h 53 24) = y) (en : n = fl_nm y) (c : ¬ (48 ≤ y ∧ y ≤ 57)) (hn : n < 0) : fl_rdM h h (fl_pO (fl_gM h) 0 (h 53 24)) 0 := by
  have er : fl_pO (fl_gM h) 0 (h 53 24) = (h 53 24, false, []) := by
    show fl_bs0 _ _ _ = _
    unfold fl_bs0
    rw [ey, if_neg c, ← en, if_neg (by omega)]
  rw [er]
  exact ⟨rfl, Or.inr ⟨rfl, rfl⟩⟩
theorem fl_mO_op {h : fz_H} {k : Nat} {y n : Int} (ey : fl_gM h (h 53 24) = y) (en : n = fl_nm y) (c : ¬ (48 ≤ y ∧ y ≤ 57)) (hn : n < 0) : fl_pO (fl_gM h) (k + 1) (h 53 24) = if y = 40 then fl_pr (fl_gM h) (fl_eE (fl_gM h) (fl_pO (fl_gM h) k)) (h 53 24 + 1) else if y = 33 then fl_un 16 (fl_pO (fl_gM h) k) (h 53 24 + 1) else if y = 45 then fl_un 17 (fl_pO (fl_gM h) k) (h 53 24 + 1) else (h 53 24, false, []) := by
  show fl_bs0 _ _ _ = _
  unfold fl_bs0
  rw [ey, if_neg c, ← en, if_neg (by omega)]
  unfold fl_op
  rw [ey]
/-- none of them -/
theorem fl_mO_no {h h' : fz_H} {k : Nat} {y n : Int} (ey : fl_gM h (h 53 24) = y) (en : n = fl_nm y) (c : ¬ (48 ≤ y ∧ y ≤ 57)) (hn : n < 0) (hy : y ≠ 40 ∧ y ≠ 33 ∧ y ≠ 45) (e24 : h' 53 24 = h 53 24) : fl_rdM h h' (fl_pO (fl_gM h) (k + 1) (h 53 24)) 0 := by
  rw [fl_mO_op ey en c hn, if_neg hy.1, if_neg hy.2.1, if_neg hy.2.2]
  exact ⟨e24, Or.inr ⟨rfl, rfl⟩⟩
/-- ! O, - O -/
theorem fl_mO_un {h H1 H2 h' : fz_H} {k : Nat} {y n c0 r q : Int} (ey : fl_gM h (h 53 24) = y) (en : n = fl_nm y) (c : ¬ (48 ≤ y ∧ y ≤ 57)) (hn : n < 0) (hy : (y = 33 ∧ c0 = 16) ∨ (y = 45 ∧ c0 = 17)) (e1 : H1 53 24 = h 53 24 + 1) (e26 : H1 53 26 = h 53 26) (e73 : H1 73 = h 73) (h0 : 0 ≤ H1 53 26) (hg : fl_gM H1 = fl_gM h) (m : fl_rdM H1 H2 (fl_pO (fl_gM H1) k (H1 53 24)) r) (o : (r ≠ 0 ∧ (∃ H3 : fz_H, fz_Cd H2 H3 c0 ∧ h' 73 = H3 73 ∧ h' 53 26 = H3 53 26) ∧ h' 53 24 = H2 53 24 ∧ q = 1) ∨ (r = 0 ∧ h' 53 24 = H2 53 24 ∧ q = 0)) : fl_rdM h h' (fl_pO (fl_gM h) (k + 1) (h 53 24)) q := by
  have eo : fl_pO (fl_gM h) (k + 1) (h 53 24) = fl_un c0 (fl_pO (fl_gM h) k) (h 53 24 + 1) := by
    rw [fl_mO_op ey en c hn]
    rcases hy with ⟨h1, h2⟩ | ⟨h1, h2⟩
    · rw [if_neg (by omega), if_pos (by omega), h2]
    · rw [if_neg (by omega), if_neg (by omega), if_pos (by omega), h2]
  rw [eo]
  unfold fl_un
  rw [hg, e1] at m
  rcases o with ⟨o1, ⟨H3, o2, o3, o4⟩, o5, o6⟩ | ⟨o1, o2, o3⟩
  · have y := fl_rdM_y m o1
    rw [if_pos y.1]
    exact ⟨by rw [o5, m.1], Or.inl ⟨o6, rfl, fl_dM_f (fl_dM_b (fl_dM_app h0 y.2 (fl_dM_1 o2)) e26 e73) o4 o3⟩⟩
  · have y := fl_rdM_n m o1
    rw [if_neg (by rw [y]; decide)]
    exact ⟨by rw [o2, m.1], Or.inr ⟨o3, y⟩⟩
/-- ( E ) -/
theorem fl_mO_par {h H1 H2 h' : fz_H} {k : Nat} {y n r q : Int} (ey : fl_gM h (h 53 24) = y) (en : n = fl_nm y) (c : ¬ (48 ≤ y ∧ y ≤ 57)) (hn : n < 0) (hy : y = 40) (e1 : H1 53 24 = h 53 24 + 1) (e26 : H1 53 26 = h 53 26) (e73 : H1 73 = h 73) (hg : fl_gM H1 = fl_gM h) (m : fl_rdM H1 H2 (fl_eE (fl_gM H1) (fl_pO (fl_gM H1) k) (H1 53 24)) r) (f26 : h' 53 26 = H2 53 26) (f73 : h' 73 = H2 73)
    (o : (r ≠ 0 ∧ fl_gM h (H2 53 24) = 41 ∧ h' 53 24 = H2 53 24 + 1 ∧ q = 1) ∨ (r ≠ 0 ∧ fl_gM h (H2 53 24) ≠ 41 ∧ h' 53 24 = H2 53 24 ∧ q = 0) ∨ (r = 0 ∧ h' 53 24 = H2 53 24 ∧ q = 0)) : fl_rdM h h' (fl_pO (fl_gM h) (k + 1) (h 53 24)) q := by
  rw [fl_mO_op ey en c hn, if_pos hy]
  unfold fl_pr
  rw [hg, e1] at m
  rcases o with ⟨o1, o2, o3, o4⟩ | ⟨o1, o2, o3, o4⟩ | ⟨o1, o2, o3⟩
  · have y := fl_rdM_y m o1
    rw [m.1] at o2 o3
    rw [if_pos y.1, if_pos o2]
    exact ⟨o3, Or.inl ⟨o4, rfl, fl_dM_f (fl_dM_b y.2 e26 e73) f26 f73⟩⟩
  · have y := fl_rdM_y m o1
    rw [m.1] at o2 o3
    rw [if_pos y.1, if_neg o2]
    exact ⟨o3, Or.inr ⟨o4, rfl⟩⟩
  · have y := fl_rdM_n m o1
    rw [if_neg (by rw [y]; decide)]
    exact ⟨by rw [o2, m.1], Or.inr ⟨o3, y⟩⟩
/-! lines -/
theorem fl_my_app {as sy en f : Nat → Int} : ∀ {L M : List (List Int × List Int)} {i c : Nat}, fl_my as sy en f i c L → fl_my as sy en f (i + L.length) (c + (L.map (fun q => q.1.length + q.2.length)).sum) M → fl_my as sy en f i c (L ++ M)
  | [], M, i, c, _, h => h
  | q :: L, M, i, c, h, g => by
    refine ⟨h.1, fl_my_app h.2 ?_⟩
    have e1 : (q :: L).length = L.length + 1 := rfl
    have e2 : ((q :: L).map (fun q => q.1.length + q.2.length)).sum = (q.1.length + q.2.length) + (L.map (fun q => q.1.length + q.2.length)).sum := by
      rw [List.map_cons, List.sum_cons]
    rw [e1, e2] at g
    rw [show i + 1 + L.length = i + (L.length + 1) by omega, show c + q.1.length + q.2.length + (L.map (fun q => q.1.length + q.2.length)).sum = c + ((q.1.length + q.2.length) + (L.map (fun q => q.1.length + q.2.length)).sum) by omega]
    exact g
theorem fl_my_eq {as sy en f as' sy' en' f' : Nat → Int} : ∀ {L : List (List Int × List Int)} {i c : Nat}, (∀ k, k < i + L.length → as' k = as k ∧ sy' k = sy k ∧ en' k = en k) → (∀ k, k < c + (L.map (fun q => q.1.length + q.2.length)).sum → f' k = f k) → fl_my as sy en f i c L → fl_my as' sy' en' f' i c L
  | [], _, _, _, _, _ => trivial
  | q :: L, i, c, h, g, m => by
    have e2 : ((q :: L).map (fun q => q.1.length + q.2.length)).sum = (q.1.length + q.2.length) + (L.map (fun q => q.1.length + q.2.length)).sum := by
      rw [List.map_cons, List.sum_cons]
    have e1 : (q :: L).length = L.length + 1 := rfl
    rw [e2] at g
    rw [e1] at h
    obtain ⟨⟨m1, m2, m3, m4, m5⟩, m6⟩ := m
    have x := h i (by omega)
    exact ⟨⟨x.1.trans m1, x.2.1.trans m2, x.2.2.trans m3, fl_sg_eq (fun k k1 k2 => g k (by omega)) m4, fl_sg_eq (fun k k1 k2 => g k (by omega)) m5⟩, fl_my_eq (fun k hk => h k (by omega)) (fun k hk => g k (by omega)) m6⟩
def fl_sz (L : List (List Int × List Int)) : Nat := (L.map (fun q => q.1.length + q.2.length)).sum
theorem fl_sz_1 {L : List (List Int × List Int)} {q : List Int × List Int} : fl_sz (L ++ [q]) = fl_sz L + (q.1.length + q.2.length) := by
  unfold fl_sz
  rw [List.map_append, List.sum_append, List.map_cons, List.map_nil, List.sum_cons, List.sum_nil]
  omega
/-- a line has come, or a fault -/
def fl_ilM (h h' : fz_H) (r : Int) : Prop := h' 53 24 = (fl_ln (fl_gM h) (h 53 24)).1 ∧ ((r = 1 ∧ (fl_ln (fl_gM h) (h 53 24)).2.1 = true ∧ h' 53 27 = h 53 27 + 1 ∧ h' 53 26 = h 53 26 + fl_sz [(fl_ln (fl_gM h) (h 53 24)).2.2] ∧ (∀ k : Nat, (k : Int) < h 53 27 → h' 70 k = h 70 k ∧ h' 71 k = h 71 k ∧ h' 72 k = h 72 k) ∧ (∀ k : Nat, (k : Int) < h 53 26 → h' 73 k = h 73 k) ∧ fl_my (h' 70) (h' 71) (h' 72) (h' 73) (h 53 27).toNat (h 53 26).toNat [(fl_ln (fl_gM h) (h 53 24)).2.2]) ∨ (r = 0 ∧ (fl_ln (fl_gM h) (h 53 24)).2.1 = false))
/-! ===== the model's lines, its law ===== -/
theorem fl_il_n {h H1 H2 : fz_H} {n c r : Int} (e1 : H1 = fz_up h 70 n.toNat c) (m : fl_rdM H1 H2 (fl_eE (fl_gM H1) (fl_pO (fl_gM H1) 6) (H1 53 24)) r) (hr : r = 0) : fl_ilM h H2 0 := by
  have g : fl_gM H1 = fl_gM h := fl_gM_e (by rw [e1, fz_up_ne (by decide)]) (by rw [e1, fz_up_o (by decide)])
  have a : H1 53 24 = h 53 24 := by rw [e1, fz_up_o (by decide)]
  rw [g, a] at m
  have y := fl_rdM_n m hr
  unfold fl_ilM fl_ln
  rw [if_neg (by rw [y]; decide)]
  exact ⟨m.1, Or.inr ⟨rfl, rfl⟩⟩
theorem fl_my_1 {as sy en f : Nat → Int} {i c : Nat} {q : List Int × List Int} (h1 : as i = c) (h2 : sy i = ((c + q.1.length : Nat) : Int)) (h3 : en i = ((c + q.1.length + q.2.length : Nat) : Int)) (s1 : fl_sg f c q.1) (s2 : fl_sg f (c + q.1.length) q.2) : fl_my as sy en f i c [q] := ⟨⟨h1, h2, h3, s1, s2⟩, trivial⟩
theorem fl_sz_0 {q : List Int × List Int} : fl_sz [q] = q.1.length + q.2.length := by
  unfold fl_sz
  rw [List.map_cons, List.map_nil, List.sum_cons, List.sum_nil]
  (try dsimp only)
  omega
/-- a line without '?' -/
theorem fl_il_a {h H1 H2 H3 H4 H5 H6 : fz_H} {n1 n3 n6 m c1 x3 c6 r : Int} (h0 : 0 ≤ h 53 27 ∧ 0 ≤ h 53 26)
    (e1 : H1 = fz_up h 70 n1.toNat c1) (k2 : fz_Kp H1 H2) (m2 : fl_rdM H1 H2 (fl_eE (fl_gM H1) (fl_pO (fl_gM H1) 6) (H1 53 24)) r) (hr : r ≠ 0) (e3 : H3 = fz_up H2 71 n3.toNat x3) (k4 : fz_Kp H3 H4) (g4 : H4 73 = H3 73 ∧ H4 53 26 = H3 53 26) (sg : fl_gM h (H2 53 24) ≠ 63) (a4 : H4 53 24 = H2 53 24)
    (e5 : H5 = fz_up H4 53 27 m) (e6 : H6 = fz_up H5 72 n6.toNat c6) (hn : n1 = h 53 27 ∧ n3 = h 53 27 ∧ n6 = h 53 27 ∧ m = h 53 27 + 1 ∧ c1 = h 53 26) (hx : x3 = c1) (hc6 : c6 = H4 53 26) : fl_ilM h H6 1 := by
  obtain ⟨rfl, rfl, rfl, rfl, rfl⟩ := hn
  have g : fl_gM H1 = fl_gM h := fl_gM_e (by rw [e1, fz_up_ne (by decide)]) (by rw [e1, fz_up_o (by decide)])
  have a : H1 53 24 = h 53 24 := by rw [e1, fz_up_o (by decide)]
  rw [g, a] at m2
  have y := fl_rdM_y m2 hr
  have q73 : ∀ k, H6 73 k = H2 73 k := fun k => by rw [e6, fz_up_o (by decide), e5, fz_up_o (by decide), g4.1, e3, fz_up_o (by decide)]
  have q26 : H6 53 26 = H2 53 26 := by rw [e6, fz_up_o (by decide), e5, fz_up_s (by decide), g4.2, e3, fz_up_o (by decide)]
  have p26 : H1 53 26 = h 53 26 := by rw [e1, fz_up_o (by decide)]
  obtain ⟨d1, d2, d3⟩ := y.2
  rw [p26] at d1 d2 d3
  unfold fl_ilM fl_ln
  rw [if_pos y.1, if_neg (by rw [← m2.1]; exact sg)]
  refine ⟨?_, Or.inl ⟨rfl, rfl, ?_, ?_, fun j hj => ?_, fun k hk => ?_, ?_⟩⟩
  · rw [e6, fz_up_o (by decide), e5, fz_up_s (by decide), a4, m2.1]
  · rw [e6, fz_up_o (by decide), e5, fz_up_e]
  · rw [q26, d1, fl_sz_0]
    show _ = _ + ((0 + _ : Nat) : Int)
    rw [Nat.zero_add]
  · have hj2 : j ≠ (h 53 27).toNat := by omega
    refine ⟨?_, ?_, ?_⟩
    · rw [e6, fz_up_o (by decide), e5, fz_up_o (by decide), k4 70 j (Or.inl rfl), e3, fz_up_o (by decide), k2 70 j (Or.inl rfl), e1, fz_up_s hj2]
    · rw [e6, fz_up_o (by decide), e5, fz_up_o (by decide), k4 71 j (Or.inr (Or.inl rfl)), e3, fz_up_s hj2, k2 71 j (Or.inr (Or.inl rfl)), e1, fz_up_o (by decide)]
    · rw [e6, fz_up_s hj2, e5, fz_up_o (by decide), k4 72 j (Or.inr (Or.inr (Or.inl rfl))), e3, fz_up_o (by decide), k2 72 j (Or.inr (Or.inr (Or.inl rfl))), e1, fz_up_o (by decide)]
  · rw [q73, d2 k hk, e1, fz_up_o (by decide)]
  · refine fl_my_1 ?_ ?_ ?_ trivial ?_
    · rw [e6, fz_up_o (by decide), e5, fz_up_o (by decide), k4 70 _ (Or.inl rfl), e3, fz_up_o (by decide), k2 70 _ (Or.inl rfl), e1, fz_up_e]
      (try dsimp only)
      omega
    · rw [e6, fz_up_o (by decide), e5, fz_up_o (by decide), k4 71 _ (Or.inr (Or.inl rfl)), e3, fz_up_e, hx]
      show h 53 26 = (((h 53 26).toNat + 0 : Nat) : Int)
      (try dsimp only)
      omega
    · rw [e6, fz_up_e, hc6, g4.2, e3, fz_up_o (by decide), d1]
      show _ = (((h 53 26).toNat + 0 + _ : Nat) : Int)
      (try dsimp only)
      omega
    · exact fl_sg_eq (fun k _ _ => q73 k) d3
theorem fl_il_m {h H1 H2 H4 H5 H6 : fz_H} {n1 n5 c1 c5 r r2 : Int} (e1 : H1 = fz_up h 70 n1.toNat c1) (m2 : fl_rdM H1 H2 (fl_eE (fl_gM H1) (fl_pO (fl_gM H1) 6) (H1 53 24)) r) (hr : r ≠ 0) (sg : fl_gM h (H2 53 24) = 63) (a4 : H4 53 24 = H2 53 24 + 1) (e5 : H5 = fz_up H4 71 n5.toNat c5) (hg5 : fl_gM H5 = fl_gM h) (m6 : fl_rdM H5 H6 (fl_eE (fl_gM H5) (fl_pO (fl_gM H5) 6) (H5 53 24)) r2) (hr2 : r2 = 0) : fl_ilM h H6 0 := by
  have g : fl_gM H1 = fl_gM h := fl_gM_e (by rw [e1, fz_up_ne (by decide)]) (by rw [e1, fz_up_o (by decide)])
  have a : H1 53 24 = h 53 24 := by rw [e1, fz_up_o (by decide)]
  rw [g, a] at m2
  have y := fl_rdM_y m2 hr
  have a5 : H5 53 24 = H2 53 24 + 1 := by rw [e5, fz_up_o (by decide), a4]
  rw [hg5, a5, m2.1] at m6
  have y6 := fl_rdM_n m6 hr2
  unfold fl_ilM fl_ln
  rw [if_pos y.1, if_pos (by rw [← m2.1]; exact sg)]
  exact ⟨m6.1, Or.inr ⟨rfl, y6⟩⟩
/-- a line with '?' -/
theorem fl_il_b {h H1 H2 H3 H4 H5 H6 H7 H8 : fz_H} {n1 n3 n5 n8 m c1 x3 c5 c8 r r2 : Int} (h0 : 0 ≤ h 53 27 ∧ 0 ≤ h 53 26)
    (e1 : H1 = fz_up h 70 n1.toNat c1) (k2 : fz_Kp H1 H2) (m2 : fl_rdM H1 H2 (fl_eE (fl_gM H1) (fl_pO (fl_gM H1) 6) (H1 53 24)) r) (hr : r ≠ 0) (e3 : H3 = fz_up H2 71 n3.toNat x3) (k4 : fz_Kp H3 H4) (g4 : H4 73 = H3 73 ∧ H4 53 26 = H3 53 26) (sg : fl_gM h (H2 53 24) = 63) (a4 : H4 53 24 = H2 53 24 + 1)
    (e5 : H5 = fz_up H4 71 n5.toNat c5) (k6 : fz_Kp H5 H6) (hg5 : fl_gM H5 = fl_gM h) (m6 : fl_rdM H5 H6 (fl_eE (fl_gM H5) (fl_pO (fl_gM H5) 6) (H5 53 24)) r2) (hr2 : r2 ≠ 0)
    (e7 : H7 = fz_up H6 53 27 m) (e8 : H8 = fz_up H7 72 n8.toNat c8) (hn : n1 = h 53 27 ∧ n3 = h 53 27 ∧ n5 = h 53 27 ∧ n8 = h 53 27 ∧ m = h 53 27 + 1 ∧ c1 = h 53 26) (hc5 : c5 = H4 53 26) (hc8 : c8 = H6 53 26) : fl_ilM h H8 1 := by
  obtain ⟨rfl, rfl, rfl, rfl, rfl, rfl⟩ := hn
  have g : fl_gM H1 = fl_gM h := fl_gM_e (by rw [e1, fz_up_ne (by decide)]) (by rw [e1, fz_up_o (by decide)])
  have a : H1 53 24 = h 53 24 := by rw [e1, fz_up_o (by decide)]
  rw [g, a] at m2
  have y := fl_rdM_y m2 hr
  have a5 : H5 53 24 = H2 53 24 + 1 := by rw [e5, fz_up_o (by decide), a4]
  rw [hg5, a5, m2.1] at m6
  have y6 := fl_rdM_y m6 hr2
  have q73 : ∀ k, H8 73 k = H6 73 k := fun k => by rw [e8, fz_up_o (by decide), e7, fz_up_o (by decide)]
  have q26 : H8 53 26 = H6 53 26 := by rw [e8, fz_up_o (by decide), e7, fz_up_s (by decide)]
  have p26 : H1 53 26 = h 53 26 := by rw [e1, fz_up_o (by decide)]
  have u26 : H5 53 26 = H2 53 26 := by rw [e5, fz_up_o (by decide), g4.2, e3, fz_up_o (by decide)]
  have v26 : c5 = H2 53 26 := by rw [hc5, g4.2, e3, fz_up_o (by decide)]
  have u73 : ∀ k, H5 73 k = H2 73 k := fun k => by rw [e5, fz_up_o (by decide), g4.1, e3, fz_up_o (by decide)]
  obtain ⟨d1, d2, d3⟩ := y.2
  rw [p26] at d1 d2 d3
  obtain ⟨f1, f2, f3⟩ := y6.2
  rw [u26] at f1 f2 f3
  unfold fl_ilM fl_ln
  rw [if_pos y.1, if_pos (by rw [← m2.1]; exact sg)]
  refine ⟨?_, Or.inl ⟨rfl, y6.1, ?_, ?_, fun j hj => ?_, fun k hk => ?_, ?_⟩⟩
  · rw [e8, fz_up_o (by decide), e7, fz_up_s (by decide), m6.1]
  · rw [e8, fz_up_o (by decide), e7, fz_up_e]
  · rw [q26, f1, d1, fl_sz_0]
    (try dsimp only)
    omega
  · have hj2 : j ≠ (h 53 27).toNat := by omega
    refine ⟨?_, ?_, ?_⟩
    · rw [e8, fz_up_o (by decide), e7, fz_up_o (by decide), k6 70 j (Or.inl rfl), e5, fz_up_o (by decide), k4 70 j (Or.inl rfl), e3, fz_up_o (by decide), k2 70 j (Or.inl rfl), e1, fz_up_s hj2]
    · rw [e8, fz_up_o (by decide), e7, fz_up_o (by decide), k6 71 j (Or.inr (Or.inl rfl)), e5, fz_up_s hj2, k4 71 j (Or.inr (Or.inl rfl)), e3, fz_up_s hj2, k2 71 j (Or.inr (Or.inl rfl)), e1, fz_up_o (by decide)]
    · rw [e8, fz_up_s hj2, e7, fz_up_o (by decide), k6 72 j (Or.inr (Or.inr (Or.inl rfl))), e5, fz_up_o (by decide), k4 72 j (Or.inr (Or.inr (Or.inl rfl))), e3, fz_up_o (by decide), k2 72 j (Or.inr (Or.inr (Or.inl rfl))), e1, fz_up_o (by decide)]
  · rw [q73, f2 k (by omega), u73, d2 k hk, e1, fz_up_o (by decide)]
  · refine fl_my_1 ?_ ?_ ?_ ?_ ?_
    · rw [e8, fz_up_o (by decide), e7, fz_up_o (by decide), k6 70 _ (Or.inl rfl), e5, fz_up_o (by decide), k4 70 _ (Or.inl rfl), e3, fz_up_o (by decide), k2 70 _ (Or.inl rfl), e1, fz_up_e]
      (try dsimp only)
      omega
    · rw [e8, fz_up_o (by decide), e7, fz_up_o (by decide), k6 71 _ (Or.inr (Or.inl rfl)), e5, fz_up_e, v26, d1]
      (try dsimp only)
      omega
    · rw [e8, fz_up_e, hc8, f1, d1]
      (try dsimp only)
      omega
    · exact fl_sg_eq (fun k k1 k2 => (q73 k).trans ((f2 k (by dsimp only at k2; omega)).trans (u73 k))) d3
    · rw [show (H2 53 26).toNat = (h 53 26).toNat + (fl_eE (fl_gM h) (fl_pO (fl_gM h) 6) (h 53 24)).2.2.length by omega] at f3
      exact fl_sg_eq (fun k _ _ => q73 k) f3
/-- between lines -/
def fl_lwS (g : Int → Int) (n : Int) (H : fz_H) (go : Int) : Prop := (go = 1 ∧ ∃ (j : Nat) (L : List (List Int × List Int)), L ≠ [] ∧ H 53 27 = L.length ∧ H 53 26 = fl_sz L ∧ fl_my (H 70) (H 71) (H 72) (H 73) 0 0 L ∧ (j : Int) ≤ H 53 24 ∧ 0 ≤ H 53 24 ∧ H 53 24 ≤ n ∧ fl_tt g = fl_bp L (if g (H 53 24) = 59 then fl_tx g (199 - j) (H 53 24 + 1) else (H 53 24, true, []))) ∨ (go = 0 ∧ (fl_tt g).2.1 = false ∧ (fl_tt g).1 = H 53 24)
theorem fl_lwS_0 {H0 H : fz_H} {g : Int → Int} {n r : Int} (i : fl_ilM H0 H r) (hg : fl_gM H0 = g) (hl : fl_gl n g) (hn : 0 ≤ n) (a0 : H0 53 24 = 0) (c0 : H0 53 26 = 0) (l0 : H0 53 27 = 0) : fl_lwS g n H r := by
  obtain ⟨i1, i2⟩ := i
  rw [hg, a0] at i1 i2
  have p := fl_ln_g hl (Int.le_refl 0) hn
  have et : fl_tt g = (if (fl_ln g 0).2.1 = true then fl_bp [(fl_ln g 0).2.2] (if g (fl_ln g 0).1 = 59 then fl_tx g 199 ((fl_ln g 0).1 + 1) else ((fl_ln g 0).1, true, [])) else ((fl_ln g 0).1, false, [])) := rfl
  rcases i2 with ⟨b1, b2, b3, b4, b5, b6, b7⟩ | ⟨b1, b2⟩
  · left
    rw [if_pos b2] at et
    rw [c0] at b4 b7
    rw [l0] at b3 b7
    refine ⟨b1, 0, [(fl_ln g 0).2.2], List.cons_ne_nil _ _, by rw [b3]; rfl, by rw [b4]; omega, b7, by rw [i1]; have := p.1; omega, by rw [i1]; exact p.1, by rw [i1]; exact p.2.1, by rw [i1]; exact et⟩
  · right
    rw [if_neg (by rw [b2]; decide)] at et
    rw [et]
    exact ⟨b1, rfl, i1.symm⟩
theorem fl_lwS_st {H H1 H2 : fz_H} {g : Int → Int} {n r r2 : Int} (s : fl_lwS g n H r) (hr : r ≠ 0) (hl : fl_gl n g) (hn : n ≤ 120) (y : g (H 53 24) = 59) (e1 : H1 53 24 = H 53 24 + 1) (f26 : H1 53 26 = H 53 26) (f27 : H1 53 27 = H 53 27) (f70 : H1 70 = H 70) (f71 : H1 71 = H 71) (f72 : H1 72 = H 72) (f73 : H1 73 = H 73) (hg : fl_gM H1 = g) (i : fl_ilM H1 H2 r2) : fl_lwS g n H2 r2 := by
  rcases s with ⟨s0, j, L, s1, s2, s3, s4, s5, s6, s7, s8⟩ | ⟨s0, s1, s2⟩
  · obtain ⟨i1, i2⟩ := i
    rw [hg, e1] at i1 i2
    have b := hl (H 53 24) s6 (by omega)
    have p := fl_ln_g hl (a := H 53 24 + 1) (by omega) (by omega)
    rw [if_pos y, show 199 - j = (199 - (j + 1)) + 1 by omega] at s8
    have ex : fl_tx g ((199 - (j + 1)) + 1) (H 53 24 + 1) = (if (fl_ln g (H 53 24 + 1)).2.1 = true then fl_bp [(fl_ln g (H 53 24 + 1)).2.2] (if g (fl_ln g (H 53 24 + 1)).1 = 59 then fl_tx g (199 - (j + 1)) ((fl_ln g (H 53 24 + 1)).1 + 1) else ((fl_ln g (H 53 24 + 1)).1, true, [])) else ((fl_ln g (H 53 24 + 1)).1, false, [])) := rfl
    rw [ex] at s8
    rcases i2 with ⟨b1, b2, b3, b4, b5, b6, b7⟩ | ⟨b1, b2⟩
    · rw [if_pos b2, fl_bp_bp] at s8
      rw [f26] at b4 b6 b7
      rw [f27] at b3 b5 b7
      left
      refine ⟨b1, j + 1, L ++ [(fl_ln g (H 53 24 + 1)).2.2], by simp, ?_, ?_, ?_, by rw [i1]; have := p.1; omega, by rw [i1]; have := p.1; omega, by rw [i1]; exact p.2.1, by rw [i1]; exact s8⟩
      · rw [b3, s2, List.length_append]; rfl
      · rw [b4, s3, fl_sz_1, fl_sz_0]; omega
      · refine fl_my_app (fl_my_eq (fun k hk => ?_) (fun k hk => ?_) s4) ?_
        · have x := b5 k (by omega)
          rw [f70, f71, f72] at x
          exact x
        · have x := b6 k (by have e : fl_sz L = (L.map (fun q => q.1.length + q.2.length)).sum := rfl; omega)
          rw [f73] at x
          exact x
        · rw [show 0 + L.length = (H 53 27).toNat by omega, show 0 + (L.map (fun q => q.1.length + q.2.length)).sum = (H 53 26).toNat by have e : fl_sz L = (L.map (fun q => q.1.length + q.2.length)).sum := rfl; omega]
          exact b7
    · rw [if_neg (by rw [b2]; decide)] at s8
      right
      rw [s8]
      exact ⟨b1, rfl, i1.symm⟩
  · exact absurd s0 hr
def fl_laM (h h' : fz_H) (r : Int) : Prop := ((fl_tt (fl_gM h)).2.1 = true ∧ h 53 16 ≤ (fl_tt (fl_gM h)).1 ∧ r = 1 ∧ h' 53 18 = 1 ∧ h' 53 19 = (fl_tt (fl_gM h)).2.2.length ∧ (fl_tt (fl_gM h)).2.2 ≠ [] ∧ fl_my (h' 66) (h' 67) (h' 68) (h' 69) 0 0 (fl_tt (fl_gM h)).2.2) ∨ (¬ ((fl_tt (fl_gM h)).2.1 = true ∧ h 53 16 ≤ (fl_tt (fl_gM h)).1) ∧ r = -100 - (fl_tt (fl_gM h)).1 ∧ h' 53 18 = h 53 18 ∧ h' 53 19 = h 53 19 ∧ h' 66 = h 66 ∧ h' 67 = h 67 ∧ h' 68 = h 68 ∧ h' 69 = h 69)
theorem fl_laM_0 {h H H' : fz_H} {go r : Int} (s : fl_lwS (fl_gM h) (h 53 16) H go) (hx : go = 0 ∨ (fl_gM h (H 53 24) ≠ 59 ∧ H 53 24 ≠ h 53 16)) (hr : r = -100 - H 53 24) (e18 : H' 53 18 = h 53 18) (e19 : H' 53 19 = h 53 19) (e66 : H' 66 = h 66) (e67 : H' 67 = h 67) (e68 : H' 68 = h 68) (e69 : H' 69 = h 69) : fl_laM h H' r := by
  right
  rcases s with ⟨s0, j, L, s1, s2, s3, s4, s5, s6, s7, s8⟩ | ⟨s0, s1, s2⟩
  · have x := hx.elim (fun z => absurd (s0.symm.trans z) (by decide)) id
    rw [if_neg x.1] at s8
    rw [s8]
    exact ⟨fun z => by have z2 : h 53 16 ≤ H 53 24 := z.2; omega, hr, e18, e19, e66, e67, e68, e69⟩
  · exact ⟨fun z => by rw [s1] at z; exact Bool.noConfusion z.1, by rw [s2]; exact hr, e18, e19, e66, e67, e68, e69⟩
theorem fl_laM_1 {h H H' : fz_H} {go i : Int} (s : fl_lwS (fl_gM h) (h 53 16) H go) (hgo : go ≠ 0) (hx : fl_gM h (H 53 24) ≠ 59) (he : H 53 24 = h 53 16) (e70 : H' 70 = H 70) (e71 : H' 71 = H 71) (e72 : H' 72 = H 72) (e73 : H' 73 = H 73) (e26 : H' 53 26 = H 53 26) (e27 : H' 53 27 = H 53 27) (c3 : fz_C3f H') (c4 : fz_C4 H' i) (hi : H' 53 26 ≤ i) (hn : H' 53 19 = H' 53 27) (ht : H' 53 18 = 1) : fl_laM h H' 1 := by
  left
  rcases s with ⟨s0, j, L, s1, s2, s3, s4, s5, s6, s7, s8⟩ | ⟨s0, s1, s2⟩
  · rw [if_neg hx] at s8
    rw [s8]
    have eL : (fl_bp L (H 53 24, true, [])).2.2 = L := List.append_nil L
    rw [eL]
    refine ⟨rfl, show h 53 16 ≤ H 53 24 by omega, rfl, ht, by omega, s1, ?_⟩
    refine fl_my_eq (fun k hk => ?_) (fun k hk => ?_) s4
    · have x := c3 k (by omega)
      rw [e70, e71, e72] at x
      exact x
    · have x := c4 k (by have e : fl_sz L = (L.map (fun q => q.1.length + q.2.length)).sum := rfl; omega)
      rw [e73] at x
      exact x
  · exact absurd s0 hgo
/-! both laws -/
/-- the tapes are the same -/
def fl_RA (h : fz_H) : Prop := ∀ i : Nat, (i : Int) < h 20 2 → h 26 i = h 65 i
theorem fl_RA_eq {h h' : fz_H} (e26 : h' 26 = h 26) (e65 : h' 65 = h 65) (e2 : h' 20 2 = h 20 2) (R : fl_RA h) : fl_RA h' := by
  intro i hi
  rw [e26, e65]
  exact R i (by omega)
theorem fl_RA_0 {h : fz_H} (e : h 20 2 = 0) : fl_RA h := fun i hi => by exfalso; omega
theorem fl_RA_fd {h h1 h2 : fz_H} {c : Int} (R : fl_RA h) (e : h 20 2 = h 53 16) (h0 : 0 ≤ h 20 2) (a : fl_fdC h h1 c) (b : fl_fdM h1 h2 c) (e16 : h1 53 16 = h 53 16) (e65 : h1 65 = h 65) (e26 : h2 26 = h1 26) (e2 : h2 20 2 = h1 20 2) (q : h2 20 2 = h2 53 16) : fl_RA h2 := by
  intro i hi
  unfold fl_fdC at a
  unfold fl_fdM at b
  rw [e16] at b
  rw [e26]
  rcases a with ⟨a1, a2⟩ | ⟨a1, a2⟩
  · rcases b with ⟨b1, b2⟩ | ⟨b1, b2⟩
    · rw [a2, b2]
      by_cases hx : i = (h 20 2).toNat
      · subst hx
        rw [e, fz_up_e, fz_up_e]
      · rw [fz_up_s hx, fz_up_s (by omega), e65]
        exact R i (by omega)
    · exfalso; omega
  · rcases b with ⟨b1, b2⟩ | ⟨b1, b2⟩
    · exfalso; omega
    · rw [a2, b2, e65]
      exact R i (by omega)
theorem fl_gCM {h h1 : fz_H} (R : fl_RA h) (e : h 20 2 = h 53 16) (e65 : h1 65 = h 65) (e16 : h1 53 16 = h 53 16) : fl_gM h1 = fl_gC h := by
  unfold fl_gM fl_gC
  exact fl_lt_eq (by omega) (fun i hi => by rw [e65]; exact (R i hi).symm)
theorem fl_law_eq {h h1 h2 : fz_H} {r q : Int} (R : fl_RA h) (e : h 20 2 = h 53 16) (e65 : h1 65 = h 65) (e16 : h1 53 16 = h 53 16) (c : fl_laC h h1 r) (m : fl_laM h1 h2 q) : r = q := by
  unfold fl_laM at m
  rw [fl_gCM R e e65 e16, e16, ← e] at m
  rcases c with c | c
  · rcases m with m | m
    · rw [c.2.2.1, m.2.2.1]
    · exact absurd ⟨c.1, c.2.1⟩ m.1
  · rcases m with m | m
    · exact absurd ⟨m.1, m.2.1⟩ c.1
    · rw [c.2.1, m.2.1]
theorem fl_law_RU {h h1 h2 : fz_H} {r q : Int} (U : fl_RU h) (R : fl_RA h) (e : h 20 2 = h 53 16) (e65 : h1 65 = h 65) (e16 : h1 53 16 = h 53 16) (c : fl_laC h h1 r) (m : fl_laM h1 h2 q) (a4 : h2 15 4 = h1 15 4) (a16 : h2 16 = h1 16) (a17 : h2 17 = h1 17) (b18 : h1 53 18 = h 53 18) (b19 : h1 53 19 = h 53 19) (b66 : h1 66 = h 66) (b67 : h1 67 = h 67) (b68 : h1 68 = h 68) (b69 : h1 69 = h 69) (hb : h2 15 4 ≤ 128) (hn : 0 ≤ h 20 2) : fl_RU h2 := by
  unfold fl_laM at m
  rw [fl_gCM R e e65 e16, e16, ← e] at m
  rcases c with c | c
  · rcases m with m | m
    · have hx := fl_tx_x (fl_gl_lt (f := h 26) (n := h 20 2)) 200 0 (Int.le_refl 0) hn c.1
      exact fl_RU_in hx m.2.2.2.2.2.1 (by rw [a4]; exact c.2.2.2.1) (by rw [a16, a17]; exact c.2.2.2.2) hb m.2.2.2.1 m.2.2.2.2.1 m.2.2.2.2.2.2
    · exact absurd ⟨c.1, c.2.1⟩ m.1
  · rcases m with m | m
    · exact absurd ⟨m.1, m.2.1⟩ c.1
    · obtain ⟨m1, m2, m3, m4, m5, m6, m7, m8⟩ := m
      obtain ⟨c1, c2, c3, c4, c5⟩ := c
      exact fl_RU_eq (a4.trans c3) (a16.trans c4) (a17.trans c5) (m3.trans b18) (m4.trans b19) (m5.trans b66) (m6.trans b67) (m7.trans b68) (m8.trans b69) U
abbrev fz_RA (h : fz_H) : Prop := fl_RA h
abbrev fz_RU (h : fz_H) : Prop := fl_RU h
