/-! ===== home, free, a route, two alike ===== -/
theorem pf_hm {f : Int → Int} {u : Int → Int → Int} {m0 : Int} : ∀ n : Nat, ((fl_hm f u m0 n).1 = -2 ∧ (fl_hm f u m0 n).2 = 1000 ∧ ∀ j : Nat, j < n → 0 ≤ f (j : Int) → m0 + f (j : Int) < 1000 → u (j : Int) (m0 + f (j : Int)) ≠ 0) ∨ ((0 ≤ (fl_hm f u m0 n).1 ∧ (fl_hm f u m0 n).1 < n) ∧ 0 ≤ f (fl_hm f u m0 n).1 ∧ (fl_hm f u m0 n).2 = m0 + f (fl_hm f u m0 n).1 ∧ u (fl_hm f u m0 n).1 (fl_hm f u m0 n).2 = 0 ∧ (fl_hm f u m0 n).2 < 1000 ∧ ∀ j : Nat, j < n → 0 ≤ f (j : Int) → u (j : Int) (m0 + f (j : Int)) = 0 → (fl_hm f u m0 n).2 ≤ m0 + f (j : Int))
  | 0 => Or.inl ⟨rfl, rfl, fun j hj => by omega⟩
  | n + 1 => by
    have i := pf_hm (f := f) (u := u) (m0 := m0) n
    have e : fl_hm f u m0 (n + 1) = if 0 ≤ f (n : Int) ∧ m0 + f (n : Int) < (fl_hm f u m0 n).2 ∧ u (n : Int) (m0 + f (n : Int)) = 0 then ((n : Int), m0 + f (n : Int)) else fl_hm f u m0 n := rfl
    by_cases c : 0 ≤ f (n : Int) ∧ m0 + f (n : Int) < (fl_hm f u m0 n).2 ∧ u (n : Int) (m0 + f (n : Int)) = 0
    · rw [if_pos c] at e
      rw [e]
      refine Or.inr ⟨⟨by show (0 : Int) ≤ (n : Int); omega, by show (n : Int) < ((n + 1 : Nat) : Int); omega⟩, c.1, rfl, c.2.2, ?_, fun j hj h1 h2 => ?_⟩
      · show m0 + f (n : Int) < 1000
        rcases i with ⟨-, i, -⟩ | ⟨-, -, -, -, i, -⟩ <;> omega
      · show m0 + f (n : Int) ≤ m0 + f (j : Int)
        by_cases q : j = n
        · subst q; omega
        · rcases i with ⟨-, i1, i2⟩ | ⟨-, -, -, -, -, i⟩
          · by_cases z : m0 + f (j : Int) < 1000
            · exact absurd h2 (i2 j (by omega) h1 z)
            · omega
          · have := i j (by omega) h1 h2
            omega
    · rw [if_neg c] at e
      rw [e]
      rcases i with ⟨i1, i2, i3⟩ | ⟨i1, i2, i3, i4, i5, i6⟩
      · refine Or.inl ⟨i1, i2, fun j hj h1 h2 h3 => ?_⟩
        by_cases q : j = n
        · subst q
          exact c ⟨h1, by omega, h3⟩
        · exact i3 j (by omega) h1 h2 h3
      · refine Or.inr ⟨⟨i1.1, by omega⟩, i2, i3, i4, i5, fun j hj h1 h2 => ?_⟩
        by_cases q : j = n
        · subst q
          by_cases z : m0 + f (j : Int) < (fl_hm f u m0 j).2
          · exact absurd ⟨h1, z, h2⟩ c
          · omega
        · exact i6 j (by omega) h1 h2
def st_HM (p t hr : Int) (h : fz_H) : Int × Int := fl_hm (fl_ftC h t) (fl_uC h p) hr (h 1 7).toNat
theorem st_HM_nm {A B : fz_H} (nm : fz_nm A = fz_nm B) {p t hr : Int} : st_HM p t hr A = st_HM p t hr B := by
  have q := congrArg (fun g : fz_H => st_HM p t hr g) nm
  exact q
theorem ho_in {h : fz_H} {p t hr th wh r : Int} (hp : 0 ≤ p ∧ p ≤ 3) (ht : 0 ≤ t ∧ t < h 1 7) (hh : 0 ≤ hr ∧ hr ≤ 999) (et : th = 1000 * t + hr) (hw : 0 ≤ wh ∧ wh ≤ 1) (c : fl_hoC h p th wh r) : r = fl_hx (st_HM p t hr h) wh := by
  subst et
  have e := he_C c ⟨⟨hp.1, by omega⟩, ⟨by omega, by omega⟩, hw⟩
  rw [show (1000 * t + hr) / 1000 = t by omega, show (1000 * t + hr) % 1000 = hr by omega] at e
  exact e
/-- home and when, of one heap -/
theorem ho_1 {h : fz_H} {p t hr r : Int} (e : r = fl_hx (st_HM p t hr h) 1) : r = -2 ∨ ((0 ≤ r ∧ r < h 1 7) ∧ 0 ≤ fl_ftC h t r ∧ fl_uC h p r (hr + fl_ftC h t r) = 0 ∧ hr + fl_ftC h t r < 1000) := by
  have e1 : r = (st_HM p t hr h).1 := by
    rw [e]
    unfold fl_hx
    rw [if_pos (Or.inr rfl)]
  rcases pf_hm (f := fl_ftC h t) (u := fl_uC h p) (m0 := hr) (h 1 7).toNat with ⟨a, -⟩ | ⟨a, b, c, d, g, -⟩
  · exact Or.inl (e1.trans a)
  · right
    have a' : 0 ≤ (st_HM p t hr h).1 ∧ (st_HM p t hr h).1 < ((h 1 7).toNat : Nat) := a
    have b' : 0 ≤ fl_ftC h t (st_HM p t hr h).1 := b
    have c' : (st_HM p t hr h).2 = hr + fl_ftC h t (st_HM p t hr h).1 := c
    have d' : fl_uC h p (st_HM p t hr h).1 (st_HM p t hr h).2 = 0 := d
    have g' : (st_HM p t hr h).2 < 1000 := g
    rw [← e1] at a' b' c' d'
    rw [c'] at d' g'
    exact ⟨by omega, b', d', g'⟩
theorem ho_0 {h : fz_H} {p t hr r y : Int} (e : r = fl_hx (st_HM p t hr h) 1) (e0 : y = fl_hx (st_HM p t hr h) 0) (hr0 : 0 ≤ r) : y = hr + fl_ftC h t r := by
  have e1 : r = (st_HM p t hr h).1 := by
    rw [e]
    unfold fl_hx
    rw [if_pos (Or.inr rfl)]
  have e2 : y = (st_HM p t hr h).2 := by
    rw [e0]
    unfold fl_hx
    rw [if_neg (by omega)]
  rcases pf_hm (f := fl_ftC h t) (u := fl_uC h p) (m0 := hr) (h 1 7).toNat with ⟨a, -⟩ | ⟨-, -, c, -⟩
  · have a' : (st_HM p t hr h).1 = -2 := a
    omega
  · have c' : (st_HM p t hr h).2 = hr + fl_ftC h t (st_HM p t hr h).1 := c
    rw [← e1] at c'
    omega
/-- another town is at least an hour away -/
theorem ho_far {h : fz_H} (hI : fz_Iv h) (V : fz_RV h) (L : st_L1 h) {a b : Int} (ha : 0 ≤ a ∧ a < h 1 7) (hb : 0 ≤ b ∧ b < h 1 7) (ne : a ≠ b) (c : 0 ≤ fl_ftC h a b) : 1 ≤ fl_ftC h a b := by
  unfold fl_ftC at c ⊢
  rw [show (8 * a + b).toNat = 8 * a.toNat + b.toNat by omega] at c ⊢
  rcases wf_hr V.1 (wf_E hI 0) (a := a.toNat) (b := b.toNat) (by omega) (by omega) with ⟨-, x⟩ | ⟨x, -, -⟩
  · omega
  · rcases V.1.2.2.2.1 a.toNat b.toNat (by omega) (by omega) with y | ⟨-, m, w⟩
    · omega
    · match m, w with
      | 0, w =>
        have := w.1
        omega
      | m + 1, ⟨d, w1, L', q1, q2, q3, _⟩ =>
        have nn := fz_wk_nn (fun a b w q => (V.1.1 a b w q).1) q2
        obtain ⟨r, r1, r2, r3, r4⟩ := q1
        have l := L r r1
        rw [if_pos rfl] at r4
        unfold fz_hr
        rw [if_neg (by omega)]
        omega
theorem ho_mk {h : fz_H} (hI : fz_Iv h) (V : fz_RV h) (L : st_L1 h) {p t hr r mk : Int} (ht : 0 ≤ t ∧ t < h 1 7) (hh : 0 ≤ hr ∧ hr ≤ 999) (e : r = fl_hx (st_HM p t hr h) 1) (m : mk = fl_ms (fun m : Nat => fl_SC h p p (m : Int) t hr) 5) (h0 : mk = 0) : r = t := by
  have e1 : r = (st_HM p t hr h).1 := by
    rw [e]
    unfold fl_hx
    rw [if_pos (Or.inr rfl)]
  have z : fl_ftC h t t = 0 := wf_di0 V ht rfl
  have uz : fl_uC h p t (hr + 0) = 0 := by
    rw [Int.add_zero]
    exact (m.symm.trans h0)
  have tt : ((t.toNat : Nat) : Int) = t := by omega
  rcases pf_hm (f := fl_ftC h t) (u := fl_uC h p) (m0 := hr) (h 1 7).toNat with ⟨a, b, c⟩ | ⟨a, b, c, d, g, j⟩
  · have := c t.toNat (by omega)
    rw [tt, z] at this
    exact absurd uz (this (by decide) (by omega))
  · have a' : 0 ≤ (st_HM p t hr h).1 ∧ (st_HM p t hr h).1 < ((h 1 7).toNat : Nat) := a
    have b' : 0 ≤ fl_ftC h t (st_HM p t hr h).1 := b
    have c' : (st_HM p t hr h).2 = hr + fl_ftC h t (st_HM p t hr h).1 := c
    have q := j t.toNat (by omega)
    rw [tt, z] at q
    have q2 : (st_HM p t hr h).2 ≤ hr + 0 := q (by decide) uz
    rw [← e1] at a' b' c'
    by_cases y : t = r
    · exact y.symm
    · have := ho_far hI V L ht (b := r) (by omega) y b'
      omega
/-! free -/
theorem fr_cw {h : fz_H} {p t hr : Int} : fl_cC h p hr 1 t = 1 ↔ ∃ k : Nat, k < (h 9 5).toNat ∧ h 10 k = p ∧ h 13 k = 1 ∧ 0 < fl_ldC h p t hr (k : Int) ∧ h 27 8 ≤ fl_ldC h p t hr (k : Int) := by
  have x := fl_sl_ex (wh := h 10) (mk := h 13) (f := fl_ldC h p t hr) (p := p) (m := 1) (ar := h 27 8) (n := (h 9 5).toNat)
  unfold fl_cC
  rw [pf_cw1, ← x]
  show (if 0 < fl_SC h p p ((1 : Nat) : Int) t hr ∧ h 27 8 ≤ fl_SC h p p ((1 : Nat) : Int) t hr then (1 : Int) else 0) = 1 ↔ _
  unfold fl_SC
  constructor
  · intro y
    by_cases c : 0 < fl_sl (h 10) (h 13) (fl_ldC h p t hr) p p ((1 : Nat) : Int) (h 9 5).toNat ∧ h 27 8 ≤ fl_sl (h 10) (h 13) (fl_ldC h p t hr) p p ((1 : Nat) : Int) (h 9 5).toNat
    · exact c
    · rw [if_neg c] at y
      exact absurd y (by decide)
  · intro y
    exact if_pos y
theorem fr_0 {h : fz_H} (hI : fz_Iv h) {p hr r y : Int} (hp : 0 ≤ p ∧ p ≤ 3) (hh : 0 ≤ hr ∧ hr ≤ 999) (c : fl_frC h p hr 1 r) (d : fl_ahC h p hr 1 y) : r = 0 ↔ y = 0 := by
  have b : 0 ≤ h 1 7 ∧ h 1 7 ≤ 8 := hI.1 1 7
  have b9 : 0 ≤ h 9 5 ∧ h 9 5 ≤ 10 := hI.1 9 5
  have e := he_C d ⟨hp, hh, by decide, by decide⟩
  unfold fl_ahx at e
  rw [if_neg (by decide)] at e
  rcases c with ⟨-, F, f1, f2⟩ | ⟨n, -⟩
  · have f3 : r = F := f2
    rw [f3, e, pf_tb0 (by omega)]
    constructor
    · intro z k hk q
      obtain ⟨d, d1, d2, d3, d4, d5⟩ := fr_cw.mp q
      have w := (fl_isF_b f1 (d := d) (by omega)).mpr ⟨by omega, d2, d3, (k : Int), by omega, by omega, by rw [show (((d : Nat) : Int)).toNat = d by omega, d2]; exact ⟨d4, d5⟩⟩
      rw [z] at w
      unfold fz_bt at w
      simp at w
    · intro z
      by_cases q : F = 0
      · exact q
      · exfalso
        obtain ⟨d, d1, d2⟩ := fl_nz f1.1 q
        obtain ⟨g1, g2, g3, t, t0, t1, t2, t3⟩ := (fl_isF_b f1 (d := d) (by omega)).mp d2
        rw [show (((d : Nat) : Int)).toNat = d by omega, g2] at t2 t3
        have w := z t.toNat (by omega)
        rw [show ((t.toNat : Nat) : Int) = t by omega] at w
        exact w (fr_cw.mpr ⟨d, by omega, g2, g3, t2, t3⟩)
  · exact absurd ⟨hp, hh, by decide, by decide⟩ n
theorem fr_nm {A B : fz_H} (nm : fz_nm A = fz_nm B) {p hr wh r : Int} (c : fl_frC A p hr wh r) : fl_frC B p hr wh r := by
  have q : fl_frC (fz_nm A) p hr wh r := c
  rw [nm] at q
  exact q
theorem ah_nm {A B : fz_H} (nm : fz_nm A = fz_nm B) {p hr wh r : Int} (c : fl_ahC A p hr wh r) : fl_ahC B p hr wh r := by
  have q : fl_ahC (fz_nm A) p hr wh r := c
  rw [nm] at q
  exact q
theorem fr_bc {h : fz_H} {p hr r y : Int} (hp : 0 ≤ p ∧ p ≤ 3) (hh : 0 ≤ hr ∧ hr ≤ 999) (c : fl_frC h p hr 1 r) (d : fl_frC h p hr 0 y) : fl_bc r = y := by
  rcases c with ⟨-, F, f1, f2⟩ | ⟨n, -⟩
  · rcases d with ⟨-, G, g1, g2⟩ | ⟨n, -⟩
    · have f3 : r = F := f2
      have g3 : y = fl_bc G := g2
      have e : F = G := fl_sb_an f1.1 g1.1 (fun d hd z => (fl_isF_b g1 (by omega)).mpr ((fl_isF_b f1 (by omega)).mp z)) (fun d hd z => (fl_isF_b f1 (by omega)).mpr ((fl_isF_b g1 (by omega)).mp z))
      rw [f3, g3, e]
    · exact absurd ⟨hp, hh, by decide, by decide⟩ n
  · exact absurd ⟨hp, hh, by decide, by decide⟩ n
/-! a route -/
def st_ri (s : Int × Int × Int) : Prop := 0 ≤ s.1 ∧ 0 ≤ s.2.1 ∧ (s.1 = 0 ↔ s.2.1 = 0)
theorem ri_cmr {ro su rt : Int} {s : Int × Int × Int} (i : st_ri s) (h0 : 0 ≤ ro) (h1 : ro = 0 → su = 0) : st_ri (fl_cmr ro su rt s) := by
  unfold fl_cmr
  by_cases c : s.1 < su ∨ (s.1 = su ∧ (ro < s.2.1 ∨ (ro = s.2.1 ∧ rt < s.2.2)))
  · rw [if_pos c]
    obtain ⟨i1, i2, i3⟩ := i
    refine ⟨by show 0 ≤ su; omega, h0, ?_⟩
    show su = 0 ↔ ro = 0
    omega
  · rw [if_neg c]
    exact i
theorem ri_ex {n : Nat} {e1 e2 le : Nat → Int} {av rv : Int → Int → Int} : ∀ {f : Nat} {fr hr ro su rt : Int} {s : Int × Int × Int}, st_ri s → 0 ≤ ro → (ro = 0 → su = 0) → st_ri (fl_ex n e1 e2 le av rv f fr hr ro su rt s)
  | 0, _, _, _, _, _, _, i, h0, h1 => ri_cmr i h0 h1
  | f + 1, fr, hr, ro, su, rt, s, i, h0, h1 => by
    rw [fl_ex_s]
    have q : ∀ k : Nat, st_ri (fl_fo (fl_gx n e1 e2 le av rv f fr hr ro su rt) k (fl_cmr ro su rt s)) := fun k => by
      induction k with
      | zero => exact ri_cmr i h0 h1
      | succ k ih =>
        show st_ri (fl_gx n e1 e2 le av rv f fr hr ro su rt k (fl_fo (fl_gx n e1 e2 le av rv f fr hr ro su rt) k (fl_cmr ro su rt s)))
        generalize fl_fo (fl_gx n e1 e2 le av rv f fr hr ro su rt) k (fl_cmr ro su rt s) = z at ih ⊢
        unfold fl_gx
        by_cases c : fz_ac (e1 k) (e2 k) fr < 0 ∨ 999 < hr + le k ∨ av (fz_ac (e1 k) (e2 k) fr) (hr + le k) = 1
        · rw [if_pos c]; exact ih
        · rw [if_neg c]
          exact ri_ex ih (by omega) (by omega)
    exact q n
def st_SE (p t hr : Int) (h : fz_H) : Int × Int × Int := fl_seC h p t hr
theorem st_SE_nm {A B : fz_H} (nm : fz_nm A = fz_nm B) {p t hr : Int} : st_SE p t hr A = st_SE p t hr B := by
  have q := congrArg (fun g : fz_H => st_SE p t hr g) nm
  exact q
theorem rt_in {h : fz_H} {p t hr th k r : Int} (hp : 0 ≤ p ∧ p ≤ 3) (ht : 0 ≤ t ∧ t < h 1 7) (hh : 0 ≤ hr ∧ hr ≤ 999) (et : th = 1000 * t + hr) (hk : -1 ≤ k) (c : fl_rtCC h p th k r) : r = fl_rox (st_SE p t hr h) k := by
  subst et
  have e := he_C c ⟨⟨hp.1, by omega⟩, ⟨by omega, by omega⟩, hk⟩
  rw [show (1000 * t + hr) / 1000 = t by omega, show (1000 * t + hr) % 1000 = hr by omega] at e
  exact e
theorem rt_1 {h : fz_H} {p t hr r : Int} (e : r = fl_rox (st_SE p t hr h) (-1)) : 0 ≤ r := by
  have i : st_ri (st_SE p t hr h) := ri_ex ⟨by decide, by decide, by decide⟩ (by decide) (fun _ => rfl)
  have e2 : r = (st_SE p t hr h).1 := e
  rw [e2]
  exact i.1
theorem rt_0 {h : fz_H} {p t hr r y : Int} (e : r = fl_rox (st_SE p t hr h) (-1)) (e0 : y = fl_rox (st_SE p t hr h) 0) : r = 0 ↔ y = -2 := by
  have i : st_ri (st_SE p t hr h) := ri_ex ⟨by decide, by decide, by decide⟩ (by decide) (fun _ => rfl)
  have e2 : r = (st_SE p t hr h).1 := e
  have e3 : y = fl_tA (st_SE p t hr h).2.1 (st_SE p t hr h).2.2 0 := by
    rw [e0]
    unfold fl_rox
    rw [if_neg (by decide)]
  obtain ⟨i1, i2, i3⟩ := i
  rw [e2, i3, e3]
  unfold fl_tA
  by_cases c : (st_SE p t hr h).2.1 ≤ 0
  · rw [if_pos (Or.inr c)]
    constructor
    · intro _; rfl
    · intro _; omega
  · rw [if_neg (by omega)]
    have m := fz_and_m (x := fz_shr (st_SE p t hr h).2.2 (3 * ((st_SE p t hr h).2.1 - 1 - 0))) (y := 7) (by decide) (by decide)
    constructor
    · intro z; omega
    · intro z; omega
/-! two alike -/
theorem al_sy {v u : Nat → Int} : ∀ n : Nat, fl_al v u n = fl_al u v n
  | 0 => rfl
  | n + 1 => by
    show fl_al v u n + (if v n = u n then 1 else 0) = fl_al u v n + (if u n = v n then 1 else 0)
    rw [al_sy n]
    by_cases c : v n = u n
    · rw [if_pos c, if_pos c.symm]
    · rw [if_neg c, if_neg (fun z => c z.symm)]
theorem alC_sy {h : fz_H} {a b t hr : Int} : fl_alC h a b t hr = fl_alC h b a t hr := al_sy 5
theorem ak_nm {A B : fz_H} (nm : fz_nm A = fz_nm B) {pq th wh r : Int} (c : fl_akCC A pq th wh r) : fl_akCC B pq th wh r := by
  have q : fl_akCC (fz_nm A) pq th wh r := c
  rw [nm] at q
  exact q
theorem ak_sy {h : fz_H} {p q t hr th wh r y : Int} (hp : 0 ≤ p ∧ p ≤ 3) (hq : 0 ≤ q ∧ q ≤ 3) (ne : p ≠ q) (ht : 0 ≤ t ∧ t < h 1 7) (hh : 0 ≤ hr ∧ hr ≤ 999) (et : th = 1000 * t + hr) (hw : wh = 0 ∨ wh = 1) (c : fl_akCC h (10 * p + q) th wh r) (d : fl_akCC h (10 * q + p) th wh y) : r = y := by
  subst et
  have e1 := he_C c ⟨by omega, by omega, by omega, by omega⟩
  have e2 := he_C d ⟨by omega, by omega, by omega, by omega⟩
  rw [show (10 * p + q) / 10 = p by omega, show (10 * p + q) % 10 = q by omega] at e1
  rw [show (10 * q + p) / 10 = q by omega, show (10 * q + p) % 10 = p by omega] at e2
  rw [e1, e2]
  unfold fl_akx
  rcases hw with hw | hw
  · rw [if_pos hw, if_pos hw]
    exact alC_sy
  · rw [if_neg (by omega), if_neg (by omega), if_neg (by omega), if_neg (by omega)]
    exact fl_tb_eq (fun k hk => by
      unfold fl_akC
      rw [show (10 * p + q) / 10 = p by omega, show (10 * p + q) % 10 = q by omega, show (10 * q + p) / 10 = q by omega, show (10 * q + p) % 10 = p by omega, alC_sy])
/-- unsaid at home, when one comes -/
theorem ho_u {A C : fz_H} {p t hr r y th z : Int} (m : r = -2 ∨ ((0 ≤ r ∧ r < A 1 7) ∧ 0 ≤ fl_ftC A t r ∧ fl_uC A p r (hr + fl_ftC A t r) = 0 ∧ hr + fl_ftC A t r < 1000)) (h0 : 0 ≤ r) (nm : fz_nm C = fz_nm A) (ey : y = hr + fl_ftC A t r) (hp : 0 ≤ p ∧ p ≤ 3) (hh : 0 ≤ hr) (hC : r < C 1 7) (et : th = 1000 * r + y) (c : fl_rcC C p th 2 z) : z = 0 := by
  rcases m with m | ⟨m1, m2, m3, m4⟩
  · omega
  · have e := pf_rc hp ⟨h0, hC⟩ (show 0 ≤ y ∧ y ≤ 999 by omega) et (by decide) c
    rw [pf_re2, SC_nm nm] at e
    rw [← ey] at m3
    exact e.trans m3
theorem hr7_nm {A B : fz_H} (nm : fz_nm A = fz_nm B) {x : Nat} : fz_hr (A 7 x) = fz_hr (B 7 x) := by
  have q := congrArg (fun g : fz_H => fz_hr (g 7 x)) nm
  exact q
