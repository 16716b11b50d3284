/-! ===== the ways kept: one, the same both ways, none shorter round ===== -/
theorem wf_uniq {E : Nat → Nat → Int → Prop} {n : Nat} {M M' : Nat → Int} (D : fz_Di E n M) (D' : fz_Di E n M') {a b : Nat} (ha : a < n) (hb : b < n) : M (8 * a + b) = M' (8 * a + b) := by
  obtain ⟨-, -, P, W, B⟩ := D
  obtain ⟨-, -, P', W', B'⟩ := D'
  have b1 := B (8 * a + b)
  have b2 := B' (8 * a + b)
  rcases W a b ha hb with w | ⟨w, m, hm⟩
  · rcases W' a b ha hb with w' | ⟨w', m', hm'⟩
    · omega
    · have := P m' a b _ ha hb hm'
      omega
  · rcases W' a b ha hb with w' | ⟨w', m', hm'⟩
    · have := P' m a b _ ha hb hm
      omega
    · have := P m' a b _ ha hb hm'
      have := P' m a b _ ha hb hm
      omega
theorem wf_rev {E : Nat → Nat → Int → Prop} {n : Nat} (hE : fz_Ed E n) (hs : ∀ a b w, E a b w → E b a w) : ∀ {m a b : Nat} {L : Int}, fz_wk E n m a b L → fz_wk E n m b a L
  | 0, a, b, L, h => ⟨h.1.symm, h.2⟩
  | m + 1, a, b, L, ⟨c, w, L', h1, h2, h3, _⟩ => by
    have r := wf_rev hE hs h2
    have s : fz_wk E n 1 c a w := ⟨a, w, 0, hs _ _ _ h1, ⟨rfl, rfl⟩, by omega, Or.inl rfl⟩
    have t := fz_wk_app (fun a b w q => (hE a b w q).2.2) r s
    rw [show L = L' + w by omega]
    exact t
theorem wf_sym {E : Nat → Nat → Int → Prop} {n : Nat} {M : Nat → Int} (D : fz_Di E n M) (hs : ∀ a b w, E a b w → E b a w) {a b : Nat} (ha : a < n) (hb : b < n) : M (8 * a + b) = M (8 * b + a) := by
  obtain ⟨hE, -, P, W, B⟩ := D
  have b1 := B (8 * a + b)
  have b2 := B (8 * b + a)
  rcases W a b ha hb with w | ⟨w, m, hm⟩
  · rcases W b a hb ha with w' | ⟨w', m', hm'⟩
    · omega
    · have := P m' a b _ ha hb (wf_rev hE hs hm')
      omega
  · rcases W b a hb ha with w' | ⟨w', m', hm'⟩
    · have := P m b a _ hb ha (wf_rev hE hs hm)
      omega
    · have := P m' a b _ ha hb (wf_rev hE hs hm')
      have := P m b a _ hb ha (wf_rev hE hs hm)
      omega
theorem wf_diag {E : Nat → Nat → Int → Prop} {n : Nat} {M : Nat → Int} (D : fz_Di E n M) {a : Nat} (ha : a < n) : M (8 * a + a) = 0 := by
  obtain ⟨-, -, P, W, B⟩ := D
  have b1 := B (8 * a + a)
  have := P 0 a a 0 ha ha ⟨rfl, rfl⟩
  omega
theorem wf_tri {E : Nat → Nat → Int → Prop} {n : Nat} {M : Nat → Int} (D : fz_Di E n M) {a b c : Nat} (ha : a < n) (hb : b < n) (hc : c < n) : M (8 * a + c) ≤ M (8 * a + b) + M (8 * b + c) := by
  obtain ⟨hE, -, P, W, B⟩ := D
  have b1 := B (8 * a + b)
  have b2 := B (8 * b + c)
  have b3 := B (8 * a + c)
  rcases W a b ha hb with w | ⟨w, m, hm⟩
  · omega
  · rcases W b c hb hc with w' | ⟨w', m', hm'⟩
    · omega
    · exact P _ a c _ ha hc (fz_wk_app (fun a b w q => (hE a b w q).2.2) hm hm')
theorem wf_sm_le {p q : Nat → Int} : ∀ {n : Nat}, (∀ i, i < n → p i ≤ q i) → fz_sm p n ≤ fz_sm q n
  | 0, _ => Int.le_refl _
  | n + 1, h => by
    have a := wf_sm_le (n := n) (fun i hi => h i (by omega))
    have b := h n (by omega)
    unfold fz_sm
    omega
theorem wf_sm_lt {p q : Nat → Int} {j : Nat} : ∀ {n : Nat}, (∀ i, i < n → p i ≤ q i) → j < n → p j + 1 ≤ q j → fz_sm p n + 1 ≤ fz_sm q n
  | 0, _, h, _ => by omega
  | n + 1, h, hj, hl => by
    have b := h n (by omega)
    by_cases e : j = n
    · have a := wf_sm_le (n := n) (fun i hi => h i (by omega))
      rw [e] at hl
      unfold fz_sm
      omega
    · have a := wf_sm_lt (n := n) (fun i hi => h i (by omega)) (by omega) hl
      unfold fz_sm
      omega
/-- a least walk has few roads -/
theorem wf_ed {E : Nat → Nat → Int → Prop} {n : Nat} {M : Nat → Int} (D : fz_Di E n M) (hw : ∀ a b w, E a b w → ∃ l : Int, (0 ≤ l ∧ l ≤ 24) ∧ w = 100 * l + 1) {b : Nat} (hb : b < n) : ∀ (q a : Nat), a < n → M (8 * a + b) < 1000000 → M (8 * a + b) < q → ∃ k : Nat, (k : Int) ≤ fz_sm (fun v => if M (8 * v + b) < M (8 * a + b) then 1 else 0) n ∧ fz_wk E n k a b (M (8 * a + b)) := by
  obtain ⟨hE, hn, P, W, B⟩ := D
  intro q
  induction q with
  | zero =>
    intro a ha _ h
    have := B (8 * a + b)
    exfalso; omega
  | succ q ih =>
    intro a ha h1 h2
    rcases W a b ha hb with w | ⟨_, m, hm⟩
    · exfalso; omega
    · match m, hm with
      | 0, hm =>
        refine ⟨0, ?_, hm⟩
        have := fz_sm_b (p := fun v => if M (8 * v + b) < M (8 * a + b) then 1 else 0) (l := 0) (u := 1) (fun j => by split <;> omega) n
        omega
      | m + 1, ⟨c, w, L', e1, e2, e3, _⟩ =>
        obtain ⟨l, hl, el⟩ := hw _ _ _ e1
        have hc := (hE _ _ _ e1).2.2
        have p1 := P m c b L' hc hb e2
        rcases W c b hc hb with z | ⟨z, m2, hm2⟩
        · exfalso; omega
        · have s : fz_wk E n 1 a c w := ⟨c, w, 0, e1, ⟨rfl, rfl⟩, by omega, Or.inl rfl⟩
          have t := fz_wk_app (fun a b w q => (hE a b w q).2.2) s hm2
          have p2 := P _ a b _ ha hb t
          have e : M (8 * a + b) = w + M (8 * c + b) := by omega
          obtain ⟨k, k1, k2⟩ := ih c hc z (by omega)
          have t2 := fz_wk_app (fun a b w q => (hE a b w q).2.2) s k2
          rw [← e] at t2
          refine ⟨1 + k, ?_, t2⟩
          have lt := wf_sm_lt (p := fun v => if M (8 * v + b) < M (8 * c + b) then 1 else 0) (q := fun v => if M (8 * v + b) < M (8 * a + b) then 1 else 0) (j := c) (n := n) (fun i _ => by
            by_cases c1 : M (8 * i + b) < M (8 * c + b)
            · rw [if_pos c1, if_pos (by omega)]; omega
            · rw [if_neg c1]; split <;> omega) hc (by
            rw [if_neg (by omega), if_pos (by omega)]
            omega)
          rw [Int.natCast_add]
          omega
theorem wf_wt {E : Nat → Nat → Int → Prop} {n : Nat} (hw : ∀ a b w, E a b w → ∃ l : Int, (0 ≤ l ∧ l ≤ 24) ∧ w = 100 * l + 1) : ∀ {m a b : Nat} {L : Int}, fz_wk E n m a b L → ∃ H : Int, 0 ≤ H ∧ H ≤ 24 * m ∧ L = 100 * H + m
  | 0, _, _, _, h => ⟨0, by omega, by omega, by have := h.2; omega⟩
  | m + 1, a, b, L, ⟨c, w, L', h1, h2, h3, _⟩ => by
    obtain ⟨l, hl, el⟩ := hw _ _ _ h1
    obtain ⟨H, h4, h5, h6⟩ := wf_wt hw h2
    exact ⟨l + H, by omega, by rw [Int.natCast_add]; omega, by rw [Int.natCast_add]; omega⟩
theorem wf_sh {E : Nat → Nat → Int → Prop} {n : Nat} {M : Nat → Int} (D : fz_Di E n M) (hw : ∀ a b w, E a b w → ∃ l : Int, (0 ≤ l ∧ l ≤ 24) ∧ w = 100 * l + 1) {a b : Nat} (ha : a < n) (hb : b < n) (h : M (8 * a + b) < 1000000) : ∃ (k : Nat) (H : Int), k ≤ 8 ∧ 0 ≤ H ∧ H ≤ 24 * k ∧ fz_wk E n k a b (M (8 * a + b)) ∧ M (8 * a + b) = 100 * H + k := by
  have b0 := D.2.2.2.2 (8 * a + b)
  obtain ⟨k, k1, k2⟩ := wf_ed D hw hb (M (8 * a + b) + 1).toNat a ha h (by omega)
  obtain ⟨H, h1, h2, h3⟩ := wf_wt hw k2
  have := fz_sm_b (p := fun v => if M (8 * v + b) < M (8 * a + b) then 1 else 0) (l := 0) (u := 1) (fun j => by split <;> omega) n
  have := D.2.1
  exact ⟨k, H, by omega, h1, h2, k2, h3⟩
theorem wf_hr {E : Nat → Nat → Int → Prop} {n : Nat} {M : Nat → Int} (D : fz_Di E n M) (hw : ∀ a b w, E a b w → ∃ l : Int, (0 ≤ l ∧ l ≤ 24) ∧ w = 100 * l + 1) {a b : Nat} (ha : a < n) (hb : b < n) : (M (8 * a + b) = 1000000 ∧ fz_hr (M (8 * a + b)) = -2) ∨ (M (8 * a + b) < 1000000 ∧ (0 ≤ fz_hr (M (8 * a + b)) ∧ fz_hr (M (8 * a + b)) ≤ 192) ∧ ∃ k : Int, 0 ≤ k ∧ k ≤ 8 ∧ M (8 * a + b) = 100 * fz_hr (M (8 * a + b)) + k) := by
  have b0 := D.2.2.2.2 (8 * a + b)
  unfold fz_hr
  by_cases c : 1000000 ≤ M (8 * a + b)
  · rw [if_pos c]
    exact Or.inl ⟨by omega, rfl⟩
  · rw [if_neg c]
    obtain ⟨k, H, h1, h2, h3, -, h4⟩ := wf_sh D hw ha hb (by omega)
    exact Or.inr ⟨by omega, by omega, k, by omega, by omega, by omega⟩
theorem wf_htri {E : Nat → Nat → Int → Prop} {n : Nat} {M : Nat → Int} (D : fz_Di E n M) (hw : ∀ a b w, E a b w → ∃ l : Int, (0 ≤ l ∧ l ≤ 24) ∧ w = 100 * l + 1) {a b c : Nat} (ha : a < n) (hb : b < n) (hc : c < n) (h1 : 0 ≤ fz_hr (M (8 * a + b))) (h2 : 0 ≤ fz_hr (M (8 * b + c))) : fz_hr (M (8 * a + c)) ≤ fz_hr (M (8 * a + b)) + fz_hr (M (8 * b + c)) := by
  have t := wf_tri D ha hb hc
  rcases wf_hr D hw ha hb with ⟨_, x⟩ | ⟨_, x, k1, x1⟩
  · omega
  · rcases wf_hr D hw hb hc with ⟨_, y⟩ | ⟨_, y, k2, y1⟩
    · omega
    · rcases wf_hr D hw ha hc with ⟨_, z⟩ | ⟨_, z, k3, z1⟩
      · omega
      · omega
/-- a way is kept where there is one -/
theorem wf_reach {E : Nat → Nat → Int → Prop} {n : Nat} {M : Nat → Int} (D : fz_Di E n M) (hw : ∀ a b w, E a b w → ∃ l : Int, (0 ≤ l ∧ l ≤ 24) ∧ w = 100 * l + 1) {b : Nat} (hb : b < n) : ∀ (m a : Nat) (L : Int), a < n → fz_wk E n m a b L → M (8 * a + b) < 1000000
  | 0, a, L, ha, h => by
    have e := h.1
    subst e
    rw [wf_diag D ha]
    decide
  | m + 1, a, L, ha, ⟨c, w, L', h1, h2, h3, _⟩ => by
    have hc := (D.1 _ _ _ h1).2.2
    have i := wf_reach D hw hb m c L' hc h2
    obtain ⟨k, H, k1, k2, k3, k4, k5⟩ := wf_sh D hw hc hb i
    obtain ⟨l, hl, el⟩ := hw _ _ _ h1
    have s : fz_wk E n 1 a c w := ⟨c, w, 0, h1, ⟨rfl, rfl⟩, by omega, Or.inl rfl⟩
    have t := fz_wk_app (fun a b w q => (D.1 a b w q).2.2) s k4
    have p := D.2.2.1 _ a b _ ha hb t
    omega
theorem wf_rh {E : Nat → Nat → Int → Prop} {R : Nat → Nat → Prop} {n : Nat} {M : Nat → Int} (D : fz_Di E n M) (hw : ∀ a b w, E a b w → ∃ l : Int, (0 ≤ l ∧ l ≤ 24) ∧ w = 100 * l + 1) (e : ∀ a b, R a b ↔ ∃ w, E a b w) {a b : Nat} (ha : a < n) (hb : b < n) : M (8 * a + b) < 1000000 ↔ ∃ m, fl_rh R m a b := by
  constructor
  · intro h
    rcases D.2.2.2.1 a b ha hb with w | ⟨_, m, hm⟩
    · omega
    · exact ⟨m, (fl_wk_rh e D.1).mp ⟨_, hm⟩⟩
  · rintro ⟨m, hm⟩
    obtain ⟨L, hL⟩ := (fl_wk_rh e D.1).mpr hm
    exact wf_reach D hw hb m a L ha hL
theorem wf_rhm {R Q : Nat → Nat → Prop} (i : ∀ a b, R a b → Q a b) : ∀ {m a b : Nat}, fl_rh R m a b → fl_rh Q m a b
  | 0, _, _, h => h
  | m + 1, _, _, ⟨c, h1, h2⟩ => ⟨c, i _ _ h1, wf_rhm i h2⟩
/-! of the class's heap -/
theorem wf_E {h : fz_H} (hI : fz_Iv h) (ca : Int) : ∀ a b w, fz_EC h ca a b w → ∃ l : Int, (0 ≤ l ∧ l ≤ 24) ∧ w = 100 * l + 1 := by
  rintro a b w ⟨r, h1, h2, h3, h4⟩
  have b3 : 0 ≤ h 3 r ∧ h 3 r ≤ 24 := hI.1 3 r
  refine ⟨_, ?_, h4⟩
  split <;> omega
theorem wf_Es {h : fz_H} (ca : Int) : ∀ a b w, fz_EC h ca a b w → fz_EC h ca b a w := by
  rintro a b w ⟨r, h1, h2, h3, h4⟩
  exact ⟨r, h1, h2, h3.elim Or.inr Or.inl, h4⟩
theorem wf_R0 {h : fz_H} : ∀ a b, fl_rtcC h 0 a b ↔ ∃ w, fz_EC h 1 a b w := fun a b => by
  constructor
  · rintro ⟨r, h1, h2, h3⟩
    exact ⟨_, r, h1, Or.inr h2.1, h3, rfl⟩
  · rintro ⟨w, r, h1, h2, h3, h4⟩
    refine ⟨r, h1, ⟨h2.elim (fun z => absurd z (by decide)) id, ?_⟩, h3⟩
    unfold fz_bt
    simp
/-- whether a town is reached by carters -/
theorem wf_cat {h : fz_H} (hI : fz_Iv h) (V : fz_RV h) {a b : Int} (ha : 0 ≤ a ∧ a < h 1 7) (hb : 0 ≤ b ∧ b < h 1 7) : fz_hr (h 8 (8 * a + b).toNat) < 0 ↔ ¬ fl_catC h 0 a b := by
  have r := wf_rh V.2 (wf_E hI 1) wf_R0 (a := a.toNat) (b := b.toNat) (by omega) (by omega)
  have q := wf_hr V.2 (wf_E hI 1) (a := a.toNat) (b := b.toNat) (by omega) (by omega)
  rw [show (8 * a + b).toNat = 8 * a.toNat + b.toNat by omega]
  unfold fl_catC
  constructor
  · intro c z
    have := r.mpr z
    omega
  · intro z
    by_cases c : h 8 (8 * a.toNat + b.toNat) < 1000000
    · exact absurd (r.mp c) z
    · omega
/-- where carters come, feet come -/
theorem wf_feet {h : fz_H} (hI : fz_Iv h) (V : fz_RV h) {a b : Int} (ha : 0 ≤ a ∧ a < h 1 7) (hb : 0 ≤ b ∧ b < h 1 7) (c : 0 ≤ fz_hr (h 8 (8 * a + b).toNat)) : 0 ≤ fz_hr (h 7 (8 * a + b).toNat) := by
  rw [show (8 * a + b).toNat = 8 * a.toNat + b.toNat by omega] at c ⊢
  have e0 : ∀ a b : Nat, (∃ w, fz_EC h 0 a b w) ↔ ∃ w, fz_EC h 0 a b w := fun _ _ => Iff.rfl
  have e1 : ∀ a b : Nat, (∃ w, fz_EC h 1 a b w) ↔ ∃ w, fz_EC h 1 a b w := fun _ _ => Iff.rfl
  have r1 := wf_rh V.2 (wf_E hI 1) e1 (a := a.toNat) (b := b.toNat) (by omega) (by omega)
  have r0 := wf_rh V.1 (wf_E hI 0) e0 (a := a.toNat) (b := b.toNat) (by omega) (by omega)
  have q := wf_hr V.2 (wf_E hI 1) (a := a.toNat) (b := b.toNat) (by omega) (by omega)
  have q0 := wf_hr V.1 (wf_E hI 0) (a := a.toNat) (b := b.toNat) (by omega) (by omega)
  obtain ⟨m, hm⟩ := r1.mp (by omega)
  have := r0.mpr ⟨m, wf_rhm (fun a b => by
    rintro ⟨w, r, h1, h2, h3, h4⟩
    exact ⟨_, r, h1, Or.inl rfl, h3, rfl⟩) hm⟩
  omega
/-- the ways are known by the roads -/
theorem wf_same {h H : fz_H} (V : fz_RV h) (V' : fz_RV H) (e17 : H 1 7 = h 1 7) (e18 : H 1 8 = h 1 8) (e5 : H 5 = h 5) (e6 : H 6 = h 6) (e3 : H 3 = h 3) (e4 : H 4 = h 4) {a b : Int} (ha : 0 ≤ a ∧ a < h 1 7) (hb : 0 ≤ b ∧ b < h 1 7) : H 7 (8 * a + b).toNat = h 7 (8 * a + b).toNat ∧ H 8 (8 * a + b).toNat = h 8 (8 * a + b).toNat := by
  have e : ∀ ca, fz_EC H ca = fz_EC h ca := fun ca => by
    unfold fz_EC
    rw [e18, e5, e6, e3, e4]
  have d0 := V'.1
  have d1 := V'.2
  rw [e, e17] at d0 d1
  rw [show (8 * a + b).toNat = 8 * a.toNat + b.toNat by omega]
  exact ⟨wf_uniq d0 V.1 (by omega) (by omega), wf_uniq d1 V.2 (by omega) (by omega)⟩
/-! what way() answers -/
theorem wf_wy0 {h : fz_H} {x y r : Int} (hx : 0 ≤ x ∧ x < h 1 7) (hy : 0 ≤ y ∧ y < h 1 7) (h8 : h 1 7 ≤ 8) (c : fz_wyC h (10 * x + y) 0 r) : r = fz_hr (h 7 (8 * x + y).toNat) := by
  rcases c with ⟨c, -⟩ | ⟨-, -, e⟩ | ⟨-, z, -⟩
  · exact absurd (show fz_wyO h (10 * x + y) 0 by unfold fz_wyO; omega) c
  · rw [e, show (8 * ((10 * x + y) / 10) + (10 * x + y) % 10) = 8 * x + y by omega]
  · exact absurd z (by decide)
theorem wf_wy1 {h : fz_H} {x y r : Int} (hx : 0 ≤ x ∧ x < h 1 7) (hy : 0 ≤ y ∧ y < h 1 7) (h8 : h 1 7 ≤ 8) (c : fz_wyC h (10 * x + y) 1 r) : r = fz_hr (h 8 (8 * x + y).toNat) := by
  rcases c with ⟨c, -⟩ | ⟨-, z, -⟩ | ⟨-, -, e⟩
  · exact absurd (show fz_wyO h (10 * x + y) 1 by unfold fz_wyO; omega) c
  · exact absurd z (by decide)
  · rw [e, show (8 * ((10 * x + y) / 10) + (10 * x + y) % 10) = 8 * x + y by omega]
theorem wf_sy0 {h : fz_H} (V : fz_RV h) {x y : Int} (hx : 0 ≤ x ∧ x < h 1 7) (hy : 0 ≤ y ∧ y < h 1 7) : h 7 (8 * x + y).toNat = h 7 (8 * y + x).toNat := by
  rw [show (8 * x + y).toNat = 8 * x.toNat + y.toNat by omega, show (8 * y + x).toNat = 8 * y.toNat + x.toNat by omega]
  exact wf_sym V.1 (wf_Es 0) (by omega) (by omega)
theorem wf_sy1 {h : fz_H} (V : fz_RV h) {x y : Int} (hx : 0 ≤ x ∧ x < h 1 7) (hy : 0 ≤ y ∧ y < h 1 7) : h 8 (8 * x + y).toNat = h 8 (8 * y + x).toNat := by
  rw [show (8 * x + y).toNat = 8 * x.toNat + y.toNat by omega, show (8 * y + x).toNat = 8 * y.toNat + x.toNat by omega]
  exact wf_sym V.2 (wf_Es 1) (by omega) (by omega)
theorem wf_di0 {h : fz_H} (V : fz_RV h) {x y : Int} (hx : 0 ≤ x ∧ x < h 1 7) (e : x = y) : fz_hr (h 7 (8 * x + y).toNat) = 0 := by
  subst e
  rw [show (8 * x + x).toNat = 8 * x.toNat + x.toNat by omega, wf_diag V.1 (by omega)]
  rfl
theorem wf_di1 {h : fz_H} (V : fz_RV h) {x y : Int} (hx : 0 ≤ x ∧ x < h 1 7) (e : x = y) : fz_hr (h 8 (8 * x + y).toNat) = 0 := by
  subst e
  rw [show (8 * x + x).toNat = 8 * x.toNat + x.toNat by omega, wf_diag V.2 (by omega)]
  rfl
theorem wf_t0 {h : fz_H} (hI : fz_Iv h) (V : fz_RV h) {x y z : Int} (hx : 0 ≤ x ∧ x < h 1 7) (hy : 0 ≤ y ∧ y < h 1 7) (hz : 0 ≤ z ∧ z < h 1 7) (h1 : 0 ≤ fz_hr (h 7 (8 * x + y).toNat)) (h2 : 0 ≤ fz_hr (h 7 (8 * y + z).toNat)) : fz_hr (h 7 (8 * x + z).toNat) ≤ fz_hr (h 7 (8 * x + y).toNat) + fz_hr (h 7 (8 * y + z).toNat) := by
  rw [show (8 * x + y).toNat = 8 * x.toNat + y.toNat by omega] at h1 ⊢
  rw [show (8 * y + z).toNat = 8 * y.toNat + z.toNat by omega] at h2 ⊢
  rw [show (8 * x + z).toNat = 8 * x.toNat + z.toNat by omega]
  exact wf_htri V.1 (wf_E hI 0) (by omega) (by omega) (by omega) h1 h2
