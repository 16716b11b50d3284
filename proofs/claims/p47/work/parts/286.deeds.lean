/-! ===== numbers asked ===== -/
theorem he_C {P : Prop} {r x y : Int} (c : (P ∧ r = x) ∨ (¬ P ∧ r = y)) (p : P) : r = x := c.elim (fun z => z.2) (fun z => absurd p z.1)
theorem of_C {h : fz_H} {nu wh r : Int} (c : fz_nC h nu wh r) (p : fz_PC h nu wh) (hw : wh ≤ 8) : r = fz_gC h nu wh := by
  rcases c with ⟨a, -⟩ | ⟨-, -, e⟩ | ⟨-, b, -⟩
  · omega
  · exact e
  · exact absurd p b
theorem of_0 {h : fz_H} {nu r : Int} (c : fz_nC h nu 0 r) (hn : 0 ≤ nu ∧ nu < h 1 7) : r = h 2 nu.toNat := (of_C c (Or.inl ⟨rfl, hn.1, hn.2⟩) (by decide)).trans (by
  unfold fz_gC fz_lC
  rw [if_pos rfl])
theorem of_2 {h : fz_H} {nu r : Int} (c : fz_nC h nu 2 r) (hn : 0 ≤ nu ∧ nu < h 1 8) : r = h 4 nu.toNat := (of_C c (Or.inr (Or.inr (Or.inl ⟨rfl, hn.1, hn.2⟩))) (by decide)).trans (by
  unfold fz_gC fz_lC
  rw [if_neg (by decide), if_neg (by decide), if_pos rfl])
theorem of_3 {h : fz_H} {nu r : Int} (c : fz_nC h nu 3 r) (hn : 0 ≤ nu ∧ nu < h 9 5) : r = h 12 nu.toNat := (of_C c (Or.inr (Or.inr (Or.inr (Or.inl ⟨rfl, hn.1, hn.2⟩)))) (by decide)).trans (by
  unfold fz_gC fz_lC
  rw [if_neg (by decide), if_neg (by decide), if_neg (by decide), if_pos rfl])
theorem of_6 {h : fz_H} {nu r : Int} (c : fz_nC h nu 6 r) (hn : 0 ≤ nu ∧ nu < 5) : r = h 28 nu.toNat := (of_C c (Or.inr (Or.inr (Or.inr (Or.inr (Or.inr (Or.inr (Or.inl ⟨rfl, hn.1, hn.2⟩))))))) (by decide)).trans (by
  unfold fz_gC fz_lC
  rw [if_neg (by decide), if_neg (by decide), if_neg (by decide), if_neg (by decide), if_neg (by decide), if_neg (by decide), if_pos rfl])
theorem of_fx {h : fz_H} {nu wh r : Int} (c : fz_nC h nu wh r) (hw : 8 < wh) : fz_fxC h nu wh r := by
  rcases c with ⟨-, e⟩ | ⟨a, -⟩ | ⟨a, -⟩
  · exact e
  · omega
  · omega
theorem of_10 {h : fz_H} {nu r : Int} (c : fz_nC h nu 10 r) (hn : 0 ≤ nu ∧ nu < h 9 5) : r = h 11 nu.toNat := by
  rcases of_fx c (by decide) with ⟨a, -⟩ | ⟨-, -, e⟩ | ⟨a, -⟩ | ⟨a, -⟩ | ⟨-, b, -⟩
  · omega
  · exact e
  · omega
  · omega
  · exact absurd ⟨rfl, hn.1, hn.2⟩ b
theorem of_11 {h : fz_H} {nu r : Int} (c : fz_nC h nu 11 r) (hn : 0 ≤ nu ∧ nu < 4) : r = h 41 nu.toNat := by
  rcases of_fx c (by decide) with ⟨a, -⟩ | ⟨a, -⟩ | ⟨-, -, e⟩ | ⟨a, -⟩ | ⟨-, -, b, -⟩
  · omega
  · omega
  · exact e
  · omega
  · exact absurd ⟨rfl, hn.1, hn.2⟩ b
theorem of_12 {h : fz_H} {r : Int} (c : fz_nC h 0 12 r) : r = h 40 1 := by
  rcases of_fx c (by decide) with ⟨a, -⟩ | ⟨a, -⟩ | ⟨a, -⟩ | ⟨-, -, e⟩ | ⟨-, -, -, b, -⟩
  · omega
  · omega
  · omega
  · exact e
  · exact absurd ⟨rfl, rfl⟩ b
/-! ===== deeds: heard where they were done ===== -/
theorem df_ha0 {h : fz_H} (hI : fz_Iv h) (V : fz_RV h) (P : fz_RP2 h) {e at_ : Int} (he : 0 ≤ e ∧ e < h 9 5) (ea : at_ = h 11 e.toNat) : fz_haC h e at_ = h 12 e.toNat + h 2 at_.toNat := by
  have b : 0 ≤ h 11 e.toNat ∧ h 11 e.toNat ≤ 7 := hI.1 11 _
  have p := P e.toNat (by omega)
  unfold fz_haC
  rw [wf_di1 V (x := h 11 e.toNat) (y := at_) ⟨b.1, p⟩ ea.symm]
  unfold fz_hh
  rw [if_neg (by decide)]
  omega
theorem df_sg {h : fz_H} (hI : fz_Iv h) (e t : Int) : (fz_haC h e t = -2 ∧ fz_hr (h 8 (8 * h 11 e.toNat + t).toNat) < 0) ∨ (0 ≤ fz_haC h e t ∧ 0 ≤ fz_hr (h 8 (8 * h 11 e.toNat + t).toNat)) := by
  have b12 : 0 ≤ h 12 e.toNat ∧ h 12 e.toNat ≤ 999 := hI.1 12 _
  have b2 : 0 ≤ h 2 t.toNat ∧ h 2 t.toNat ≤ 9 := hI.1 2 _
  unfold fz_haC fz_hh
  by_cases c : fz_hr (h 8 (8 * h 11 e.toNat + t).toNat) < 0
  · rw [if_pos c]
    exact Or.inl ⟨rfl, c⟩
  · rw [if_neg c]
    exact Or.inr ⟨by omega, by omega⟩
/-- a deed is heard in some town: the first and the last -/
theorem df_nw {g : Int → Int} {hr : Int} (h0 : hr < 0) : ∀ n : Nat, ((fl_nw g hr n).1 = -2 ∧ ∀ t : Nat, t < n → g (t : Int) < 0) ∨ ((0 ≤ (fl_nw g hr n).1 ∧ (fl_nw g hr n).1 < n) ∧ 0 ≤ (fl_nw g hr n).2 ∧ g (fl_nw g hr n).1 = (fl_nw g hr n).2 ∧ ∀ t : Nat, t < n → 0 ≤ g (t : Int) → (hr = -1 → g (t : Int) ≤ (fl_nw g hr n).2) ∧ (hr ≠ -1 → (fl_nw g hr n).2 ≤ g (t : Int)))
  | 0 => Or.inl ⟨by
    show (if hr < 0 then (-2 : Int) else 0) = -2
    rw [if_pos h0], fun t ht => by omega⟩
  | n + 1 => by
    have i := df_nw (g := g) h0 n
    have e : fl_nw g hr (n + 1) = if 0 ≤ g (n : Int) ∧ 0 ≤ hr then ((fl_nw g hr n).1 + (if g (n : Int) ≤ hr then 1 else 0), (fl_nw g hr n).2) else if 0 ≤ g (n : Int) ∧ ((fl_nw g hr n).1 = -2 ∨ (hr = -1 ∧ (fl_nw g hr n).2 < g (n : Int)) ∨ (hr ≠ -1 ∧ g (n : Int) < (fl_nw g hr n).2)) then ((n : Int), g (n : Int)) else fl_nw g hr n := rfl
    rw [if_neg (by omega)] at e
    by_cases c : 0 ≤ g (n : Int) ∧ ((fl_nw g hr n).1 = -2 ∨ (hr = -1 ∧ (fl_nw g hr n).2 < g (n : Int)) ∨ (hr ≠ -1 ∧ g (n : Int) < (fl_nw g hr n).2))
    · rw [if_pos c] at e
      rw [e]
      right
      refine ⟨⟨by show (0:Int) ≤ (n : Int); omega, by show (n : Int) < ((n + 1 : Nat) : Int); omega⟩, c.1, rfl, fun t ht hg => ?_⟩
      by_cases q : t = n
      · subst q
        exact ⟨fun _ => Int.le_refl _, fun _ => Int.le_refl _⟩
      · rcases i with ⟨i1, i2⟩ | ⟨i1, i2, i3, i4⟩
        · have := i2 t (by omega)
          omega
        · have w := i4 t (by omega) hg
          constructor
          · intro z
            have := w.1 z
            show g (t : Int) ≤ g (n : Int)
            omega
          · intro z
            have := w.2 z
            show g (n : Int) ≤ g (t : Int)
            omega
    · rw [if_neg c] at e
      rw [e]
      rcases i with ⟨i1, i2⟩ | ⟨i1, i2, i3, i4⟩
      · left
        refine ⟨i1, fun t ht => ?_⟩
        by_cases q : t = n
        · subst q
          by_cases z : 0 ≤ g (t : Int)
          · exact absurd ⟨z, Or.inl i1⟩ c
          · omega
        · exact i2 t (by omega)
      · right
        refine ⟨⟨i1.1, by omega⟩, i2, i3, fun t ht hg => ?_⟩
        by_cases q : t = n
        · subst q
          constructor
          · intro z
            by_cases y : (fl_nw g hr t).2 < g (t : Int)
            · exact absurd ⟨hg, Or.inr (Or.inl ⟨z, y⟩)⟩ c
            · omega
          · intro z
            by_cases y : g (t : Int) < (fl_nw g hr t).2
            · exact absurd ⟨hg, Or.inr (Or.inr ⟨z, y⟩)⟩ c
            · omega
        · exact i4 t (by omega) hg
theorem df_news {h : fz_H} {e r1 r2 at_ : Int} (he : 0 ≤ e ∧ e < h 9 5) (ha : 0 ≤ at_ ∧ at_ < h 1 7) (c1 : fl_nwC h e (-1) r1) (c2 : fl_nwC h e (-2) r2) (g0 : 0 ≤ fz_haC h e at_) : (0 ≤ r1 ∧ r1 < h 1 7) ∧ (0 ≤ r2 ∧ r2 < h 1 7) ∧ fz_haC h e r2 ≤ fz_haC h e r1 := by
  have e1 := he_C c1 ⟨he.1, he.2, by decide⟩
  have e2 := he_C c2 ⟨he.1, he.2, by decide⟩
  rcases df_nw (g := fz_haC h e) (hr := -1) (by decide) (h 1 7).toNat with ⟨_, y⟩ | ⟨x1, x2, x3, x4⟩
  · have := y at_.toNat (by omega)
    rw [show ((at_.toNat : Nat) : Int) = at_ by omega] at this
    omega
  · rcases df_nw (g := fz_haC h e) (hr := -2) (by decide) (h 1 7).toNat with ⟨_, y⟩ | ⟨y1, y2, y3, y4⟩
    · have := y at_.toNat (by omega)
      rw [show ((at_.toNat : Nat) : Int) = at_ by omega] at this
      omega
    · rw [← e1] at x1 x3
      rw [← e2] at y1 y3
      have a := (x4 at_.toNat (by omega) (by rw [show ((at_.toNat : Nat) : Int) = at_ by omega]; exact g0)).1 rfl
      have b := (y4 at_.toNat (by omega) (by rw [show ((at_.toNat : Nat) : Int) = at_ by omega]; exact g0)).2 (by decide)
      exact ⟨by omega, by omega, by omega⟩
/-- garbled where it was done: not at all -/
theorem df_gb {h : fz_H} (hI : fz_Iv h) (V : fz_RV h) (P : fz_RP2 h) {e at_ pt r : Int} (he : 0 ≤ e ∧ e < h 9 5) (ea : at_ = h 11 e.toNat) (hp : pt = 0 ∨ pt = 1) (c : fl_gbC h e at_ pt r) : r = 1 := by
  have b : 0 ≤ h 11 e.toNat ∧ h 11 e.toNat ≤ 7 := hI.1 11 _
  have p := P e.toNat (by omega)
  have z : fz_rr (h 8 (8 * h 11 e.toNat + at_).toNat) = 0 := by
    rw [ea, show (8 * h 11 e.toNat + h 11 e.toNat).toNat = 8 * (h 11 e.toNat).toNat + (h 11 e.toNat).toNat by omega, wf_diag V.2 (by omega)]
    rfl
  unfold fl_gbC at c
  rw [z] at c
  have ok : fl_oG (h 9 5) (h 1 7) e at_ pt := ⟨he, ⟨by omega, by omega⟩, by omega, by omega⟩
  have q : ∀ g : Int, fl_gq 200 (fl_p12 (0 : Int).toNat) (fl_ch5 g (0 : Int).toNat 0) = 1 := fun g => by
    show fl_gq 200 1 1 = 1
    decide +kernel
  rcases c with ⟨c, -⟩ | ⟨-, c, -⟩ | ⟨-, -, c⟩
  · exact absurd ok c
  · exact absurd c (by decide)
  · rw [c]
    unfold fl_ga
    rw [q, if_neg (by decide)]
    rcases hp with hp | hp
    · rw [if_pos hp]
      show fz_wl (Int.tdiv 1 1) = 1
      decide +kernel
    · rw [if_neg (by omega)]
      show fz_wl (Int.tdiv 1 1) = 1
      decide +kernel
/-- not cut off from itself -/
theorem df_cut0 {h : fz_H} {e at_ r : Int} (he : 0 ≤ e ∧ e < h 9 5) (ha : 0 ≤ at_ ∧ at_ < h 1 7) (ea : at_ = h 11 e.toNat) (c : fl_cuC h e at_ 0 r) : r = -2 := by
  rcases c with ⟨-, f, c, er⟩ | ⟨c, -⟩
  · rcases c with ⟨ef, -⟩ | ⟨⟨-, -, p, -⟩, -⟩
    · rw [er, ef]
      rfl
    · exact absurd ⟨0, by rw [ea]; rfl⟩ p
  · exact absurd ⟨he, ha, by decide, by decide⟩ c
/-- before it is heard it isn't said -/
theorem df_loud {h : fz_H} {e t x r : Int} (he : 0 ≤ e ∧ e < h 9 5) (ht : 0 ≤ t ∧ t < h 1 7) (ex : x = fz_haC h e t) (hx : 0 < x ∧ x ≤ 999) (c : fl_loC h e (1000 * t + x - 1) r) : r = 0 := by
  have e1 := he_C c ⟨he, by omega, by omega⟩
  rw [e1, show (1000 * t + x - 1) / 1000 = t by omega, show (1000 * t + x - 1) % 1000 = x - 1 by omega]
  unfold fl_ldC
  rw [if_pos (Or.inr (by omega))]
/-! ===== the least set of roads without carters ===== -/
set_option maxRecDepth 100000 in
theorem cf_tab : (List.range 4096).all (fun n => decide (fl_bc (n : Int) = fl_pc (n : Int) 12) && (List.range 32).all (fun d => Nat.blt d 12 || !(fz_bt (n : Int) d))) = true := by decide +kernel
theorem cf_pc {x : Int} (h : 0 ≤ x ∧ x ≤ 4095) : fl_bc x = fl_pc x 12 := by
  have z := List.all_eq_true.mp cf_tab x.toNat (List.mem_range.mpr (by omega))
  have e : ((x.toNat : Nat) : Int) = x := by omega
  simp only [Bool.and_eq_true, decide_eq_true_eq] at z
  rw [e] at z
  exact z.1
theorem cf_shl_all : (List.range 12).all (fun r => (List.range 12).all (fun d => fz_bt (fz_shl 1 (r : Int)) d == Nat.beq d r)) = true := by decide +kernel
theorem cf_shl {r d : Nat} (hr : r < 12) (hd : d < 12) : fz_bt (fz_shl 1 (r : Int)) d = Nat.beq d r := by
  have z := List.all_eq_true.mp (List.all_eq_true.mp cf_shl_all r (List.mem_range.mpr hr)) d (List.mem_range.mpr hd)
  exact eq_of_beq z
theorem cf_n_all : (List.range 13).all (fun n => decide (1 ≤ fz_shl 1 (n : Int)) && decide (fz_shl 1 (n : Int) ≤ 4096)) = true := by decide +kernel
theorem cf_n {n : Int} (h : 0 ≤ n ∧ n ≤ 12) : 1 ≤ fz_shl 1 n ∧ fz_shl 1 n ≤ 4096 := by
  have z := List.all_eq_true.mp cf_n_all n.toNat (List.mem_range.mpr (by omega))
  rw [show ((n.toNat : Nat) : Int) = n by omega] at z
  simp only [Bool.and_eq_true, decide_eq_true_eq] at z
  exact z
theorem cf_bc0 : fl_bc 0 = 0 := by decide +kernel
theorem cf_bnn {x : Int} (h : 0 ≤ x ∧ x ≤ 4095) : 0 ≤ fl_bc x := by
  rw [cf_pc h]
  have : ∀ n, 0 ≤ fl_pc x n := fun n => by
    induction n with
    | zero => exact Int.le_refl _
    | succ n ih =>
      unfold fl_pc
      split <;> omega
  exact this 12
/-- not heard at all: nothing must be taken -/
theorem cf_z {P : Int → Prop} {n f : Int} (hn : 1 ≤ n ∧ n ≤ 4096) (c : fl_cI P n f) (p : P 0) : f = 0 := by
  rcases c with ⟨-, c⟩ | ⟨⟨c1, c2, c3, c4⟩, c⟩
  · exact absurd p (c 0 (by decide) (by omega) (by rw [cf_bc0]; decide))
  · have b := cf_bnn (x := f) (by omega)
    have := c 0 (by decide) (by omega) p (by rw [cf_bc0]; decide)
    rw [cf_bc0] at this
    omega
theorem cf_nz {P : Int → Prop} {n f : Int} (c : fl_cI P n f) (p : ¬ P 0) : f ≠ 0 := by
  rcases c with ⟨c, -⟩ | ⟨⟨-, -, c3, -⟩, -⟩
  · omega
  · intro e
    rw [e] at c3
    exact p c3
theorem cf_cut {h : fz_H} {e t wh r : Int} (he : 0 ≤ e ∧ e < h 9 5) (ht : 0 ≤ t ∧ t < h 1 7) (hw : 0 ≤ wh ∧ wh ≤ 1) (c : fl_cuC h e t wh r) : ∃ f, fl_cI (fun k => ¬ fl_catC h k (h 11 e.toNat) t) (fz_shl 1 (h 1 8)) f ∧ r = fl_cux f wh := by
  rcases c with ⟨-, c⟩ | ⟨c, -⟩
  · exact c
  · exact absurd ⟨he, ht, hw⟩ c
/-- what cut() answers where it isn't heard, where it is -/
theorem cf_1 {h : fz_H} (hI : fz_Iv h) (V : fz_RV h) (P : fz_RP2 h) {e t wh r : Int} (he : 0 ≤ e ∧ e < h 9 5) (ht : 0 ≤ t ∧ t < h 1 7) (hw : 0 ≤ wh ∧ wh ≤ 1) (c : fl_cuC h e t wh r) (x : fz_haC h e t < 0) : r = 0 := by
  have b : 0 ≤ h 11 e.toNat ∧ h 11 e.toNat ≤ 7 := hI.1 11 _
  have p := P e.toNat (by omega)
  have b18 : 0 ≤ h 1 8 ∧ h 1 8 ≤ 12 := hI.1 1 8
  obtain ⟨f, c1, c2⟩ := cf_cut he ht hw c
  have s := df_sg hI e t
  have q := (wf_cat hI V (a := h 11 e.toNat) (b := t) ⟨b.1, p⟩ ht).mp (by omega)
  have z := cf_z (cf_n b18) c1 q
  rw [c2, z]
  unfold fl_cux
  rw [cf_bc0]
  split <;> rfl
theorem cf_2 {h : fz_H} (hI : fz_Iv h) (V : fz_RV h) (P : fz_RP2 h) {e t r : Int} (he : 0 ≤ e ∧ e < h 9 5) (ht : 0 ≤ t ∧ t < h 1 7) (c : fl_cuC h e t 1 r) (x : 0 ≤ fz_haC h e t) : r ≠ 0 ∧ fl_cI (fun k => ¬ fl_catC h k (h 11 e.toNat) t) (fz_shl 1 (h 1 8)) r := by
  have b : 0 ≤ h 11 e.toNat ∧ h 11 e.toNat ≤ 7 := hI.1 11 _
  have p := P e.toNat (by omega)
  obtain ⟨f, c1, c2⟩ := cf_cut he ht (by decide) c
  have e1 : fl_cux f 1 = f := by
    unfold fl_cux
    rw [if_pos (Or.inr rfl)]
  rw [e1] at c2
  have s := df_sg hI e t
  have q : ¬ ¬ fl_catC h 0 (h 11 e.toNat) t := fun z => by
    have := (wf_cat hI V (a := h 11 e.toNat) (b := t) ⟨b.1, p⟩ ht).mpr z
    omega
  rw [c2]
  exact ⟨cf_nz c1 q, c1⟩
theorem cf_rt {n : Int} {e1 e2 cd cd' : Nat → Int} {w w' : Int} (e : ∀ r : Nat, (r : Int) < n → (fl_ok1 cd w r ↔ fl_ok1 cd' w' r)) : fl_rt n e1 e2 cd w = fl_rt n e1 e2 cd' w' := funext fun a => funext fun b => propext ⟨fun ⟨r, h1, h2, h3⟩ => ⟨r, h1, (e r h1).mp h2, h3⟩, fun ⟨r, h1, h2, h3⟩ => ⟨r, h1, (e r h1).mpr h2, h3⟩⟩
/-- carters go each road of the least set -/
theorem cf_min {h : fz_H} (h12 : 0 ≤ h 1 8 ∧ h 1 8 ≤ 12) {a t f r : Int} (c : fl_cI (fun k => ¬ fl_catC h k a t) (fz_shl 1 (h 1 8)) f) (hf : 1 ≤ f) (hr : 0 ≤ r ∧ r < h 1 8) (b : fz_bt f r.toNat = true) : h 4 r.toNat = 1 := by
  rcases c with ⟨c, -⟩ | ⟨⟨c1, c2, c3, c4⟩, c⟩
  · omega
  · have n := cf_n h12
    by_cases z : h 4 r.toNat = 1
    · exact z
    · exfalso
      have m := fz_and_m (x := fz_xor (fz_shl 1 r) (-1)) (y := f) (by omega) (by omega)
      have bt : ∀ d, d < 12 → fz_bt (fz_and (fz_xor (fz_shl 1 r) (-1)) f) d = (!(Nat.beq d r.toNat) && fz_bt f d) := fun d hd => by
        rw [fz_bt_and, fz_bt_not (by omega), show fz_shl 1 r = fz_shl 1 ((r.toNat : Nat) : Int) by rw [show ((r.toNat : Nat) : Int) = r by omega], cf_shl (by omega) hd]
      have lt := fl_pc_lt (x := fz_and (fz_xor (fz_shl 1 r) (-1)) f) (y := f) (e := r.toNat) (n := 12) (fun d hd q => by
        rw [bt d hd, Bool.and_eq_true] at q
        exact q.2) (by omega) b (by
        rw [bt _ (by omega), show Nat.beq r.toNat r.toNat = true from Nat.beq_refl _]
        simp)
      have e1 := cf_pc (x := fz_and (fz_xor (fz_shl 1 r) (-1)) f) (by omega)
      have e2 := cf_pc (x := f) (by omega)
      have same : fl_rtcC h (fz_and (fz_xor (fz_shl 1 r) (-1)) f) = fl_rtcC h f := cf_rt (fun q hq => by
        unfold fl_ok1
        rw [bt q (by omega)]
        by_cases e : q = r.toNat
        · subst e
          exact ⟨fun y => absurd y.1 z, fun y => absurd y.1 z⟩
        · have ne : Nat.beq q r.toNat = false := by
            cases hb : Nat.beq q r.toNat with
            | false => rfl
            | true => exact absurd (Nat.eq_of_beq_eq_true hb) e
          rw [ne]
          simp)
      have p : ¬ fl_catC h (fz_and (fz_xor (fz_shl 1 r) (-1)) f) a t := by
        unfold fl_catC at c3 ⊢
        rw [same]
        exact c3
      have := c _ m.1 (by omega) p (by omega)
      omega
/-- with no carters on these, the town never hears -/
theorem cf_gone {h H : fz_H} {a t f : Int} (c : fl_cI (fun k => ¬ fl_catC h k a t) (fz_shl 1 (h 1 8)) f) (hf : 1 ≤ f) (e5 : H 5 = h 5) (e6 : H 6 = h 6) (e18 : H 1 8 = h 1 8) (e4 : ∀ r : Nat, (r : Int) < h 1 8 → H 4 r = if fz_bt f r = true then 0 else h 4 r) : ¬ fl_catC H 0 a t := by
  rcases c with ⟨c, -⟩ | ⟨⟨c1, c2, c3, c4⟩, c⟩
  · omega
  · have same : fl_rtcC H 0 = fl_rtcC h f := by
      unfold fl_rtcC
      rw [e5, e6, e18]
      refine cf_rt (fun q hq => ?_)
      unfold fl_ok1
      rw [e4 q hq]
      have z : fz_bt 0 q = false := by
        unfold fz_bt
        simp
      rw [z]
      by_cases b : fz_bt f q = true
      · rw [if_pos b]
        exact ⟨fun y => absurd y.1 (by decide), fun y => absurd b y.2⟩
      · rw [if_neg b]
        exact ⟨fun y => ⟨y.1, b⟩, fun y => ⟨y.1, by decide⟩⟩
    unfold fl_catC at c3 ⊢
    rw [same]
    exact c3
