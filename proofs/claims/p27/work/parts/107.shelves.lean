/-! ===== shelves: what the methods of class and model do to them ===== -/
def fz_fill (h : fz_H) (c a b : Nat) (v : Int) : fz_H := fun d j => if d = c ∧ a ≤ j ∧ j < b then v else h d j
theorem fz_fill_0 {h : fz_H} {c a : Nat} {v : Int} : fz_fill h c a a v = h := by
  funext d j
  unfold fz_fill
  rw [if_neg (by omega)]
theorem fz_fill_ne {h : fz_H} {c a b d : Nat} {v : Int} (hd : d ≠ c) : fz_fill h c a b v d = h d := by
  funext j
  unfold fz_fill
  rw [if_neg (by omega)]
theorem fz_fill_st {g H H1 : fz_H} {c a : Nat} {v x y z : Int} (e : H = fz_fill g c a x.toNat v) (e1 : H1 = fz_up H c y.toNat v) (hy : y = x) (hz : z = x + 1) (hx : 0 ≤ x) (ha : a ≤ x.toNat) : H1 = fz_fill g c a z.toNat v := by
  subst hy hz
  funext d j
  rw [e1, e]
  unfold fz_up fz_fill
  by_cases h1 : d = c ∧ j = y.toNat
  · rw [if_pos h1, if_pos ⟨h1.1, by omega, by omega⟩]
  · rw [if_neg h1]
    by_cases h2 : d = c ∧ a ≤ j ∧ j < y.toNat
    · rw [if_pos h2, if_pos ⟨h2.1, h2.2.1, by omega⟩]
    · rw [if_neg h2, if_neg (by omega)]
theorem fz_fill_e {g H : fz_H} {c a : Nat} {v x z : Int} (e : H = fz_fill g c a x.toNat v) (hx : x = z) : H = fz_fill g c a z.toNat v := by rw [← hx]; exact e
theorem fz_cp_0 {h : fz_H} {a i b j : Nat} : fz_cp h a i b j 0 = h := by
  funext d k
  unfold fz_cp
  rw [if_neg (by omega)]
/-- a copy within one cell, one more from below -/
theorem fz_cp_bk {h H H1 : fz_H} {c a b m : Nat} {x : Int} (e : H = fz_cp h c (a + 1) c (b + 1) m) (e1 : H1 = fz_up H c b x) (q : H c a = x) (hab : a < b + 1 ∨ b + 1 + m ≤ a) : H1 = fz_cp h c a c b (m + 1) := by
  have q1 : h c a = x := by
    rw [← q, e]
    unfold fz_cp
    rw [if_neg (by omega)]
  funext d k
  rw [e1, e]
  unfold fz_up fz_cp
  by_cases h1 : d = c ∧ k = b
  · rw [if_pos h1, if_pos ⟨h1.1, by omega, by omega⟩, ← q1, h1.2, Nat.sub_self, Nat.add_zero]
  · rw [if_neg h1]
    by_cases h2 : d = c ∧ b + 1 ≤ k ∧ k < b + 1 + m
    · rw [if_pos h2, if_pos ⟨h2.1, by omega, by omega⟩]
      congr 1
      omega
    · rw [if_neg h2, if_neg (by omega)]
theorem fz_cp_fw {h H H1 : fz_H} {c a b m : Nat} {x : Int} (e : H = fz_cp h c a c b m) (e1 : H1 = fz_up H c (b + m) x) (q : H c (a + m) = x) (hab : b ≤ a ∨ a + m < b) : H1 = fz_cp h c a c b (m + 1) := by
  have q1 : h c (a + m) = x := by
    rw [← q, e]
    unfold fz_cp
    rw [if_neg (by omega)]
  funext d k
  rw [e1, e]
  unfold fz_up fz_cp
  by_cases h1 : d = c ∧ k = b + m
  · rw [if_pos h1, if_pos ⟨h1.1, by omega, by omega⟩, ← q1, h1.2]
    congr 1
    omega
  · rw [if_neg h1]
    by_cases h2 : d = c ∧ b ≤ k ∧ k < b + m
    · rw [if_pos h2, if_pos ⟨h2.1, h2.2.1, by omega⟩]
    · rw [if_neg h2, if_neg (by omega)]
/-- the model's two loops, in whole numbers -/
theorem fz_cp_bkI {h H H1 : fz_H} {c : Nat} {A B k n x y z : Int} (e : H = fz_cp h c (A + k + 1).toNat c (B + k + 1).toNat (n - k - 1).toNat) (e1 : H1 = fz_up H c y.toNat x) (q : H c z.toNat = x) (hy : y = B + k) (hz : z = A + k) (h0 : 0 ≤ A ∧ 0 ≤ B ∧ 0 ≤ k ∧ k < n) (hab : A < B) : H1 = fz_cp h c (A + (k + -1) + 1).toNat c (B + (k + -1) + 1).toNat (n - (k + -1) - 1).toNat := by
  subst hy hz
  have := fz_cp_bk (a := (A + k).toNat) (b := (B + k).toNat) (m := (n - k - 1).toNat) (h := h) (H := H) (H1 := H1) (c := c) (x := x) (by rw [e]; congr 1 <;> omega) e1 q (by omega)
  rw [this]
  congr 1 <;> omega
theorem fz_cp_fwI {h H H1 : fz_H} {c : Nat} {A B k x y z : Int} (e : H = fz_cp h c A.toNat c B.toNat k.toNat) (e1 : H1 = fz_up H c y.toNat x) (q : H c z.toNat = x) (hy : y = B + k) (hz : z = A + k) (h0 : 0 ≤ A ∧ 0 ≤ B ∧ 0 ≤ k) (hab : B ≤ A ∨ A + k < B) : H1 = fz_cp h c A.toNat c B.toNat (k + 1).toNat := by
  subst hy hz
  have := fz_cp_fw (a := A.toNat) (b := B.toNat) (m := k.toNat) (h := h) (H := H) (H1 := H1) (c := c) (x := x) e (by rw [e1]; congr 1; omega) (by rw [← q]; congr 1; omega) (by omega)
  rw [this]
  congr 1
  omega
theorem fz_cp_e {h H : fz_H} {a b : Nat} {i j n i' j' n' : Int} (e : H = fz_cp h a i.toNat b j.toNat n.toNat) (hi : i = i') (hj : j = j') (hn : n = n') : H = fz_cp h a i'.toNat b j'.toNat n'.toNat := by rw [← hi, ← hj, ← hn]; exact e
/-- setWord -/
def fz_uW (h h' : fz_H) (s b : Int) : Prop := ∃ x : Int, ((b < 0 ∧ x = 0) ∨ (0 ≤ b ∧ x = 1)) ∧ h' = fz_up (fz_up h 48 s.toNat x) 49 s.toNat b
theorem fz_uW_in {h H1 H2 : fz_H} {s b x : Int} (e1 : H1 = fz_up h 48 s.toNat x) (e2 : H2 = fz_up H1 49 s.toNat b) (hx : (b < 0 ∧ x = 0) ∨ (0 ≤ b ∧ x = 1)) : fz_uW h H2 s b := ⟨x, hx, by rw [e2, e1]⟩
def fz_uR (h h' : fz_H) (s so n : Int) : Prop := h' = fz_fill (fz_up (fz_up (fz_up h 48 s.toNat 2) 50 s.toNat so) 51 s.toNat n) 52 (60 * s).toNat (60 * s + 60).toNat 0
theorem fz_uR_in {h H1 H2 H3 H4 : fz_H} {s so n a b : Int} (e1 : H1 = fz_up h 48 s.toNat 2) (e2 : H2 = fz_up H1 50 s.toNat so) (e3 : H3 = fz_up H2 51 s.toNat n) (e4 : H4 = fz_fill H3 52 a.toNat b.toNat 0) (ha : a = 60 * s) (hb : b = 60 * s + 60) : fz_uR h H4 s so n := by
  subst ha hb
  unfold fz_uR
  rw [e4, e3, e2, e1]
def fz_kC (h h' : fz_H) (s b : Int) : Prop := ((0 ≤ s ∧ s ≤ 5 ∧ -1 ≤ b ∧ b < h 44 2) ∧ fz_uW h h' s b) ∨ (¬ (0 ≤ s ∧ s ≤ 5 ∧ -1 ≤ b ∧ b < h 44 2) ∧ h' = h)
def fz_kM (h h' : fz_H) (s b : Int) : Prop := ((0 ≤ s ∧ s ≤ 5 ∧ -1 ≤ b ∧ b < h 53 44) ∧ ∃ x : Int, ((b < 0 ∧ x = -1) ∨ (0 ≤ b ∧ x = 10 + b)) ∧ h' = fz_up (fz_up h 83 s.toNat x) 84 s.toNat 0) ∨ (¬ (0 ≤ s ∧ s ≤ 5 ∧ -1 ≤ b ∧ b < h 53 44) ∧ h' = h)
theorem fz_kM_in {h H1 H2 : fz_H} {s b x : Int} (e1 : H1 = fz_up h 83 s.toNat x) (e2 : H2 = fz_up H1 84 s.toNat 0) (hc : 0 ≤ s ∧ s ≤ 5 ∧ -1 ≤ b ∧ b < h 53 44) (hx : (b < 0 ∧ x = -1) ∨ (0 ≤ b ∧ x = 10 + b)) : fz_kM h H2 s b := Or.inl ⟨hc, x, hx, by rw [e2, e1]⟩
def fz_rC (h h' : fz_H) (s so n : Int) : Prop := ((0 ≤ s ∧ s ≤ 5 ∧ 0 ≤ so ∧ so ≤ 4 ∧ 0 ≤ n ∧ n ≤ 60) ∧ fz_uR h h' s so n) ∨ (¬ (0 ≤ s ∧ s ≤ 5 ∧ 0 ≤ so ∧ so ≤ 4 ∧ 0 ≤ n ∧ n ≤ 60) ∧ h' = h)
def fz_rM (h h' : fz_H) (s so n : Int) : Prop := ((0 ≤ s ∧ s ≤ 5 ∧ 0 ≤ so ∧ so ≤ 4 ∧ 0 ≤ n ∧ n ≤ 60) ∧ h' = fz_fill (fz_up (fz_up h 83 s.toNat so) 84 s.toNat n) 85 (60 * s).toNat (60 * s + 60).toNat 0) ∨ (¬ (0 ≤ s ∧ s ≤ 5 ∧ 0 ≤ so ∧ so ≤ 4 ∧ 0 ≤ n ∧ n ≤ 60) ∧ h' = h)
/-- what a place keeps -/
def fz_lb (so v : Int) : Int := if so = 0 then fz_i2b (fz_w v) else if so = 1 then fz_i2s (fz_w v) else if so = 2 then fz_w v else if so = 4 then (if v = 0 then 0 else 1) else v
theorem fz_lb_0 {so v : Int} (h : so = 0) : fz_i2b (fz_w v) = fz_lb so v := by unfold fz_lb; rw [if_pos h]
theorem fz_lb_1 {so v : Int} (h : so = 1) : fz_i2s (fz_w v) = fz_lb so v := by unfold fz_lb; rw [if_neg (by omega), if_pos h]
theorem fz_lb_2 {so v : Int} (h : so = 2) : fz_w v = fz_lb so v := by unfold fz_lb; rw [if_neg (by omega), if_neg (by omega), if_pos h]
theorem fz_lb_3 {so v : Int} (h : so ≠ 0 ∧ so ≠ 1 ∧ so ≠ 2 ∧ so ≠ 4) : v = fz_lb so v := by unfold fz_lb; rw [if_neg (by omega), if_neg (by omega), if_neg (by omega), if_neg (by omega)]
theorem fz_lb_4 {so v : Int} (h : so = 4) (hv : v = 0) : 0 = fz_lb so v := by unfold fz_lb; rw [if_neg (by omega), if_neg (by omega), if_neg (by omega), if_pos h, if_pos hv]
theorem fz_lb_5 {so v : Int} (h : so = 4) (hv : v ≠ 0) : 1 = fz_lb so v := by unfold fz_lb; rw [if_neg (by omega), if_neg (by omega), if_neg (by omega), if_pos h, if_neg hv]
theorem fz_uS_in {h H : fz_H} {s i v y z : Int} (e : H = fz_up h 52 z.toNat y) (hy : y = fz_lb (h 50 s.toNat) v) (hz : z = 60 * s + i) : H = fz_up h 52 (60 * s + i).toNat (fz_lb (h 50 s.toNat) v) := by rw [e, hy, hz]
def fz_pC (h h' : fz_H) (s i v : Int) : Prop := ((0 ≤ s ∧ s ≤ 5 ∧ h 48 s.toNat = 2 ∧ 0 ≤ i ∧ i < h 51 s.toNat) ∧ h' = fz_up h 52 (60 * s + i).toNat (fz_lb (h 50 s.toNat) v)) ∨ (¬ (0 ≤ s ∧ s ≤ 5 ∧ h 48 s.toNat = 2 ∧ 0 ≤ i ∧ i < h 51 s.toNat) ∧ h' = h)
def fz_pM (h h' : fz_H) (s i v : Int) : Prop := ((0 ≤ s ∧ s ≤ 5 ∧ 0 ≤ h 83 s.toNat ∧ h 83 s.toNat ≤ 4 ∧ 0 ≤ i ∧ i < h 84 s.toNat) ∧ h' = fz_up h 85 (60 * s + i).toNat (fz_lb (h 83 s.toNat) v)) ∨ (¬ (0 ≤ s ∧ s ≤ 5 ∧ 0 ≤ h 83 s.toNat ∧ h 83 s.toNat ≤ 4 ∧ 0 ≤ i ∧ i < h 84 s.toNat) ∧ h' = h)
theorem fz_pM_in {h H : fz_H} {s i v y z : Int} (e : H = fz_up h 85 z.toNat y) (hc : 0 ≤ s ∧ s ≤ 5 ∧ 0 ≤ h 83 s.toNat ∧ h 83 s.toNat ≤ 4 ∧ 0 ≤ i ∧ i < h 84 s.toNat) (hy : y = fz_lb (h 83 s.toNat) v) (hz : z = 60 * s + i) : fz_pM h H s i v := Or.inl ⟨hc, by rw [e, hy, hz]⟩
def fz_sOK (s i o j n l m : Int) : Prop := (0 ≤ s ∧ s ≤ 5 ∧ 0 ≤ o ∧ o ≤ 5) ∧ 0 ≤ n ∧ 0 ≤ i ∧ 0 ≤ j ∧ i + n ≤ l ∧ j + n ≤ m
def fz_sC (h h' : fz_H) (s i o j n : Int) : Prop := ((h 48 s.toNat = 2 ∧ h 48 o.toNat = 2 ∧ h 50 o.toNat = h 50 s.toNat ∧ fz_sOK s i o j n (h 51 s.toNat) (h 51 o.toNat)) ∧ h' = fz_cp h 52 (60 * s + i).toNat 52 (60 * o + j).toNat n.toNat) ∨ (¬ (h 48 s.toNat = 2 ∧ h 48 o.toNat = 2 ∧ h 50 o.toNat = h 50 s.toNat ∧ fz_sOK s i o j n (h 51 s.toNat) (h 51 o.toNat)) ∧ h' = h)
def fz_sM (h h' : fz_H) (s i o j n : Int) : Prop := (((0 ≤ h 83 s.toNat ∧ h 83 s.toNat ≤ 4) ∧ h 83 o.toNat = h 83 s.toNat ∧ fz_sOK s i o j n (h 84 s.toNat) (h 84 o.toNat)) ∧ h' = fz_cp h 85 (60 * s + i).toNat 85 (60 * o + j).toNat n.toNat) ∨ (¬ ((0 ≤ h 83 s.toNat ∧ h 83 s.toNat ≤ 4) ∧ h 83 o.toNat = h 83 s.toNat ∧ fz_sOK s i o j n (h 84 s.toNat) (h 84 o.toNat)) ∧ h' = h)
/-! ===== shelves: class and model hold the same ===== -/
def fz_RS1 (h : fz_H) (s : Nat) : Prop := (h 48 s = 0 ∧ h 83 s = -1) ∨ (h 48 s = 1 ∧ 0 ≤ h 49 s ∧ h 49 s < h 44 2 ∧ h 83 s = 10 + h 49 s) ∨ (h 48 s = 2 ∧ 0 ≤ h 50 s ∧ h 50 s ≤ 4 ∧ h 83 s = h 50 s ∧ h 84 s = h 51 s)
def fz_RS (h : fz_H) : Prop := ∀ s : Nat, s < 6 → fz_RS1 h s
theorem fz_RS_eq {h h' : fz_H} (e0 : h' 48 = h 48) (e1 : h' 49 = h 49) (e2 : h' 50 = h 50) (e3 : h' 51 = h 51) (e4 : h' 83 = h 83) (e5 : h' 84 = h 84) (e6 : h' 44 2 = h 44 2) (hR : fz_RS h) : fz_RS h' := by
  intro s hs
  unfold fz_RS1
  rw [e0, e1, e2, e3, e4, e5, e6]
  exact hR s hs
theorem fz_RS_b {h h' : fz_H} (e0 : h' 48 = h 48) (e1 : h' 49 = h 49) (e2 : h' 50 = h 50) (e3 : h' 51 = h 51) (e4 : h' 83 = h 83) (e5 : h' 84 = h 84) (e6 : h 44 2 ≤ h' 44 2) (hR : fz_RS h) : fz_RS h' := by
  intro s hs
  have := hR s hs
  unfold fz_RS1 at this ⊢
  rw [e0, e1, e2, e3, e4, e5]
  omega
theorem fz_RS_i {h : fz_H} {x : Int} (hR : fz_RS h) (hx : 0 ≤ x ∧ x ≤ 5) : (h 48 x.toNat = 0 ∧ h 83 x.toNat = -1) ∨ (h 48 x.toNat = 1 ∧ 0 ≤ h 49 x.toNat ∧ h 49 x.toNat < h 44 2 ∧ h 83 x.toNat = 10 + h 49 x.toNat) ∨ (h 48 x.toNat = 2 ∧ 0 ≤ h 50 x.toNat ∧ h 50 x.toNat ≤ 4 ∧ h 83 x.toNat = h 50 x.toNat ∧ h 84 x.toNat = h 51 x.toNat) := hR x.toNat (by omega)
theorem fz_RS_keep {h h1 h2 : fz_H} {s b : Int} (hR : fz_RS h) (c : fz_kC h h1 s b) (m : fz_kM h1 h2 s b) (e : h1 53 44 = h 44 2) : fz_RS h2 := by
  rcases c with ⟨c0, x, cx, c1⟩ | ⟨c0, c1⟩
  · rcases m with ⟨m0, y, my, m1⟩ | ⟨m0, m1⟩
    · intro t ht
      have ht0 := hR t ht
      unfold fz_RS1 at ht0 ⊢
      have k44 : h2 44 2 = h 44 2 := by rw [m1, fz_up_o (by decide), fz_up_o (by decide), c1, fz_up_o (by decide), fz_up_o (by decide)]
      have k50 : h2 50 t = h 50 t := by rw [m1, fz_up_o (by decide), fz_up_o (by decide), c1, fz_up_o (by decide), fz_up_o (by decide)]
      have k51 : h2 51 t = h 51 t := by rw [m1, fz_up_o (by decide), fz_up_o (by decide), c1, fz_up_o (by decide), fz_up_o (by decide)]
      rw [k44, k50, k51]
      by_cases q : t = s.toNat
      · have k48 : h2 48 t = x := by rw [q, m1, fz_up_o (by decide), fz_up_o (by decide), c1, fz_up_o (by decide), fz_up_e]
        have k49 : h2 49 t = b := by rw [q, m1, fz_up_o (by decide), fz_up_o (by decide), c1, fz_up_e]
        have k83 : h2 83 t = y := by rw [q, m1, fz_up_o (by decide), fz_up_e]
        rw [k48, k49, k83]
        omega
      · have k48 : h2 48 t = h 48 t := by rw [m1, fz_up_o (by decide), fz_up_o (by decide), c1, fz_up_o (by decide), fz_up_s q]
        have k49 : h2 49 t = h 49 t := by rw [m1, fz_up_o (by decide), fz_up_o (by decide), c1, fz_up_s q, fz_up_o (by decide)]
        have k83 : h2 83 t = h 83 t := by rw [m1, fz_up_o (by decide), fz_up_s q, c1, fz_up_o (by decide), fz_up_o (by decide)]
        have k84 : h2 84 t = h 84 t := by rw [m1, fz_up_s q, fz_up_o (by decide), c1, fz_up_o (by decide), fz_up_o (by decide)]
        rw [k48, k49, k83, k84]
        exact ht0
    · exfalso; omega
  · rcases m with ⟨m0, y, my, m1⟩ | ⟨m0, m1⟩
    · exfalso; rw [e] at m0; omega
    · rw [m1, c1]; exact hR
theorem fz_RS_row {h h1 h2 : fz_H} {s so n : Int} (hR : fz_RS h) (c : fz_rC h h1 s so n) (m : fz_rM h1 h2 s so n) : fz_RS h2 := by
  rcases c with ⟨c0, c1⟩ | ⟨c0, c1⟩
  · rcases m with ⟨m0, m1⟩ | ⟨m0, m1⟩
    · unfold fz_uR at c1
      intro t ht
      have ht0 := hR t ht
      unfold fz_RS1 at ht0 ⊢
      have k44 : h2 44 2 = h 44 2 := by rw [m1, fz_fill_ne (by decide), fz_up_o (by decide), fz_up_o (by decide), c1, fz_fill_ne (by decide), fz_up_o (by decide), fz_up_o (by decide), fz_up_o (by decide)]
      have k49 : h2 49 t = h 49 t := by rw [m1, fz_fill_ne (by decide), fz_up_o (by decide), fz_up_o (by decide), c1, fz_fill_ne (by decide), fz_up_o (by decide), fz_up_o (by decide), fz_up_o (by decide)]
      rw [k44, k49]
      by_cases q : t = s.toNat
      · have k48 : h2 48 t = 2 := by rw [q, m1, fz_fill_ne (by decide), fz_up_o (by decide), fz_up_o (by decide), c1, fz_fill_ne (by decide), fz_up_o (by decide), fz_up_o (by decide), fz_up_e]
        have k50 : h2 50 t = so := by rw [q, m1, fz_fill_ne (by decide), fz_up_o (by decide), fz_up_o (by decide), c1, fz_fill_ne (by decide), fz_up_o (by decide), fz_up_e]
        have k51 : h2 51 t = n := by rw [q, m1, fz_fill_ne (by decide), fz_up_o (by decide), fz_up_o (by decide), c1, fz_fill_ne (by decide), fz_up_e]
        have k83 : h2 83 t = so := by rw [q, m1, fz_fill_ne (by decide), fz_up_o (by decide), fz_up_e]
        have k84 : h2 84 t = n := by rw [q, m1, fz_fill_ne (by decide), fz_up_e]
        rw [k48, k50, k51, k83, k84]
        omega
      · have k48 : h2 48 t = h 48 t := by rw [m1, fz_fill_ne (by decide), fz_up_o (by decide), fz_up_o (by decide), c1, fz_fill_ne (by decide), fz_up_o (by decide), fz_up_o (by decide), fz_up_s q]
        have k50 : h2 50 t = h 50 t := by rw [m1, fz_fill_ne (by decide), fz_up_o (by decide), fz_up_o (by decide), c1, fz_fill_ne (by decide), fz_up_o (by decide), fz_up_s q, fz_up_o (by decide)]
        have k51 : h2 51 t = h 51 t := by rw [m1, fz_fill_ne (by decide), fz_up_o (by decide), fz_up_o (by decide), c1, fz_fill_ne (by decide), fz_up_s q, fz_up_o (by decide), fz_up_o (by decide)]
        have k83 : h2 83 t = h 83 t := by rw [m1, fz_fill_ne (by decide), fz_up_o (by decide), fz_up_s q, c1, fz_fill_ne (by decide), fz_up_o (by decide), fz_up_o (by decide), fz_up_o (by decide)]
        have k84 : h2 84 t = h 84 t := by rw [m1, fz_fill_ne (by decide), fz_up_s q, fz_up_o (by decide), c1, fz_fill_ne (by decide), fz_up_o (by decide), fz_up_o (by decide), fz_up_o (by decide)]
        rw [k48, k50, k51, k83, k84]
        exact ht0
    · exact absurd c0 m0
  · rcases m with ⟨m0, m1⟩ | ⟨m0, m1⟩
    · exact absurd m0 c0
    · rw [m1, c1]; exact hR
/-- the places themselves -/
def fz_RP (h : fz_H) : Prop := h 52 = h 85
theorem fz_RP_eq {h h' : fz_H} (e0 : h' 52 = h 52) (e1 : h' 85 = h 85) (hR : fz_RP h) : fz_RP h' := by
  unfold fz_RP
  rw [e0, e1]
  exact hR
theorem fz_RP_i {h : fz_H} {x y : Int} (hR : fz_RP h) (e : x = y) : h 52 x.toNat = h 85 y.toNat := by
  unfold fz_RP at hR
  rw [hR, e]
theorem fz_RP_row {h h1 h2 : fz_H} {s so n : Int} (hR : fz_RP h) (c : fz_rC h h1 s so n) (m : fz_rM h1 h2 s so n) : fz_RP h2 := by
  rcases c with ⟨c0, c1⟩ | ⟨c0, c1⟩
  · rcases m with ⟨m0, m1⟩ | ⟨m0, m1⟩
    · unfold fz_uR at c1
      unfold fz_RP at hR ⊢
      funext j
      have a1 : h2 52 j = fz_fill h 52 (60 * s).toNat (60 * s + 60).toNat 0 52 j := by
        rw [m1, fz_fill_ne (by decide), fz_up_o (by decide), fz_up_o (by decide), c1]
        unfold fz_fill
        rw [fz_up_o (by decide), fz_up_o (by decide), fz_up_o (by decide)]
      have a2 : h2 85 j = fz_fill h1 85 (60 * s).toNat (60 * s + 60).toNat 0 85 j := by
        rw [m1]
        unfold fz_fill
        rw [fz_up_o (by decide), fz_up_o (by decide)]
      have a3 : h1 85 j = h 85 j := by rw [c1, fz_fill_ne (by decide), fz_up_o (by decide), fz_up_o (by decide), fz_up_o (by decide)]
      rw [a1, a2]
      unfold fz_fill
      rw [a3, hR]
      simp
    · exact absurd c0 m0
  · rcases m with ⟨m0, m1⟩ | ⟨m0, m1⟩
    · exact absurd m0 c0
    · rw [m1, c1]; exact hR
theorem fz_RP_put {h h1 h2 : fz_H} {s i v : Int} (hR : fz_RP h) (hS : fz_RS h) (c : fz_pC h h1 s i v) (m : fz_pM h1 h2 s i v) (f83 : h1 83 = h 83) (f84 : h1 84 = h 84) : fz_RP h2 := by
  have key : 0 ≤ s ∧ s ≤ 5 → fz_RS1 h s.toNat := fun z => hS s.toNat (by omega)
  unfold fz_pM at m
  rw [f83, f84] at m
  rcases c with ⟨c0, c1⟩ | ⟨c0, c1⟩
  · have k := key ⟨c0.1, c0.2.1⟩
    unfold fz_RS1 at k
    rcases m with ⟨m0, m1⟩ | ⟨m0, m1⟩
    · unfold fz_RP at hR ⊢
      have e : h 83 s.toNat = h 50 s.toNat := by omega
      rw [e] at m1
      funext j
      have a1 : h2 52 j = fz_up h 52 (60 * s + i).toNat (fz_lb (h 50 s.toNat) v) 52 j := by rw [m1, fz_up_o (by decide), c1]
      have a3 : h1 85 j = h 85 j := by rw [c1, fz_up_o (by decide)]
      rw [a1, m1]
      unfold fz_up
      rw [a3, hR]
      simp
    · exfalso; omega
  · rcases m with ⟨m0, m1⟩ | ⟨m0, m1⟩
    · exfalso
      have k := key ⟨m0.1, m0.2.1⟩
      unfold fz_RS1 at k
      omega
    · rw [m1, c1]; exact hR
theorem fz_RP_shift {h h1 h2 : fz_H} {s i o j n : Int} (hR : fz_RP h) (hS : fz_RS h) (c : fz_sC h h1 s i o j n) (m : fz_sM h1 h2 s i o j n) (f83 : h1 83 = h 83) (f84 : h1 84 = h 84) : fz_RP h2 := by
  have key : ∀ x : Int, 0 ≤ x ∧ x ≤ 5 → fz_RS1 h x.toNat := fun x z => hS x.toNat (by omega)
  unfold fz_sM at m
  rw [f83, f84] at m
  unfold fz_sC at c
  unfold fz_sOK at c m
  rcases c with ⟨c0, c1⟩ | ⟨c0, c1⟩
  · have k1 := key s ⟨by omega, by omega⟩
    have k2 := key o ⟨by omega, by omega⟩
    unfold fz_RS1 at k1 k2
    rcases m with ⟨m0, m1⟩ | ⟨m0, m1⟩
    · unfold fz_RP at hR ⊢
      funext q
      have a1 : h2 52 q = fz_cp h 52 (60 * s + i).toNat 52 (60 * o + j).toNat n.toNat 52 q := by rw [m1, fz_cp_ne (by decide), c1]
      have a3 : h1 85 = h 85 := by rw [c1, fz_cp_ne (by decide)]
      rw [a1, m1]
      unfold fz_cp
      rw [a3, hR]
      simp
    · exfalso; omega
  · rcases m with ⟨m0, m1⟩ | ⟨m0, m1⟩
    · exfalso
      have k1 := key s ⟨by omega, by omega⟩
      have k2 := key o ⟨by omega, by omega⟩
      unfold fz_RS1 at k1 k2
      omega
    · rw [m1, c1]; exact hR
/-- the words' kinds -/
def fz_RK (h : fz_H) : Prop := h 45 = h 81
theorem fz_RK_eq {h h' : fz_H} (e0 : h' 45 = h 45) (e1 : h' 81 = h 81) (hR : fz_RK h) : fz_RK h' := by
  unfold fz_RK
  rw [e0, e1]
  exact hR
def fz_bC (h h' : fz_H) (k : Int) : Prop := ((0 ≤ k ∧ k ≤ 7 ∧ h 44 2 < 50) ∧ h' 45 = fz_up h 45 (h 44 2).toNat k 45) ∨ (¬ (0 ≤ k ∧ k ≤ 7 ∧ h 44 2 < 50) ∧ h' 45 = h 45)
def fz_bM (h h' : fz_H) (k : Int) : Prop := ((0 ≤ k ∧ k ≤ 7 ∧ h 53 44 < 50) ∧ h' 81 = fz_up h 81 (h 53 44).toNat k 81) ∨ (¬ (0 ≤ k ∧ k ≤ 7 ∧ h 53 44 < 50) ∧ h' 81 = h 81)
theorem fz_bu_in {h H1 H2 : fz_H} {c c2 s2 : Nat} {n k x : Int} (e1 : H1 = fz_up h c n.toNat k) (e2 : H2 = fz_up H1 c2 s2 x) (hc : c ≠ c2) {m : Int} (hn : n = m) : H2 c = fz_up h c m.toNat k c := by
  rw [e2, fz_up_ne hc, e1, hn]
theorem fz_bu_in2 {h H1 H2 : fz_H} {c c1 s1 : Nat} {n k x : Int} (e1 : H2 = fz_up H1 c n.toNat k) (e2 : H1 = fz_up h c1 s1 x) (hc : c ≠ c1) {m : Int} (hn : n = m) : H2 c = fz_up h c m.toNat k c := by
  rw [e1, e2, hn]
  funext j
  unfold fz_up
  simp [hc]
theorem fz_RK_body {h h1 h2 : fz_H} {k : Int} (hR : fz_RK h) (c : fz_bC h h1 k) (m : fz_bM h1 h2 k) (e : h1 53 44 = h 44 2) (f1 : h1 81 = h 81) (f2 : h2 45 = h1 45) : fz_RK h2 := by
  unfold fz_bM at m
  unfold fz_RK at hR ⊢
  rw [e] at m
  rw [f2]
  rcases c with ⟨c0, c1⟩ | ⟨c0, c1⟩
  · rcases m with ⟨m0, m1⟩ | ⟨m0, m1⟩
    · rw [c1, m1]
      funext j
      unfold fz_up
      rw [f1, hR]
      simp
    · exact absurd c0 m0
  · rcases m with ⟨m0, m1⟩ | ⟨m0, m1⟩
    · exact absurd m0 c0
    · rw [c1, m1, f1]; exact hR
/-- whether a kind is under another, and what 'taken' says then -/
def fz_un (x t : Int) : Prop := (x = 0 ∧ (t = 0)) ∨ (x = 1 ∧ (t = 1 ∨ t = 0)) ∨ (x = 2 ∧ (t = 2 ∨ t = 0)) ∨ (x = 3 ∧ (t = 3 ∨ t = 2 ∨ t = 0)) ∨ (x = 4 ∧ (t = 4 ∨ t = 1 ∨ t = 0)) ∨ (x = 5 ∧ (t = 5 ∨ t = 3 ∨ t = 2 ∨ t = 0)) ∨ (x = 6 ∧ (t = 6 ∨ t = 0)) ∨ (x = 7 ∧ (t = 7 ∨ t = 4 ∨ t = 1 ∨ t = 0))
noncomputable def fz_tk (x t : Int) : Int := @ite Int (fz_un x t) (Classical.propDecidable _) x (-12)
theorem fz_tk_y {x t c : Int} (hc : c = x) (hu : fz_un x t) : c = fz_tk x t := by unfold fz_tk; rw [if_pos hu]; exact hc
theorem fz_tk_n {x t : Int} (hu : ¬ fz_un x t) : -12 = fz_tk x t := by unfold fz_tk; rw [if_neg hu]
theorem fz_kd {h : fz_H} {s : Int} (hS : fz_RS h) (hK : fz_RK h) (hs : 0 ≤ s ∧ s ≤ 5) (h1 : h 48 s.toNat = 1) : h 81 (h 83 s.toNat - 10).toNat = h 45 (h 49 s.toNat).toNat := by
  have := fz_RS_i hS hs
  unfold fz_RK at hK
  rw [hK]
  congr 1
  omega
theorem fz_tkp_m {s k z b n f y : Int} (A : 0 ≤ s ∧ s ≤ 5 ∧ 0 ≤ k ∧ k ≤ 7) (kx : (z = 2 ∧ y = -2) ∨ ((z = 1 ∧ 0 ≤ b ∧ b < n) ∧ y = f) ∨ ((z = 1 ∧ ¬ (0 ≤ b ∧ b < n)) ∧ y = -2)) (c : y = -2) (hf : 0 ≤ f) : (¬ (0 ≤ s ∧ s ≤ 5 ∧ 0 ≤ k ∧ k ≤ 7) ∧ -12 = -1) ∨ ((0 ≤ s ∧ s ≤ 5 ∧ 0 ≤ k ∧ k ≤ 7) ∧ z = 0 ∧ -12 = -11) ∨ ((0 ≤ s ∧ s ≤ 5 ∧ 0 ≤ k ∧ k ≤ 7) ∧ z = 2 ∧ -12 = -12) ∨ ((0 ≤ s ∧ s ≤ 5 ∧ 0 ≤ k ∧ k ≤ 7) ∧ (z = 1 ∧ ¬ (0 ≤ b ∧ b < n))) ∨ ((0 ≤ s ∧ s ≤ 5 ∧ 0 ≤ k ∧ k ≤ 7) ∧ (z = 1 ∧ 0 ≤ b ∧ b < n) ∧ -12 = fz_tk f k) := by
  rcases kx with k1 | k1 | k1
  · exact Or.inr (Or.inr (Or.inl ⟨A, k1.1, rfl⟩))
  · exfalso; omega
  · exact Or.inr (Or.inr (Or.inr (Or.inl ⟨A, k1.1⟩)))
theorem fz_tkp_y {s k z b n f y j : Int} (A : 0 ≤ s ∧ s ≤ 5 ∧ 0 ≤ k ∧ k ≤ 7) (kx : (z = 2 ∧ y = -2) ∨ ((z = 1 ∧ 0 ≤ b ∧ b < n) ∧ y = f) ∨ ((z = 1 ∧ ¬ (0 ≤ b ∧ b < n)) ∧ y = -2)) (c : y = j) (hj : 0 ≤ j) (hu : fz_un j k) : (¬ (0 ≤ s ∧ s ≤ 5 ∧ 0 ≤ k ∧ k ≤ 7) ∧ y = -1) ∨ ((0 ≤ s ∧ s ≤ 5 ∧ 0 ≤ k ∧ k ≤ 7) ∧ z = 0 ∧ y = -11) ∨ ((0 ≤ s ∧ s ≤ 5 ∧ 0 ≤ k ∧ k ≤ 7) ∧ z = 2 ∧ y = -12) ∨ ((0 ≤ s ∧ s ≤ 5 ∧ 0 ≤ k ∧ k ≤ 7) ∧ (z = 1 ∧ ¬ (0 ≤ b ∧ b < n))) ∨ ((0 ≤ s ∧ s ≤ 5 ∧ 0 ≤ k ∧ k ≤ 7) ∧ (z = 1 ∧ 0 ≤ b ∧ b < n) ∧ y = fz_tk f k) := by
  rcases kx with k1 | k1 | k1
  · exfalso; omega
  · refine Or.inr (Or.inr (Or.inr (Or.inr ⟨A, k1.1, fz_tk_y k1.2 ?_⟩)))
    rw [← k1.2, c]
    exact hu
  · exfalso; omega
theorem fz_tkp_n {s k z b n f y j : Int} (A : 0 ≤ s ∧ s ≤ 5 ∧ 0 ≤ k ∧ k ≤ 7) (kx : (z = 2 ∧ y = -2) ∨ ((z = 1 ∧ 0 ≤ b ∧ b < n) ∧ y = f) ∨ ((z = 1 ∧ ¬ (0 ≤ b ∧ b < n)) ∧ y = -2)) (c : y = j) (hj : 0 ≤ j) (hu : ¬ fz_un j k) : (¬ (0 ≤ s ∧ s ≤ 5 ∧ 0 ≤ k ∧ k ≤ 7) ∧ -12 = -1) ∨ ((0 ≤ s ∧ s ≤ 5 ∧ 0 ≤ k ∧ k ≤ 7) ∧ z = 0 ∧ -12 = -11) ∨ ((0 ≤ s ∧ s ≤ 5 ∧ 0 ≤ k ∧ k ≤ 7) ∧ z = 2 ∧ -12 = -12) ∨ ((0 ≤ s ∧ s ≤ 5 ∧ 0 ≤ k ∧ k ≤ 7) ∧ (z = 1 ∧ ¬ (0 ≤ b ∧ b < n))) ∨ ((0 ≤ s ∧ s ≤ 5 ∧ 0 ≤ k ∧ k ≤ 7) ∧ (z = 1 ∧ 0 ≤ b ∧ b < n) ∧ -12 = fz_tk f k) := by
  rcases kx with k1 | k1 | k1
  · exfalso; omega
  · refine Or.inr (Or.inr (Or.inr (Or.inr ⟨A, k1.1, fz_tk_n ?_⟩)))
    rw [← k1.2, c]
    exact hu
  · exfalso; omega
theorem fz_tkm_y {s k z f j : Int} (A : 0 ≤ s ∧ s ≤ 5 ∧ 0 ≤ k ∧ k ≤ 7) (w : 10 ≤ z) (c : f = j) (hu : fz_un j k) : (¬ (0 ≤ s ∧ s ≤ 5 ∧ 0 ≤ k ∧ k ≤ 7) ∧ f = -1) ∨ ((0 ≤ s ∧ s ≤ 5 ∧ 0 ≤ k ∧ k ≤ 7) ∧ z = -1 ∧ f = -11) ∨ ((0 ≤ s ∧ s ≤ 5 ∧ 0 ≤ k ∧ k ≤ 7) ∧ (0 ≤ z ∧ z ≤ 4) ∧ f = -12) ∨ ((0 ≤ s ∧ s ≤ 5 ∧ 0 ≤ k ∧ k ≤ 7) ∧ (4 < z ∧ z < 10)) ∨ ((0 ≤ s ∧ s ≤ 5 ∧ 0 ≤ k ∧ k ≤ 7) ∧ 10 ≤ z ∧ f = fz_tk f k) := Or.inr (Or.inr (Or.inr (Or.inr ⟨A, w, fz_tk_y rfl (by rw [c]; exact hu)⟩)))
theorem fz_tkm_n {s k z f j : Int} (A : 0 ≤ s ∧ s ≤ 5 ∧ 0 ≤ k ∧ k ≤ 7) (w : 10 ≤ z) (c : f = j) (hu : ¬ fz_un j k) : (¬ (0 ≤ s ∧ s ≤ 5 ∧ 0 ≤ k ∧ k ≤ 7) ∧ -12 = -1) ∨ ((0 ≤ s ∧ s ≤ 5 ∧ 0 ≤ k ∧ k ≤ 7) ∧ z = -1 ∧ -12 = -11) ∨ ((0 ≤ s ∧ s ≤ 5 ∧ 0 ≤ k ∧ k ≤ 7) ∧ (0 ≤ z ∧ z ≤ 4) ∧ -12 = -12) ∨ ((0 ≤ s ∧ s ≤ 5 ∧ 0 ≤ k ∧ k ≤ 7) ∧ (4 < z ∧ z < 10)) ∨ ((0 ≤ s ∧ s ≤ 5 ∧ 0 ≤ k ∧ k ≤ 7) ∧ 10 ≤ z ∧ -12 = fz_tk f k) := Or.inr (Or.inr (Or.inr (Or.inr ⟨A, w, fz_tk_n (by rw [c]; exact hu)⟩)))
theorem fz_un_y0 {t : Int} (h : t = 0) : fz_un 0 t := by unfold fz_un; omega
theorem fz_un_n0 {t : Int} (h : ¬ (t = 0)) : ¬ fz_un 0 t := by unfold fz_un; omega
theorem fz_un_y1 {t : Int} (h : t = 1 ∨ t = 0) : fz_un 1 t := by unfold fz_un; omega
theorem fz_un_n1 {t : Int} (h : ¬ (t = 1 ∨ t = 0)) : ¬ fz_un 1 t := by unfold fz_un; omega
theorem fz_un_y2 {t : Int} (h : t = 2 ∨ t = 0) : fz_un 2 t := by unfold fz_un; omega
theorem fz_un_n2 {t : Int} (h : ¬ (t = 2 ∨ t = 0)) : ¬ fz_un 2 t := by unfold fz_un; omega
theorem fz_un_y3 {t : Int} (h : t = 3 ∨ t = 2 ∨ t = 0) : fz_un 3 t := by unfold fz_un; omega
theorem fz_un_n3 {t : Int} (h : ¬ (t = 3 ∨ t = 2 ∨ t = 0)) : ¬ fz_un 3 t := by unfold fz_un; omega
theorem fz_un_y4 {t : Int} (h : t = 4 ∨ t = 1 ∨ t = 0) : fz_un 4 t := by unfold fz_un; omega
theorem fz_un_n4 {t : Int} (h : ¬ (t = 4 ∨ t = 1 ∨ t = 0)) : ¬ fz_un 4 t := by unfold fz_un; omega
theorem fz_un_y5 {t : Int} (h : t = 5 ∨ t = 3 ∨ t = 2 ∨ t = 0) : fz_un 5 t := by unfold fz_un; omega
theorem fz_un_n5 {t : Int} (h : ¬ (t = 5 ∨ t = 3 ∨ t = 2 ∨ t = 0)) : ¬ fz_un 5 t := by unfold fz_un; omega
theorem fz_un_y6 {t : Int} (h : t = 6 ∨ t = 0) : fz_un 6 t := by unfold fz_un; omega
theorem fz_un_n6 {t : Int} (h : ¬ (t = 6 ∨ t = 0)) : ¬ fz_un 6 t := by unfold fz_un; omega
theorem fz_un_y7 {t : Int} (h : t = 7 ∨ t = 4 ∨ t = 1 ∨ t = 0) : fz_un 7 t := by unfold fz_un; omega
theorem fz_un_n7 {t : Int} (h : ¬ (t = 7 ∨ t = 4 ∨ t = 1 ∨ t = 0)) : ¬ fz_un 7 t := by unfold fz_un; omega
