/-! ===== deeds from a row ===== -/
def fz_five (f : Nat → Int) (tw p : Int) : Prop := (0 ≤ fz_w (f p.toNat) ∧ fz_w (f p.toNat) ≤ 3) ∧ (0 ≤ fz_w (f (p + 1).toNat) ∧ fz_w (f (p + 1).toNat) < tw) ∧ (0 ≤ fz_w (f (p + 2).toNat) ∧ fz_w (f (p + 2).toNat) ≤ 999) ∧ (0 ≤ fz_w (f (p + 3).toNat) ∧ fz_w (f (p + 3).toNat) ≤ 4) ∧ (1 ≤ fz_w (f (p + 4).toNat) ∧ fz_w (f (p + 4).toNat) ≤ 9)
def fz_k5 (f : Nat → Int) (tw len base i size : Int) : Prop := 0 ≤ i ∧ i + 5 ≤ len ∧ size < 10 ∧ fz_five f tw (base + i)
def fz_cm (f : Nat → Int) (tw len base i n size r : Int) : Prop := 0 ≤ r ∧ r ≤ n ∧ (∀ k : Int, 0 ≤ k → k < r → fz_k5 f tw len base (i + 5 * k) (size + k)) ∧ (r = n ∨ ¬ fz_k5 f tw len base (i + 5 * r) (size + r))
theorem fz_cm_u {f : Nat → Int} {tw len base i n size r q : Int} (a : fz_cm f tw len base i n size r) (b : fz_cm f tw len base i n size q) : r = q := by
  obtain ⟨a0, a1, a2, a3⟩ := a
  obtain ⟨b0, b1, b2, b3⟩ := b
  by_cases h1 : r < q
  · rcases a3 with z | z
    · omega
    · exact absurd (b2 r a0 h1) z
  · by_cases h2 : q < r
    · rcases b3 with z | z
      · omega
      · exact absurd (a2 q b0 h2) z
    · omega
/-- enterFive -/
def fz_e5 (h : fz_H) (s i y : Int) : Prop := (y = 1 ∧ fz_k5 (h 52) (h 1 7) (h 51 s.toNat) (60 * s) i (h 9 5)) ∨ (y = 0 ∧ ¬ fz_k5 (h 52) (h 1 7) (h 51 s.toNat) (60 * s) i (h 9 5))
theorem fz_e5_k {H h : fz_H} {s i j x y : Int} (e : fz_e5 H s j y) (f52 : H 52 = h 52) (f17 : H 1 7 = h 1 7) (f51 : H 51 = h 51) (hj : j = i + 5 * x) (hs : H 9 5 = h 9 5 + x) : (y = 1 ∧ fz_k5 (h 52) (h 1 7) (h 51 s.toNat) (60 * s) (i + 5 * x) (h 9 5 + x)) ∨ (y = 0 ∧ ¬ fz_k5 (h 52) (h 1 7) (h 51 s.toNat) (60 * s) (i + 5 * x) (h 9 5 + x)) := by
  unfold fz_e5 at e
  rw [f52, f17, f51, hj, hs] at e
  exact e
theorem fz_k5_w {f : Nat → Int} {tw len base i size x : Int} (c : ∀ k : Int, 0 ≤ k → k < x → fz_k5 f tw len base (i + 5 * k) (size + k)) (hx : 0 ≤ x ∧ x ≤ 10) (hl : len ≤ 60) (hi : -2147483648 ≤ i ∧ i < 2147483648) : fz_w (i + 5 * x) = i + 5 * x := by
  by_cases h0 : x = 0
  · exact fz_w_id (by omega) (by omega)
  · have k := c (x - 1) (by omega) (by omega)
    obtain ⟨k1, k2, -, -⟩ := k
    exact fz_w_id (by omega) (by omega)
theorem fz_k5_st {f : Nat → Int} {tw len base i size x : Int} (c : ∀ k : Int, 0 ≤ k → k < x → fz_k5 f tw len base (i + 5 * k) (size + k)) (d : fz_k5 f tw len base (i + 5 * x) (size + x)) : ∀ k : Int, 0 ≤ k → k < x + 1 → fz_k5 f tw len base (i + 5 * k) (size + k) := fun k h0 h1 => by
  by_cases e : k = x
  · rw [e]; exact d
  · exact c k h0 (by omega)
def fz_qC (h h' : fz_H) (s i n r : Int) : Prop := ((0 ≤ s ∧ s ≤ 5 ∧ 1 ≤ n ∧ n ≤ 10 ∧ h 48 s.toNat = 2 ∧ h 50 s.toNat = 1) ∧ fz_cm (h 52) (h 1 7) (h 51 s.toNat) (60 * s) i n (h 9 5) r ∧ h' 9 5 = h 9 5 + r) ∨ (¬ (0 ≤ s ∧ s ≤ 5 ∧ 1 ≤ n ∧ n ≤ 10) ∧ r = -1 ∧ h' 9 5 = h 9 5) ∨ ((0 ≤ s ∧ s ≤ 5 ∧ 1 ≤ n ∧ n ≤ 10) ∧ h 48 s.toNat = 0 ∧ r = 0 ∧ h' 9 5 = h 9 5) ∨ ((0 ≤ s ∧ s ≤ 5 ∧ 1 ≤ n ∧ n ≤ 10) ∧ h 48 s.toNat ≠ 0 ∧ ¬ (h 48 s.toNat = 2 ∧ h 50 s.toNat = 1) ∧ r = -12 ∧ h' 9 5 = h 9 5)
def fz_qM (h h' : fz_H) (s i n r : Int) : Prop := ((0 ≤ s ∧ s ≤ 5 ∧ 1 ≤ n ∧ n ≤ 10 ∧ h 83 s.toNat = 1) ∧ fz_cm (h 85) (h 53 0) (h 84 s.toNat) (60 * s) i n (h 53 10) r ∧ h' 53 10 = h 53 10 + r) ∨ (¬ (0 ≤ s ∧ s ≤ 5 ∧ 1 ≤ n ∧ n ≤ 10) ∧ r = -1 ∧ h' 53 10 = h 53 10) ∨ ((0 ≤ s ∧ s ≤ 5 ∧ 1 ≤ n ∧ n ≤ 10) ∧ h 83 s.toNat = -1 ∧ r = 0 ∧ h' 53 10 = h 53 10) ∨ ((0 ≤ s ∧ s ≤ 5 ∧ 1 ≤ n ∧ n ≤ 10) ∧ h 83 s.toNat ≠ -1 ∧ h 83 s.toNat ≠ 1 ∧ r = -12 ∧ h' 53 10 = h 53 10)
theorem fz_q_eq {h h1 h2 : fz_H} {s i n r q : Int} (hS : fz_RS h) (hP : fz_RP h) (c : fz_qC h h1 s i n r) (m : fz_qM h1 h2 s i n q) (e0 : h1 53 0 = h 1 7) (e1 : h1 53 10 = h 9 5) (f83 : h1 83 = h 83) (f84 : h1 84 = h 84) (f85 : h1 85 = h 85) : r = q ∧ h2 53 10 - h1 53 10 = h1 9 5 - h 9 5 := by
  have key : 0 ≤ s ∧ s ≤ 5 → fz_RS1 h s.toNat := fun z => hS s.toNat (by omega)
  unfold fz_RP at hP
  unfold fz_qM at m
  rw [f83, f84, f85, e0, ← hP] at m
  unfold fz_RS1 at key
  rcases c with ⟨c0, c1, c2⟩ | ⟨c0, c1, c2⟩ | ⟨c0, c1, c2, c3⟩ | ⟨c0, c1, c2, c3, c4⟩
  · have k := key ⟨c0.1, c0.2.1⟩
    rcases m with ⟨m0, m1, m2⟩ | ⟨m0, m1, m2⟩ | ⟨m0, m1, m2, m3⟩ | ⟨m0, m1, m2, m3, m4⟩
    · have hl : h 84 s.toNat = h 51 s.toNat := by omega
      rw [hl, e1] at m1
      have := fz_cm_u c1 m1
      omega
    · exfalso; omega
    · exfalso; omega
    · exfalso; omega
  · rcases m with ⟨m0, m1, m2⟩ | ⟨m0, m1, m2⟩ | ⟨m0, m1, m2, m3⟩ | ⟨m0, m1, m2, m3, m4⟩
    · exfalso; omega
    · omega
    · exfalso; omega
    · exfalso; omega
  · have k := key ⟨c0.1, c0.2.1⟩
    rcases m with ⟨m0, m1, m2⟩ | ⟨m0, m1, m2⟩ | ⟨m0, m1, m2, m3⟩ | ⟨m0, m1, m2, m3, m4⟩
    · exfalso; omega
    · exfalso; omega
    · omega
    · exfalso; omega
  · have k := key ⟨c0.1, c0.2.1⟩
    rcases m with ⟨m0, m1, m2⟩ | ⟨m0, m1, m2⟩ | ⟨m0, m1, m2, m3⟩ | ⟨m0, m1, m2, m3, m4⟩
    · exfalso; omega
    · exfalso; omega
    · exfalso; omega
    · omega
/-! ===== where one stands is a town; roads lead to towns ===== -/
def fz_RT (h : fz_H) : Prop := ∀ j : Nat, j < 4 → (h 41 j = 0 ∨ h 41 j < h 1 7) ∧ (h 42 j = 0 ∨ h 42 j < h 1 7)
theorem fz_RT_eq {h h' : fz_H} (e0 : h' 41 = h 41) (e1 : h' 42 = h 42) (e2 : h' 1 7 = h 1 7) (hR : fz_RT h) : fz_RT h' := by
  intro j hj
  rw [e0, e1, e2]
  exact hR j hj
theorem fz_RT_t {h h' : fz_H} (e0 : h' 41 = h 41) (e1 : h' 42 = h 42) (e2 : h 1 7 ≤ h' 1 7) (hR : fz_RT h) : fz_RT h' := by
  intro j hj
  have := hR j hj
  rw [e0, e1]
  omega
theorem fz_RT_i {h : fz_H} {x : Int} (hR : fz_RT h) (hx : 0 ≤ x ∧ x ≤ 3) : h 41 x.toNat = 0 ∨ h 41 x.toNat < h 1 7 := (hR x.toNat (by omega)).1
theorem fz_RT_st {h H : fz_H} {n : Nat} {v : Int} (e : H = fz_up h 41 n v) (hv : v < h 1 7) (hR : fz_RT h) : fz_RT H := by
  intro j hj
  have := hR j hj
  have e1 : H 1 7 = h 1 7 := by rw [e, fz_up_o (by decide)]
  have e2 : H 42 = h 42 := by rw [e, fz_up_ne (by decide)]
  rw [e1, e2]
  by_cases q : j = n
  · rw [q, e, fz_up_e]
    rw [q] at this
    exact ⟨Or.inr hv, this.2⟩
  · rw [e, fz_up_s q]
    exact this
theorem fz_RT_c1 {h H : fz_H} {n : Nat} (e : H = fz_cp h 41 0 42 0 n) (hR : fz_RT h) : fz_RT H := by
  intro j hj
  have := hR j hj
  rw [e, fz_cp_ne (by decide), fz_cp_ne (by decide)]
  unfold fz_cp
  split
  · rw [Nat.zero_add, Nat.sub_zero]
    exact ⟨this.1, this.1⟩
  · exact this
theorem fz_RT_c2 {h H : fz_H} {n : Nat} (e : H = fz_cp h 42 0 41 0 n) (hR : fz_RT h) : fz_RT H := by
  intro j hj
  have := hR j hj
  have e2 : H 42 = h 42 := by rw [e, fz_cp_ne (by decide)]
  have e1 : H 1 7 = h 1 7 := by rw [e, fz_cp_ne (by decide)]
  rw [e1, e2, e]
  unfold fz_cp
  split
  · rw [Nat.zero_add, Nat.sub_zero]
    exact ⟨this.2, this.2⟩
  · exact this
def fz_RE (h : fz_H) : Prop := ∀ r : Nat, (r : Int) < h 1 8 → h 5 r < h 1 7 ∧ h 6 r < h 1 7
theorem fz_RE_eq {h h' : fz_H} (e0 : h' 5 = h 5) (e1 : h' 6 = h 6) (e2 : h' 1 8 = h 1 8) (e3 : h' 1 7 = h 1 7) (hR : fz_RE h) : fz_RE h' := by
  intro j hj
  rw [e0, e1, e3]
  exact hR j (by omega)
theorem fz_RE_t {h h' : fz_H} (e0 : h' 5 = h 5) (e1 : h' 6 = h 6) (e2 : h' 1 8 = h 1 8) (e3 : h 1 7 ≤ h' 1 7) (hR : fz_RE h) : fz_RE h' := by
  intro j hj
  have := hR j (by omega)
  rw [e0, e1]
  omega
theorem fz_RE_i {h : fz_H} {x : Int} (hR : fz_RE h) (hx : 0 ≤ x ∧ x < h 1 8) : h 5 x.toNat < h 1 7 ∧ h 6 x.toNat < h 1 7 := hR x.toNat (by omega)
theorem fz_RE_in {h H1 H2 H3 H4 H5 : fz_H} {n a b x y : Int} {s1 s2 : Nat} (e1 : H1 = fz_up h 5 n.toNat a) (e2 : H2 = fz_up H1 6 n.toNat b) (e3 : H3 = fz_up H2 3 s1 x) (e4 : H4 = fz_up H3 4 s2 y) {v : Int} (e5 : H5 = fz_up H4 1 8 v) (hn : n = h 1 8) (hv : v = h 1 8 + 1) (h0 : 0 ≤ h 1 8) (hab : a < h 1 7 ∧ b < h 1 7) (hR : fz_RE h) : fz_RE H5 := by
  subst hn hv
  intro j hj
  have k8 : H5 1 8 = h 1 8 + 1 := by rw [e5, fz_up_e]
  have k7 : H5 1 7 = h 1 7 := by rw [e5, fz_up_s (by decide), e4, fz_up_o (by decide), e3, fz_up_o (by decide), e2, fz_up_o (by decide), e1, fz_up_o (by decide)]
  rw [k8] at hj
  rw [k7]
  by_cases q : j = (h 1 8).toNat
  · have k5 : H5 5 j = a := by rw [q, e5, fz_up_o (by decide), e4, fz_up_o (by decide), e3, fz_up_o (by decide), e2, fz_up_o (by decide), e1, fz_up_e]
    have k6 : H5 6 j = b := by rw [q, e5, fz_up_o (by decide), e4, fz_up_o (by decide), e3, fz_up_o (by decide), e2, fz_up_e]
    rw [k5, k6]
    exact hab
  · have k5 : H5 5 j = h 5 j := by rw [e5, fz_up_o (by decide), e4, fz_up_o (by decide), e3, fz_up_o (by decide), e2, fz_up_o (by decide), e1, fz_up_s q]
    have k6 : H5 6 j = h 6 j := by rw [e5, fz_up_o (by decide), e4, fz_up_o (by decide), e3, fz_up_o (by decide), e2, fz_up_s q, e1, fz_up_o (by decide)]
    rw [k5, k6]
    exact hR j (by omega)
theorem fz_or5 {A B C D E F : Prop} (h : A ∨ B ∨ C ∨ D ∨ E) (n : ¬ E) : A ∨ B ∨ C ∨ D ∨ F := by
  rcases h with h | h | h | h | h
  · exact Or.inl h
  · exact Or.inr (Or.inl h)
  · exact Or.inr (Or.inr (Or.inl h))
  · exact Or.inr (Or.inr (Or.inr (Or.inl h)))
  · exact absurd h n
