/-! ===== the model's changes ===== -/
def fz_ft (w v r : Int) : Prop := r = 1 → ((w = 0 → 0 ≤ v ∧ v ≤ 9) ∧ (w = 1 → 0 ≤ v ∧ v ≤ 24) ∧ (w = 2 → 0 ≤ v ∧ v ≤ 1) ∧ (w = 3 → 0 ≤ v ∧ v ≤ 999) ∧ (w = 4 → 0 ≤ v ∧ v ≤ 4) ∧ (w = 5 → 0 ≤ v ∧ v ≤ 9) ∧ (w = 6 → -9 ≤ v ∧ v ≤ 9) ∧ (w = 7 → 0 ≤ v ∧ v ≤ 99) ∧ (w = 8 → 0 ≤ v ∧ v ≤ 12))
theorem fz_om_of {a b c w n v : Int} (h : (w = 0 ∧ 0 ≤ n ∧ n ≤ 7 ∧ n < a) ∨ (w = 1 ∧ 0 ≤ n ∧ n ≤ 11 ∧ n < b) ∨ (w = 2 ∧ 0 ≤ n ∧ n ≤ 11 ∧ n < b) ∨ (w = 3 ∧ 0 ≤ n ∧ n ≤ 10 ∧ n < c) ∨ (w = 4 ∧ 0 ≤ n ∧ n ≤ 10 ∧ n < c) ∨ (w = 5 ∧ 0 ≤ n ∧ n ≤ 10 ∧ n < c) ∨ (w = 6 ∧ 0 ≤ n ∧ n ≤ 4) ∨ (w = 7 ∧ n = 0) ∨ (w = 8 ∧ n = 0)) (hf : fz_ft w v 1) : fz_om n w v := by
  have hg := hf rfl
  clear hf
  rcases h with ⟨rfl, h⟩ | ⟨rfl, h⟩ | ⟨rfl, h⟩ | ⟨rfl, h⟩ | ⟨rfl, h⟩ | ⟨rfl, h⟩ | ⟨rfl, h⟩ | ⟨rfl, h⟩ | ⟨rfl, h⟩
  · have := hg.1 rfl; unfold fz_om; omega
  · have := hg.2.1 rfl; unfold fz_om; omega
  · have := hg.2.2.1 rfl; unfold fz_om; omega
  · have := hg.2.2.2.1 rfl; unfold fz_om; omega
  · have := hg.2.2.2.2.1 rfl; unfold fz_om; omega
  · have := hg.2.2.2.2.2.1 rfl; unfold fz_om; omega
  · have := hg.2.2.2.2.2.2.1 rfl; unfold fz_om; omega
  · have := hg.2.2.2.2.2.2.2.1 rfl; unfold fz_om; omega
  · have := hg.2.2.2.2.2.2.2.2 rfl; unfold fz_om; omega
theorem fz_om_b {n w v : Int} (h : fz_om n w v) : (0 ≤ w ∧ w ≤ 8) ∧ -9 ≤ v ∧ v ≤ 999 ∧ 0 ≤ n ∧ n ≤ 11 := by
  obtain ⟨hw, h0, h1, h2, h3, h4, h5, h6, h7, h8⟩ := h
  refine ⟨hw, ?_⟩
  rcases (show w = 0 ∨ w = 1 ∨ w = 2 ∨ w = 3 ∨ w = 4 ∨ w = 5 ∨ w = 6 ∨ w = 7 ∨ w = 8 by omega) with e | e | e | e | e | e | e | e | e
  · have := h0 e; omega
  · have := h1 e; omega
  · have := h2 e; omega
  · have := h3 e; omega
  · have := h4 e; omega
  · have := h5 e; omega
  · have := h6 e; omega
  · have := h7 e; omega
  · have := h8 e; omega
theorem fz_Xd_g1 {h : fz_H} {c : Int} (hX : fz_Xd h) (hc : 0 ≤ c ∧ c < 40) : fz_om (h 80 (4 * c).toNat) (h 80 (4 * c + 1).toNat) (h 80 (4 * c + 2).toNat) := by
  have := (hX c.toNat (by omega)).1
  rw [show (4 * c).toNat = 4 * c.toNat by omega, show (4 * c + 1).toNat = 4 * c.toNat + 1 by omega, show (4 * c + 2).toNat = 4 * c.toNat + 2 by omega]
  exact this
theorem fz_Xd_g2 {h : fz_H} {c : Int} (hX : fz_Xd h) (hc : 0 ≤ c ∧ c < 40) : fz_om (h 80 (4 * c).toNat) (h 80 (4 * c + 1).toNat) (h 80 (4 * c + 3).toNat) := by
  have := (hX c.toNat (by omega)).2
  rw [show (4 * c).toNat = 4 * c.toNat by omega, show (4 * c + 1).toNat = 4 * c.toNat + 1 by omega, show (4 * c + 3).toNat = 4 * c.toNat + 3 by omega]
  exact this
def fz_Xg (g : Nat → Int) (n : Nat) : Prop := fz_om (g (4 * n)) (g (4 * n + 1)) (g (4 * n + 2)) ∧ fz_om (g (4 * n)) (g (4 * n + 1)) (g (4 * n + 3))
/-- all but one -/
def fz_Xx (c : Nat) (h : fz_H) : Prop := ∀ i : Nat, i < 40 → i ≠ c → fz_Xg (h 80) i
theorem fz_Xx_of {h : fz_H} {c : Nat} (hX : fz_Xd h) : fz_Xx c h := fun i hi _ => hX i hi
/-- midway of the shift -/
def fz_Xs (h : fz_H) (i : Int) : Prop := ∃ g : Nat → Int, (∀ n : Nat, n < 40 → fz_Xg g n) ∧ ∀ j : Nat, h 80 j = if (j : Int) < i then g (j + 4) else g j
theorem fz_Xs_0 {h : fz_H} (hX : fz_Xd h) : fz_Xs h 0 := ⟨h 80, hX, fun j => by rw [if_neg (by omega)]⟩
theorem fz_Xs_st {h : fz_H} {i v : Int} (hs : fz_Xs h i) (hi : 0 ≤ i) (hv : h 80 (i + 4).toNat = v) : fz_Xs (fz_up h 80 i.toNat v) (i + 1) := by
  obtain ⟨g, hg, hj⟩ := hs
  refine ⟨g, hg, fun j => ?_⟩
  by_cases e : j = i.toNat
  · have e2 := hj (i + 4).toNat
    rw [if_neg (by omega), hv] at e2
    rw [if_pos (by omega), e, fz_up_e, e2]
    congr 1
    omega
  · rw [fz_up_s e, hj]
    by_cases c : (j : Int) < i
    · rw [if_pos c, if_pos (by omega)]
    · rw [if_neg c, if_neg (by omega)]
theorem fz_Xx_B {h h' : fz_H} {i v : Int} {s : Nat} (hs : fz_Xs h i) (hi : i = 156) (e : h' = fz_up h 53 s v) : fz_Xx 39 h' := by
  obtain ⟨g, hg, hj⟩ := hs
  have e2 : h' 80 = h 80 := by rw [e]; exact fz_up_ne (by decide)
  intro n hn hc
  have := hg (n + 1) (by omega)
  unfold fz_Xg at this ⊢
  rw [e2, hj, hj, hj, hj, if_pos (by omega), if_pos (by omega), if_pos (by omega), if_pos (by omega)]
  exact this
theorem fz_Xd_4 {h h1 h2 h3 h4 : fz_H} {c : Nat} {k n w x y : Int} (hx : fz_Xx c h) (hk : 0 ≤ k) (hc : k.toNat = c) (e1 : h1 = fz_up h 80 (4 * k).toNat n) (e2 : h2 = fz_up h1 80 (4 * k + 1).toNat w) (e3 : h3 = fz_up h2 80 (4 * k + 2).toNat x) (e4 : h4 = fz_up h3 80 (4 * k + 3).toNat y) (o1 : fz_om n w x) (o2 : fz_om n w y) : fz_Xd h4 := by
  intro i hi
  rw [e4, e3, e2, e1]
  by_cases e : i = c
  · have a0 : 4 * i = (4 * k).toNat := by omega
    have a1 : 4 * i + 1 = (4 * k + 1).toNat := by omega
    have a2 : 4 * i + 2 = (4 * k + 2).toNat := by omega
    have a3 : 4 * i + 3 = (4 * k + 3).toNat := by omega
    have b0 : fz_up (fz_up (fz_up (fz_up h 80 (4 * k).toNat n) 80 (4 * k + 1).toNat w) 80 (4 * k + 2).toNat x) 80 (4 * k + 3).toNat y 80 (4 * i) = n := by
      rw [fz_up_s (by omega), fz_up_s (by omega), fz_up_s (by omega), a0, fz_up_e]
    have b1 : fz_up (fz_up (fz_up (fz_up h 80 (4 * k).toNat n) 80 (4 * k + 1).toNat w) 80 (4 * k + 2).toNat x) 80 (4 * k + 3).toNat y 80 (4 * i + 1) = w := by
      rw [fz_up_s (by omega), fz_up_s (by omega), a1, fz_up_e]
    have b2 : fz_up (fz_up (fz_up (fz_up h 80 (4 * k).toNat n) 80 (4 * k + 1).toNat w) 80 (4 * k + 2).toNat x) 80 (4 * k + 3).toNat y 80 (4 * i + 2) = x := by
      rw [fz_up_s (by omega), a2, fz_up_e]
    have b3 : fz_up (fz_up (fz_up (fz_up h 80 (4 * k).toNat n) 80 (4 * k + 1).toNat w) 80 (4 * k + 2).toNat x) 80 (4 * k + 3).toNat y 80 (4 * i + 3) = y := by
      rw [a3, fz_up_e]
    rw [b0, b1, b2, b3]
    exact ⟨o1, o2⟩
  · have := hx i hi e
    unfold fz_Xg at this
    rw [fz_up_s (by omega), fz_up_s (by omega), fz_up_s (by omega), fz_up_s (by omega), fz_up_s (by omega), fz_up_s (by omega), fz_up_s (by omega), fz_up_s (by omega), fz_up_s (by omega), fz_up_s (by omega), fz_up_s (by omega), fz_up_s (by omega), fz_up_s (by omega), fz_up_s (by omega), fz_up_s (by omega), fz_up_s (by omega)]
    exact this
