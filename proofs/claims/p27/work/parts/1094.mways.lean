/-! ===== the model's ways: what ends the search ===== -/
def fz_sm (p : Nat → Int) : Nat → Int
  | 0 => 0
  | n + 1 => fz_sm p n + p n
theorem fz_sm_eq {p q : Nat → Int} : ∀ {n : Nat}, (∀ j, j < n → q j = p j) → fz_sm q n = fz_sm p n
  | 0, _ => rfl
  | n + 1, hq => by
    unfold fz_sm
    rw [fz_sm_eq (n := n) (fun j hj => hq j (by omega)), hq n (by omega)]
theorem fz_sm_up {p q : Nat → Int} {b : Nat} (hq : ∀ j, j ≠ b → q j = p j) : ∀ {n : Nat}, b < n → fz_sm q n = fz_sm p n - p b + q b
  | 0, hb => by omega
  | n + 1, hb => by
    unfold fz_sm
    by_cases e : b = n
    · rw [fz_sm_eq (p := p) (q := q) (n := n) (fun j hj => hq j (by omega)), e]
      omega
    · rw [fz_sm_up hq (n := n) (by omega), hq n (by omega)]
      omega
theorem fz_sm_b {p : Nat → Int} {l u : Int} (hp : ∀ j, l ≤ p j ∧ p j ≤ u) : ∀ n : Nat, l * n ≤ fz_sm p n ∧ fz_sm p n ≤ u * n
  | 0 => by unfold fz_sm; omega
  | n + 1 => by
    have h1 := fz_sm_b hp n
    have h2 := hp n
    unfold fz_sm
    rw [Int.natCast_add, Int.mul_add, Int.mul_add]
    omega
/-- how many are reached -/
def fz_na (h : fz_H) : Int := fz_sm (fun j => if h 86 j = -2 then 0 else 1) 8
/-- what each step of the search lessens -/
def fz_ph (h : fz_H) (j : Nat) : Int := if h 86 j = -2 then 10000000000000 else ((h 86 j * 8589934592 + h 87 j + 2147483648).toNat : Int)
def fz_mu (h : fz_H) : Int := fz_sm (fz_ph h) 8
theorem fz_mu_nn (h : fz_H) : 0 ≤ fz_mu h := by
  have : ∀ n, 0 ≤ fz_sm (fz_ph h) n := by
    intro n
    induction n with
    | zero => exact Int.le_refl 0
    | succ n ih =>
      unfold fz_sm
      have : 0 ≤ fz_ph h n := by unfold fz_ph; split <;> omega
      omega
  exact this 8
theorem fz_na_b (h : fz_H) : 0 ≤ fz_na h ∧ fz_na h ≤ 8 := by
  have := fz_sm_b (p := fun j => if h 86 j = -2 then 0 else 1) (l := 0) (u := 1) (fun j => by split <;> omega) 8
  unfold fz_na
  omega
def fz_J (h : fz_H) : Prop := ∀ j : Nat, j < 8 → h 86 j = -2 ∨ (0 ≤ h 86 j ∧ h 86 j ≤ 24 * fz_na h)
theorem fz_J_eq {h h' : fz_H} (e : h' 86 = h 86) (hJ : fz_J h) : fz_J h' := by
  have e2 : fz_na h' = fz_na h := by unfold fz_na; rw [e]
  intro j hj
  rw [e, e2]
  exact hJ j hj
theorem fz_J_b {h : fz_H} {x : Int} (hJ : fz_J h) (hx : 0 ≤ x ∧ x ≤ 7) : h 86 x.toNat = -2 ∨ (0 ≤ h 86 x.toNat ∧ h 86 x.toNat ≤ 192) := by
  have h1 := hJ x.toNat (by omega)
  have h2 := fz_na_b h
  omega
theorem fz_J_st {h : fz_H} {a b : Nat} {v l : Int} (hJ : fz_J h) (ha : a < 8) (hb : b < 8) (h0 : h 86 a ≠ -2) (hl : 0 ≤ l ∧ l ≤ 24) (hv : v = h 86 a + l) (hc : h 86 b = -2 ∨ v ≤ h 86 b) : fz_J (fz_up h 86 b v) := by
  have a1 := hJ a ha
  have b1 := hJ b hb
  have n1 : fz_na (fz_up h 86 b v) = fz_na h - (if h 86 b = -2 then 0 else 1) + (if fz_up h 86 b v 86 b = -2 then 0 else 1) :=
    fz_sm_up (p := fun j => if h 86 j = -2 then 0 else 1) (q := fun j => if fz_up h 86 b v 86 j = -2 then 0 else 1) (b := b) (fun j hj => by rw [fz_up_s hj]) hb
  rw [fz_up_e, if_neg (show ¬ v = -2 by omega)] at n1
  intro j hj
  by_cases e : j = b
  · rw [e, fz_up_e, n1]
    right
    by_cases c : h 86 b = -2
    · rw [if_pos c]; omega
    · rw [if_neg c]; omega
  · rw [fz_up_s e, n1]
    have j1 := hJ j hj
    by_cases c : h 86 b = -2
    · rw [if_pos c]; omega
    · rw [if_neg c]; omega
/-- all unreached so far -/
def fz_K (h : fz_H) (i : Int) : Prop := ∀ j : Nat, (j : Int) < i → h 86 j = -2
theorem fz_K_st {h : fz_H} {i : Int} (hK : fz_K h i) (hi : 0 ≤ i) : fz_K (fz_up h 86 i.toNat (-2)) (i + 1) := by
  intro j hj
  by_cases e : j = i.toNat
  · rw [e, fz_up_e]
  · rw [fz_up_s e]
    exact hK j (by omega)
theorem fz_J_0 {h : fz_H} {i : Int} {b : Nat} (hK : fz_K h i) (hi : 8 ≤ i) (hb : b < 8) : fz_J (fz_up h 86 b 0) := by
  have n2 := fz_na_b (fz_up h 86 b 0)
  intro j hj
  by_cases e : j = b
  · rw [e, fz_up_e]; right; omega
  · rw [fz_up_s e]; exact Or.inl (hK j (by omega))
theorem fz_mu_st {h h1 h2 : fz_H} {b : Nat} {v w : Int} (hb : b < 8) (hw : -2147483648 ≤ w ∧ w < 2147483648) (hs : -2147483648 ≤ h 87 b ∧ h 87 b ≤ 2147483647) (hv : 0 ≤ v ∧ v ≤ 216) (hr : h 86 b = -2 ∨ (0 ≤ h 86 b ∧ v < h 86 b) ∨ (v = h 86 b ∧ w < h 87 b)) (e1 : h1 = fz_up h 86 b v) (e2 : h2 = fz_up h1 87 b w) : fz_mu h2 + 1 ≤ fz_mu h := by
  have f1 : h2 86 b = v := by rw [e2, fz_up_o (by decide), e1, fz_up_e]
  have f2 : h2 87 b = w := by rw [e2, fz_up_e]
  have n1 : fz_mu h2 = fz_mu h - fz_ph h b + fz_ph h2 b := by
    refine fz_sm_up (b := b) (fun j hj => ?_) hb
    have g1 : h2 86 j = h 86 j := by rw [e2, fz_up_o (by decide), e1, fz_up_s hj]
    have g2 : h2 87 j = h 87 j := by rw [e2, fz_up_s hj, e1, fz_up_o (by decide)]
    unfold fz_ph
    rw [g1, g2]
  have p2 : fz_ph h2 b = v * 8589934592 + w + 2147483648 := by
    unfold fz_ph
    rw [f1, f2, if_neg (by omega)]
    omega
  have p1 : v * 8589934592 + w + 2147483648 + 1 ≤ fz_ph h b := by
    unfold fz_ph
    by_cases c : h 86 b = -2
    · rw [if_pos c]; omega
    · rw [if_neg c]; omega
  omega
