/-! ===== ways: walks, their weights ===== -/
def fz_wk (E : Nat → Nat → Int → Prop) (k : Nat) : Nat → Nat → Nat → Int → Prop
  | 0, a, b, L => a = b ∧ L = 0
  | m + 1, a, b, L => ∃ (c : Nat) (w L' : Int), E a c w ∧ fz_wk E k m c b L' ∧ L = w + L' ∧ (m = 0 ∨ c < k)
theorem fz_wk_nn {E : Nat → Nat → Int → Prop} {k : Nat} (hE : ∀ a b w, E a b w → 0 ≤ w) : ∀ {m a b : Nat} {L : Int}, fz_wk E k m a b L → 0 ≤ L
  | 0, _, _, L, h => by have := h.2; omega
  | m + 1, a, b, L, ⟨c, w, L', h1, h2, h3, _⟩ => by
    have a1 := hE _ _ _ h1
    have a2 := fz_wk_nn hE h2
    omega
theorem fz_wk_mono {E : Nat → Nat → Int → Prop} {k k' : Nat} (hk : k ≤ k') : ∀ {m a b : Nat} {L : Int}, fz_wk E k m a b L → fz_wk E k' m a b L
  | 0, _, _, _, h => h
  | m + 1, a, b, L, ⟨c, w, L', h1, h2, h3, h4⟩ => ⟨c, w, L', h1, fz_wk_mono hk h2, h3, h4.elim Or.inl (fun z => Or.inr (by omega))⟩
theorem fz_wk_res {E : Nat → Nat → Int → Prop} {k n : Nat} (hE : ∀ a b w, E a b w → b < n) : ∀ {m a b : Nat} {L : Int}, fz_wk E k m a b L → fz_wk E n m a b L
  | 0, _, _, _, h => h
  | m + 1, a, b, L, ⟨c, w, L', h1, h2, h3, _⟩ => ⟨c, w, L', h1, fz_wk_res hE h2, h3, Or.inr (hE _ _ _ h1)⟩
theorem fz_wk_app {E : Nat → Nat → Int → Prop} {n : Nat} (hE : ∀ a b w, E a b w → b < n) : ∀ {m1 m2 a b c : Nat} {L1 L2 : Int}, fz_wk E n m1 a b L1 → fz_wk E n m2 b c L2 → fz_wk E n (m1 + m2) a c (L1 + L2)
  | 0, m2, a, b, c, L1, L2, h, g => by
    obtain ⟨rfl, rfl⟩ := h
    rw [Nat.zero_add, Int.zero_add]
    exact g
  | m1 + 1, m2, a, b, c, L1, L2, ⟨d, w, L', h1, h2, h3, _⟩, g => by
    rw [Nat.add_right_comm]
    exact ⟨d, w, L' + L2, h1, fz_wk_app hE h2 g, by omega, Or.inr (hE _ _ _ h1)⟩
theorem fz_wk_split {E : Nat → Nat → Int → Prop} {k : Nat} : ∀ {m a b : Nat} {L : Int}, fz_wk E (k + 1) m a b L → fz_wk E k m a b L ∨ ∃ (m1 m2 : Nat) (L1 L2 : Int), fz_wk E k m1 a k L1 ∧ fz_wk E (k + 1) m2 k b L2 ∧ L = L1 + L2 ∧ m2 < m
  | 0, _, _, _, h => Or.inl h
  | m + 1, a, b, L, ⟨c, w, L', h1, h2, h3, h4⟩ => by
    by_cases hm : m = 0
    · subst hm
      exact Or.inl ⟨c, w, L', h1, h2, h3, Or.inl rfl⟩
    · have hc : c < k + 1 := h4.elim (fun z => absurd z hm) id
      by_cases e : c = k
      · subst e
        exact Or.inr ⟨1, m, w, L', ⟨c, w, 0, h1, ⟨rfl, rfl⟩, by omega, Or.inl rfl⟩, h2, h3, by omega⟩
      · rcases fz_wk_split h2 with z | ⟨m1, m2, L1, L2, z1, z2, z3, z4⟩
        · exact Or.inl ⟨c, w, L', h1, z, h3, Or.inr (by omega)⟩
        · exact Or.inr ⟨m1 + 1, m2, w + L1, L2, ⟨c, w, L1, h1, z1, rfl, Or.inr (by omega)⟩, z2, by omega, by omega⟩
/-- the matrix is at most each walk through towns below k -/
def fz_P (E : Nat → Nat → Int → Prop) (k n : Nat) (M : Nat → Int) : Prop := ∀ (m a b : Nat) (L : Int), a < n → b < n → fz_wk E k m a b L → M (8 * a + b) ≤ L
theorem fz_P_st {E : Nat → Nat → Int → Prop} {k n : Nat} {M : Nat → Int} (hE : ∀ a b w, E a b w → 0 ≤ w) (hP : fz_P E k n M) (hk : k < n) (hC : ∀ a b, a < n → b < n → M (8 * a + b) ≤ M (8 * a + k) + M (8 * k + b)) : fz_P E (k + 1) n M := by
  have aux : ∀ (q m : Nat), m < q → ∀ (b : Nat) (L : Int), b < n → fz_wk E (k + 1) m k b L → M (8 * k + b) ≤ L := by
    intro q
    induction q with
    | zero => intro m hm; omega
    | succ q ih =>
      intro m hm b L hb hw
      rcases fz_wk_split hw with z | ⟨m1, m2, L1, L2, z1, z2, z3, z4⟩
      · exact hP m k b L hk hb z
      · have a1 := ih m2 (by omega) b L2 hb z2
        have a2 := fz_wk_nn hE z1
        omega
  intro m a b L ha hb hw
  rcases fz_wk_split hw with z | ⟨m1, m2, L1, L2, z1, z2, z3, z4⟩
  · exact hP m a b L ha hb z
  · have a1 := hP m1 a k L1 ha hk z1
    have a2 := aux (m2 + 1) m2 (by omega) b L2 hb z2
    have a3 := hC a b ha hb
    omega
/-- each entry is the weight of a walk, or none -/
def fz_Wz (E : Nat → Nat → Int → Prop) (n : Nat) (M : Nat → Int) : Prop := ∀ a b, a < n → b < n → M (8 * a + b) = 1000000 ∨ (M (8 * a + b) < 1000000 ∧ ∃ m, fz_wk E n m a b (M (8 * a + b)))
def fz_Ed (E : Nat → Nat → Int → Prop) (n : Nat) : Prop := ∀ a b w, E a b w → 0 ≤ w ∧ a < n ∧ b < n
/-- while the ways are joined -/
def fz_JI (E : Nat → Nat → Int → Prop) (n : Nat) (M : Nat → Int) (k i j : Int) : Prop := fz_Ed E n ∧ n ≤ 8 ∧ fz_P E k.toNat n M ∧ fz_Wz E n M ∧ (∀ a, a < n → M (8 * a + a) = 0) ∧ (∀ s, 0 ≤ M s ∧ M s ≤ 1000000) ∧ ∀ a b, a < n → b < n → ((a : Int) < i ∨ ((a : Int) = i ∧ (b : Int) < j)) → M (8 * a + b) ≤ M (8 * a + k.toNat) + M (8 * k.toNat + b)
theorem fz_JI_no {E : Nat → Nat → Int → Prop} {n : Nat} {M : Nat → Int} {k i j x y z : Int} (J : fz_JI E n M k i j) (hi : 0 ≤ i ∧ 0 ≤ j ∧ 0 ≤ k) (ex : x = M (8 * i.toNat + k.toNat)) (ey : y = M (8 * k.toNat + j.toNat)) (ez : z = M (8 * i.toNat + j.toNat)) (h : z ≤ x + y) : fz_JI E n M k i (j + 1) := by
  obtain ⟨h1, h2, h3, h4, h5, h6, h7⟩ := J
  refine ⟨h1, h2, h3, h4, h5, h6, fun a b ha hb hab => ?_⟩
  by_cases e : (a : Int) = i ∧ (b : Int) = j
  · have e1 : a = i.toNat := by omega
    have e2 : b = j.toNat := by omega
    subst e1 e2
    omega
  · exact h7 a b ha hb (by omega)
theorem fz_JI_st {E : Nat → Nat → Int → Prop} {n : Nat} {M M' : Nat → Int} {k i j x y z : Int} (J : fz_JI E n M k i j) (hi : 0 ≤ i ∧ i < n ∧ 0 ≤ j ∧ j < n ∧ 0 ≤ k ∧ k < n) (ex : x = M (8 * i.toNat + k.toNat)) (ey : y = M (8 * k.toNat + j.toNat)) (ez : z = M (8 * i.toNat + j.toNat)) (h : x + y < z) (hM : ∀ s, M' s = if s = 8 * i.toNat + j.toNat then x + y else M s) : fz_JI E n M' k i (j + 1) := by
  obtain ⟨h1, h2, h3, h4, h5, h6, h7⟩ := J
  have ik : i.toNat ≠ k.toNat := fun e => by
    have := h5 k.toNat (by omega)
    rw [e] at ex ez
    omega
  have jk : j.toNat ≠ k.toNat := fun e => by
    have := h5 k.toNat (by omega)
    rw [e] at ey ez
    omega
  have le : ∀ s, M' s ≤ M s := fun s => by
    rw [hM]
    split
    · next e => rw [e, ← ez]; omega
    · exact Int.le_refl _
  have bx := h6 (8 * i.toNat + k.toNat)
  have by_ := h6 (8 * k.toNat + j.toNat)
  have bz := h6 (8 * i.toNat + j.toNat)
  have colk : ∀ a, a < n → M' (8 * a + k.toNat) = M (8 * a + k.toNat) := fun a ha => by
    rw [hM, if_neg (by omega)]
  have rowk : ∀ b, b < n → M' (8 * k.toNat + b) = M (8 * k.toNat + b) := fun b hb => by
    rw [hM, if_neg (by omega)]
  refine ⟨h1, h2, fun m a b L ha hb hw => Int.le_trans (le _) (h3 m a b L ha hb hw), fun a b ha hb => ?_, fun a ha => ?_, fun s => ?_, fun a b ha hb hab => ?_⟩
  · by_cases e : a = i.toNat ∧ b = j.toNat
    · obtain ⟨rfl, rfl⟩ := e
      rw [hM, if_pos rfl]
      right
      refine ⟨by omega, ?_⟩
      rcases h4 i.toNat k.toNat ha (by omega) with w1 | ⟨w1, m1, w2⟩
      · exfalso; omega
      · rcases h4 k.toNat j.toNat (by omega) hb with v1 | ⟨v1, m2, v2⟩
        · exfalso; omega
        · rw [ex, ey]
          exact ⟨m1 + m2, fz_wk_app (fun a b w q => (h1 a b w q).2.2) w2 v2⟩
    · rw [hM, if_neg (by omega)]
      exact h4 a b ha hb
  · by_cases e : 8 * a + a = 8 * i.toNat + j.toNat
    · exfalso
      have := h5 a ha
      rw [e, ← ez] at this
      omega
    · rw [hM, if_neg e]
      exact h5 a ha
  · rw [hM]
    split
    · omega
    · exact h6 s
  · rw [colk a ha, rowk b hb]
    by_cases e : a = i.toNat ∧ b = j.toNat
    · obtain ⟨rfl, rfl⟩ := e
      rw [hM, if_pos rfl]
      omega
    · have := h7 a b ha hb (by omega)
      have := le (8 * a + b)
      omega
theorem fz_JI_i {E : Nat → Nat → Int → Prop} {n : Nat} {M : Nat → Int} {k i j : Int} (J : fz_JI E n M k i j) (hj : (n : Int) ≤ j) : fz_JI E n M k (i + 1) 0 := by
  obtain ⟨h1, h2, h3, h4, h5, h6, h7⟩ := J
  exact ⟨h1, h2, h3, h4, h5, h6, fun a b ha hb hab => h7 a b ha hb (by omega)⟩
theorem fz_JI_k {E : Nat → Nat → Int → Prop} {n : Nat} {M : Nat → Int} {k i : Int} (J : fz_JI E n M k i 0) (hi : (n : Int) ≤ i) (hk : 0 ≤ k ∧ k < n) : fz_JI E n M (k + 1) 0 0 := by
  obtain ⟨h1, h2, h3, h4, h5, h6, h7⟩ := J
  have hP := fz_P_st (fun a b w q => (h1 a b w q).1) h3 (by omega) (fun a b ha hb => h7 a b ha hb (by omega))
  refine ⟨h1, h2, ?_, h4, h5, h6, fun a b ha hb hab => by exfalso; omega⟩
  rw [show (k + 1).toNat = k.toNat + 1 by omega]
  exact hP
/-- the matrix holds the least weights -/
def fz_Di (E : Nat → Nat → Int → Prop) (n : Nat) (M : Nat → Int) : Prop := fz_Ed E n ∧ n ≤ 8 ∧ fz_P E n n M ∧ fz_Wz E n M ∧ ∀ s, 0 ≤ M s ∧ M s ≤ 1000000
theorem fz_Di_in {E : Nat → Nat → Int → Prop} {n : Nat} {M : Nat → Int} {k : Int} (J : fz_JI E n M k 0 0) (hk : (n : Int) ≤ k) (h0 : k ≤ n) : fz_Di E n M := by
  obtain ⟨h1, h2, h3, h4, h5, h6, h7⟩ := J
  have e : k.toNat = n := by omega
  rw [e] at h3
  exact ⟨h1, h2, h3, h4, h6⟩
/-- before they are joined -/
theorem fz_JI_0 {E : Nat → Nat → Int → Prop} {n : Nat} {M : Nat → Int} (h1 : fz_Ed E n) (h2 : n ≤ 8) (hw : fz_Wz E n M) (hd : ∀ a, a < n → M (8 * a + a) = 0) (hb : ∀ s, 0 ≤ M s ∧ M s ≤ 1000000) (he : ∀ a b w, E a b w → M (8 * a + b) ≤ w) : fz_JI E n M 0 0 0 := by
  refine ⟨h1, h2, fun m a b L ha hb' hk => ?_, hw, hd, hb, fun a b ha hb hab => by exfalso; omega⟩
  match m, hk with
  | 0, ⟨e1, e2⟩ => subst e1 e2; exact Int.le_of_eq (hd a ha)
  | m + 1, ⟨c, w, L', g1, g2, g3, g4⟩ =>
    rcases g4 with z | z
    · subst z
      obtain ⟨e1, e2⟩ := g2
      subst e1 e2
      have := he _ _ _ g1
      omega
    · exfalso
      have : (0 : Int).toNat = 0 := rfl
      omega
/-! roads as edges -/
def fz_Eg (n : Int) (e1 e2 le cd : Nat → Int) (ca : Int) (a b : Nat) (w : Int) : Prop := ∃ r : Nat, (r : Int) < n ∧ (ca = 0 ∨ cd r = 1) ∧ ((e1 r = a ∧ e2 r = b) ∨ (e1 r = b ∧ e2 r = a)) ∧ w = 100 * (if ca = 0 then le r else (le r + 1) / 2) + 1
def fz_EC (h : fz_H) (ca : Int) : Nat → Nat → Int → Prop := fz_Eg (h 1 8) (h 5) (h 6) (h 3) (h 4) ca
def fz_EM (h : fz_H) (ca : Int) : Nat → Nat → Int → Prop := fz_Eg (h 53 2) (h 55) (h 56) (h 57) (h 58) ca
theorem fz_E_d {n : Int} {e1 e2 le cd : Nat → Int} {ca : Int} {t : Nat} (hl : ∀ r, 0 ≤ le r) (h1 : ∀ r : Nat, (r : Int) < n → e1 r < t ∧ e2 r < t) : fz_Ed (fz_Eg n e1 e2 le cd ca) t := by
  rintro a b w ⟨r, hr, _, hab, hw⟩
  have h := h1 r hr
  have hz := hl r
  refine ⟨?_, by omega, by omega⟩
  split at hw <;> omega
/-- the first r roads laid -/
def fz_Sh (n : Int) (e1 e2 le cd : Nat → Int) (ca : Int) (t : Nat) (M : Nat → Int) (r : Int) : Prop := (fz_Wz (fz_Eg n e1 e2 le cd ca) t M ∧ (∀ a, a < t → M (8 * a + a) = 0) ∧ ∀ a b, a < t → b < t → M (8 * a + b) = M (8 * b + a)) ∧ ∀ q : Nat, (q : Int) < r → (ca = 0 ∨ cd q = 1) → ∀ a b : Nat, ((e1 q = a ∧ e2 q = b) ∨ (e1 q = b ∧ e2 q = a)) → M (8 * a + b) ≤ 100 * (if ca = 0 then le q else (le q + 1) / 2) + 1
/-- nothing laid but 0 at each town -/
def fz_Di0 (t : Int) (M : Nat → Int) (i : Int) : Prop := ∀ a b : Nat, a < 8 → b < 8 → M (8 * a + b) = if a = b ∧ (a : Int) < i then 0 else 1000000
theorem fz_Di0_0 {t i : Int} {M : Nat → Int} (h : ∀ s, s < 64 → M s = 1000000) (hi : i = 0) : fz_Di0 t M i := fun a b ha hb => by
  rw [h _ (by omega), if_neg (by omega)]
theorem fz_Di0_st {t i : Int} {M M' : Nat → Int} (d : fz_Di0 t M i) (hi : 0 ≤ i ∧ i < 8) (hM : ∀ s, M' s = if s = 8 * i.toNat + i.toNat then 0 else M s) : fz_Di0 t M' (i + 1) := fun a b ha hb => by
  rw [hM]
  by_cases e : 8 * a + b = 8 * i.toNat + i.toNat
  · rw [if_pos e, if_pos (by omega)]
  · rw [if_neg e, d a b ha hb]
    by_cases q : a = b ∧ (a : Int) < i
    · rw [if_pos q, if_pos (by omega)]
    · rw [if_neg q, if_neg (by omega)]
theorem fz_Sh_0 {n : Int} {e1 e2 le cd : Nat → Int} {ca i r : Int} {t : Nat} {M : Nat → Int} (d : fz_Di0 t M i) (hi : (t : Int) ≤ i) (ht : t ≤ 8) (hr : r ≤ 0) : fz_Sh n e1 e2 le cd ca t M r := by
  refine ⟨⟨fun a b ha hb => ?_, fun a ha => ?_, fun a b ha hb => ?_⟩, fun q hq => by exfalso; omega⟩
  · rw [d a b (by omega) (by omega)]
    by_cases e : a = b
    · subst e
      rw [if_pos ⟨rfl, by omega⟩]
      exact Or.inr ⟨by decide, 0, rfl, rfl⟩
    · rw [if_neg (fun z => e z.1)]
      exact Or.inl rfl
  · rw [d a a (by omega) (by omega), if_pos ⟨rfl, by omega⟩]
  · rw [d a b (by omega) (by omega), d b a (by omega) (by omega)]
    by_cases e : a = b
    · subst e; rfl
    · rw [if_neg (fun z => e z.1), if_neg (fun z => e z.1.symm)]
theorem fz_Sh_no {n : Int} {e1 e2 le cd : Nat → Int} {ca r : Int} {t : Nat} {M : Nat → Int} (s : fz_Sh n e1 e2 le cd ca t M r) (h0 : 0 ≤ r) (hc : ca ≠ 0 ∧ cd r.toNat ≠ 1) : fz_Sh n e1 e2 le cd ca t M (r + 1) := by
  refine ⟨s.1, fun q hq c a b hab => ?_⟩
  by_cases e : (q : Int) = r
  · have : q = r.toNat := by omega
    subst this
    exfalso
    rcases c with c | c
    · exact hc.1 c
    · exact hc.2 c
  · exact s.2 q (by omega) c a b hab
theorem fz_Sh_st {n : Int} {e1 e2 le cd : Nat → Int} {ca r x y : Int} {t : Nat} {M M' : Nat → Int} (s : fz_Sh n e1 e2 le cd ca t M r) (h0 : 0 ≤ r ∧ r < n) (ht : t ≤ 8) (hc : ca = 0 ∨ cd r.toNat = 1) (he : 0 ≤ e1 r.toNat ∧ e1 r.toNat < t ∧ 0 ≤ e2 r.toNat ∧ e2 r.toNat < t) (hl : 0 ≤ le r.toNat ∧ le r.toNat ≤ 24) (ex : x = M (8 * (e1 r.toNat).toNat + (e2 r.toNat).toNat)) (ey : y = 100 * (if ca = 0 then le r.toNat else (le r.toNat + 1) / 2) + 1) (hM : ∀ q, M' q = if q = 8 * (e2 r.toNat).toNat + (e1 r.toNat).toNat then min x y else if q = 8 * (e1 r.toNat).toNat + (e2 r.toNat).toNat then min x y else M q) : fz_Sh n e1 e2 le cd ca t M' (r + 1) := by
  obtain ⟨⟨s1, s2, s3⟩, s4⟩ := s
  have hy : 1 ≤ y ∧ y < 1000000 := by rw [ey]; split <;> omega
  have hE : fz_Eg n e1 e2 le cd ca (e1 r.toNat).toNat (e2 r.toNat).toNat y := ⟨r.toNat, by omega, hc, Or.inl ⟨by omega, by omega⟩, ey⟩
  have hE2 : fz_Eg n e1 e2 le cd ca (e2 r.toNat).toNat (e1 r.toNat).toNat y := ⟨r.toNat, by omega, hc, Or.inr ⟨by omega, by omega⟩, ey⟩
  have x2 : x = M (8 * (e2 r.toNat).toNat + (e1 r.toNat).toNat) := by rw [ex]; exact s3 _ _ (by omega) (by omega)
  have le_ : ∀ q, M' q ≤ M q := fun q => by
    rw [hM]
    split
    · next e => rw [e, ← x2]; omega
    · split
      · next e => rw [e, ← ex]; omega
      · exact Int.le_refl _
  refine ⟨⟨fun a b ha hb => ?_, fun a ha => ?_, fun a b ha hb => ?_⟩, fun q hq c a b hab => ?_⟩
  · rw [hM]
    by_cases g1 : 8 * a + b = 8 * (e2 r.toNat).toNat + (e1 r.toNat).toNat
    · have a1 : a = (e2 r.toNat).toNat := by omega
      have a2 : b = (e1 r.toNat).toNat := by omega
      rw [if_pos g1]
      subst a1 a2
      by_cases m : x ≤ y
      · rw [show min x y = x by omega, x2]
        exact s1 _ _ ha hb
      · rw [show min x y = y by omega]
        exact Or.inr ⟨by omega, 1, _, _, 0, hE2, ⟨rfl, rfl⟩, by omega, Or.inl rfl⟩
    · rw [if_neg g1]
      by_cases g2 : 8 * a + b = 8 * (e1 r.toNat).toNat + (e2 r.toNat).toNat
      · have a1 : a = (e1 r.toNat).toNat := by omega
        have a2 : b = (e2 r.toNat).toNat := by omega
        rw [if_pos g2]
        subst a1 a2
        by_cases m : x ≤ y
        · rw [show min x y = x by omega, ex]
          exact s1 _ _ ha hb
        · rw [show min x y = y by omega]
          exact Or.inr ⟨by omega, 1, _, _, 0, hE, ⟨rfl, rfl⟩, by omega, Or.inl rfl⟩
      · rw [if_neg g2]
        exact s1 a b ha hb
  · have d := s2 a ha
    rw [hM]
    by_cases g1 : 8 * a + a = 8 * (e2 r.toNat).toNat + (e1 r.toNat).toNat
    · rw [if_pos g1]
      rw [g1, ← x2] at d
      omega
    · rw [if_neg g1]
      by_cases g2 : 8 * a + a = 8 * (e1 r.toNat).toNat + (e2 r.toNat).toNat
      · rw [if_pos g2]
        rw [g2, ← ex] at d
        omega
      · rw [if_neg g2]
        exact d
  · rw [hM, hM]
    by_cases g1 : 8 * a + b = 8 * (e2 r.toNat).toNat + (e1 r.toNat).toNat
    · rw [if_pos g1]
      by_cases g3 : 8 * b + a = 8 * (e2 r.toNat).toNat + (e1 r.toNat).toNat
      · rw [if_pos g3]
      · rw [if_neg g3, if_pos (by omega)]
    · rw [if_neg g1]
      by_cases g2 : 8 * a + b = 8 * (e1 r.toNat).toNat + (e2 r.toNat).toNat
      · rw [if_pos g2, if_pos (by omega)]
      · rw [if_neg g2, if_neg (by omega), if_neg (by omega)]
        exact s3 a b ha hb
  · by_cases e : (q : Int) = r
    · have : q = r.toNat := by omega
      subst this
      rw [← ey, hM]
      rcases hab with ⟨w1, w2⟩ | ⟨w1, w2⟩
      · split
        · omega
        · rw [if_pos (by omega)]; omega
      · rw [if_pos (by omega)]; omega
    · exact Int.le_trans (le_ _) (s4 q (by omega) c a b hab)
theorem fz_Sh_J {n : Int} {e1 e2 le cd : Nat → Int} {ca r : Int} {t : Nat} {M : Nat → Int} (s : fz_Sh n e1 e2 le cd ca t M r) (hr : n ≤ r) (hd : fz_Ed (fz_Eg n e1 e2 le cd ca) t) (ht : t ≤ 8) (hb : ∀ s, 0 ≤ M s ∧ M s ≤ 1000000) : fz_JI (fz_Eg n e1 e2 le cd ca) t M 0 0 0 := by
  refine fz_JI_0 hd ht s.1.1 s.1.2.1 hb ?_
  rintro a b w ⟨q, hq, hc, hab, hw⟩
  rw [hw]
  exact s.2 q (by omega) hc a b hab
/-! the class's matrices -/
theorem fz_up_M {H H1 : fz_H} {c i q : Nat} {v w : Int} (e : H1 = fz_up H c i v) (hi : i = q) (hv : v = w) : ∀ s, H1 c s = if s = q then w else H c s := fun s => by
  subst hi hv
  rw [e]
  unfold fz_up
  simp
theorem fz_up_Ma {H H1 H2 : fz_H} {c c2 i i2 q : Nat} {v v2 w : Int} (e1 : H1 = fz_up H c i v) (e2 : H2 = fz_up H1 c2 i2 v2) (n : c ≠ c2) (hi : i = q) (hv : v = w) : ∀ s, H2 c s = if s = q then w else H c s := by
  rw [e2, fz_up_ne n]
  exact fz_up_M e1 hi hv
theorem fz_up_Mb {H H1 H2 : fz_H} {c c2 i i2 q : Nat} {v v2 w : Int} (e1 : H1 = fz_up H c i v) (e2 : H2 = fz_up H1 c2 i2 v2) (n : c2 ≠ c) (hi : i2 = q) (hv : v2 = w) : ∀ s, H2 c2 s = if s = q then w else H c2 s := fun s => by
  subst hi hv
  rw [e2, e1]
  unfold fz_up
  simp [n]
theorem fz_fi_st {H H1 : fz_H} {c : Nat} {i v : Int} (f : ∀ s : Nat, (s : Int) < i → H c s = v) (e : H1 = fz_up H c i.toNat v) (hi : 0 ≤ i) : ∀ s : Nat, (s : Int) < i + 1 → H1 c s = v := fun s hs => by
  rw [e]
  by_cases q : s = i.toNat
  · rw [q, fz_up_e]
  · rw [fz_up_s q]
    exact f s (by omega)
def fz_shC (c : Nat) (h h' : fz_H) (rd hr : Int) : Prop := ∀ q, h' c q = if q = 8 * (h 6 rd.toNat).toNat + (h 5 rd.toNat).toNat then min (h c (8 * (h 5 rd.toNat).toNat + (h 6 rd.toNat).toNat)) (100 * hr + 1) else if q = 8 * (h 5 rd.toNat).toNat + (h 6 rd.toNat).toNat then min (h c (8 * (h 5 rd.toNat).toNat + (h 6 rd.toNat).toNat)) (100 * hr + 1) else h c q
theorem fz_shC_in {h H1 H2 : fz_H} {c : Nat} {rd hr i1 i2 w : Int} (e1 : H1 = fz_up h c i1.toNat w) (e2 : H2 = fz_up H1 c i2.toNat w) (h1 : i1.toNat = 8 * (h 5 rd.toNat).toNat + (h 6 rd.toNat).toNat) (h2 : i2.toNat = 8 * (h 6 rd.toNat).toNat + (h 5 rd.toNat).toNat) (hw : w = min (h c (8 * (h 5 rd.toNat).toNat + (h 6 rd.toNat).toNat)) (100 * hr + 1)) : fz_shC c h H2 rd hr := fun q => by
  rw [h1] at e1
  rw [h2] at e2
  rw [← hw, e2, e1]
  unfold fz_up
  simp
def fz_s5 (h G : fz_H) : Prop := G 1 8 = h 1 8 ∧ G 1 7 = h 1 7 ∧ G 5 = h 5 ∧ G 6 = h 6 ∧ G 3 = h 3 ∧ G 4 = h 4
theorem fz_EC_e {h G : fz_H} {ca : Int} (s : fz_s5 h G) : fz_EC G ca = fz_EC h ca := by
  obtain ⟨a, -, b, c, d, e⟩ := s
  unfold fz_EC
  rw [a, b, c, d, e]
theorem fz_Di_t {h G H : fz_H} {ca : Int} {M M' : Nat → Int} (d : fz_Di (fz_EC G ca) (G 1 7).toNat M) (g : fz_s5 h G) (k : fz_s5 h H) (e : M' = M) : fz_Di (fz_EC H ca) (H 1 7).toNat M' := by
  rw [fz_EC_e k, k.2.1, e, ← fz_EC_e g, ← g.2.1]
  exact d
theorem fz_Sh_e {n : Int} {e1 e2 le cd : Nat → Int} {ca r : Int} {t : Nat} {M M' : Nat → Int} (s : fz_Sh n e1 e2 le cd ca t M r) (e : M' = M) : fz_Sh n e1 e2 le cd ca t M' r := by rw [e]; exact s
theorem fz_Sh_sh {h G G' : fz_H} {c t : Nat} {ca r hr : Int} (s : fz_Sh (h 1 8) (h 5) (h 6) (h 3) (h 4) ca t (G c) r) (sh : fz_shC c G G' r hr) (f5 : G 5 = h 5) (f6 : G 6 = h 6) (h0 : 0 ≤ r ∧ r < h 1 8) (ht : t ≤ 8) (hc : ca = 0 ∨ h 4 r.toNat = 1) (he : 0 ≤ h 5 r.toNat ∧ h 5 r.toNat < t ∧ 0 ≤ h 6 r.toNat ∧ h 6 r.toNat < t) (hl : 0 ≤ h 3 r.toNat ∧ h 3 r.toNat ≤ 24) (ey : hr = if ca = 0 then h 3 r.toNat else (h 3 r.toNat + 1) / 2) : fz_Sh (h 1 8) (h 5) (h 6) (h 3) (h 4) ca t (G' c) (r + 1) := by
  unfold fz_shC at sh
  rw [f5, f6] at sh
  exact fz_Sh_st s h0 ht hc he hl rfl (by rw [ey]) sh
theorem fz_RV_J {h H : fz_H} {c t : Nat} {ca : Int} {r : Int} (k : fz_s5 h H) (s : fz_Sh (h 1 8) (h 5) (h 6) (h 3) (h 4) ca t (H c) r) (ht : t = (h 1 7).toNat) (hr : h 1 8 ≤ r) (h8 : h 1 7 ≤ 8) (hl : ∀ r, 0 ≤ h 3 r) (hE : fz_RE h) (hb : ∀ s, 0 ≤ H c s ∧ H c s ≤ 1000000) (h5 : ∀ r, 0 ≤ h 5 r ∧ 0 ≤ h 6 r) : fz_JI (fz_EC H ca) (H 1 7).toNat (H c) 0 0 0 := by
  rw [fz_EC_e k, k.2.1, ← ht]
  refine fz_Sh_J s hr (fz_E_d hl (fun r hr => ?_)) (by omega) hb
  have a := hE r hr
  have b := h5 r
  omega
/-- the ways kept are the least -/
def fz_RV (h : fz_H) : Prop := fz_Di (fz_EC h 0) (h 1 7).toNat (h 7) ∧ fz_Di (fz_EC h 1) (h 1 7).toNat (h 8)
theorem fz_RV_eq {h h' : fz_H} (e7 : h' 7 = h 7) (e8 : h' 8 = h 8) (e3 : h' 3 = h 3) (e4 : h' 4 = h 4) (e5 : h' 5 = h 5) (e6 : h' 6 = h 6) (a : h' 1 7 = h 1 7) (b : h' 1 8 = h 1 8) (hR : fz_RV h) : fz_RV h' := by
  have k : fz_s5 h h' := ⟨b, a, e5, e6, e3, e4⟩
  unfold fz_RV
  rw [fz_EC_e k, fz_EC_e k, a, e7, e8]
  exact hR
theorem fz_RV_in {h G7 G8 A7 A8 H : fz_H} (d7 : fz_Di (fz_EC G7 0) (G7 1 7).toNat (A7 7)) (d8 : fz_Di (fz_EC G8 1) (G8 1 7).toNat (A8 8)) (g7 : fz_s5 h G7) (g8 : fz_s5 h G8) (k : fz_s5 h H) (e7 : H 7 = A7 7) (e8 : H 8 = A8 8) : fz_RV H := ⟨fz_Di_t d7 g7 k e7, fz_Di_t d8 g8 k e8⟩
/-! ways compared -/
def fz_hr (M : Int) : Int := if 1000000 ≤ M then -2 else M / 100
def fz_rr (M : Int) : Int := if 1000000 ≤ M then -2 else M % 100
theorem fz_hr_y {h : fz_H} {c : Nat} {i j : Int} (e : i = j) (hx : h c i.toNat < 1000000) : h c i.toNat / 100 = fz_hr (h c j.toNat) := by subst e; unfold fz_hr; rw [if_neg (by omega)]
theorem fz_hr_n {h : fz_H} {c : Nat} {i j : Int} (e : i = j) (hx : 1000000 ≤ h c i.toNat) : -2 = fz_hr (h c j.toNat) := by subst e; unfold fz_hr; rw [if_pos hx]
theorem fz_rr_y {h : fz_H} {c : Nat} {i j : Int} (e : i = j) (hx : h c i.toNat < 1000000) : h c i.toNat % 100 = fz_rr (h c j.toNat) := by subst e; unfold fz_rr; rw [if_neg (by omega)]
theorem fz_rr_n {h : fz_H} {c : Nat} {i j : Int} (e : i = j) (hx : 1000000 ≤ h c i.toNat) : -2 = fz_rr (h c j.toNat) := by subst e; unfold fz_rr; rw [if_pos hx]
/-! heard -/
def fz_hh (x a d : Int) : Int := if x < 0 then -2 else a + x + d
def fz_haC (h : fz_H) (d t : Int) : Int := fz_hh (fz_hr (h 8 (8 * h 11 d.toNat + t).toNat)) (h 12 d.toNat) (h 2 t.toNat)
theorem fz_hh_n {x a d y : Int} (e : x = y) (h : x < 0) : -2 = fz_hh y a d := by subst e; unfold fz_hh; rw [if_pos h]
theorem fz_hh_y {x a d y z : Int} (e : x = y) (h : 0 ≤ x) (hz : z = a + x + d) : z = fz_hh y a d := by subst e hz; unfold fz_hh; rw [if_neg (by omega)]
def fz_wyO (h : fz_H) (ab wh : Int) : Prop := 0 ≤ ab ∧ ab / 10 < h 1 7 ∧ ab % 10 < h 1 7 ∧ 0 ≤ wh ∧ wh ≤ 1
def fz_wyC (h : fz_H) (ab wh r : Int) : Prop := (¬ fz_wyO h ab wh ∧ r = -1) ∨ (fz_wyO h ab wh ∧ wh = 0 ∧ r = fz_hr (h 7 (8 * (ab / 10) + ab % 10).toNat)) ∨ (fz_wyO h ab wh ∧ wh = 1 ∧ r = fz_hr (h 8 (8 * (ab / 10) + ab % 10).toNat))
/-! words drawn -/
theorem fz_ush_8 {x : Int} : 0 ≤ fz_ush x 8 ∧ fz_ush x 8 ≤ 16777215 := by
  have e : fz_ush x 8 = ((BitVec.ofInt 32 x) >>> 8).toInt := rfl
  have e2 : ((BitVec.ofInt 32 x) >>> 8).toNat ≤ 16777215 := by
    rw [BitVec.toNat_ushiftRight, Nat.shiftRight_eq_div_pow]
    have := (BitVec.ofInt 32 x).isLt
    omega
  rw [e, BitVec.toInt_eq_toNat_of_lt (by omega)]
  omega
def fz_z1 (z : Int) : Int := fz_w (fz_w (z * 1103515245) + 12345)
def fz_d1 (g : Int) : Nat → Int × Int → Int × Int
  | 0, s => s
  | k + 1, s => (fz_z1 (fz_d1 g k s).1, if fz_ush (fz_z1 (fz_d1 g k s).1) 8 % 12 < g then ((fz_d1 g k s).2 + 1) % 5 else (fz_d1 g k s).2)
theorem fz_d1_y {g z m k : Int} {s : Int × Int} (e : (z, m) = fz_d1 g k.toNat s) (hk : 0 ≤ k) (h : fz_ush (fz_w (fz_w (z * 1103515245) + 12345)) 8 % 12 < g) : (fz_w (fz_w (z * 1103515245) + 12345), (m + 1) % 5) = fz_d1 g (k + 1).toNat s := by
  rw [show (k + 1).toNat = k.toNat + 1 by omega]
  unfold fz_d1
  rw [← e, if_pos (show fz_ush (fz_z1 z) 8 % 12 < g from h)]
  rfl
theorem fz_d1_n {g z m k : Int} {s : Int × Int} (e : (z, m) = fz_d1 g k.toNat s) (hk : 0 ≤ k) (h : ¬ fz_ush (fz_w (fz_w (z * 1103515245) + 12345)) 8 % 12 < g) : (fz_w (fz_w (z * 1103515245) + 12345), m) = fz_d1 g (k + 1).toNat s := by
  rw [show (k + 1).toNat = k.toNat + 1 by omega]
  unfold fz_d1
  rw [← e, if_neg (show ¬ fz_ush (fz_z1 z) 8 % 12 < g from h)]
  rfl
def fz_d2 (g m0 : Int) (rd : Nat) : Nat → Int × Int × Int → Int × Int × Int
  | 0, s => s
  | w + 1, s => ((fz_d1 g rd ((fz_d2 g m0 rd w s).1, m0)).1, (fz_d2 g m0 rd w s).2.1 + (if (fz_d1 g rd ((fz_d2 g m0 rd w s).1, m0)).2 = m0 then 1 else 0), (fz_d2 g m0 rd w s).2.2 + (fz_d1 g rd ((fz_d2 g m0 rd w s).1, m0)).2)
theorem fz_d2_st {g m0 z0 a b w z m a' b' k rd : Int} {s : Int × Int × Int} (e : (z0, a, b) = fz_d2 g m0 rd.toNat w.toNat s) (hw : 0 ≤ w) (e1 : (z, m) = fz_d1 g k.toNat (z0, m0)) (hk : k = rd) (ha : a' = a + (if m = m0 then 1 else 0)) (hb : b' = b + m) : (z, a', b') = fz_d2 g m0 rd.toNat (w + 1).toNat s := by
  subst hk ha hb
  rw [show (w + 1).toNat = w.toNat + 1 by omega]
  unfold fz_d2
  rw [← e, ← e1]
def fz_d3 (g m0 rd n wh se : Int) : Int := if wh = 0 then (fz_d2 g m0 rd.toNat n.toNat (se, 0, 0)).2.1 else (fz_d2 g m0 rd.toNat n.toNat (se, 0, 0)).2.2
theorem fz_d3_0 {g m0 rd n wh se z a b k : Int} (e : (z, a, b) = fz_d2 g m0 rd.toNat k.toNat (se, 0, 0)) (hk : k = n) (h : wh = 0) : a = fz_d3 g m0 rd n wh se := by
  subst hk
  unfold fz_d3
  rw [if_pos h, ← e]
theorem fz_d3_1 {g m0 rd n wh se z a b k : Int} (e : (z, a, b) = fz_d2 g m0 rd.toNat k.toNat (se, 0, 0)) (hk : k = n) (h : wh ≠ 0) : b = fz_d3 g m0 rd n wh se := by
  subst hk
  unfold fz_d3
  rw [if_neg h, ← e]
def fz_dwO (a b d t nw : Int) : Prop := 0 ≤ d ∧ d < a ∧ 0 ≤ t ∧ t < b ∧ 10 ≤ nw ∧ nw / 10 ≤ 50 ∧ nw % 10 ≤ 1
/-- what both answer, x: the roads -/
def fz_dw (a b g m0 x d t se nw r : Int) : Prop := (¬ fz_dwO a b d t nw ∧ r = -1) ∨ (fz_dwO a b d t nw ∧ x < 0 ∧ r = 0) ∨ (fz_dwO a b d t nw ∧ 0 ≤ x ∧ r = fz_d3 g m0 x (nw / 10) (nw % 10) se)
theorem fz_dw_eq {a b g m0 x y d t se nw r q : Int} (c : fz_dw a b g m0 x d t se nw r) (m : fz_dw a b g m0 y d t se nw q) (e : fz_dwO a b d t nw → x = y) : r = q := by
  rcases c with ⟨c0, c1⟩ | ⟨c0, c1, c2⟩ | ⟨c0, c1, c2⟩
  · rcases m with ⟨m0, m1⟩ | ⟨m0, m1⟩ | ⟨m0, m1⟩
    · omega
    · exact absurd m0 c0
    · exact absurd m0 c0
  · have := e c0
    rcases m with ⟨m0, m1⟩ | ⟨m0, m1, m2⟩ | ⟨m0, m1, m2⟩
    · exact absurd c0 m0
    · omega
    · exfalso; omega
  · have z := e c0
    rcases m with ⟨m0, m1⟩ | ⟨m0, m1, m2⟩ | ⟨m0, m1, m2⟩
    · exact absurd c0 m0
    · exfalso; omega
    · rw [c2, m2, z]
def fz_dwC (h : fz_H) (d t se nw r : Int) : Prop := fz_dw (h 9 5) (h 1 7) (h 27 9) (h 13 d.toNat) (fz_rr (h 8 (8 * h 11 d.toNat + t).toNat)) d t se nw r
