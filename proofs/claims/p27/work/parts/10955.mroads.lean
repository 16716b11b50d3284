/-! ===== the model's ways: by how many roads at most ===== -/
/-- each label stands for a way through towns that are all others, none of them reached later -/
def fz_Jk (h : fz_H) : Prop := ∀ b : Nat, b < 8 → h 86 b = -2 ∨ ∃ S : Nat → Bool, S b = true ∧ fz_sm (fun j => if S j = true then 1 else 0) 8 = h 87 b + 1 ∧ ∀ c, c < 8 → S c = true → h 86 c ≠ -2 ∧ (h 86 c < h 86 b ∨ (h 86 c = h 86 b ∧ h 87 c ≤ h 87 b))
theorem fz_Jk_eq {h h' : fz_H} (e1 : h' 86 = h 86) (e2 : h' 87 = h 87) (hJ : fz_Jk h) : fz_Jk h' := by
  intro b hb
  rw [e1, e2]
  exact hJ b hb
theorem fz_Jk_n {h : fz_H} {b : Nat} (hJ : fz_Jk h) (hb : b < 8) : h 86 b = -2 ∨ (-1 ≤ h 87 b ∧ h 87 b ≤ 7) := by
  rcases hJ b hb with z | ⟨S, _, z, _⟩
  · exact Or.inl z
  · have := fz_sm_b (p := fun j => if S j = true then 1 else 0) (l := 0) (u := 1) (fun j => by split <;> omega) 8
    exact Or.inr (by omega)
theorem fz_Jk_b {h : fz_H} {x : Int} (hJ : fz_Jk h) (hx : 0 ≤ x ∧ x ≤ 7) : h 86 x.toNat = -2 ∨ (-1 ≤ h 87 x.toNat ∧ h 87 x.toNat ≤ 7) := fz_Jk_n hJ (by omega)
theorem fz_Jk_st {h h1 h2 : fz_H} {a b : Nat} {v w l : Int} (hJ : fz_Jk h) (ha : a < 8) (hb : b < 8) (h0 : h 86 a ≠ -2) (hl : 0 ≤ l) (hv : v = h 86 a + l) (hv0 : 0 ≤ v) (hw : w = fz_w (h 87 a + 1)) (hr : h 86 b = -2 ∨ v < h 86 b ∨ (v = h 86 b ∧ w < h 87 b)) (e1 : h1 = fz_up h 86 b v) (e2 : h2 = fz_up h1 87 b w) : fz_Jk h2 := by
  have na := fz_Jk_n hJ ha
  have hw1 : w = h 87 a + 1 := by rw [hw]; exact fz_w_id (by omega) (by omega)
  have f1 : h2 86 b = v := by rw [e2, fz_up_o (by decide), e1, fz_up_e]
  have f2 : h2 87 b = w := by rw [e2, fz_up_e]
  have g1 : ∀ j, j ≠ b → h2 86 j = h 86 j := fun j hj => by rw [e2, fz_up_o (by decide), e1, fz_up_s hj]
  have g2 : ∀ j, j ≠ b → h2 87 j = h 87 j := fun j hj => by rw [e2, fz_up_s hj, e1, fz_up_o (by decide)]
  rcases hJ a ha with z | ⟨S, s1, s2, s3⟩
  · exact absurd z h0
  have nb : S b = false := by
    cases hs : S b with
    | false => rfl
    | true => exfalso; have := s3 b hb hs; omega
  have hab : a ≠ b := fun z => by rw [z, nb] at s1; cases s1
  intro c hc
  by_cases e : c = b
  · right
    refine ⟨fun j => S j || decide (j = b), by simp [e], ?_, ?_⟩
    · have k := fz_sm_up (p := fun j => if S j = true then 1 else 0) (q := fun j => if (S j || decide (j = b)) = true then 1 else 0) (b := b) (fun j hj => by simp [hj]) hb
      rw [k]
      rw [e, f2, s2, nb, hw1]
      first | (simp; done) | (simp; omega)
    · intro j hj hs
      rw [e, f1, f2]
      by_cases ej : j = b
      · rw [ej, f1, f2]
        exact ⟨by omega, by omega⟩
      · have hs2 : S j = true := by simpa [ej] using hs
        rw [g1 j ej, g2 j ej]
        have := s3 j hj hs2
        exact ⟨this.1, by omega⟩
  · rw [g1 c e, g2 c e]
    rcases hJ c hc with z | ⟨T, t1, t2, t3⟩
    · exact Or.inl z
    · refine Or.inr ⟨T, t1, t2, ?_⟩
      intro j hj hs
      have := t3 j hj hs
      by_cases ej : j = b
      · rw [ej] at this
        rw [ej, f1, f2]
        exact ⟨by omega, by omega⟩
      · rw [g1 j ej, g2 j ej]
        exact this
theorem fz_Jk_0 {h h1 h2 : fz_H} {i : Int} {b : Nat} (hK : fz_K h i) (hi : 8 ≤ i) (hb : b < 8) (e1 : h1 = fz_up h 86 b 0) (e2 : h2 = fz_up h1 87 b 0) : fz_Jk h2 := by
  intro c hc
  by_cases e : c = b
  · right
    refine ⟨fun j => decide (j = b), by simp [e], ?_, ?_⟩
    · rw [e, e2, fz_up_e]
      have k := fz_sm_up (p := fun _ => 0) (q := fun j => if decide (j = b) = true then 1 else 0) (b := b) (fun j hj => by simp [hj]) hb
      rw [k]
      simp [fz_sm]
    · intro j hj hs
      have ej : j = b := by simpa using hs
      rw [e, ej, e2, fz_up_o (by decide), e1, fz_up_e]
      exact ⟨by decide, by omega⟩
  · left
    rw [e2, fz_up_o (by decide), e1, fz_up_s e]
    exact hK c (by omega)
section FZ
variable {d : Nat} {M : fz_M} {pc a b w : Nat} {ls ls' : List (Nat × fz_V)} {st : List fz_V} {h : fz_H} {Q : fz_H → Option fz_V → Prop}
theorem fz_lremT {x y : Int} (hne : ¬ y = 0) (hM : fz_okM M = true) (hc : fz_at M.2.2.2.2 pc = some (.lrem, 1, a, b, w)) (k : ∀ z : Int, -9223372036854775808 ≤ z ∧ z ≤ 9223372036854775807 → z < max y (-y) ∧ -(max y (-y)) < z → fz_R d M (pc + 1) ls (fz_l z :: st) h Q) : fz_R d M pc ls (fz_l y :: fz_l x :: st) h Q := by
  refine fz_knows (fun hs => ?_)
  have hy1 : -9223372036854775808 ≤ y ∧ y < 9223372036854775808 := fz_h1 hs
  have hx1 : -9223372036854775808 ≤ x ∧ x < 9223372036854775808 := fz_h2 hs
  have t1 : (Int.tmod x y).natAbs < y.natAbs := by
    rw [Int.natAbs_tmod]
    exact Nat.mod_lt _ (by omega)
  have t2 := Int.natAbs_tmod x y
  have t3 : (Int.tmod x y).natAbs ≤ x.natAbs := by rw [t2]; exact Nat.mod_le _ _
  refine fz_lrem hne hM hc ?_
  by_cases hm : Int.tmod x y < 9223372036854775808
  · rw [fz_wl_id (by omega) hm]
    exact k _ (by omega) (by omega)
  · omega
end FZ
/-! the powers of twelve -/
theorem fz_p12_0 : ((0:Int) = 0 ∧ (1:Int) = 1) ∨ ((0:Int) = 1 ∧ (1:Int) = 12) ∨ ((0:Int) = 2 ∧ (1:Int) = 144) ∨ ((0:Int) = 3 ∧ (1:Int) = 1728) ∨ ((0:Int) = 4 ∧ (1:Int) = 20736) ∨ ((0:Int) = 5 ∧ (1:Int) = 248832) ∨ ((0:Int) = 6 ∧ (1:Int) = 2985984) ∨ ((0:Int) = 7 ∧ (1:Int) = 35831808) := Or.inl ⟨rfl, rfl⟩
theorem fz_p12_n {x y : Int} (h : (x = 0 ∧ y = 1) ∨ (x = 1 ∧ y = 12) ∨ (x = 2 ∧ y = 144) ∨ (x = 3 ∧ y = 1728) ∨ (x = 4 ∧ y = 20736) ∨ (x = 5 ∧ y = 248832) ∨ (x = 6 ∧ y = 2985984) ∨ (x = 7 ∧ y = 35831808)) (hx : x ≤ 6) : (x + 1 = 0 ∧ y * 12 = 1) ∨ (x + 1 = 1 ∧ y * 12 = 12) ∨ (x + 1 = 2 ∧ y * 12 = 144) ∨ (x + 1 = 3 ∧ y * 12 = 1728) ∨ (x + 1 = 4 ∧ y * 12 = 20736) ∨ (x + 1 = 5 ∧ y * 12 = 248832) ∨ (x + 1 = 6 ∧ y * 12 = 2985984) ∨ (x + 1 = 7 ∧ y * 12 = 35831808) := by
  rcases h with ⟨rfl, rfl⟩ | ⟨rfl, rfl⟩ | ⟨rfl, rfl⟩ | ⟨rfl, rfl⟩ | ⟨rfl, rfl⟩ | ⟨rfl, rfl⟩ | ⟨rfl, rfl⟩ | ⟨rfl, rfl⟩
  · exact Or.inr (Or.inl ⟨by decide, by decide⟩)
  · exact Or.inr (Or.inr (Or.inl ⟨by decide, by decide⟩))
  · exact Or.inr (Or.inr (Or.inr (Or.inl ⟨by decide, by decide⟩)))
  · exact Or.inr (Or.inr (Or.inr (Or.inr (Or.inl ⟨by decide, by decide⟩))))
  · exact Or.inr (Or.inr (Or.inr (Or.inr (Or.inr (Or.inl ⟨by decide, by decide⟩)))))
  · exact Or.inr (Or.inr (Or.inr (Or.inr (Or.inr (Or.inr (Or.inl ⟨by decide, by decide⟩))))))
  · exact Or.inr (Or.inr (Or.inr (Or.inr (Or.inr (Or.inr (Or.inr (⟨by decide, by decide⟩)))))))
  · exact absurd hx (by decide)
/-! the model's search: labels -/
def fz_lv (h : fz_H) (b : Nat) : Int := 100 * h 86 b + h 87 b
/-- each label is a walk's weight -/
def fz_Jw (E : Nat → Nat → Int → Prop) (n t : Nat) (h : fz_H) : Prop := (t < n → h 86 t = 0 ∧ h 87 t = 0) ∧ ∀ b, b < 8 → h 86 b = -2 ∨ ((0 ≤ h 86 b ∧ 0 ≤ h 87 b ∧ h 87 b ≤ 7) ∧ ∃ m, fz_wk E n m t b (fz_lv h b))
/-- no road betters a label -/
def fz_rx (h : fz_H) (a b : Nat) (l : Int) : Prop := h 86 a = -2 ∨ (h 86 b ≠ -2 ∧ (h 86 b < h 86 a + l ∨ (h 86 b = h 86 a + l ∧ h 87 b ≤ h 87 a + 1)))
theorem fz_rx_wk {E : Nat → Nat → Int → Prop} {n : Nat} {h : fz_H} (hE : fz_Ed E n) (hn : n ≤ 8) (hr : ∀ a b w, E a b w → ∃ l : Int, w = 100 * l + 1 ∧ fz_rx h a b l) (hs : ∀ b, b < 8 → h 86 b = -2 ∨ (0 ≤ h 87 b ∧ h 87 b ≤ 7)) : ∀ {m a b : Nat} {L : Int}, a < n → fz_wk E n m a b L → h 86 a ≠ -2 → h 86 b ≠ -2 ∧ fz_lv h b ≤ fz_lv h a + L
  | 0, a, b, L, _, ⟨e1, e2⟩, h0 => by subst e1 e2; exact ⟨h0, by omega⟩
  | m + 1, a, b, L, ha, ⟨c, w, L', g1, g2, g3, _⟩, h0 => by
    obtain ⟨l, hl, hx⟩ := hr _ _ _ g1
    have hc := (hE _ _ _ g1).2.2
    rcases hx with z | ⟨z1, z2⟩
    · exact absurd z h0
    · have ih := fz_rx_wk hE hn hr hs hc g2 z1
      have s1 := hs c (by omega)
      have s2 := hs a (by omega)
      refine ⟨ih.1, ?_⟩
      have : fz_lv h c ≤ fz_lv h a + w := by unfold fz_lv; omega
      omega
/-- matrix and labels say the same -/
theorem fz_dm {E : Nat → Nat → Int → Prop} {n t b : Nat} {M : Nat → Int} {h : fz_H} (D : fz_Di E n M) (J : fz_Jw E n t h) (hb86 : ∀ c, c < 8 → h 86 c ≤ 192) (hr : ∀ a b w, E a b w → ∃ l : Int, w = 100 * l + 1 ∧ fz_rx h a b l) (ht : t < n) (hb : b < n) : (M (8 * t + b) = 1000000 ∧ h 86 b = -2) ∨ (0 ≤ h 86 b ∧ 0 ≤ h 87 b ∧ h 87 b ≤ 7 ∧ M (8 * t + b) = 100 * h 86 b + h 87 b) := by
  obtain ⟨d1, d2, d3, d4, d5⟩ := D
  obtain ⟨j1, j2⟩ := J
  have jt := j1 ht
  have hs : ∀ b, b < 8 → h 86 b = -2 ∨ (0 ≤ h 87 b ∧ h 87 b ≤ 7) := fun b hb => (j2 b hb).elim Or.inl (fun z => Or.inr ⟨z.1.2.1, z.1.2.2⟩)
  have lt0 : fz_lv h t = 0 := by unfold fz_lv; omega
  rcases d4 t b ht hb with m1 | ⟨m1, m, m2⟩
  · rcases j2 b (by omega) with l1 | ⟨l1, k, l2⟩
    · exact Or.inl ⟨m1, l1⟩
    · exfalso
      have := d3 k t b _ ht hb l2
      have := hb86 b (by omega)
      unfold fz_lv at *
      omega
  · have w := fz_rx_wk d1 d2 hr hs ht m2 (by omega)
    rcases j2 b (by omega) with l1 | ⟨l1, k, l2⟩
    · exact absurd l1 w.1
    · have u := d3 k t b _ ht hb l2
      right
      have w2 := w.2
      rw [lt0] at w2
      unfold fz_lv at *
      exact ⟨l1.1, l1.2.1, l1.2.2, by omega⟩
/-! the model's search -/
def fz_nrM (h h' : fz_H) (a b l r : Int) : Prop := (r = 0 ∧ h' 86 = h 86 ∧ h' 87 = h 87 ∧ fz_rx h a.toNat b.toNat l) ∨ (r = 1 ∧ h 86 a.toNat ≠ -2 ∧ (∀ s, h' 86 s = if s = b.toNat then h 86 a.toNat + l else h 86 s) ∧ (∀ s, h' 87 s = if s = b.toNat then fz_w (h 87 a.toNat + 1) else h 87 s) ∧ (h 86 b.toNat = -2 ∨ h 86 a.toNat + l < h 86 b.toNat ∨ (h 86 a.toNat + l = h 86 b.toNat ∧ fz_w (h 87 a.toNat + 1) < h 87 b.toNat)))
theorem fz_Jw_e {E : Nat → Nat → Int → Prop} {n t : Nat} {h h' : fz_H} (e1 : h' 86 = h 86) (e2 : h' 87 = h 87) (J : fz_Jw E n t h) : fz_Jw E n t h' := by
  unfold fz_Jw fz_lv at *
  rw [e1, e2]
  exact J
theorem fz_Jw_nr {E : Nat → Nat → Int → Prop} {n t : Nat} {h h' : fz_H} {a b l r : Int} (J : fz_Jw E n t h) (m : fz_nrM h h' a b l r) (hE : fz_Ed E n) (hn : n ≤ 8) (he : E a.toNat b.toNat (100 * l + 1)) (hab : 0 ≤ a ∧ a < 8 ∧ 0 ≤ b ∧ b < 8) (hl : 0 ≤ l) (K : fz_Jk h') : fz_Jw E n t h' := by
  rcases m with ⟨m1, m2, m3, m4⟩ | ⟨m1, m2, m3, m4, m5⟩
  · exact fz_Jw_e m2 m3 J
  · obtain ⟨j1, j2⟩ := J
    refine ⟨fun ht => ?_, fun c hc => ?_⟩
    · have jt := j1 ht
      have ne : t ≠ b.toNat := fun z => by
        rw [← z] at m5
        rcases j2 a.toNat (by omega) with y | ⟨y, -⟩
        · exact m2 y
        · rw [fz_w_id (by omega) (by omega)] at m5
          omega
      rw [m3, m4, if_neg ne, if_neg ne]
      exact jt
    · by_cases e : c = b.toNat
      · right
        subst e
        rcases j2 a.toNat (by omega) with z | ⟨z1, m, z2⟩
        · exact absurd z m2
        · have e86 : h' 86 b.toNat = h 86 a.toNat + l := by rw [m3, if_pos rfl]
          have e87 : h' 87 b.toNat = h 87 a.toNat + 1 := by
            rw [m4, if_pos rfl]
            exact fz_w_id (by omega) (by omega)
          have k := fz_Jk_n K (b := b.toNat) (by omega)
          refine ⟨by omega, m + 1, ?_⟩
          have w := fz_wk_app (n := n) (fun a b w q => (hE a b w q).2.2) z2 (show fz_wk E n 1 a.toNat b.toNat (100 * l + 1) from ⟨b.toNat, 100 * l + 1, 0, he, ⟨rfl, rfl⟩, by omega, Or.inl rfl⟩)
          have el : fz_lv h' b.toNat = fz_lv h a.toNat + (100 * l + 1) := by unfold fz_lv; omega
          rw [el]
          exact w
      · have e1 : h' 86 c = h 86 c := by rw [m3, if_neg e]
        have e2 : h' 87 c = h 87 c := by rw [m4, if_neg e]
        unfold fz_lv
        rw [e1, e2]
        exact j2 c hc
/-- the first r roads better nothing -/
def fz_rxs (h H : fz_H) (ca r : Int) : Prop := ∀ q : Nat, (q : Int) < r → (ca = 0 ∨ h 58 q = 1) → fz_rx H (h 55 q).toNat (h 56 q).toNat (if ca = 0 then h 57 q else (h 57 q + 1) / 2) ∧ fz_rx H (h 56 q).toNat (h 55 q).toNat (if ca = 0 then h 57 q else (h 57 q + 1) / 2)
theorem fz_rxs_st {h H H' : fz_H} {ca r : Int} (s : fz_rxs h H ca r) (e86 : H' 86 = H 86) (e87 : H' 87 = H 87) (d : (ca = 0 ∨ h 58 r.toNat = 1) → fz_rx H (h 55 r.toNat).toNat (h 56 r.toNat).toNat (if ca = 0 then h 57 r.toNat else (h 57 r.toNat + 1) / 2) ∧ fz_rx H (h 56 r.toNat).toNat (h 55 r.toNat).toNat (if ca = 0 then h 57 r.toNat else (h 57 r.toNat + 1) / 2)) (h0 : 0 ≤ r) : fz_rxs h H' ca (r + 1) := fun q hq c => by
  unfold fz_rx at *
  rw [e86, e87]
  by_cases e : (q : Int) = r
  · have : q = r.toNat := by omega
    subst this
    exact d c
  · exact s q (by omega) c
theorem fz_rxs_E {h H : fz_H} {ca n : Int} (s : fz_rxs h H ca n) (hn : h 53 2 ≤ n) (hb : ∀ q, 0 ≤ h 55 q ∧ 0 ≤ h 56 q) : ∀ a b w, fz_EM h ca a b w → ∃ l : Int, w = 100 * l + 1 ∧ fz_rx H a b l := by
  rintro a b w ⟨q, hq, hc, hab, hw⟩
  have z := s q (by omega) hc
  have b1 := hb q
  refine ⟨_, hw, ?_⟩
  rcases hab with ⟨w1, w2⟩ | ⟨w1, w2⟩
  · have e1 : (h 55 q).toNat = a := by omega
    have e2 : (h 56 q).toNat = b := by omega
    rw [e1, e2] at z
    exact z.1
  · have e1 : (h 55 q).toNat = b := by omega
    have e2 : (h 56 q).toNat = a := by omega
    rw [e1, e2] at z
    exact z.2
/-- what the model's search leaves -/
def fz_gf (h h' : fz_H) (t ca : Int) : Prop := fz_Jw (fz_EM h ca) (h 53 0).toNat t.toNat h' ∧ fz_rxs h h' ca (h 53 2) ∧ ∀ c, c < 8 → h' 86 c ≤ 192
theorem fz_EM_EC {h h1 : fz_H} {ca : Int} (r5 : fz_R5 h) (r6 : fz_R6 h) (r3 : fz_R3 h) (r4 : fz_R4 h) (n : h1 53 2 = h 1 8) (f55 : h1 55 = h 55) (f56 : h1 56 = h 56) (f57 : h1 57 = h 57) (f58 : h1 58 = h 58) : fz_EM h1 ca = fz_EC h ca := by
  unfold fz_EM fz_EC
  rw [n, f55, f56, f57, f58, ← r5, ← r6, ← r3, ← r4]
theorem fz_gf_v {h h1 h2 : fz_H} {t ca b : Int} {M : Nat → Int} (D : fz_Di (fz_EC h ca) (h 1 7).toNat M) (e : fz_EM h1 ca = fz_EC h ca) (n0 : h1 53 0 = h 1 7) (g : fz_gf h1 h2 t ca) (hb : ∀ q, 0 ≤ h1 55 q ∧ 0 ≤ h1 56 q) (ht : 0 ≤ t ∧ t < h 1 7) (hb0 : 0 ≤ b ∧ b < h 1 7) : h2 86 b.toNat = fz_hr (M (8 * t + b).toNat) ∧ (h2 86 b.toNat ≠ -2 → h2 87 b.toNat = fz_rr (M (8 * t + b).toNat)) := by
  obtain ⟨g1, g2, g3⟩ := g
  have rx := fz_rxs_E g2 (Int.le_refl _) hb
  rw [e] at rx g1
  rw [n0] at g1
  have z := fz_dm D g1 g3 rx (show t.toNat < (h 1 7).toNat by omega) (show b.toNat < (h 1 7).toNat by omega)
  rw [show (8 * t + b).toNat = 8 * t.toNat + b.toNat by omega]
  unfold fz_hr fz_rr
  rcases z with ⟨z1, z2⟩ | ⟨z1, z2, z3, z4⟩
  · rw [z1, z2, if_pos (by omega)]
    exact ⟨rfl, fun y => absurd rfl y⟩
  · have := g3 b.toNat (by have := D.2.1; omega)
    rw [if_neg (by omega), if_neg (by omega), z4]
    exact ⟨by omega, fun _ => by omega⟩
def fz_wyM (h h' : fz_H) (ab wh r : Int) : Prop := (¬ (0 ≤ ab ∧ ab / 10 < h 53 0 ∧ ab % 10 < h 53 0 ∧ 0 ≤ wh ∧ wh ≤ 1) ∧ r = -1) ∨ ((0 ≤ ab ∧ ab / 10 < h 53 0 ∧ ab % 10 < h 53 0 ∧ 0 ≤ wh ∧ wh ≤ 1) ∧ fz_gf h h' (ab / 10) wh ∧ r = h' 86 (ab % 10).toNat)
theorem fz_way_eq {h h1 h2 : fz_H} {ab wh r q : Int} (V : fz_RV h) (r5 : fz_R5 h) (r6 : fz_R6 h) (r3 : fz_R3 h) (r4 : fz_R4 h) (n2 : h1 53 2 = h 1 8) (n0 : h1 53 0 = h 1 7) (f55 : h1 55 = h 55) (f56 : h1 56 = h 56) (f57 : h1 57 = h 57) (f58 : h1 58 = h 58) (hb : ∀ q, 0 ≤ h1 55 q ∧ 0 ≤ h1 56 q) (c : fz_wyC h ab wh r) (m : fz_wyM h1 h2 ab wh q) : r = q := by
  unfold fz_wyM at m
  rw [n0] at m
  unfold fz_wyC fz_wyO at c
  rcases c with ⟨c0, c1⟩ | ⟨c0, c1, c2⟩ | ⟨c0, c1, c2⟩
  · rcases m with ⟨m0, m1⟩ | ⟨m0, m1⟩
    · omega
    · exact absurd m0 c0
  · rcases m with ⟨m0, m1⟩ | ⟨m0, m1, m2⟩
    · exact absurd c0 m0
    · subst c1
      have z := fz_gf_v V.1 (fz_EM_EC r5 r6 r3 r4 n2 f55 f56 f57 f58) n0 m1 hb (t := ab / 10) (b := ab % 10) (by omega) (by omega)
      rw [c2, m2]
      exact z.1.symm
  · rcases m with ⟨m0, m1⟩ | ⟨m0, m1, m2⟩
    · exact absurd c0 m0
    · subst c1
      have z := fz_gf_v V.2 (fz_EM_EC r5 r6 r3 r4 n2 f55 f56 f57 f58) n0 m1 hb (t := ab / 10) (b := ab % 10) (by omega) (by omega)
      rw [c2, m2]
      exact z.1.symm
/-! behind the search -/
theorem fz_nrz {h h' : fz_H} {a b l r : Int} (m : fz_nrM h h' a b l r) (h0 : r = 0) : h' 86 = h 86 ∧ h' 87 = h 87 ∧ fz_rx h a.toNat b.toNat l := by
  rcases m with ⟨m1, m2⟩ | ⟨m1, m2⟩
  · exact m2
  · exfalso; omega
theorem fz_rx_e {h h' : fz_H} {a b : Nat} {l : Int} (e1 : h' 86 = h 86) (e2 : h' 87 = h 87) (x : fz_rx h' a b l) : fz_rx h a b l := by
  unfold fz_rx at *
  rw [e1, e2] at x
  exact x
/-- a pass in which no label changed -/
theorem fz_rxs_2 {h H H1 H2 : fz_H} {ca r l l2 y1 y2 : Int} (s : fz_rxs h H ca r) (m1 : fz_nrM H H1 (h 55 r.toNat) (h 56 r.toNat) l y1) (m2 : fz_nrM H1 H2 (h 56 r.toNat) (h 55 r.toNat) l2 y2) (z1 : y1 = 0) (z2 : y2 = 0) (h0 : 0 ≤ r) (el : l = (if ca = 0 then h 57 r.toNat else (h 57 r.toNat + 1) / 2)) (el2 : l2 = (if ca = 0 then h 57 r.toNat else (h 57 r.toNat + 1) / 2)) : fz_rxs h H2 ca (r + 1) := by
  have a := fz_nrz m1 z1
  have b := fz_nrz m2 z2
  subst el el2
  exact fz_rxs_st s (b.1.trans a.1) (b.2.1.trans a.2.1) (fun _ => ⟨a.2.2, fz_rx_e a.1 a.2.1 b.2.2⟩) h0
theorem fz_rxs_skip {h H : fz_H} {ca r : Int} (s : fz_rxs h H ca r) (h0 : 0 ≤ r) (hc : ca ≠ 0 ∧ h 58 r.toNat ≠ 1) : fz_rxs h H ca (r + 1) := fz_rxs_st s rfl rfl (fun c => by rcases c with c | c; exact absurd c hc.1; exact absurd c hc.2) h0
theorem fz_rxs_0 {h H : fz_H} {ca r : Int} (hr : r ≤ 0) : fz_rxs h H ca r := fun q hq => by exfalso; omega
theorem fz_rxs_n {h H : fz_H} {ca r : Int} (s : fz_rxs h H ca r) (e : r = h 53 2) : fz_rxs h H ca (h 53 2) := by rw [← e]; exact s
theorem fz_Jw_0 {E : Nat → Nat → Int → Prop} {n : Nat} {h h1 h2 : fz_H} {i : Int} {b : Nat} (hK : fz_K h i) (hi : 8 ≤ i) (e1 : h1 = fz_up h 86 b 0) (e2 : h2 = fz_up h1 87 b 0) : fz_Jw E n b h2 := by
  have f1 : h2 86 b = 0 := by rw [e2, fz_up_o (by decide), e1, fz_up_e]
  have f2 : h2 87 b = 0 := by rw [e2, fz_up_e]
  refine ⟨fun _ => ⟨f1, f2⟩, fun c hc => ?_⟩
  by_cases e : c = b
  · subst e
    exact Or.inr ⟨by omega, 0, rfl, by unfold fz_lv; omega⟩
  · left
    rw [e2, fz_up_o (by decide), e1, fz_up_s e]
    exact hK c (by omega)
/-- the model's roads lead to towns -/
def fz_RM (h : fz_H) : Prop := ∀ r : Nat, (r : Int) < h 53 2 → h 55 r < h 53 0 ∧ h 56 r < h 53 0
theorem fz_RM_eq {h h' : fz_H} (e55 : h' 55 = h 55) (e56 : h' 56 = h 56) (a : h' 53 0 = h 53 0) (b : h' 53 2 = h 53 2) (hR : fz_RM h) : fz_RM h' := by
  intro r hr
  rw [e55, e56, a]
  exact hR r (by omega)
theorem fz_RM_of {h : fz_H} (hE : fz_RE h) (r5 : fz_R5 h) (r6 : fz_R6 h) (a : h 1 7 = h 53 0) (b : h 1 8 = h 53 2) : fz_RM h := by
  intro r hr
  have := hE r (by omega)
  unfold fz_R5 at r5
  unfold fz_R6 at r6
  rw [← r5, ← r6, ← a]
  exact this
theorem fz_EM_d {h : fz_H} {ca : Int} (hM : fz_RM h) (hl : ∀ r, 0 ≤ h 57 r) (hb : ∀ r, 0 ≤ h 55 r ∧ 0 ≤ h 56 r) : fz_Ed (fz_EM h ca) (h 53 0).toNat := fz_E_d hl (fun r hr => by
  have a := hM r hr
  have b := hb r
  omega)
theorem fz_EM_1 {h : fz_H} {ca r l : Int} (hr : 0 ≤ r ∧ r < h 53 2) (hc : ca = 0 ∨ h 58 r.toNat = 1) (el : l = if ca = 0 then h 57 r.toNat else (h 57 r.toNat + 1) / 2) (hb : 0 ≤ h 55 r.toNat ∧ 0 ≤ h 56 r.toNat) : fz_EM h ca (h 55 r.toNat).toNat (h 56 r.toNat).toNat (100 * l + 1) ∧ fz_EM h ca (h 56 r.toNat).toNat (h 55 r.toNat).toNat (100 * l + 1) := by
  subst el
  exact ⟨⟨r.toNat, by omega, hc, Or.inl ⟨by omega, by omega⟩, rfl⟩, ⟨r.toNat, by omega, hc, Or.inr ⟨by omega, by omega⟩, rfl⟩⟩
theorem fz_h0_n {E : Nat → Nat → Int → Prop} {M : Nat → Int} (hE : ∀ a b w, ¬ E a b w) (hM : ∀ s, 0 ≤ M s ∧ M s ≤ 1000000) : fz_Di E 0 M := ⟨fun a b w z => absurd z (hE a b w), by decide, fun m a b L ha => absurd ha (by omega), fun a b ha => absurd ha (by omega), hM⟩
theorem fz_J_c {h : fz_H} (hJ : fz_J h) : ∀ c, c < 8 → h 86 c ≤ 192 := fun c hc => by
  have h1 := hJ c hc
  have h2 := fz_na_b h
  omega
theorem fz_gf_w {h H : fz_H} {t ca wh : Int} (g : fz_gf h H t ca) (e : ca = wh) : fz_gf h H t wh := by rw [← e]; exact g
/-- where the deeds were done are towns -/
def fz_RP2 (h : fz_H) : Prop := ∀ j : Nat, (j : Int) < h 9 5 → h 11 j < h 1 7
theorem fz_RP2_eq {h h' : fz_H} (e11 : h' 11 = h 11) (e9 : h' 9 5 = h 9 5) (e1 : h' 1 7 = h 1 7) (hR : fz_RP2 h) : fz_RP2 h' := by
  intro j hj
  rw [e11, e1]
  exact hR j (by omega)
def fz_heM (h h' : fz_H) (d t r : Int) : Prop := fz_gf h h' (h 61 d.toNat) 1 ∧ r = fz_hh (h' 86 t.toNat) (h 62 d.toNat) (h 54 t.toNat)
theorem fz_gf_nn {h H : fz_H} {t ca : Int} {b : Nat} (g : fz_gf h H t ca) (hb : b < 8) : H 86 b = -2 ∨ 0 ≤ H 86 b := (g.1.2 b hb).elim Or.inl (fun z => Or.inr z.1.1)
theorem fz_RP2_t {h h' : fz_H} (e11 : h' 11 = h 11) (e9 : h' 9 5 = h 9 5) (e1 : h 1 7 ≤ h' 1 7) (hR : fz_RP2 h) : fz_RP2 h' := by
  intro j hj
  rw [e11]
  have := hR j (by omega)
  omega
theorem fz_RP2_ap {h h1 h2 : fz_H} {r : Int} {f : Int → Int × Int × Int × Int × Int} (hP : fz_RP2 h) (c : fz_apC h h1 r f) (fm : h2 11 = h1 11) (z : h2 9 5 = h 9 5 + r) (e1 : h 1 7 ≤ h2 1 7) (h0 : 0 ≤ h 9 5) (hf : ∀ k, 0 ≤ k → k < r → (f k).2.1 < h 1 7) : fz_RP2 h2 := by
  intro j hj
  rw [fm]
  by_cases hlt : (j : Int) < h 9 5
  · have a := (c.1 j hlt).2.1
    have b := hP j hlt
    omega
  · have a := (c.2 (j - h 9 5) (by omega) (by omega)).2.1
    have b := hf (j - h 9 5) (by omega) (by omega)
    rw [show (h 9 5 + (j - h 9 5)).toNat = j by omega] at a
    omega
theorem fz_qC_tw {h h' : fz_H} {s i n r : Int} (c : fz_qC h h' s i n r) : ∀ k : Int, 0 ≤ k → k < h' 9 5 - h 9 5 → fz_w (h 52 (60 * s + (i + 5 * k) + 1).toNat) < h 1 7 := fun k k0 k1 => by
  rcases c with ⟨c0, c1, c2⟩ | ⟨c0, c1, c2⟩ | ⟨c0, c1, c2, c3⟩ | ⟨c0, c1, c2, c3, c4⟩
  · have z := c1.2.2.1 k k0 (by omega)
    exact z.2.2.2.2.1.2
  · exfalso; omega
  · exfalso; omega
  · exfalso; omega
theorem fz_h0_RVg {h : fz_H} (a : h 1 7 = 0) (b : h 1 8 = 0) (e7 : ∀ s, h 7 s = 0) (e8 : ∀ s, h 8 s = 0) : fz_RV h := by
  have z : (h 1 7).toNat = 0 := by omega
  unfold fz_RV
  rw [z]
  exact ⟨fz_h0_n (fun a b w q => by obtain ⟨r, hr, -⟩ := q; omega) (fun s => by rw [e7]; omega), fz_h0_n (fun a b w q => by obtain ⟨r, hr, -⟩ := q; omega) (fun s => by rw [e8]; omega)⟩
theorem fz_heard_eq {h H : fz_H} {d t r q : Int} (V : fz_RV h) (r5 : fz_R5 h) (r6 : fz_R6 h) (r3 : fz_R3 h) (r4 : fz_R4 h) (r2 : fz_R2 h) (hL : fz_RL h) (hP : fz_RP2 h) (n2 : h 53 2 = h 1 8) (n0 : h 53 0 = h 1 7) (hb : ∀ q, 0 ≤ h 55 q ∧ 0 ≤ h 56 q) (b11 : ∀ q, 0 ≤ h 11 q) (c : r = fz_haC h d t) (m : fz_heM h H d t q) (hd : 0 ≤ d ∧ d < h 9 5) (ht : 0 ≤ t ∧ t < h 1 7) : r = q := by
  obtain ⟨m1, m2⟩ := m
  have l := hL d.toNat (by omega)
  have p := hP d.toNat (by omega)
  have b := b11 d.toNat
  rw [← l.1] at m1
  have z := fz_gf_v V.2 (fz_EM_EC r5 r6 r3 r4 n2 rfl rfl rfl rfl) n0 m1 hb (t := h 11 d.toNat) (b := t) (by omega) (by omega)
  unfold fz_R2 at r2
  rw [c, m2, z.1, ← l.2.1, ← r2]
  rfl
def fz_rtM (h h' : fz_H) (d t r : Int) : Prop := fz_gf h h' (h 61 d.toNat) 1 ∧ ((h' 86 t.toNat = -2 ∧ r = -2) ∨ (h' 86 t.toNat ≠ -2 ∧ r = h' 87 t.toNat))
theorem fz_rt_eq {h H : fz_H} {d t x : Int} (V : fz_RV h) (r5 : fz_R5 h) (r6 : fz_R6 h) (r3 : fz_R3 h) (r4 : fz_R4 h) (hL : fz_RL h) (hP : fz_RP2 h) (n2 : h 53 2 = h 1 8) (n0 : h 53 0 = h 1 7) (hb : ∀ q, 0 ≤ h 55 q ∧ 0 ≤ h 56 q) (b11 : ∀ q, 0 ≤ h 11 q) (m : fz_rtM h H d t x) (hd : 0 ≤ d ∧ d < h 9 5) (ht : 0 ≤ t ∧ t < h 1 7) : fz_rr (h 8 (8 * h 11 d.toNat + t).toNat) = x := by
  obtain ⟨m1, m2⟩ := m
  have l := hL d.toNat (by omega)
  have p := hP d.toNat (by omega)
  have b := b11 d.toNat
  rw [← l.1] at m1
  have z := fz_gf_v V.2 (fz_EM_EC r5 r6 r3 r4 n2 rfl rfl rfl rfl) n0 m1 hb (t := h 11 d.toNat) (b := t) (by omega) (by omega)
  rcases m2 with ⟨m2, m3⟩ | ⟨m2, m3⟩
  · have w := z.1
    rw [m2] at w
    rw [m3]
    unfold fz_hr at w
    unfold fz_rr
    split at w
    · next e => rw [if_pos e]
    · exfalso
      have := V.2.2.2.2.2 (8 * h 11 d.toNat + t).toNat
      omega
  · rw [m3]
    exact (z.2 m2).symm
def fz_dwM (h h' : fz_H) (d t se nw r : Int) : Prop := (¬ fz_dwO (h 53 10) (h 53 0) d t nw ∧ r = -1) ∨ (fz_dwO (h 53 10) (h 53 0) d t nw ∧ ∃ x, fz_rtM h h' d t x ∧ fz_dw (h 53 10) (h 53 0) (h 53 9) (h 63 d.toNat) x d t se nw r)
theorem fz_drawn_eq {h H : fz_H} {d t se nw r q : Int} (V : fz_RV h) (r5 : fz_R5 h) (r6 : fz_R6 h) (r3 : fz_R3 h) (r4 : fz_R4 h) (hL : fz_RL h) (hP : fz_RP2 h) (hG : fz_RG h) (n2 : h 53 2 = h 1 8) (n0 : h 53 0 = h 1 7) (n9 : h 53 10 = h 9 5) (hb : ∀ q, 0 ≤ h 55 q ∧ 0 ≤ h 56 q) (b11 : ∀ q, 0 ≤ h 11 q) (c : fz_dwC h d t se nw r) (m : fz_dwM h H d t se nw q) : r = q := by
  unfold fz_dwM at m
  unfold fz_dwC at c
  rw [n9, n0] at m
  rcases m with ⟨m0, m1⟩ | ⟨m0, x, m1, m2⟩
  · rcases c with ⟨c0, c1⟩ | ⟨c0, c1, c2⟩ | ⟨c0, c1, c2⟩
    · omega
    · exact absurd c0 m0
    · exact absurd c0 m0
  · have hd : 0 ≤ d ∧ d < h 9 5 := ⟨m0.1, m0.2.1⟩
    have ht : 0 ≤ t ∧ t < h 1 7 := ⟨m0.2.2.1, m0.2.2.2.1⟩
    have e := fz_rt_eq V r5 r6 r3 r4 hL hP n2 n0 hb b11 m1 hd ht
    have l := (hL d.toNat (by omega)).2.2.1
    rw [← hG.2, ← l] at m2
    exact fz_dw_eq c m2 (fun _ => e)
