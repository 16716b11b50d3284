/-! ===== the model's ways: by how many roads at most ===== -/
/-- each label stands for a way through towns that are all others, none of them reached later -/
def fz_Jk (h : fz_H) : Prop := ∀ b : Nat, b < 8 → h 86 b = -2 ∨ ∃ S : Nat → Bool, S b = true ∧ fz_sm (fun j => if S j = true then 1 else 0) 8 = h 87 b + 1 ∧ ∀ c, c < 8 → S c = true → h 86 c ≠ -2 ∧ (h 86 c < h 86 b ∨ (h 86 c = h 86 b ∧ h 87 c ≤ h 87 b))
theorem fz_Jk_eq {h h' : fz_H} (e1 : h' 86 = h 86) (e2 : h' 87 = h 87) (hJ : fz_Jk h) : fz_Jk h' := by
  intro b hb
  rw [e1, e2]
  exact hJ b hb
theorem fz_Jk_n {h : fz_H} {b : Nat} (hJ : fz_Jk h) (hb : b < 8) : h 86 b = -2 ∨ (-1 ≤ h 87 b ∧ h 87 b ≤ 7) := by
  rcases hJ b hb with z | ⟨S, _, z, _⟩
  · exact Or.inl z
  · have := fz_sm_b (p := fun j => if S j = true then 1 else 0) (l := 0) (u := 1) (fun j => by split <;> omega) 8
    exact Or.inr (by omega)
theorem fz_Jk_b {h : fz_H} {x : Int} (hJ : fz_Jk h) (hx : 0 ≤ x ∧ x ≤ 7) : h 86 x.toNat = -2 ∨ (-1 ≤ h 87 x.toNat ∧ h 87 x.toNat ≤ 7) := fz_Jk_n hJ (by omega)
theorem fz_Jk_st {h h1 h2 : fz_H} {a b : Nat} {v w l : Int} (hJ : fz_Jk h) (ha : a < 8) (hb : b < 8) (h0 : h 86 a ≠ -2) (hl : 0 ≤ l) (hv : v = h 86 a + l) (hv0 : 0 ≤ v) (hw : w = fz_w (h 87 a + 1)) (hr : h 86 b = -2 ∨ v < h 86 b ∨ (v = h 86 b ∧ w < h 87 b)) (e1 : h1 = fz_up h 86 b v) (e2 : h2 = fz_up h1 87 b w) : fz_Jk h2 := by
  have na := fz_Jk_n hJ ha
  have hw1 : w = h 87 a + 1 := by rw [hw]; exact fz_w_id (by omega) (by omega)
  have f1 : h2 86 b = v := by rw [e2, fz_up_o (by decide), e1, fz_up_e]
  have f2 : h2 87 b = w := by rw [e2, fz_up_e]
  have g1 : ∀ j, j ≠ b → h2 86 j = h 86 j := fun j hj => by rw [e2, fz_up_o (by decide), e1, fz_up_s hj]
  have g2 : ∀ j, j ≠ b → h2 87 j = h 87 j := fun j hj => by rw [e2, fz_up_s hj, e1, fz_up_o (by decide)]
  rcases hJ a ha with z | ⟨S, s1, s2, s3⟩
  · exact absurd z h0
  have nb : S b = false := by
    cases hs : S b with
    | false => rfl
    | true => exfalso; have := s3 b hb hs; omega
  have hab : a ≠ b := fun z => by rw [z, nb] at s1; cases s1
  intro c hc
  by_cases e : c = b
  · right
    refine ⟨fun j => S j || decide (j = b), by simp [e], ?_, ?_⟩
    · have k := fz_sm_up (p := fun j => if S j = true then 1 else 0) (q := fun j => if (S j || decide (j = b)) = true then 1 else 0) (b := b) (fun j hj => by simp [hj]) hb
      rw [k]
      rw [e, f2, s2, nb, hw1]
      first | (simp; done) | (simp; omega)
    · intro j hj hs
      rw [e, f1, f2]
      by_cases ej : j = b
      · rw [ej, f1, f2]
        exact ⟨by omega, by omega⟩
      · have hs2 : S j = true := by simpa [ej] using hs
        rw [g1 j ej, g2 j ej]
        have := s3 j hj hs2
        exact ⟨this.1, by omega⟩
  · rw [g1 c e, g2 c e]
    rcases hJ c hc with z | ⟨T, t1, t2, t3⟩
    · exact Or.inl z
    · refine Or.inr ⟨T, t1, t2, ?_⟩
      intro j hj hs
      have := t3 j hj hs
      by_cases ej : j = b
      · rw [ej] at this
        rw [ej, f1, f2]
        exact ⟨by omega, by omega⟩
      · rw [g1 j ej, g2 j ej]
        exact this
theorem fz_Jk_0 {h h1 h2 : fz_H} {i : Int} {b : Nat} (hK : fz_K h i) (hi : 8 ≤ i) (hb : b < 8) (e1 : h1 = fz_up h 86 b 0) (e2 : h2 = fz_up h1 87 b 0) : fz_Jk h2 := by
  intro c hc
  by_cases e : c = b
  · right
    refine ⟨fun j => decide (j = b), by simp [e], ?_, ?_⟩
    · rw [e, e2, fz_up_e]
      have k := fz_sm_up (p := fun _ => 0) (q := fun j => if decide (j = b) = true then 1 else 0) (b := b) (fun j hj => by simp [hj]) hb
      rw [k]
      simp [fz_sm]
    · intro j hj hs
      have ej : j = b := by simpa using hs
      rw [e, ej, e2, fz_up_o (by decide), e1, fz_up_e]
      exact ⟨by decide, by omega⟩
  · left
    rw [e2, fz_up_o (by decide), e1, fz_up_s e]
    exact hK c (by omega)
section FZ
variable {d : Nat} {M : fz_M} {pc a b w : Nat} {ls ls' : List (Nat × fz_V)} {st : List fz_V} {h : fz_H} {Q : fz_H → Option fz_V → Prop}
theorem fz_lremT {x y : Int} (hne : ¬ y = 0) (hM : fz_okM M = true) (hc : fz_at M.2.2.2.2 pc = some (.lrem, 1, a, b, w)) (k : ∀ z : Int, -9223372036854775808 ≤ z ∧ z ≤ 9223372036854775807 → z < max y (-y) ∧ -(max y (-y)) < z → fz_R d M (pc + 1) ls (fz_l z :: st) h Q) : fz_R d M pc ls (fz_l y :: fz_l x :: st) h Q := by
  refine fz_knows (fun hs => ?_)
  have hy1 : -9223372036854775808 ≤ y ∧ y < 9223372036854775808 := fz_h1 hs
  have hx1 : -9223372036854775808 ≤ x ∧ x < 9223372036854775808 := fz_h2 hs
  have t1 : (Int.tmod x y).natAbs < y.natAbs := by
    rw [Int.natAbs_tmod]
    exact Nat.mod_lt _ (by omega)
  have t2 := Int.natAbs_tmod x y
  have t3 : (Int.tmod x y).natAbs ≤ x.natAbs := by rw [t2]; exact Nat.mod_le _ _
  refine fz_lrem hne hM hc ?_
  by_cases hm : Int.tmod x y < 9223372036854775808
  · rw [fz_wl_id (by omega) hm]
    exact k _ (by omega) (by omega)
  · omega
end FZ
/-! the powers of twelve -/
theorem fz_p12_0 : ((0:Int) = 0 ∧ (1:Int) = 1) ∨ ((0:Int) = 1 ∧ (1:Int) = 12) ∨ ((0:Int) = 2 ∧ (1:Int) = 144) ∨ ((0:Int) = 3 ∧ (1:Int) = 1728) ∨ ((0:Int) = 4 ∧ (1:Int) = 20736) ∨ ((0:Int) = 5 ∧ (1:Int) = 248832) ∨ ((0:Int) = 6 ∧ (1:Int) = 2985984) ∨ ((0:Int) = 7 ∧ (1:Int) = 35831808) := Or.inl ⟨rfl, rfl⟩
theorem fz_p12_n {x y : Int} (h : (x = 0 ∧ y = 1) ∨ (x = 1 ∧ y = 12) ∨ (x = 2 ∧ y = 144) ∨ (x = 3 ∧ y = 1728) ∨ (x = 4 ∧ y = 20736) ∨ (x = 5 ∧ y = 248832) ∨ (x = 6 ∧ y = 2985984) ∨ (x = 7 ∧ y = 35831808)) (hx : x ≤ 6) : (x + 1 = 0 ∧ y * 12 = 1) ∨ (x + 1 = 1 ∧ y * 12 = 12) ∨ (x + 1 = 2 ∧ y * 12 = 144) ∨ (x + 1 = 3 ∧ y * 12 = 1728) ∨ (x + 1 = 4 ∧ y * 12 = 20736) ∨ (x + 1 = 5 ∧ y * 12 = 248832) ∨ (x + 1 = 6 ∧ y * 12 = 2985984) ∨ (x + 1 = 7 ∧ y * 12 = 35831808) := by
  rcases h with ⟨rfl, rfl⟩ | ⟨rfl, rfl⟩ | ⟨rfl, rfl⟩ | ⟨rfl, rfl⟩ | ⟨rfl, rfl⟩ | ⟨rfl, rfl⟩ | ⟨rfl, rfl⟩ | ⟨rfl, rfl⟩
  · exact Or.inr (Or.inl ⟨by decide, by decide⟩)
  · exact Or.inr (Or.inr (Or.inl ⟨by decide, by decide⟩))
  · exact Or.inr (Or.inr (Or.inr (Or.inl ⟨by decide, by decide⟩)))
  · exact Or.inr (Or.inr (Or.inr (Or.inr (Or.inl ⟨by decide, by decide⟩))))
  · exact Or.inr (Or.inr (Or.inr (Or.inr (Or.inr (Or.inl ⟨by decide, by decide⟩)))))
  · exact Or.inr (Or.inr (Or.inr (Or.inr (Or.inr (Or.inr (Or.inl ⟨by decide, by decide⟩))))))
  · exact Or.inr (Or.inr (Or.inr (Or.inr (Or.inr (Or.inr (Or.inr (⟨by decide, by decide⟩)))))))
  · exact absurd hx (by decide)
