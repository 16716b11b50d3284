/-! ===== what holds all through the law ===== -/
/-- the law's own numbers tell how many there are -/
def st_N (t : Int) (h : fz_H) : Prop := (h 53 0 = t ∧ h 53 1 = h 1 8 ∧ h 53 2 = h 9 5 ∧ h 1 7 = t) ∧ h 9 5 ≤ 8 ∧ h 35 4 ≤ 19 ∧ h 20 2 = 0
theorem st_N_eq {t : Int} {h h' : fz_H} (a : h' 53 0 = h 53 0) (b : h' 53 1 = h 53 1) (c : h' 53 2 = h 53 2) (d : h' 1 7 = h 1 7) (e : h' 1 8 = h 1 8) (f : h' 9 5 = h 9 5) (g : h' 35 4 = h 35 4) (i : h' 20 2 = h 20 2) (n : st_N t h) : st_N t h' := by
  unfold st_N
  rw [a, b, c, d, e, f, g, i]
  exact n
theorem st_N_e {t : Int} {h : fz_H} (hI : fz_Iv h) (n : st_N t h) : (h 53 0 = t ∧ h 53 1 = h 1 8 ∧ h 53 2 = h 9 5 ∧ h 1 7 = t) ∧ h 9 5 ≤ 8 ∧ h 35 4 ≤ 19 ∧ h 20 2 = 0 ∧ (0 ≤ t ∧ t ≤ 8) ∧ (0 ≤ h 1 8 ∧ h 1 8 ≤ 12) ∧ 0 ≤ h 9 5 ∧ 0 ≤ h 35 4 := by
  obtain ⟨a, b, c, d⟩ := n
  have e : 0 ≤ h 1 7 ∧ h 1 7 ≤ 8 := hI.1 1 7
  have f : 0 ≤ h 1 8 ∧ h 1 8 ≤ 12 := hI.1 1 8
  have g : 0 ≤ h 9 5 ∧ h 9 5 ≤ 10 := hI.1 9 5
  have i : 0 ≤ h 35 4 ∧ h 35 4 ≤ 40 := hI.1 35 4
  exact ⟨a, b, c, d, by omega, f, g.1, i.1⟩
/-- the sum is what asking tells -/
def st_S (s : Int) (h : fz_H) : Prop := s = st_td (fz_nm h)
theorem st_S_fr {S : List (Nat × Nat)} {s : Int} {h h' : fz_H} (hS : fz_offs S = true) (hf : fz_fr S h h') (q : st_S s h) : st_S s h' := by
  unfold st_S
  rw [fz_nm_fr hS hf]
  exact q
theorem st_S_t {s y : Int} {h : fz_H} (q : st_S s h) (t : y = st_td (fz_nm h)) : y = s := t.trans q.symm
/-- the journey has not begun, and so it is imaged -/
def st_Z (h : fz_H) : Prop := (h 40 1 = 0 ∧ h 40 2 = 0 ∧ h 40 3 = 0 ∧ h 40 4 = 0 ∧ h 40 5 = 0) ∧ ∀ s : Nat, s < 4 → h 41 s = 0
theorem st_Z_eq {h h' : fz_H} (a : h' 40 1 = h 40 1) (b : h' 40 2 = h 40 2) (c : h' 40 3 = h 40 3) (d : h' 40 4 = h 40 4) (e : h' 40 5 = h 40 5) (f : h' 41 = h 41) (z : st_Z h) : st_Z h' := by
  unfold st_Z
  rw [a, b, c, d, e, f]
  exact z
def st_Im (h : fz_H) : Prop := h 40 6 = 1 ∧ (h 43 0 = 0 ∧ h 43 1 = 0 ∧ h 43 2 = 0 ∧ h 43 3 = 0 ∧ h 43 4 = 0) ∧ ∀ s : Nat, s < 4 → h 42 s = 0
theorem st_Im_eq {h h' : fz_H} (a : h' 40 6 = h 40 6) (b : h' 43 = h 43) (c : h' 42 = h 42) (z : st_Im h) : st_Im h' := by
  unfold st_Im
  rw [a, b, c]
  exact z
theorem st_Z_RT {h : fz_H} (z : st_Z h) (i : ∀ s : Nat, s < 4 → h 42 s = 0) : fz_RT h := fun j hj => ⟨Or.inl (z.2 j hj), Or.inl (i j hj)⟩
theorem st_mx {f g : Nat → Int} {n : Int} {s : Nat} (hs : (s : Int) < n) : fz_mx f g n s = f s := by
  unfold fz_mx
  rw [if_pos hs]
theorem st_mx2 {f g : Nat → Int} {n : Int} {s : Nat} (hs : ¬ (s : Int) < n) : fz_mx f g n s = g s := by
  unfold fz_mx
  rw [if_neg hs]
theorem st_Im_in {h h' : fz_H} (z : st_Z h) (a : fz_imC h h') (b : fl_kiC h h') : st_Im h' := by
  obtain ⟨a1, a2, a3, -, -⟩ := a
  obtain ⟨b1, b2, b3, b4⟩ := b
  obtain ⟨⟨z1, z2, z3, z4, z5⟩, z6⟩ := z
  refine ⟨a3, ⟨by omega, by omega, by omega, by omega, by omega⟩, fun s hs => ?_⟩
  rw [a1, st_mx (by omega)]
  exact z6 s hs
/-- each road has some length -/
def st_L1 (h : fz_H) : Prop := ∀ r : Nat, (r : Int) < h 1 8 → 1 ≤ h 3 r
theorem st_L1_eq {h h' : fz_H} (a : h' 3 = h 3) (b : h' 1 8 = h 1 8) (z : st_L1 h) : st_L1 h' := by
  unfold st_L1
  rw [a, b]
  exact z
theorem st_L1_mC {h h' : fz_H} {nu wh v r : Int} (m : fz_mC h h' nu wh v r) (hw : wh ≠ 1) (e : h' 1 8 = h 1 8) (z : st_L1 h) : st_L1 h' := by
  rcases m with ⟨-, -, q⟩ | ⟨-, -, -, q⟩ | ⟨-, -, -, g, c, f, a⟩
  · rw [q]; exact z
  · rw [q]; exact z
  · have e3 : h' 3 = h 3 := by
      rw [a 3 (by decide) (by decide)]
      have n : (fz_lC nu wh).1 ≠ 3 := by
        unfold fz_lC
        by_cases c0 : wh = 0
        · rw [if_pos c0]; exact (by decide : 2 ≠ 3)
        rw [if_neg c0, if_neg hw]
        by_cases c2 : wh = 2
        · rw [if_pos c2]; exact (by decide : 4 ≠ 3)
        rw [if_neg c2]
        by_cases c3 : wh = 3
        · rw [if_pos c3]; exact (by decide : 12 ≠ 3)
        rw [if_neg c3]
        by_cases c4 : wh = 4
        · rw [if_pos c4]; exact (by decide : 13 ≠ 3)
        rw [if_neg c4]
        by_cases c5 : wh = 5
        · rw [if_pos c5]; exact (by decide : 14 ≠ 3)
        rw [if_neg c5]
        by_cases c6 : wh = 6
        · rw [if_pos c6]; exact (by decide : 28 ≠ 3)
        rw [if_neg c6]
        by_cases c7 : wh = 7
        · rw [if_pos c7]; exact (by decide : 27 ≠ 3)
        rw [if_neg c7]
        exact (by decide : 27 ≠ 3)
      rw [fz_up_ne (by omega)]
      exact funext fun s => f 3 s rfl
    exact st_L1_eq e3 e z
/-! what is refused -/
theorem st_same_t {h h' : fz_H} {df : Int} (c : fz_tC h h' df) (n : ¬ (0 ≤ df ∧ df ≤ 9)) : h' = h := c.elim (fun z => absurd z.1 n) (fun z => z.2)
theorem st_same_r {h h' : fz_H} {ab ln : Int} (c : fz_roC h h' ab ln) (n : ¬ fz_rdC h ab ln) : h' = h := c.elim (fun z => absurd z.1 n) (fun z => z.2)
theorem st_same_m {h h' : fz_H} {nu wh v r : Int} (c : fz_mC h h' nu wh v r) (n : ¬ fz_okC h nu wh v) : h' = h ∧ r = -2000000000 := by
  rcases c with ⟨-, q, e⟩ | ⟨y, -⟩ | ⟨y, -⟩
  · exact ⟨e, q⟩
  · exact absurd y n
  · exact absurd y n
theorem st_same_w {h h' : fz_H} {on rd r : Int} (c : fz_wkC h h' on rd r) (n : ¬ fz_wkO h on rd) : r = -1 := by
  rcases c with ⟨-, q, -⟩ | ⟨y, -⟩ | ⟨y, -⟩ | ⟨y, -⟩
  · exact q
  · exact absurd y n
  · exact absurd y n
  · exact absurd y n
theorem st_or {P Q : Prop} (c : P ∨ Q) (n : ¬ P) : Q := c.elim (fun z => absurd z n) id
theorem st_L1_ro {h h' : fz_H} {ab ln : Int} (c : fz_roC h h' ab ln) (n : h' 1 8 = h 1 8 + 1) (hl : 1 ≤ ln ∧ 0 ≤ h 1 8 ∧ h 1 8 < 12) (z : st_L1 h) : st_L1 h' := by
  rcases c with ⟨-, c⟩ | ⟨-, c⟩
  · rcases c with ⟨-, -, -, e, -⟩ | ⟨a, -⟩
    · intro r hr
      rw [e]
      by_cases q : r = (h 1 8).toNat
      · rw [q, fz_up_e]
        exact hl.1
      · rw [fz_up_s q]
        exact z r (by omega)
    · exfalso
      omega
  · rw [c] at n
    omega
