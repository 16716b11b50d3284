/-! ===== numbers told and mended, journeys, deeds ===== -/
def fz_PC (h : fz_H) (nu wh : Int) : Prop := (wh = 0 ∧ 0 ≤ nu ∧ nu < h 1 7) ∨ (wh = 1 ∧ 0 ≤ nu ∧ nu < h 1 8) ∨ (wh = 2 ∧ 0 ≤ nu ∧ nu < h 1 8) ∨ (wh = 3 ∧ 0 ≤ nu ∧ nu < h 9 5) ∨ (wh = 4 ∧ 0 ≤ nu ∧ nu < h 9 5) ∨ (wh = 5 ∧ 0 ≤ nu ∧ nu < h 9 5) ∨ (wh = 6 ∧ 0 ≤ nu ∧ nu < 5) ∨ (wh = 7 ∧ nu = 0) ∨ (wh = 8 ∧ nu = 0)
def fz_PN (h : fz_H) (nu wh : Int) : Prop := (wh = 0 ∧ 0 ≤ nu ∧ nu ≤ 7 ∧ nu < h 53 0) ∨ (wh = 1 ∧ 0 ≤ nu ∧ nu ≤ 11 ∧ nu < h 53 2) ∨ (wh = 2 ∧ 0 ≤ nu ∧ nu ≤ 11 ∧ nu < h 53 2) ∨ (wh = 3 ∧ 0 ≤ nu ∧ nu ≤ 10 ∧ nu < h 53 10) ∨ (wh = 4 ∧ 0 ≤ nu ∧ nu ≤ 10 ∧ nu < h 53 10) ∨ (wh = 5 ∧ 0 ≤ nu ∧ nu ≤ 10 ∧ nu < h 53 10) ∨ (wh = 6 ∧ 0 ≤ nu ∧ nu ≤ 4) ∨ (wh = 7 ∧ nu = 0) ∨ (wh = 8 ∧ nu = 0)
def fz_lC (nu wh : Int) : Nat × Nat := if wh = 0 then (2, nu.toNat) else if wh = 1 then (3, nu.toNat) else if wh = 2 then (4, nu.toNat) else if wh = 3 then (12, nu.toNat) else if wh = 4 then (13, nu.toNat) else if wh = 5 then (14, nu.toNat) else if wh = 6 then (28, nu.toNat) else if wh = 7 then (27, 8) else (27, 9)
theorem fz_lC_0 {nu wh : Int} (c : wh = 0) : fz_lC nu wh = (2, nu.toNat) := by subst c; rfl
theorem fz_lC_1 {nu wh : Int} (c : wh = 1) : fz_lC nu wh = (3, nu.toNat) := by subst c; rfl
theorem fz_lC_2 {nu wh : Int} (c : wh = 2) : fz_lC nu wh = (4, nu.toNat) := by subst c; rfl
theorem fz_lC_3 {nu wh : Int} (c : wh = 3) : fz_lC nu wh = (12, nu.toNat) := by subst c; rfl
theorem fz_lC_4 {nu wh : Int} (c : wh = 4) : fz_lC nu wh = (13, nu.toNat) := by subst c; rfl
theorem fz_lC_5 {nu wh : Int} (c : wh = 5) : fz_lC nu wh = (14, nu.toNat) := by subst c; rfl
theorem fz_lC_6 {nu wh : Int} (c : wh = 6) : fz_lC nu wh = (28, nu.toNat) := by subst c; rfl
theorem fz_lC_7 {nu wh : Int} (c : wh = 7) : fz_lC nu wh = (27, 8) := by subst c; rfl
theorem fz_lC_8 {nu wh : Int} (c : wh < 0 ∨ 7 < wh) : fz_lC nu wh = (27, 9) := by
  unfold fz_lC
  rw [if_neg (by omega), if_neg (by omega), if_neg (by omega), if_neg (by omega), if_neg (by omega), if_neg (by omega), if_neg (by omega), if_neg (by omega)]
def fz_lM (nu wh : Int) : Nat × Nat := if wh = 0 then (54, nu.toNat) else if wh = 1 then (57, nu.toNat) else if wh = 2 then (58, nu.toNat) else if wh = 3 then (62, nu.toNat) else if wh = 4 then (63, nu.toNat) else if wh = 5 then (64, nu.toNat) else if wh = 6 then (59, nu.toNat) else if wh = 7 then (53, 8) else (53, 9)
theorem fz_lM_0 {nu wh : Int} (c : wh = 0) : fz_lM nu wh = (54, nu.toNat) := by subst c; rfl
theorem fz_lM_1 {nu wh : Int} (c : wh = 1) : fz_lM nu wh = (57, nu.toNat) := by subst c; rfl
theorem fz_lM_2 {nu wh : Int} (c : wh = 2) : fz_lM nu wh = (58, nu.toNat) := by subst c; rfl
theorem fz_lM_3 {nu wh : Int} (c : wh = 3) : fz_lM nu wh = (62, nu.toNat) := by subst c; rfl
theorem fz_lM_4 {nu wh : Int} (c : wh = 4) : fz_lM nu wh = (63, nu.toNat) := by subst c; rfl
theorem fz_lM_5 {nu wh : Int} (c : wh = 5) : fz_lM nu wh = (64, nu.toNat) := by subst c; rfl
theorem fz_lM_6 {nu wh : Int} (c : wh = 6) : fz_lM nu wh = (59, nu.toNat) := by subst c; rfl
theorem fz_lM_7 {nu wh : Int} (c : wh = 7) : fz_lM nu wh = (53, 8) := by subst c; rfl
theorem fz_lM_8 {nu wh : Int} (c : wh < 0 ∨ 7 < wh) : fz_lM nu wh = (53, 9) := by
  unfold fz_lM
  rw [if_neg (by omega), if_neg (by omega), if_neg (by omega), if_neg (by omega), if_neg (by omega), if_neg (by omega), if_neg (by omega), if_neg (by omega)]
def fz_gC (h : fz_H) (nu wh : Int) : Int := h (fz_lC nu wh).1 (fz_lC nu wh).2
def fz_gM (h : fz_H) (nu wh : Int) : Int := h (fz_lM nu wh).1 (fz_lM nu wh).2
theorem fz_gC_l {h : fz_H} {nu wh : Int} {c s : Nat} (l : fz_lC nu wh = (c, s)) : h c s = fz_gC h nu wh := by unfold fz_gC; rw [l]
theorem fz_gM_l {h : fz_H} {nu wh : Int} {c s : Nat} (l : fz_lM nu wh = (c, s)) : h c s = fz_gM h nu wh := by unfold fz_gM; rw [l]
def fz_F (wh v : Int) : Prop := (wh = 0 ∧ 0 ≤ v ∧ v ≤ 9) ∨ (wh = 1 ∧ 1 ≤ v ∧ v ≤ 24) ∨ (wh = 2 ∧ 0 ≤ v ∧ v ≤ 1) ∨ (wh = 3 ∧ 0 ≤ v ∧ v ≤ 999) ∨ (wh = 4 ∧ 0 ≤ v ∧ v ≤ 4) ∨ (wh = 5 ∧ 1 ≤ v ∧ v ≤ 9) ∨ (wh = 6 ∧ -9 ≤ v ∧ v ≤ 9) ∨ (wh = 7 ∧ 0 ≤ v ∧ v ≤ 99) ∨ (wh = 8 ∧ 0 ≤ v ∧ v ≤ 12)
theorem fz_PC_w {h : fz_H} {nu wh : Int} (p : fz_PC h nu wh) : 0 ≤ wh ∧ wh ≤ 8 := by unfold fz_PC at p; omega
theorem fz_LM {h : fz_H} {wh v : Int} (e1 : h 201 = fz_tbl fz_c201) (e2 : h 202 = fz_tbl fz_c202) (hw : 0 ≤ wh ∧ wh ≤ 8) : (h 201 wh.toNat ≤ v ∧ v ≤ h 202 wh.toNat) ↔ fz_F wh v := by
  rw [e1, e2]
  unfold fz_F
  rcases (show wh = 0 ∨ wh = 1 ∨ wh = 2 ∨ wh = 3 ∨ wh = 4 ∨ wh = 5 ∨ wh = 6 ∨ wh = 7 ∨ wh = 8 by omega) with rfl | rfl | rfl | rfl | rfl | rfl | rfl | rfl | rfl
  · show ((0 : Int) ≤ v ∧ v ≤ 9) ↔ _; omega
  · show ((1 : Int) ≤ v ∧ v ≤ 24) ↔ _; omega
  · show ((0 : Int) ≤ v ∧ v ≤ 1) ↔ _; omega
  · show ((0 : Int) ≤ v ∧ v ≤ 999) ↔ _; omega
  · show ((0 : Int) ≤ v ∧ v ≤ 4) ↔ _; omega
  · show ((1 : Int) ≤ v ∧ v ≤ 9) ↔ _; omega
  · show ((-9 : Int) ≤ v ∧ v ≤ 9) ↔ _; omega
  · show ((0 : Int) ≤ v ∧ v ≤ 99) ↔ _; omega
  · show ((0 : Int) ≤ v ∧ v ≤ 12) ↔ _; omega
theorem fz_PCN {h : fz_H} {nu wh : Int} (a : h 1 7 = h 53 0) (b : h 1 8 = h 53 2) (c : h 9 5 = h 53 10) (a8 : h 53 0 ≤ 8) (b8 : h 53 2 ≤ 12) (c8 : h 53 10 ≤ 10) : fz_PC h nu wh ↔ fz_PN h nu wh := by
  unfold fz_PC fz_PN
  rw [a, b, c]
  constructor
  · rintro (z | z | z | z | z | z | z | z | z)
    · exact Or.inl ⟨z.1, by omega, by omega, by omega⟩
    · exact Or.inr (Or.inl ⟨z.1, by omega, by omega, by omega⟩)
    · exact Or.inr (Or.inr (Or.inl ⟨z.1, by omega, by omega, by omega⟩))
    · exact Or.inr (Or.inr (Or.inr (Or.inl ⟨z.1, by omega, by omega, by omega⟩)))
    · exact Or.inr (Or.inr (Or.inr (Or.inr (Or.inl ⟨z.1, by omega, by omega, by omega⟩))))
    · exact Or.inr (Or.inr (Or.inr (Or.inr (Or.inr (Or.inl ⟨z.1, by omega, by omega, by omega⟩)))))
    · exact Or.inr (Or.inr (Or.inr (Or.inr (Or.inr (Or.inr (Or.inl ⟨z.1, by omega, by omega⟩))))))
    · exact Or.inr (Or.inr (Or.inr (Or.inr (Or.inr (Or.inr (Or.inr (Or.inl ⟨z.1, by omega⟩)))))))
    · exact Or.inr (Or.inr (Or.inr (Or.inr (Or.inr (Or.inr (Or.inr (Or.inr (⟨z.1, by omega⟩))))))))
  · rintro (z | z | z | z | z | z | z | z | z)
    · exact Or.inl ⟨z.1, by omega, by omega⟩
    · exact Or.inr (Or.inl ⟨z.1, by omega, by omega⟩)
    · exact Or.inr (Or.inr (Or.inl ⟨z.1, by omega, by omega⟩))
    · exact Or.inr (Or.inr (Or.inr (Or.inl ⟨z.1, by omega, by omega⟩)))
    · exact Or.inr (Or.inr (Or.inr (Or.inr (Or.inl ⟨z.1, by omega, by omega⟩))))
    · exact Or.inr (Or.inr (Or.inr (Or.inr (Or.inr (Or.inl ⟨z.1, by omega, by omega⟩)))))
    · exact Or.inr (Or.inr (Or.inr (Or.inr (Or.inr (Or.inr (Or.inl ⟨z.1, by omega, by omega⟩))))))
    · exact Or.inr (Or.inr (Or.inr (Or.inr (Or.inr (Or.inr (Or.inr (Or.inl ⟨z.1, by omega⟩)))))))
    · exact Or.inr (Or.inr (Or.inr (Or.inr (Or.inr (Or.inr (Or.inr (Or.inr (⟨z.1, by omega⟩))))))))
def fz_fxC (h : fz_H) (nu wh r : Int) : Prop := (wh = 9 ∧ (0 ≤ nu ∧ nu < h 9 5) ∧ r = h 10 nu.toNat) ∨ (wh = 10 ∧ (0 ≤ nu ∧ nu < h 9 5) ∧ r = h 11 nu.toNat) ∨ (wh = 11 ∧ (0 ≤ nu ∧ nu < 4) ∧ r = h 41 nu.toNat) ∨ (wh = 12 ∧ nu = 0 ∧ r = h 40 1) ∨ (¬ (wh = 9 ∧ 0 ≤ nu ∧ nu < h 9 5) ∧ ¬ (wh = 10 ∧ 0 ≤ nu ∧ nu < h 9 5) ∧ ¬ (wh = 11 ∧ 0 ≤ nu ∧ nu < 4) ∧ ¬ (wh = 12 ∧ nu = 0) ∧ r = -2000000000)
def fz_fxM (h : fz_H) (nu wh r : Int) : Prop := (wh = 9 ∧ (0 ≤ nu ∧ nu < h 53 10) ∧ r = h 60 nu.toNat) ∨ (wh = 10 ∧ (0 ≤ nu ∧ nu < h 53 10) ∧ r = h 61 nu.toNat) ∨ (wh = 11 ∧ (0 ≤ nu ∧ nu < 4) ∧ r = h 76 nu.toNat) ∨ (wh = 12 ∧ nu = 0 ∧ r = h 53 34) ∨ (¬ (wh = 9 ∧ 0 ≤ nu ∧ nu < h 53 10) ∧ ¬ (wh = 10 ∧ 0 ≤ nu ∧ nu < h 53 10) ∧ ¬ (wh = 11 ∧ 0 ≤ nu ∧ nu < 4) ∧ ¬ (wh = 12 ∧ nu = 0) ∧ r = -2000000000)
def fz_nC (h : fz_H) (nu wh r : Int) : Prop := (8 < wh ∧ fz_fxC h nu wh r) ∨ (wh ≤ 8 ∧ fz_PC h nu wh ∧ r = fz_gC h nu wh) ∨ (wh ≤ 8 ∧ ¬ fz_PC h nu wh ∧ r = -2000000000)
theorem fz_nC_y {h : fz_H} {nu wh r : Int} (n : fz_nC h nu wh r) (p : fz_PC h nu wh) : r = fz_gC h nu wh := by
  have w := fz_PC_w p
  rcases n with n | n | n
  · exfalso; have := n.1; omega
  · exact n.2.2
  · exact absurd p n.2.1
def fz_nM (h : fz_H) (nu wh r : Int) : Prop := ((9 ≤ wh ∧ wh ≤ 12) ∧ fz_fxM h nu wh r) ∨ (¬ (9 ≤ wh ∧ wh ≤ 12) ∧ fz_PN h nu wh ∧ r = fz_gM h nu wh) ∨ (¬ (9 ≤ wh ∧ wh ≤ 12) ∧ ¬ fz_PN h nu wh ∧ r = -2000000000)
/-- a number becomes another -/
def fz_aC (h h' : fz_H) (nu wh v : Int) : Prop := ∀ c : Nat, c ≠ 7 → c ≠ 8 → h' c = fz_up h (fz_lC nu wh).1 (fz_lC nu wh).2 v c
theorem fz_aC_p {h H : fz_H} {nu wh v : Int} {c s : Nat} (e : H = fz_up h c s v) (l : fz_lC nu wh = (c, s)) : fz_aC h H nu wh v := fun d _ _ => by rw [e, l]
theorem fz_aC_m {h H H1 : fz_H} {nu wh v : Int} {c s : Nat} (e : H = fz_up h c s v) (l : fz_lC nu wh = (c, s)) (f : fz_fr [(7, 99999), (8, 99999)] H H1) : fz_aC h H1 nu wh v := fun d h7 h8 => by
  have : H1 d = H d := funext fun j => f d j (by
    unfold fz_me
    simp only [List.any_cons, List.any_nil, Bool.or_false, Bool.or_eq_false_iff, Bool.and_eq_false_iff]
    exact ⟨Or.inl (by cases q : Nat.beq 7 d with | false => rfl | true => exact absurd (Nat.eq_of_beq_eq_true q).symm h7), Or.inl (by cases q : Nat.beq 8 d with | false => rfl | true => exact absurd (Nat.eq_of_beq_eq_true q).symm h8)⟩)
  rw [this, e, l]
/-- changes noted -/
def fz_cgC1 (g h' : fz_H) (d nu wh x y : Int) : Prop := h' 35 4 = d + 1 ∧ h' 35 5 = d + 1 ∧ h' 36 = fz_up g 36 d.toNat nu 36 ∧ h' 37 = fz_up g 37 d.toNat wh 37 ∧ h' 38 = fz_up g 38 d.toNat x 38 ∧ h' 39 = fz_up g 39 d.toNat y 39
def fz_doC (h g : fz_H) : Prop := g 36 = fz_cp h 36 1 36 0 39 36 ∧ g 37 = fz_cp h 37 1 37 0 39 37 ∧ g 38 = fz_cp h 38 1 38 0 39 38 ∧ g 39 = fz_cp h 39 1 39 0 39 39
def fz_cgC (h h' : fz_H) (nu wh x y : Int) : Prop := (h 35 4 < 40 ∧ fz_cgC1 h h' (h 35 4) nu wh x y) ∨ (40 ≤ h 35 4 ∧ ∃ g, fz_doC h g ∧ fz_cgC1 g h' 39 nu wh x y)
theorem fz_doC_in {h H1 H2 H3 H4 H5 : fz_H} {x : Int} (e1 : H1 = fz_cp h 36 1 36 0 39) (e2 : H2 = fz_cp H1 37 1 37 0 39) (e3 : H3 = fz_cp H2 38 1 38 0 39) (e4 : H4 = fz_cp H3 39 1 39 0 39) (e5 : H5 = fz_up H4 35 4 x) : fz_doC h H5 := by
  have a1 : H1 37 = h 37 ∧ H1 38 = h 38 ∧ H1 39 = h 39 := by rw [e1]; exact ⟨fz_cp_ne (by decide), fz_cp_ne (by decide), fz_cp_ne (by decide)⟩
  have a2 : H2 36 = H1 36 ∧ H2 38 = H1 38 ∧ H2 39 = H1 39 := by rw [e2]; exact ⟨fz_cp_ne (by decide), fz_cp_ne (by decide), fz_cp_ne (by decide)⟩
  have a3 : H3 36 = H2 36 ∧ H3 37 = H2 37 ∧ H3 39 = H2 39 := by rw [e3]; exact ⟨fz_cp_ne (by decide), fz_cp_ne (by decide), fz_cp_ne (by decide)⟩
  have a4 : H4 36 = H3 36 ∧ H4 37 = H3 37 ∧ H4 38 = H3 38 := by rw [e4]; exact ⟨fz_cp_ne (by decide), fz_cp_ne (by decide), fz_cp_ne (by decide)⟩
  have a5 : H5 36 = H4 36 ∧ H5 37 = H4 37 ∧ H5 38 = H4 38 ∧ H5 39 = H4 39 := by rw [e5]; exact ⟨fz_up_ne (by decide), fz_up_ne (by decide), fz_up_ne (by decide), fz_up_ne (by decide)⟩
  refine ⟨?_, ?_, ?_, ?_⟩
  · rw [a5.1, a4.1, a3.1, a2.1, e1]
  · rw [a5.2.1, a4.2.1, a3.2.1, e2]
    funext j
    unfold fz_cp
    rw [a1.1]
  · rw [a5.2.2.1, a4.2.2, e3]
    funext j
    unfold fz_cp
    rw [a2.2.1, a1.2.1]
  · rw [a5.2.2.2, e4]
    funext j
    unfold fz_cp
    rw [a3.2.2, a2.2.2, a1.2.2]
theorem fz_cgC_in {g H1 H2 H3 H4 H5 H6 : fz_H} {k d nu wh x y z w : Int} (e1 : H1 = fz_up g 36 k.toNat nu) (e2 : H2 = fz_up H1 37 k.toNat wh) (e3 : H3 = fz_up H2 38 k.toNat x) (e4 : H4 = fz_up H3 39 k.toNat y) (e5 : H5 = fz_up H4 35 4 z) (e6 : H6 = fz_up H5 35 5 w) (hk : k = d) (hz : z = d + 1) (hw : w = d + 1) : fz_cgC1 g H6 d nu wh x y := by
  subst hk hz hw
  refine ⟨?_, ?_, ?_, ?_, ?_, ?_⟩
  · rw [e6, fz_up_s (by decide), e5, fz_up_e]
  · rw [e6, fz_up_e]
  · rw [e6, fz_up_ne (by decide), e5, fz_up_ne (by decide), e4, fz_up_ne (by decide), e3, fz_up_ne (by decide), e2, fz_up_ne (by decide), e1]
  · rw [e6, fz_up_ne (by decide), e5, fz_up_ne (by decide), e4, fz_up_ne (by decide), e3, fz_up_ne (by decide), e2, e1]
    funext j
    unfold fz_up
    simp
  · rw [e6, fz_up_ne (by decide), e5, fz_up_ne (by decide), e4, fz_up_ne (by decide), e3, e2, e1]
    funext j
    unfold fz_up
    simp
  · rw [e6, fz_up_ne (by decide), e5, fz_up_ne (by decide), e4, e3, e2, e1]
    funext j
    unfold fz_up
    simp
def fz_okC (h : fz_H) (nu wh v : Int) : Prop := fz_PC h nu wh ∧ h 201 wh.toNat ≤ v ∧ v ≤ h 202 wh.toNat
/-- the class's mend -/
def fz_mC (h h' : fz_H) (nu wh v r : Int) : Prop := (¬ fz_okC h nu wh v ∧ r = -2000000000 ∧ h' = h) ∨ (fz_okC h nu wh v ∧ r = fz_gC h nu wh ∧ r = v ∧ h' = h) ∨ (fz_okC h nu wh v ∧ r = fz_gC h nu wh ∧ r ≠ v ∧ ∃ h1, fz_cgC h h1 nu wh r v ∧ fz_fr [(35, 4), (35, 5), (36, 99999), (37, 99999), (38, 99999), (39, 99999)] h h1 ∧ fz_aC h1 h' nu wh v)
def fz_uC (h h' : fz_H) (r : Int) : Prop := (h 35 4 = 0 ∧ r = -5 ∧ h' = h) ∨ (0 < h 35 4 ∧ r = h 35 4 - 1 ∧ (fz_PC h (h 36 (h 35 4 - 1).toNat) (h 37 (h 35 4 - 1).toNat) → fz_aC (fz_up h 35 4 (h 35 4 - 1)) h' (h 36 (h 35 4 - 1).toNat) (h 37 (h 35 4 - 1).toNat) (h 38 (h 35 4 - 1).toNat)))
def fz_vC (h h' : fz_H) (r : Int) : Prop := (h 35 5 ≤ h 35 4 ∧ r = -5 ∧ h' = h) ∨ (h 35 4 < h 35 5 ∧ r = h 35 5 - (h 35 4 + 1) ∧ (fz_PC h (h 36 (h 35 4).toNat) (h 37 (h 35 4).toNat) → fz_aC (fz_up h 35 4 (h 35 4 + 1)) h' (h 36 (h 35 4).toNat) (h 37 (h 35 4).toNat) (h 39 (h 35 4).toNat)))
theorem fz_PC_up {h : fz_H} {nu wh x : Int} {c s : Nat} (h1 : c ≠ 1) (h2 : c ≠ 9) : fz_PC (fz_up h c s x) nu wh ↔ fz_PC h nu wh := by
  unfold fz_PC
  rw [fz_up_o (by omega), fz_up_o (by omega), fz_up_o (by omega)]
theorem fz_uC_in {h H h' : fz_H} {y r : Int} {nn ww xx : Int} (e : H = fz_up h 35 4 y) (hy : y = h 35 4 - 1) (h0 : 0 < h 35 4) (hr : r = h 35 4 - 1) (a : fz_PC H nn ww → fz_aC H h' nn ww xx) (en : nn = h 36 y.toNat) (ew : ww = h 37 y.toNat) (ex : xx = h 38 y.toNat) : fz_uC h h' r := by
  subst hy en ew ex
  refine Or.inr ⟨h0, hr, fun p => ?_⟩
  rw [e] at a
  exact a ((fz_PC_up (by decide) (by decide)).mpr p)
theorem fz_vC_in {h H h' : fz_H} {y k r : Int} {nn ww xx : Int} (e : H = fz_up h 35 4 y) (hy : y = h 35 4 + 1) (hk : k = h 35 4) (h0 : h 35 4 < h 35 5) (hr : r = h 35 5 - (h 35 4 + 1)) (a : fz_PC H nn ww → fz_aC H h' nn ww xx) (en : nn = h 36 k.toNat) (ew : ww = h 37 k.toNat) (ex : xx = h 39 k.toNat) : fz_vC h h' r := by
  subst hy hk en ew ex
  refine Or.inr ⟨h0, hr, fun p => ?_⟩
  rw [e] at a
  exact a ((fz_PC_up (by decide) (by decide)).mpr p)
/-- the model's -/
def fz_okN (h : fz_H) (nu wh v : Int) : Prop := fz_PN h nu wh ∧ fz_F wh v
def fz_cgM1 (g h' : fz_H) (d nu wh x y : Int) : Prop := h' 53 42 = d + 1 ∧ h' 53 41 = d + 1 ∧ h' 80 = fz_up (fz_up (fz_up (fz_up g 80 (4 * d).toNat nu) 80 (4 * d + 1).toNat wh) 80 (4 * d + 2).toNat x) 80 (4 * d + 3).toNat y 80
def fz_cgM (h h' : fz_H) (nu wh x y : Int) : Prop := (h 53 42 < 40 ∧ fz_cgM1 h h' (h 53 42) nu wh x y) ∨ (h 53 42 = 40 ∧ fz_cgM1 (fz_cp h 80 4 80 0 156) h' 39 nu wh x y)
theorem fz_cgM_in {g H0 H1 H2 H3 H4 H5 H6 : fz_H} {k1 k2 k3 k4 d nu wh x y z w : Int} (e0 : H0 80 = g 80) (e1 : H1 = fz_up H0 80 k1.toNat nu) (e2 : H2 = fz_up H1 80 k2.toNat wh) (e3 : H3 = fz_up H2 80 k3.toNat x) (e4 : H4 = fz_up H3 80 k4.toNat y) (e5 : H5 = fz_up H4 53 42 z) (e6 : H6 = fz_up H5 53 41 w) (h1 : k1 = 4 * d) (h2 : k2 = 4 * d + 1) (h3 : k3 = 4 * d + 2) (h4 : k4 = 4 * d + 3) (hz : z = d + 1) (hw : w = d + 1) : fz_cgM1 g H6 d nu wh x y := by
  subst h1 h2 h3 h4 hz hw
  refine ⟨?_, ?_, ?_⟩
  · rw [e6, fz_up_s (by decide), e5, fz_up_e]
  · rw [e6, fz_up_e]
  · rw [e6, fz_up_ne (by decide), e5, fz_up_ne (by decide), e4, e3, e2, e1]
    funext j
    unfold fz_up
    rw [e0]
def fz_mM (h h' : fz_H) (nu wh v r : Int) : Prop := (¬ fz_okN h nu wh v ∧ r = -2000000000 ∧ h' = h) ∨ (fz_okN h nu wh v ∧ r = fz_gM h nu wh ∧ r = v ∧ h' = h) ∨ (fz_okN h nu wh v ∧ r = fz_gM h nu wh ∧ r ≠ v ∧ fz_cgM h h' nu wh r v ∧ ∀ c s : Nat, c ≠ 80 → ¬ (c = 53 ∧ (s = 41 ∨ s = 42)) → h' c s = fz_up h (fz_lM nu wh).1 (fz_lM nu wh).2 v c s)
theorem fz_lM_n {nu wh : Int} : (fz_lM nu wh).1 ≠ 80 ∧ ((fz_lM nu wh).1 = 53 → (fz_lM nu wh).2 = 8 ∨ (fz_lM nu wh).2 = 9) := by
  unfold fz_lM
  repeat' split
  all_goals (constructor <;> simp)
theorem fz_mM_in {h G H' : fz_H} {nu wh v r : Int} (ok : fz_okN h nu wh v) (hr : r = fz_gM h nu wh) (hv : r ≠ v) (e : G = fz_up h (fz_lM nu wh).1 (fz_lM nu wh).2 v) (f : ∀ c s : Nat, c ≠ 80 → ¬ (c = 53 ∧ (s = 41 ∨ s = 42)) → H' c s = G c s) (k : fz_cgM G H' nu wh r v) : fz_mM h H' nu wh v r := by
  refine Or.inr (Or.inr ⟨ok, hr, hv, ?_, fun c s h1 h2 => by rw [f c s h1 h2, e]⟩)
  have n := @fz_lM_n nu wh
  have a1 : G 53 42 = h 53 42 := by
    rw [e]
    unfold fz_up
    rw [if_neg (by rintro ⟨z1, z2⟩; have := n.2 z1.symm; omega)]
  have a2 : G 80 = h 80 := by rw [e]; exact fz_up_ne (fun z => n.1 z.symm)
  unfold fz_cgM at k ⊢
  rw [a1] at k
  rcases k with ⟨k1, k2⟩ | ⟨k1, k2⟩
  · refine Or.inl ⟨k1, k2.1, k2.2.1, ?_⟩
    rw [k2.2.2]
    funext j
    unfold fz_up
    rw [a2]
  · refine Or.inr ⟨k1, k2.1, k2.2.1, ?_⟩
    rw [k2.2.2]
    funext j
    unfold fz_up fz_cp
    rw [a2]
def fz_uM (h h' : fz_H) (r : Int) : Prop := (h 53 42 = 0 ∧ r = -5 ∧ h' = h) ∨ (0 < h 53 42 ∧ r = h 53 42 - 1 ∧ h' = fz_up (fz_up h 53 42 (h 53 42 - 1)) (fz_lM (h 80 (4 * (h 53 42 - 1)).toNat) (h 80 (4 * (h 53 42 - 1) + 1).toNat)).1 (fz_lM (h 80 (4 * (h 53 42 - 1)).toNat) (h 80 (4 * (h 53 42 - 1) + 1).toNat)).2 (h 80 (4 * (h 53 42 - 1) + 2).toNat))
def fz_xM (h h' : fz_H) (r : Int) : Prop := (h 53 42 = h 53 41 ∧ r = -5 ∧ h' = h) ∨ (h 53 42 ≠ h 53 41 ∧ r = h 53 41 - (h 53 42 + 1) ∧ h' = fz_up (fz_up h (fz_lM (h 80 (4 * h 53 42).toNat) (h 80 (4 * h 53 42 + 1).toNat)).1 (fz_lM (h 80 (4 * h 53 42).toNat) (h 80 (4 * h 53 42 + 1).toNat)).2 (h 80 (4 * h 53 42 + 3).toNat)) 53 42 (h 53 42 + 1))
theorem fz_uM_in {h H h' : fz_H} {y r n w x i0 i1 i2 : Int} (e : H = fz_up h 53 42 y) (hy : y = h 53 42 - 1) (h0 : 0 < h 53 42) (hr : r = h 53 42 - 1) (a : h' = fz_up H (fz_lM n w).1 (fz_lM n w).2 x) (en : n = h 80 i0.toNat) (ew : w = h 80 i1.toNat) (ex : x = h 80 i2.toNat) (q0 : i0 = 4 * (h 53 42 - 1)) (q1 : i1 = 4 * (h 53 42 - 1) + 1) (q2 : i2 = 4 * (h 53 42 - 1) + 2) : fz_uM h h' r := by
  subst hy q0 q1 q2 en ew ex e
  exact Or.inr ⟨h0, hr, a⟩
theorem fz_vM_in {h H h' : fz_H} {y r n w x i0 i1 i2 : Int} (a : H = fz_up h (fz_lM n w).1 (fz_lM n w).2 x) (e : h' = fz_up H 53 42 y) (hy : y = h 53 42 + 1) (h0 : h 53 42 ≠ h 53 41) (hr : r = h 53 41 - (h 53 42 + 1)) (en : n = h 80 i0.toNat) (ew : w = h 80 i1.toNat) (ex : x = h 80 i2.toNat) (q0 : i0 = 4 * h 53 42) (q1 : i1 = 4 * h 53 42 + 1) (q2 : i2 = 4 * h 53 42 + 3) : fz_xM h h' r := by
  subst hy q0 q1 q2 en ew ex
  exact Or.inr ⟨h0, hr, by rw [e, a]⟩
def fz_R2 (h : fz_H) : Prop := h 2 = h 54
theorem fz_R2_eq {h h' : fz_H} (e0 : h' 2 = h 2) (e1 : h' 54 = h 54) (hR : fz_R2 h) : fz_R2 h' := by
  unfold fz_R2 at hR ⊢
  rw [e0, e1]
  exact hR
def fz_R3 (h : fz_H) : Prop := h 3 = h 57
theorem fz_R3_eq {h h' : fz_H} (e0 : h' 3 = h 3) (e1 : h' 57 = h 57) (hR : fz_R3 h) : fz_R3 h' := by
  unfold fz_R3 at hR ⊢
  rw [e0, e1]
  exact hR
def fz_R4 (h : fz_H) : Prop := h 4 = h 58
theorem fz_R4_eq {h h' : fz_H} (e0 : h' 4 = h 4) (e1 : h' 58 = h 58) (hR : fz_R4 h) : fz_R4 h' := by
  unfold fz_R4 at hR ⊢
  rw [e0, e1]
  exact hR
def fz_R28 (h : fz_H) : Prop := h 28 = h 59
theorem fz_R28_eq {h h' : fz_H} (e0 : h' 28 = h 28) (e1 : h' 59 = h 59) (hR : fz_R28 h) : fz_R28 h' := by
  unfold fz_R28 at hR ⊢
  rw [e0, e1]
  exact hR
def fz_R5 (h : fz_H) : Prop := h 5 = h 55
theorem fz_R5_eq {h h' : fz_H} (e0 : h' 5 = h 5) (e1 : h' 55 = h 55) (hR : fz_R5 h) : fz_R5 h' := by
  unfold fz_R5 at hR ⊢
  rw [e0, e1]
  exact hR
def fz_R6 (h : fz_H) : Prop := h 6 = h 56
theorem fz_R6_eq {h h' : fz_H} (e0 : h' 6 = h 6) (e1 : h' 56 = h 56) (hR : fz_R6 h) : fz_R6 h' := by
  unfold fz_R6 at hR ⊢
  rw [e0, e1]
  exact hR
def fz_RG (h : fz_H) : Prop := h 27 8 = h 53 8 ∧ h 27 9 = h 53 9
theorem fz_RG_eq {h h' : fz_H} (e0 : h' 27 8 = h 27 8) (e1 : h' 27 9 = h 27 9) (e2 : h' 53 8 = h 53 8) (e3 : h' 53 9 = h 53 9) (hR : fz_RG h) : fz_RG h' := by
  unfold fz_RG
  rw [e0, e1, e2, e3]
  exact hR
def fz_RL (h : fz_H) : Prop := ∀ j : Nat, (j : Int) < h 9 5 → h 11 j = h 61 j ∧ h 12 j = h 62 j ∧ h 13 j = h 63 j ∧ h 14 j = h 64 j
theorem fz_RL_eq {h h' : fz_H} (e11 : h' 11 = h 11) (e12 : h' 12 = h 12) (e13 : h' 13 = h 13) (e14 : h' 14 = h 14) (e61 : h' 61 = h 61) (e62 : h' 62 = h 62) (e63 : h' 63 = h 63) (e64 : h' 64 = h 64) (e9 : h' 9 5 = h 9 5) (hR : fz_RL h) : fz_RL h' := by
  intro j hj
  rw [e11, e12, e13, e14, e61, e62, e63, e64]
  exact hR j (by omega)
def fz_RC (h : fz_H) : Prop := (h 35 4 = h 53 42 ∧ h 35 5 = h 53 41 ∧ 0 ≤ h 35 4 ∧ h 35 4 ≤ h 35 5 ∧ h 35 5 ≤ 40) ∧ ∀ j : Nat, (j : Int) < h 35 5 → fz_PC h (h 36 j) (h 37 j) ∧ h 36 j = h 80 (4 * j) ∧ h 37 j = h 80 (4 * j + 1) ∧ h 38 j = h 80 (4 * j + 2) ∧ h 39 j = h 80 (4 * j + 3)
theorem fz_PC_t {h h' : fz_H} {nu wh : Int} (a : h 1 7 ≤ h' 1 7) (b : h 1 8 ≤ h' 1 8) (c : h 9 5 ≤ h' 9 5) (p : fz_PC h nu wh) : fz_PC h' nu wh := by
  unfold fz_PC at p ⊢
  rcases p with z | z | z | z | z | z | z | z | z
  · exact Or.inl ⟨z.1, by omega, by omega⟩
  · exact Or.inr (Or.inl ⟨z.1, by omega, by omega⟩)
  · exact Or.inr (Or.inr (Or.inl ⟨z.1, by omega, by omega⟩))
  · exact Or.inr (Or.inr (Or.inr (Or.inl ⟨z.1, by omega, by omega⟩)))
  · exact Or.inr (Or.inr (Or.inr (Or.inr (Or.inl ⟨z.1, by omega, by omega⟩))))
  · exact Or.inr (Or.inr (Or.inr (Or.inr (Or.inr (Or.inl ⟨z.1, by omega, by omega⟩)))))
  · exact Or.inr (Or.inr (Or.inr (Or.inr (Or.inr (Or.inr (Or.inl ⟨z.1, by omega, by omega⟩))))))
  · exact Or.inr (Or.inr (Or.inr (Or.inr (Or.inr (Or.inr (Or.inr (Or.inl ⟨z.1, by omega⟩)))))))
  · exact Or.inr (Or.inr (Or.inr (Or.inr (Or.inr (Or.inr (Or.inr (Or.inr (⟨z.1, by omega⟩))))))))
theorem fz_PC_e {h h' : fz_H} {nu wh : Int} (a : h' 1 7 = h 1 7) (b : h' 1 8 = h 1 8) (c : h' 9 5 = h 9 5) (p : fz_PC h nu wh) : fz_PC h' nu wh := fz_PC_t (by omega) (by omega) (by omega) p
theorem fz_RC_t {h h' : fz_H} (e4 : h' 35 4 = h 35 4) (e5 : h' 35 5 = h 35 5) (m1 : h' 53 41 = h 53 41) (m2 : h' 53 42 = h 53 42) (e36 : h' 36 = h 36) (e37 : h' 37 = h 37) (e38 : h' 38 = h 38) (e39 : h' 39 = h 39) (e80 : h' 80 = h 80) (a : h 1 7 ≤ h' 1 7) (b : h 1 8 ≤ h' 1 8) (c : h 9 5 ≤ h' 9 5) (hR : fz_RC h) : fz_RC h' := by
  obtain ⟨h1, h2⟩ := hR
  refine ⟨by rw [e4, e5, m1, m2]; exact h1, fun j hj => ?_⟩
  rw [e36, e37, e38, e39, e80]
  have z := h2 j (by omega)
  exact ⟨fz_PC_t a b c z.1, z.2⟩
theorem fz_RC_eq {h h' : fz_H} (e4 : h' 35 4 = h 35 4) (e5 : h' 35 5 = h 35 5) (m1 : h' 53 41 = h 53 41) (m2 : h' 53 42 = h 53 42) (e36 : h' 36 = h 36) (e37 : h' 37 = h 37) (e38 : h' 38 = h 38) (e39 : h' 39 = h 39) (e80 : h' 80 = h 80) (a : h' 1 7 = h 1 7) (b : h' 1 8 = h 1 8) (c : h' 9 5 = h 9 5) (hR : fz_RC h) : fz_RC h' := fz_RC_t e4 e5 m1 m2 e36 e37 e38 e39 e80 (by omega) (by omega) (by omega) hR
def fz_RJ (h : fz_H) : Prop := h 40 1 = h 53 34 ∧ h 41 = h 76 ∧ h 40 6 = h 53 37 ∧ h 42 = h 78 ∧ h 43 0 = h 53 38
theorem fz_RJ_eq {h h' : fz_H} (e0 : h' 40 1 = h 40 1) (e1 : h' 53 34 = h 53 34) (e2 : h' 41 = h 41) (e3 : h' 76 = h 76) (e4 : h' 40 6 = h 40 6) (e5 : h' 53 37 = h 53 37) (e6 : h' 42 = h 42) (e7 : h' 78 = h 78) (e8 : h' 43 0 = h 43 0) (e9 : h' 53 38 = h 53 38) (hR : fz_RJ h) : fz_RJ h' := by
  unfold fz_RJ
  rw [e0, e1, e2, e3, e4, e5, e6, e7, e8, e9]
  exact hR
/-! towns and roads -/
def fz_tnC (h h' : fz_H) (df : Int) : Prop := (h 1 7 < 8 ∧ h' 2 = fz_up h 2 (h 1 7).toNat df 2) ∨ (8 ≤ h 1 7 ∧ h' 2 = h 2)
theorem fz_tnC_in {h H1 H2 H3 : fz_H} {n df x : Int} (e1 : H1 = fz_up h 2 n.toNat df) (e2 : H2 = fz_up H1 1 7 x) (f : H3 2 = H2 2) (hn : n = h 1 7 ∧ h 1 7 < 8) : fz_tnC h H3 df := Or.inl ⟨hn.2, by rw [f, e2, fz_up_ne (by decide), e1, hn.1]⟩
def fz_tC (h h' : fz_H) (df : Int) : Prop := ((0 ≤ df ∧ df ≤ 9) ∧ fz_tnC h h' df) ∨ (¬ (0 ≤ df ∧ df ≤ 9) ∧ h' = h)
def fz_tM (h h' : fz_H) (df : Int) : Prop := ((0 ≤ df ∧ df ≤ 9 ∧ h 53 0 < 8) ∧ h' 54 = fz_up h 54 (h 53 0).toNat df 54) ∨ (¬ (0 ≤ df ∧ df ≤ 9 ∧ h 53 0 < 8) ∧ h' 54 = h 54)
theorem fz_up_pair {f g : fz_H} {a b : Nat} {n m : Nat} {x y : Int} (e : f a = g b) (hn : n = m) (hx : x = y) : fz_up f a n x a = fz_up g b m y b := by
  subst hn hx
  funext j
  unfold fz_up
  rw [e]
  simp
theorem fz_R2_town {h h1 h2 : fz_H} {df : Int} (hR : fz_R2 h) (c : fz_tC h h1 df) (m : fz_tM h1 h2 df) (n : h1 53 0 = h 1 7) (f54 : h1 54 = h 54) (f2 : h2 2 = h1 2) : fz_R2 h2 := by
  unfold fz_R2 at hR ⊢
  unfold fz_tM at m
  rw [n] at m
  rw [f2]
  rcases c with ⟨c0, c1 | c1⟩ | ⟨c0, c1⟩
  · rcases m with ⟨m0, m1⟩ | ⟨m0, m1⟩
    · rw [c1.2, m1]
      exact fz_up_pair (by rw [f54]; exact hR) rfl rfl
    · exfalso; omega
  · rcases m with ⟨m0, m1⟩ | ⟨m0, m1⟩
    · exfalso; omega
    · rw [c1.2, m1, f54]; exact hR
  · rcases m with ⟨m0, m1⟩ | ⟨m0, m1⟩
    · exfalso; omega
    · rw [m1, f54, c1]; exact hR
def fz_rnC (h h' : fz_H) (a b hr : Int) : Prop := (h 1 8 < 12 ∧ h' 5 = fz_up h 5 (h 1 8).toNat a 5 ∧ h' 6 = fz_up h 6 (h 1 8).toNat b 6 ∧ h' 3 = fz_up h 3 (h 1 8).toNat hr 3 ∧ h' 4 = fz_up h 4 (h 1 8).toNat 1 4) ∨ (12 ≤ h 1 8 ∧ h' 5 = h 5 ∧ h' 6 = h 6 ∧ h' 3 = h 3 ∧ h' 4 = h 4)
theorem fz_up_4 {g H1 H2 H3 H4 : fz_H} {c1 c2 c3 c4 s1 s2 s3 s4 : Nat} {x1 x2 x3 x4 : Int} (e1 : H1 = fz_up g c1 s1 x1) (e2 : H2 = fz_up H1 c2 s2 x2) (e3 : H3 = fz_up H2 c3 s3 x3) (e4 : H4 = fz_up H3 c4 s4 x4) (n12 : c1 ≠ c2) (n13 : c1 ≠ c3) (n14 : c1 ≠ c4) (n23 : c2 ≠ c3) (n24 : c2 ≠ c4) (n34 : c3 ≠ c4) : H4 c1 = fz_up g c1 s1 x1 c1 ∧ H4 c2 = fz_up g c2 s2 x2 c2 ∧ H4 c3 = fz_up g c3 s3 x3 c3 ∧ H4 c4 = fz_up g c4 s4 x4 c4 := by
  refine ⟨?_, ?_, ?_, ?_⟩
  · rw [e4, fz_up_ne n14, e3, fz_up_ne n13, e2, fz_up_ne n12, e1]
  · rw [e4, fz_up_ne n24, e3, fz_up_ne n23, e2, e1]
    funext j
    unfold fz_up
    simp [n12.symm]
  · rw [e4, fz_up_ne n34, e3, e2, e1]
    funext j
    unfold fz_up
    simp [n13.symm, n23.symm]
  · rw [e4, e3, e2, e1]
    funext j
    unfold fz_up
    simp [n14.symm, n24.symm, n34.symm]
theorem fz_rnC_in {h H1 H2 H3 H4 H5 H6 : fz_H} {n a b hr x : Int} (e1 : H1 = fz_up h 5 n.toNat a) (e2 : H2 = fz_up H1 6 n.toNat b) (e3 : H3 = fz_up H2 3 n.toNat hr) (e4 : H4 = fz_up H3 4 n.toNat 1) (e5 : H5 = fz_up H4 1 8 x) (f5 : H6 5 = H5 5) (f6 : H6 6 = H5 6) (f3 : H6 3 = H5 3) (f4 : H6 4 = H5 4) (hn : n = h 1 8 ∧ h 1 8 < 12) : fz_rnC h H6 a b hr := by
  have z := fz_up_4 e1 e2 e3 e4 (by decide) (by decide) (by decide) (by decide) (by decide) (by decide)
  have y : ∀ c, c ≠ 1 → H5 c = H4 c := fun c hc => by rw [e5, fz_up_ne hc]
  obtain ⟨rfl, h12⟩ := hn
  refine Or.inl ⟨h12, ?_, ?_, ?_, ?_⟩
  · rw [f5, y 5 (by decide)]; exact z.1
  · rw [f6, y 6 (by decide)]; exact z.2.1
  · rw [f3, y 3 (by decide)]; exact z.2.2.1
  · rw [f4, y 4 (by decide)]; exact z.2.2.2
def fz_rdC (h : fz_H) (ab ln : Int) : Prop := 0 ≤ ab ∧ ab / 10 < h 1 7 ∧ ab % 10 < h 1 7 ∧ ab / 10 ≠ ab % 10 ∧ 1 ≤ ln ∧ ln ≤ 24
def fz_roC (h h' : fz_H) (ab ln : Int) : Prop := (fz_rdC h ab ln ∧ fz_rnC h h' (ab / 10) (ab % 10) ln) ∨ (¬ fz_rdC h ab ln ∧ h' = h)
def fz_rdM (h : fz_H) (ab ln : Int) : Prop := (0 ≤ ab ∧ ab / 10 < h 53 0 ∧ ab % 10 < h 53 0 ∧ ab / 10 ≠ ab % 10 ∧ 1 ≤ ln ∧ ln ≤ 24) ∧ h 53 2 < 12
def fz_roM (h h' : fz_H) (ab ln : Int) : Prop := (fz_rdM h ab ln ∧ h' 55 = fz_up h 55 (h 53 2).toNat (ab / 10) 55 ∧ h' 56 = fz_up h 56 (h 53 2).toNat (ab % 10) 56 ∧ h' 57 = fz_up h 57 (h 53 2).toNat ln 57 ∧ h' 58 = fz_up h 58 (h 53 2).toNat 1 58) ∨ (¬ fz_rdM h ab ln ∧ h' = h)
theorem fz_roM_in {h H1 H2 H3 H4 H5 : fz_H} {n ab ln x : Int} (e1 : H1 = fz_up h 55 n.toNat (ab / 10)) (e2 : H2 = fz_up H1 56 n.toNat (ab % 10)) (e3 : H3 = fz_up H2 57 n.toNat ln) (e4 : H4 = fz_up H3 58 n.toNat 1) (e5 : H5 = fz_up H4 53 2 x) (hn : n = h 53 2) (ok : fz_rdM h ab ln) : fz_roM h H5 ab ln := by
  have z := fz_up_4 e1 e2 e3 e4 (by decide) (by decide) (by decide) (by decide) (by decide) (by decide)
  have y : ∀ c, c ≠ 53 → H5 c = H4 c := fun c hc => by rw [e5, fz_up_ne hc]
  subst hn
  refine Or.inl ⟨ok, ?_, ?_, ?_, ?_⟩
  · rw [y 55 (by decide)]; exact z.1
  · rw [y 56 (by decide)]; exact z.2.1
  · rw [y 57 (by decide)]; exact z.2.2.1
  · rw [y 58 (by decide)]; exact z.2.2.2
theorem fz_R_road {h h1 h2 : fz_H} {ab ln : Int} (h5 : fz_R5 h) (h6 : fz_R6 h) (h3 : fz_R3 h) (h4 : fz_R4 h) (c : fz_roC h h1 ab ln) (m : fz_roM h1 h2 ab ln) (n0 : h1 53 0 = h 1 7) (n2 : h1 53 2 = h 1 8) (f55 : h1 55 = h 55) (f56 : h1 56 = h 56) (f57 : h1 57 = h 57) (f58 : h1 58 = h 58) (g5 : h2 5 = h1 5) (g6 : h2 6 = h1 6) (g3 : h2 3 = h1 3) (g4 : h2 4 = h1 4) : fz_R5 h2 ∧ fz_R6 h2 ∧ fz_R3 h2 ∧ fz_R4 h2 := by
  unfold fz_R5 fz_R6 fz_R3 fz_R4 at *
  unfold fz_roM fz_rdM at m
  unfold fz_roC fz_rdC at c
  rw [n0, n2] at m
  rw [g5, g6, g3, g4]
  rcases c with ⟨c0, c1 | c1⟩ | ⟨c0, c1⟩
  · rcases m with ⟨m0, m1, m2, m3, m4⟩ | ⟨m0, m1⟩
    · obtain ⟨d0, d1, d2, d3, d4⟩ := c1
      refine ⟨?_, ?_, ?_, ?_⟩
      · rw [d1, m1]; exact fz_up_pair (by rw [f55]; exact h5) rfl rfl
      · rw [d2, m2]; exact fz_up_pair (by rw [f56]; exact h6) rfl rfl
      · rw [d3, m3]; exact fz_up_pair (by rw [f57]; exact h3) rfl rfl
      · rw [d4, m4]; exact fz_up_pair (by rw [f58]; exact h4) rfl rfl
    · exact absurd ⟨c0, c1.1⟩ m0
  · rcases m with ⟨m0, m1⟩ | ⟨m0, m1⟩
    · exfalso; omega
    · obtain ⟨d0, d1, d2, d3, d4⟩ := c1
      rw [m1, d1, d2, d3, d4, f55, f56, f57, f58]
      exact ⟨h5, h6, h3, h4⟩
  · rcases m with ⟨m0, m1⟩ | ⟨m0, m1⟩
    · exact absurd m0.1 c0
    · rw [m1, f55, f56, f57, f58, c1]
      exact ⟨h5, h6, h3, h4⟩
/-! deeds appended -/
def fz_apC (h h' : fz_H) (r : Int) (f : Int → Int × Int × Int × Int × Int) : Prop := (∀ j : Nat, (j : Int) < h 9 5 → h' 10 j = h 10 j ∧ h' 11 j = h 11 j ∧ h' 12 j = h 12 j ∧ h' 13 j = h 13 j ∧ h' 14 j = h 14 j) ∧ ∀ k : Int, 0 ≤ k → k < r → h' 10 (h 9 5 + k).toNat = (f k).1 ∧ h' 11 (h 9 5 + k).toNat = (f k).2.1 ∧ h' 12 (h 9 5 + k).toNat = (f k).2.2.1 ∧ h' 13 (h 9 5 + k).toNat = (f k).2.2.2.1 ∧ h' 14 (h 9 5 + k).toNat = (f k).2.2.2.2
def fz_apM (h h' : fz_H) (r : Int) (f : Int → Int × Int × Int × Int × Int) : Prop := (∀ j : Nat, (j : Int) < h 53 10 → h' 60 j = h 60 j ∧ h' 61 j = h 61 j ∧ h' 62 j = h 62 j ∧ h' 63 j = h 63 j ∧ h' 64 j = h 64 j) ∧ ∀ k : Int, 0 ≤ k → k < r → h' 60 (h 53 10 + k).toNat = (f k).1 ∧ h' 61 (h 53 10 + k).toNat = (f k).2.1 ∧ h' 62 (h 53 10 + k).toNat = (f k).2.2.1 ∧ h' 63 (h 53 10 + k).toNat = (f k).2.2.2.1 ∧ h' 64 (h 53 10 + k).toNat = (f k).2.2.2.2
theorem fz_apC_z {h : fz_H} {r : Int} {f : Int → Int × Int × Int × Int × Int} (hr : r ≤ 0) : fz_apC h h r f := ⟨fun _ _ => ⟨rfl, rfl, rfl, rfl, rfl⟩, fun k a b => by exfalso; omega⟩
theorem fz_apC_r {h h' : fz_H} {r q : Int} {f : Int → Int × Int × Int × Int × Int} (a : fz_apC h h' r f) (e : r = q) : fz_apC h h' q f := by subst e; exact a
theorem fz_apC_up {h H H1 : fz_H} {r : Int} {f : Int → Int × Int × Int × Int × Int} {c s : Nat} {x : Int} (a : fz_apC h H r f) (e : H1 = fz_up H c s x) (hc : 10 ≠ c ∧ 11 ≠ c ∧ 12 ≠ c ∧ 13 ≠ c ∧ 14 ≠ c) : fz_apC h H1 r f := by
  unfold fz_apC
  rw [e, fz_up_ne hc.1, fz_up_ne hc.2.1, fz_up_ne hc.2.2.1, fz_up_ne hc.2.2.2.1, fz_up_ne hc.2.2.2.2]
  exact a
theorem fz_apC_b {h G H : fz_H} {r : Int} {f : Int → Int × Int × Int × Int × Int} {c s : Nat} {x : Int} (e : G = fz_up h c s x) (a : fz_apC G H r f) (hc : 10 ≠ c ∧ 11 ≠ c ∧ 12 ≠ c ∧ 13 ≠ c ∧ 14 ≠ c ∧ 9 ≠ c) : fz_apC h H r f := by
  unfold fz_apC at a ⊢
  rw [e, fz_up_ne hc.1, fz_up_ne hc.2.1, fz_up_ne hc.2.2.1, fz_up_ne hc.2.2.2.1, fz_up_ne hc.2.2.2.2.1, fz_up_o hc.2.2.2.2.2] at a
  exact a
/-- one more behind those -/
theorem fz_apC_s {h H H' : fz_H} {x y : Int} {f : Int → Int × Int × Int × Int × Int} {g : Int → Int × Int × Int × Int × Int} (a : fz_apC h H x f) (b : fz_apC H H' y g) (hy : y = 1) (hs : H 9 5 = h 9 5 + x) (hx : 0 ≤ x) (h0 : 0 ≤ h 9 5) (hg : g 0 = f x) : fz_apC h H' (x + 1) f := by
  subst hy
  refine ⟨fun j hj => ?_, fun k k0 k1 => ?_⟩
  · have a1 := a.1 j hj
    have b1 := b.1 j (by omega)
    exact ⟨b1.1.trans a1.1, b1.2.1.trans a1.2.1, b1.2.2.1.trans a1.2.2.1, b1.2.2.2.1.trans a1.2.2.2.1, b1.2.2.2.2.trans a1.2.2.2.2⟩
  · by_cases e : k = x
    · have b2 := b.2 0 (by decide) (by decide)
      rw [hs, Int.add_zero, hg] at b2
      rw [e]
      exact b2
    · have a2 := a.2 k k0 (by omega)
      have b1 := b.1 (h 9 5 + k).toNat (by omega)
      exact ⟨b1.1.trans a2.1, b1.2.1.trans a2.2.1, b1.2.2.1.trans a2.2.2.1, b1.2.2.2.1.trans a2.2.2.2.1, b1.2.2.2.2.trans a2.2.2.2.2⟩
theorem fz_apC_s0 {h H H' : fz_H} {x y : Int} {f : Int → Int × Int × Int × Int × Int} {g : Int → Int × Int × Int × Int × Int} (a : fz_apC h H x f) (b : fz_apC H H' y g) (hs : H 9 5 = h 9 5 + x) (hx : 0 ≤ x) (h0 : 0 ≤ h 9 5) {q : Int} (hq : q = x) : fz_apC h H' q f := by
  subst hq
  refine ⟨fun j hj => ?_, fun k k0 k1 => ?_⟩
  · have a1 := a.1 j hj
    have b1 := b.1 j (by omega)
    exact ⟨b1.1.trans a1.1, b1.2.1.trans a1.2.1, b1.2.2.1.trans a1.2.2.1, b1.2.2.2.1.trans a1.2.2.2.1, b1.2.2.2.2.trans a1.2.2.2.2⟩
  · have a2 := a.2 k k0 k1
    have b1 := b.1 (h 9 5 + k).toNat (by omega)
    exact ⟨b1.1.trans a2.1, b1.2.1.trans a2.2.1, b1.2.2.1.trans a2.2.2.1, b1.2.2.2.1.trans a2.2.2.2.1, b1.2.2.2.2.trans a2.2.2.2.2⟩
theorem fz_apM_z {h : fz_H} {r : Int} {f : Int → Int × Int × Int × Int × Int} (hr : r ≤ 0) : fz_apM h h r f := ⟨fun _ _ => ⟨rfl, rfl, rfl, rfl, rfl⟩, fun k a b => by exfalso; omega⟩
theorem fz_apM_r {h h' : fz_H} {r q : Int} {f : Int → Int × Int × Int × Int × Int} (a : fz_apM h h' r f) (e : r = q) : fz_apM h h' q f := by subst e; exact a
theorem fz_apM_up {h H H1 : fz_H} {r : Int} {f : Int → Int × Int × Int × Int × Int} {c s : Nat} {x : Int} (a : fz_apM h H r f) (e : H1 = fz_up H c s x) (hc : 60 ≠ c ∧ 61 ≠ c ∧ 62 ≠ c ∧ 63 ≠ c ∧ 64 ≠ c) : fz_apM h H1 r f := by
  unfold fz_apM
  rw [e, fz_up_ne hc.1, fz_up_ne hc.2.1, fz_up_ne hc.2.2.1, fz_up_ne hc.2.2.2.1, fz_up_ne hc.2.2.2.2]
  exact a
theorem fz_apM_b {h G H : fz_H} {r : Int} {f : Int → Int × Int × Int × Int × Int} {c s : Nat} {x : Int} (e : G = fz_up h c s x) (a : fz_apM G H r f) (hc : 60 ≠ c ∧ 61 ≠ c ∧ 62 ≠ c ∧ 63 ≠ c ∧ 64 ≠ c ∧ 53 ≠ c) : fz_apM h H r f := by
  unfold fz_apM at a ⊢
  rw [e, fz_up_ne hc.1, fz_up_ne hc.2.1, fz_up_ne hc.2.2.1, fz_up_ne hc.2.2.2.1, fz_up_ne hc.2.2.2.2.1, fz_up_o hc.2.2.2.2.2] at a
  exact a
/-- one more behind those -/
theorem fz_apM_s {h H H' : fz_H} {x y : Int} {f : Int → Int × Int × Int × Int × Int} {g : Int → Int × Int × Int × Int × Int} (a : fz_apM h H x f) (b : fz_apM H H' y g) (hy : y = 1) (hs : H 53 10 = h 53 10 + x) (hx : 0 ≤ x) (h0 : 0 ≤ h 53 10) (hg : g 0 = f x) : fz_apM h H' (x + 1) f := by
  subst hy
  refine ⟨fun j hj => ?_, fun k k0 k1 => ?_⟩
  · have a1 := a.1 j hj
    have b1 := b.1 j (by omega)
    exact ⟨b1.1.trans a1.1, b1.2.1.trans a1.2.1, b1.2.2.1.trans a1.2.2.1, b1.2.2.2.1.trans a1.2.2.2.1, b1.2.2.2.2.trans a1.2.2.2.2⟩
  · by_cases e : k = x
    · have b2 := b.2 0 (by decide) (by decide)
      rw [hs, Int.add_zero, hg] at b2
      rw [e]
      exact b2
    · have a2 := a.2 k k0 (by omega)
      have b1 := b.1 (h 53 10 + k).toNat (by omega)
      exact ⟨b1.1.trans a2.1, b1.2.1.trans a2.2.1, b1.2.2.1.trans a2.2.2.1, b1.2.2.2.1.trans a2.2.2.2.1, b1.2.2.2.2.trans a2.2.2.2.2⟩
theorem fz_apM_s0 {h H H' : fz_H} {x y : Int} {f : Int → Int × Int × Int × Int × Int} {g : Int → Int × Int × Int × Int × Int} (a : fz_apM h H x f) (b : fz_apM H H' y g) (hs : H 53 10 = h 53 10 + x) (hx : 0 ≤ x) (h0 : 0 ≤ h 53 10) {q : Int} (hq : q = x) : fz_apM h H' q f := by
  subst hq
  refine ⟨fun j hj => ?_, fun k k0 k1 => ?_⟩
  · have a1 := a.1 j hj
    have b1 := b.1 j (by omega)
    exact ⟨b1.1.trans a1.1, b1.2.1.trans a1.2.1, b1.2.2.1.trans a1.2.2.1, b1.2.2.2.1.trans a1.2.2.2.1, b1.2.2.2.2.trans a1.2.2.2.2⟩
  · have a2 := a.2 k k0 k1
    have b1 := b.1 (h 53 10 + k).toNat (by omega)
    exact ⟨b1.1.trans a2.1, b1.2.1.trans a2.2.1, b1.2.2.1.trans a2.2.2.1, b1.2.2.2.1.trans a2.2.2.2.1, b1.2.2.2.2.trans a2.2.2.2.2⟩
def fz_wrC (h h' : fz_H) (sl pm t a wt : Int) : Prop := h' = fz_up (fz_up (fz_up (fz_up (fz_up h 10 sl.toNat (pm / 10)) 13 sl.toNat (pm % 10)) 11 sl.toNat t) 12 sl.toNat a) 14 sl.toNat wt
theorem fz_wrC_in {h H1 H2 H3 H4 H5 : fz_H} {sl pm t a wt : Int} (e1 : H1 = fz_up h 10 sl.toNat (pm / 10)) (e2 : H2 = fz_up H1 13 sl.toNat (pm % 10)) (e3 : H3 = fz_up H2 11 sl.toNat t) (e4 : H4 = fz_up H3 12 sl.toNat a) (e5 : H5 = fz_up H4 14 sl.toNat wt) : fz_wrC h H5 sl pm t a wt := by
  unfold fz_wrC
  rw [e5, e4, e3, e2, e1]
theorem fz_apC_1 {h H H1 : fz_H} {sl pm on t a mk wt x r : Int} (e : fz_wrC h H sl pm t a wt) (e1 : H1 = fz_up H 9 5 x) (hs : sl = h 9 5) (h0 : 0 ≤ h 9 5) (hp : pm / 10 = on ∧ pm % 10 = mk) (hr : r = 1) : fz_apC h H1 r (fun _ => (on, t, a, mk, wt)) := by
  subst hs hr
  unfold fz_wrC at e
  rw [hp.1, hp.2] at e
  refine ⟨fun j hj => ?_, fun k k0 k1 => ?_⟩
  · have q : j ≠ (h 9 5).toNat := by omega
    rw [e1, e]
    simp [fz_up, q]
  · have q : k = 0 := by omega
    subst q
    rw [e1, e]
    simp [fz_up]
theorem fz_apC_im {h H : fz_H} {pm t a wt : Int} {f : Int → Int × Int × Int × Int × Int} (e : fz_wrC h H 10 pm t a wt) (h1 : h 9 5 ≤ 10) : fz_apC h H 0 f := by
  refine ⟨fun j hj => ?_, fun k k0 k1 => by exfalso; omega⟩
  have q : j ≠ 10 := by omega
  rw [e]
  simp [fz_up, q]
def fz_row5 (f : Nat → Int) (p : Int) : Int × Int × Int × Int × Int := (fz_w (f p.toNat), fz_w (f (p + 1).toNat), fz_w (f (p + 2).toNat), fz_w (f (p + 3).toNat), fz_w (f (p + 4).toNat))
theorem fz_apC_row {h H : fz_H} {q r p a0 a1 a2 a3 a4 : Int} (a : fz_apC h H q (fun _ => (a0, a1, a2, a3, a4))) (e0 : a0 = fz_w (h 52 p.toNat)) (e1 : a1 = fz_w (h 52 (p + 1).toNat)) (e2 : a2 = fz_w (h 52 (p + 2).toNat)) (e3 : a3 = fz_w (h 52 (p + 3).toNat)) (e4 : a4 = fz_w (h 52 (p + 4).toNat)) (hr : q = r) : fz_apC h H r (fun _ => fz_row5 (h 52) p) := by
  subst e0 e1 e2 e3 e4 hr
  exact a
def fz_ndM (h h' : fz_H) (p t hr mk wt : Int) : Prop := h' = fz_up (fz_up (fz_up (fz_up (fz_up (fz_up h 60 (h 53 10).toNat p) 61 (h 53 10).toNat t) 62 (h 53 10).toNat hr) 63 (h 53 10).toNat mk) 64 (h 53 10).toNat wt) 53 10 (h 53 10 + 1)
theorem fz_ndM_in {h H1 H2 H3 H4 H5 H6 : fz_H} {n x p t hr mk wt : Int} (e1 : H1 = fz_up h 60 n.toNat p) (e2 : H2 = fz_up H1 61 n.toNat t) (e3 : H3 = fz_up H2 62 n.toNat hr) (e4 : H4 = fz_up H3 63 n.toNat mk) (e5 : H5 = fz_up H4 64 n.toNat wt) (e6 : H6 = fz_up H5 53 10 x) (hn : n = h 53 10) (hx : x = h 53 10 + 1) : fz_ndM h H6 p t hr mk wt := by
  subst hn hx
  unfold fz_ndM
  rw [e6, e5, e4, e3, e2, e1]
theorem fz_apM_1 {h H : fz_H} {p t hr mk wt r : Int} (e : fz_ndM h H p t hr mk wt) (h0 : 0 ≤ h 53 10) (er : r = 1) : fz_apM h H r (fun _ => (p, t, hr, mk, wt)) := by
  subst er
  unfold fz_ndM at e
  refine ⟨fun j hj => ?_, fun k k0 k1 => ?_⟩
  · have q : j ≠ (h 53 10).toNat := by omega
    rw [e]
    simp [fz_up, q]
  · have q : k = 0 := by omega
    subst q
    rw [e]
    simp [fz_up]
theorem fz_apM_row {h G H : fz_H} {p r a0 a1 a2 a3 a4 : Int} (e : fz_ndM G H a0 a1 a2 a3 a4) (h0 : 0 ≤ G 53 10) (e0 : a0 = fz_w (h 85 p.toNat)) (e1 : a1 = fz_w (h 85 (p + 1).toNat)) (e2 : a2 = fz_w (h 85 (p + 2).toNat)) (e3 : a3 = fz_w (h 85 (p + 3).toNat)) (e4 : a4 = fz_w (h 85 (p + 4).toNat)) (hr : r = 1) : fz_apM G H r (fun _ => fz_row5 (h 85) p) := by
  subst e0 e1 e2 e3 e4
  exact fz_apM_1 e h0 hr
theorem fz_RL_ap {h h1 h2 : fz_H} {r q : Int} {f g : Int → Int × Int × Int × Int × Int} (hL : fz_RL h) (c : fz_apC h h1 r f) (m : fz_apM h1 h2 q g) (n : h1 53 10 = h 9 5) (fc : h1 61 = h 61 ∧ h1 62 = h 62 ∧ h1 63 = h 63 ∧ h1 64 = h 64) (fm : h2 11 = h1 11 ∧ h2 12 = h1 12 ∧ h2 13 = h1 13 ∧ h2 14 = h1 14) (z : h2 9 5 = h 9 5 + r) (hr : r = q) (h0 : 0 ≤ h 9 5) (hfg : ∀ k, 0 ≤ k → k < r → f k = g k) : fz_RL h2 := by
  subst hr
  unfold fz_apM at m
  rw [n, fc.1, fc.2.1, fc.2.2.1, fc.2.2.2] at m
  intro j hj
  rw [fm.1, fm.2.1, fm.2.2.1, fm.2.2.2]
  by_cases hlt : (j : Int) < h 9 5
  · have a := c.1 j hlt
    have b := m.1 j hlt
    have d := hL j hlt
    exact ⟨a.2.1.trans (d.1.trans b.2.1.symm), a.2.2.1.trans (d.2.1.trans b.2.2.1.symm), a.2.2.2.1.trans (d.2.2.1.trans b.2.2.2.1.symm), a.2.2.2.2.trans (d.2.2.2.trans b.2.2.2.2.symm)⟩
  · have a := c.2 (j - h 9 5) (by omega) (by omega)
    have b := m.2 (j - h 9 5) (by omega) (by omega)
    rw [hfg _ (by omega) (by omega), show (h 9 5 + (j - h 9 5)).toNat = j by omega] at a
    rw [show (h 9 5 + (j - h 9 5)).toNat = j by omega] at b
    exact ⟨a.2.1.trans b.2.1.symm, a.2.2.1.trans b.2.2.1.symm, a.2.2.2.1.trans b.2.2.2.1.symm, a.2.2.2.2.trans b.2.2.2.2.symm⟩
/-! numbers set on both sides -/
theorem fz_g_eq {h : fz_H} {nu wh : Int} (h2 : fz_R2 h) (h3 : fz_R3 h) (h4 : fz_R4 h) (h28 : fz_R28 h) (hG : fz_RG h) (hL : fz_RL h) (p : fz_PC h nu wh) : fz_gC h nu wh = fz_gM h nu wh := by
  unfold fz_R2 at h2
  unfold fz_R3 at h3
  unfold fz_R4 at h4
  unfold fz_R28 at h28
  unfold fz_PC at p
  unfold fz_gC fz_gM
  rcases p with z | z | z | z | z | z | z | z | z
  · rw [fz_lC_0 z.1, fz_lM_0 z.1]; exact congrFun h2 _
  · rw [fz_lC_1 z.1, fz_lM_1 z.1]; exact congrFun h3 _
  · rw [fz_lC_2 z.1, fz_lM_2 z.1]; exact congrFun h4 _
  · rw [fz_lC_3 z.1, fz_lM_3 z.1]; exact (hL nu.toNat (by omega)).2.1
  · rw [fz_lC_4 z.1, fz_lM_4 z.1]; exact (hL nu.toNat (by omega)).2.2.1
  · rw [fz_lC_5 z.1, fz_lM_5 z.1]; exact (hL nu.toNat (by omega)).2.2.2
  · rw [fz_lC_6 z.1, fz_lM_6 z.1]; exact congrFun h28 _
  · rw [fz_lC_7 z.1, fz_lM_7 z.1]; exact hG.1
  · rw [fz_lC_8 (by omega), fz_lM_8 (by omega)]; exact hG.2
def fz_st2 (h h2 : fz_H) (nu wh v : Int) : Prop := (∀ c : Nat, c = 2 ∨ c = 3 ∨ c = 4 ∨ c = 28 ∨ c = 11 ∨ c = 12 ∨ c = 13 ∨ c = 14 ∨ c = 54 ∨ c = 57 ∨ c = 58 ∨ c = 59 ∨ c = 61 ∨ c = 62 ∨ c = 63 ∨ c = 64 → h2 c = fz_up (fz_up h (fz_lC nu wh).1 (fz_lC nu wh).2 v) (fz_lM nu wh).1 (fz_lM nu wh).2 v c) ∧ ∀ c s : Nat, (c = 27 ∧ (s = 8 ∨ s = 9)) ∨ (c = 53 ∧ (s = 8 ∨ s = 9)) ∨ (c = 9 ∧ s = 5) → h2 c s = fz_up (fz_up h (fz_lC nu wh).1 (fz_lC nu wh).2 v) (fz_lM nu wh).1 (fz_lM nu wh).2 v c s
theorem fz_R_set {h h2 : fz_H} {nu wh v : Int} (r2 : fz_R2 h) (r3 : fz_R3 h) (r4 : fz_R4 h) (r28 : fz_R28 h) (hG : fz_RG h) (hL : fz_RL h) (p : fz_PC h nu wh) (k : fz_st2 h h2 nu wh v) : fz_R2 h2 ∧ fz_R3 h2 ∧ fz_R4 h2 ∧ fz_R28 h2 ∧ fz_RG h2 ∧ fz_RL h2 := by
  unfold fz_R2 at r2 ⊢
  unfold fz_R3 at r3 ⊢
  unfold fz_R4 at r4 ⊢
  unfold fz_R28 at r28 ⊢
  unfold fz_PC at p
  obtain ⟨k1, k2⟩ := k
  rcases p with z | z | z | z | z | z | z | z | z
  · rw [fz_lC_0 z.1, fz_lM_0 z.1] at k1 k2
    refine ⟨?_, ?_, ?_, ?_, ?_, ?_⟩
    · rw [k1 2 (by decide), k1 54 (by decide)]; funext s; simp [fz_up, congrFun r2 s]
    · rw [k1 3 (by decide), k1 57 (by decide)]; funext s; simp [fz_up, congrFun r3 s]
    · rw [k1 4 (by decide), k1 58 (by decide)]; funext s; simp [fz_up, congrFun r4 s]
    · rw [k1 28 (by decide), k1 59 (by decide)]; funext s; simp [fz_up, congrFun r28 s]
    · unfold fz_RG; rw [k2 27 8 (by decide), k2 27 9 (by decide), k2 53 8 (by decide), k2 53 9 (by decide)]; simp [fz_up, hG.1, hG.2]
    · intro j hj; rw [k2 9 5 (by decide)] at hj; rw [k1 11 (by decide), k1 12 (by decide), k1 13 (by decide), k1 14 (by decide), k1 61 (by decide), k1 62 (by decide), k1 63 (by decide), k1 64 (by decide)]; have d := hL j (by simpa [fz_up] using hj); simp [fz_up, d.1, d.2.1, d.2.2.1, d.2.2.2]
  · rw [fz_lC_1 z.1, fz_lM_1 z.1] at k1 k2
    refine ⟨?_, ?_, ?_, ?_, ?_, ?_⟩
    · rw [k1 2 (by decide), k1 54 (by decide)]; funext s; simp [fz_up, congrFun r2 s]
    · rw [k1 3 (by decide), k1 57 (by decide)]; funext s; simp [fz_up, congrFun r3 s]
    · rw [k1 4 (by decide), k1 58 (by decide)]; funext s; simp [fz_up, congrFun r4 s]
    · rw [k1 28 (by decide), k1 59 (by decide)]; funext s; simp [fz_up, congrFun r28 s]
    · unfold fz_RG; rw [k2 27 8 (by decide), k2 27 9 (by decide), k2 53 8 (by decide), k2 53 9 (by decide)]; simp [fz_up, hG.1, hG.2]
    · intro j hj; rw [k2 9 5 (by decide)] at hj; rw [k1 11 (by decide), k1 12 (by decide), k1 13 (by decide), k1 14 (by decide), k1 61 (by decide), k1 62 (by decide), k1 63 (by decide), k1 64 (by decide)]; have d := hL j (by simpa [fz_up] using hj); simp [fz_up, d.1, d.2.1, d.2.2.1, d.2.2.2]
  · rw [fz_lC_2 z.1, fz_lM_2 z.1] at k1 k2
    refine ⟨?_, ?_, ?_, ?_, ?_, ?_⟩
    · rw [k1 2 (by decide), k1 54 (by decide)]; funext s; simp [fz_up, congrFun r2 s]
    · rw [k1 3 (by decide), k1 57 (by decide)]; funext s; simp [fz_up, congrFun r3 s]
    · rw [k1 4 (by decide), k1 58 (by decide)]; funext s; simp [fz_up, congrFun r4 s]
    · rw [k1 28 (by decide), k1 59 (by decide)]; funext s; simp [fz_up, congrFun r28 s]
    · unfold fz_RG; rw [k2 27 8 (by decide), k2 27 9 (by decide), k2 53 8 (by decide), k2 53 9 (by decide)]; simp [fz_up, hG.1, hG.2]
    · intro j hj; rw [k2 9 5 (by decide)] at hj; rw [k1 11 (by decide), k1 12 (by decide), k1 13 (by decide), k1 14 (by decide), k1 61 (by decide), k1 62 (by decide), k1 63 (by decide), k1 64 (by decide)]; have d := hL j (by simpa [fz_up] using hj); simp [fz_up, d.1, d.2.1, d.2.2.1, d.2.2.2]
  · rw [fz_lC_3 z.1, fz_lM_3 z.1] at k1 k2
    refine ⟨?_, ?_, ?_, ?_, ?_, ?_⟩
    · rw [k1 2 (by decide), k1 54 (by decide)]; funext s; simp [fz_up, congrFun r2 s]
    · rw [k1 3 (by decide), k1 57 (by decide)]; funext s; simp [fz_up, congrFun r3 s]
    · rw [k1 4 (by decide), k1 58 (by decide)]; funext s; simp [fz_up, congrFun r4 s]
    · rw [k1 28 (by decide), k1 59 (by decide)]; funext s; simp [fz_up, congrFun r28 s]
    · unfold fz_RG; rw [k2 27 8 (by decide), k2 27 9 (by decide), k2 53 8 (by decide), k2 53 9 (by decide)]; simp [fz_up, hG.1, hG.2]
    · intro j hj; rw [k2 9 5 (by decide)] at hj; rw [k1 11 (by decide), k1 12 (by decide), k1 13 (by decide), k1 14 (by decide), k1 61 (by decide), k1 62 (by decide), k1 63 (by decide), k1 64 (by decide)]; have d := hL j (by simpa [fz_up] using hj); simp [fz_up, d.1, d.2.1, d.2.2.1, d.2.2.2]
  · rw [fz_lC_4 z.1, fz_lM_4 z.1] at k1 k2
    refine ⟨?_, ?_, ?_, ?_, ?_, ?_⟩
    · rw [k1 2 (by decide), k1 54 (by decide)]; funext s; simp [fz_up, congrFun r2 s]
    · rw [k1 3 (by decide), k1 57 (by decide)]; funext s; simp [fz_up, congrFun r3 s]
    · rw [k1 4 (by decide), k1 58 (by decide)]; funext s; simp [fz_up, congrFun r4 s]
    · rw [k1 28 (by decide), k1 59 (by decide)]; funext s; simp [fz_up, congrFun r28 s]
    · unfold fz_RG; rw [k2 27 8 (by decide), k2 27 9 (by decide), k2 53 8 (by decide), k2 53 9 (by decide)]; simp [fz_up, hG.1, hG.2]
    · intro j hj; rw [k2 9 5 (by decide)] at hj; rw [k1 11 (by decide), k1 12 (by decide), k1 13 (by decide), k1 14 (by decide), k1 61 (by decide), k1 62 (by decide), k1 63 (by decide), k1 64 (by decide)]; have d := hL j (by simpa [fz_up] using hj); simp [fz_up, d.1, d.2.1, d.2.2.1, d.2.2.2]
  · rw [fz_lC_5 z.1, fz_lM_5 z.1] at k1 k2
    refine ⟨?_, ?_, ?_, ?_, ?_, ?_⟩
    · rw [k1 2 (by decide), k1 54 (by decide)]; funext s; simp [fz_up, congrFun r2 s]
    · rw [k1 3 (by decide), k1 57 (by decide)]; funext s; simp [fz_up, congrFun r3 s]
    · rw [k1 4 (by decide), k1 58 (by decide)]; funext s; simp [fz_up, congrFun r4 s]
    · rw [k1 28 (by decide), k1 59 (by decide)]; funext s; simp [fz_up, congrFun r28 s]
    · unfold fz_RG; rw [k2 27 8 (by decide), k2 27 9 (by decide), k2 53 8 (by decide), k2 53 9 (by decide)]; simp [fz_up, hG.1, hG.2]
    · intro j hj; rw [k2 9 5 (by decide)] at hj; rw [k1 11 (by decide), k1 12 (by decide), k1 13 (by decide), k1 14 (by decide), k1 61 (by decide), k1 62 (by decide), k1 63 (by decide), k1 64 (by decide)]; have d := hL j (by simpa [fz_up] using hj); simp [fz_up, d.1, d.2.1, d.2.2.1, d.2.2.2]
  · rw [fz_lC_6 z.1, fz_lM_6 z.1] at k1 k2
    refine ⟨?_, ?_, ?_, ?_, ?_, ?_⟩
    · rw [k1 2 (by decide), k1 54 (by decide)]; funext s; simp [fz_up, congrFun r2 s]
    · rw [k1 3 (by decide), k1 57 (by decide)]; funext s; simp [fz_up, congrFun r3 s]
    · rw [k1 4 (by decide), k1 58 (by decide)]; funext s; simp [fz_up, congrFun r4 s]
    · rw [k1 28 (by decide), k1 59 (by decide)]; funext s; simp [fz_up, congrFun r28 s]
    · unfold fz_RG; rw [k2 27 8 (by decide), k2 27 9 (by decide), k2 53 8 (by decide), k2 53 9 (by decide)]; simp [fz_up, hG.1, hG.2]
    · intro j hj; rw [k2 9 5 (by decide)] at hj; rw [k1 11 (by decide), k1 12 (by decide), k1 13 (by decide), k1 14 (by decide), k1 61 (by decide), k1 62 (by decide), k1 63 (by decide), k1 64 (by decide)]; have d := hL j (by simpa [fz_up] using hj); simp [fz_up, d.1, d.2.1, d.2.2.1, d.2.2.2]
  · rw [fz_lC_7 z.1, fz_lM_7 z.1] at k1 k2
    refine ⟨?_, ?_, ?_, ?_, ?_, ?_⟩
    · rw [k1 2 (by decide), k1 54 (by decide)]; funext s; simp [fz_up, congrFun r2 s]
    · rw [k1 3 (by decide), k1 57 (by decide)]; funext s; simp [fz_up, congrFun r3 s]
    · rw [k1 4 (by decide), k1 58 (by decide)]; funext s; simp [fz_up, congrFun r4 s]
    · rw [k1 28 (by decide), k1 59 (by decide)]; funext s; simp [fz_up, congrFun r28 s]
    · unfold fz_RG; rw [k2 27 8 (by decide), k2 27 9 (by decide), k2 53 8 (by decide), k2 53 9 (by decide)]; simp [fz_up, hG.1, hG.2]
    · intro j hj; rw [k2 9 5 (by decide)] at hj; rw [k1 11 (by decide), k1 12 (by decide), k1 13 (by decide), k1 14 (by decide), k1 61 (by decide), k1 62 (by decide), k1 63 (by decide), k1 64 (by decide)]; have d := hL j (by simpa [fz_up] using hj); simp [fz_up, d.1, d.2.1, d.2.2.1, d.2.2.2]
  · rw [fz_lC_8 (by omega), fz_lM_8 (by omega)] at k1 k2
    refine ⟨?_, ?_, ?_, ?_, ?_, ?_⟩
    · rw [k1 2 (by decide), k1 54 (by decide)]; funext s; simp [fz_up, congrFun r2 s]
    · rw [k1 3 (by decide), k1 57 (by decide)]; funext s; simp [fz_up, congrFun r3 s]
    · rw [k1 4 (by decide), k1 58 (by decide)]; funext s; simp [fz_up, congrFun r4 s]
    · rw [k1 28 (by decide), k1 59 (by decide)]; funext s; simp [fz_up, congrFun r28 s]
    · unfold fz_RG; rw [k2 27 8 (by decide), k2 27 9 (by decide), k2 53 8 (by decide), k2 53 9 (by decide)]; simp [fz_up, hG.1, hG.2]
    · intro j hj; rw [k2 9 5 (by decide)] at hj; rw [k1 11 (by decide), k1 12 (by decide), k1 13 (by decide), k1 14 (by decide), k1 61 (by decide), k1 62 (by decide), k1 63 (by decide), k1 64 (by decide)]; have d := hL j (by simpa [fz_up] using hj); simp [fz_up, d.1, d.2.1, d.2.2.1, d.2.2.2]
theorem fz_lC_n {nu wh : Int} : (fz_lC nu wh).1 ≠ 1 ∧ (fz_lC nu wh).1 ≠ 9 ∧ (fz_lC nu wh).1 ≠ 35 ∧ (fz_lC nu wh).1 ≠ 36 ∧ (fz_lC nu wh).1 ≠ 37 ∧ (fz_lC nu wh).1 ≠ 38 ∧ (fz_lC nu wh).1 ≠ 39 ∧ (fz_lC nu wh).1 < 53 := by
  unfold fz_lC
  repeat' split
  all_goals (refine ⟨?_, ?_, ?_, ?_, ?_, ?_, ?_, ?_⟩ <;> simp)
theorem fz_lM_m {nu wh : Int} : 53 ≤ (fz_lM nu wh).1 ∧ (fz_lM nu wh).1 ≠ 80 := by
  unfold fz_lM
  repeat' split
  all_goals (constructor <;> simp)
/-- what the class did, then the model -/
theorem fz_st2_in {h g h1 h2 : fz_H} {nu wh v : Int} (fg : ∀ c s : Nat, ¬ (c = 35 ∨ c = 36 ∨ c = 37 ∨ c = 38 ∨ c = 39) → g c s = h c s) (a : fz_aC g h1 nu wh v) (m : ∀ c s : Nat, c ≠ 80 → ¬ (c = 53 ∧ (s = 41 ∨ s = 42)) → h2 c s = fz_up h1 (fz_lM nu wh).1 (fz_lM nu wh).2 v c s) : fz_st2 h h2 nu wh v := by
  have key : ∀ c s : Nat, c ≠ 7 → c ≠ 8 → c ≠ 80 → ¬ (c = 35 ∨ c = 36 ∨ c = 37 ∨ c = 38 ∨ c = 39) → ¬ (c = 53 ∧ (s = 41 ∨ s = 42)) → h2 c s = fz_up (fz_up h (fz_lC nu wh).1 (fz_lC nu wh).2 v) (fz_lM nu wh).1 (fz_lM nu wh).2 v c s := by
    intro c s q7 q8 q80 qs q53
    rw [m c s q80 q53]
    unfold fz_up
    rw [a c q7 q8]
    unfold fz_up
    rw [fg c s qs]
  exact ⟨fun c hc => funext fun s => key c s (by omega) (by omega) (by omega) (by omega) (by omega), fun c s hc => key c s (by omega) (by omega) (by omega) (by omega) (by omega)⟩
/-- two kept lists of changes stay alike -/
theorem fz_fr_add {h h1 : fz_H} (f : fz_fr [(35, 4), (35, 5), (36, 99999), (37, 99999), (38, 99999), (39, 99999)] h h1) : ∀ c s : Nat, ¬ (c = 35 ∨ c = 36 ∨ c = 37 ∨ c = 38 ∨ c = 39) → h1 c s = h c s := by
  intro c s q
  refine f c s ?_
  unfold fz_me
  have e : ∀ k : Nat, k = 35 ∨ k = 36 ∨ k = 37 ∨ k = 38 ∨ k = 39 → Nat.beq k c = false := fun k hk => by
    cases z : Nat.beq k c with
    | false => rfl
    | true => exact absurd (Nat.eq_of_beq_eq_true z) (by omega)
  simp [List.any_cons, e 35 (by decide), e 36 (by decide), e 37 (by decide), e 38 (by decide), e 39 (by decide)]
theorem fz_4at (G : fz_H) (a0 a1 a2 a3 : Int) {i0 i1 i2 i3 : Nat} (d : i0 ≠ i1 ∧ i0 ≠ i2 ∧ i0 ≠ i3 ∧ i1 ≠ i2 ∧ i1 ≠ i3 ∧ i2 ≠ i3) : fz_up (fz_up (fz_up (fz_up G 80 i0 a0) 80 i1 a1) 80 i2 a2) 80 i3 a3 80 i0 = a0 ∧ fz_up (fz_up (fz_up (fz_up G 80 i0 a0) 80 i1 a1) 80 i2 a2) 80 i3 a3 80 i1 = a1 ∧ fz_up (fz_up (fz_up (fz_up G 80 i0 a0) 80 i1 a1) 80 i2 a2) 80 i3 a3 80 i2 = a2 ∧ fz_up (fz_up (fz_up (fz_up G 80 i0 a0) 80 i1 a1) 80 i2 a2) 80 i3 a3 80 i3 = a3 := by
  obtain ⟨d1, d2, d3, d4, d5, d6⟩ := d
  refine ⟨?_, ?_, ?_, fz_up_e⟩
  · rw [fz_up_s d3, fz_up_s d2, fz_up_s d1, fz_up_e]
  · rw [fz_up_s d5, fz_up_s d4, fz_up_e]
  · rw [fz_up_s d6, fz_up_e]
theorem fz_RC_mend {h g h1 h2 : fz_H} {nu wh x v : Int} (hC : fz_RC h) (p : fz_PC h nu wh) (b : h 35 5 ≤ 40) (c : fz_cgC h g nu wh x v) (fg : ∀ c s : Nat, ¬ (c = 35 ∨ c = 36 ∨ c = 37 ∨ c = 38 ∨ c = 39) → g c s = h c s) (a : fz_aC g h1 nu wh v) (m : fz_cgM h1 h2 nu wh x v) (fm : ∀ c s : Nat, c ≠ 80 → ¬ (c = 53 ∧ (s = 41 ∨ s = 42)) → h2 c s = fz_up h1 (fz_lM nu wh).1 (fz_lM nu wh).2 v c s) : fz_RC h2 := by
  obtain ⟨⟨d1, d2, d3, d4, d5⟩, hE⟩ := hC
  have lc := @fz_lC_n nu wh
  have lm := @fz_lM_m nu wh
  have k1 : ∀ c : Nat, c = 1 ∨ c = 9 ∨ c = 35 ∨ c = 36 ∨ c = 37 ∨ c = 38 ∨ c = 39 ∨ (53 ≤ c) → h1 c = g c := fun c hc => by
    rw [a c (by omega) (by omega), fz_up_ne (by omega)]
  have k2 : ∀ c : Nat, c < 53 → h2 c = h1 c := fun c hc => funext fun s => by
    rw [fm c s (by omega) (by omega), fz_up_o (by omega)]
  have m42 : h1 53 42 = h 53 42 := by rw [k1 53 (by omega), fg 53 42 (by decide)]
  have m80 : h1 80 = h 80 := by rw [k1 80 (by omega)]; exact funext fun s => fg 80 s (by decide)
  have s17 : h2 1 7 = h 1 7 := by rw [k2 1 (by omega), k1 1 (by omega), fg 1 7 (by decide)]
  have s18 : h2 1 8 = h 1 8 := by rw [k2 1 (by omega), k1 1 (by omega), fg 1 8 (by decide)]
  have s95 : h2 9 5 = h 9 5 := by rw [k2 9 (by omega), k1 9 (by omega), fg 9 5 (by decide)]
  have z35 : h2 35 = g 35 := by rw [k2 35 (by omega), k1 35 (by omega)]
  have z36 : h2 36 = g 36 := by rw [k2 36 (by omega), k1 36 (by omega)]
  have z37 : h2 37 = g 37 := by rw [k2 37 (by omega), k1 37 (by omega)]
  have z38 : h2 38 = g 38 := by rw [k2 38 (by omega), k1 38 (by omega)]
  have z39 : h2 39 = g 39 := by rw [k2 39 (by omega), k1 39 (by omega)]
  unfold fz_cgM at m
  rw [m42] at m
  rcases c with ⟨c0, c1, c2, c3, c4, c5, c6⟩ | ⟨c0, q, ⟨o1, o2, o3, o4⟩, c1, c2, c3, c4, c5, c6⟩
  · rcases m with ⟨m0, m1, m2, m3⟩ | ⟨m0, m1⟩
    · refine ⟨⟨by rw [z35]; omega, by rw [z35]; omega, by rw [z35]; omega, by rw [z35]; omega, by rw [z35]; omega⟩, fun j hj => ?_⟩
      rw [z35, c2] at hj
      rw [z36, z37, z38, z39, c3, c4, c5, c6, m3, d1]
      by_cases e : (j : Int) < h 35 4
      · have w := hE j (by omega)
        have e0 : j ≠ (h 53 42).toNat := by omega
        have e1 : 4 * j ≠ (4 * h 53 42).toNat ∧ 4 * j ≠ (4 * h 53 42 + 1).toNat ∧ 4 * j ≠ (4 * h 53 42 + 2).toNat ∧ 4 * j ≠ (4 * h 53 42 + 3).toNat := by omega
        have e2 : 4 * j + 1 ≠ (4 * h 53 42).toNat ∧ 4 * j + 1 ≠ (4 * h 53 42 + 1).toNat ∧ 4 * j + 1 ≠ (4 * h 53 42 + 2).toNat ∧ 4 * j + 1 ≠ (4 * h 53 42 + 3).toNat := by omega
        have e3 : 4 * j + 2 ≠ (4 * h 53 42).toNat ∧ 4 * j + 2 ≠ (4 * h 53 42 + 1).toNat ∧ 4 * j + 2 ≠ (4 * h 53 42 + 2).toNat ∧ 4 * j + 2 ≠ (4 * h 53 42 + 3).toNat := by omega
        have e4 : 4 * j + 3 ≠ (4 * h 53 42).toNat ∧ 4 * j + 3 ≠ (4 * h 53 42 + 1).toNat ∧ 4 * j + 3 ≠ (4 * h 53 42 + 2).toNat ∧ 4 * j + 3 ≠ (4 * h 53 42 + 3).toNat := by omega
        rw [fz_up_s e0, fz_up_s e0, fz_up_s e0, fz_up_s e0, fz_up_s e1.2.2.2, fz_up_s e1.2.2.1, fz_up_s e1.2.1, fz_up_s e1.1, fz_up_s e2.2.2.2, fz_up_s e2.2.2.1, fz_up_s e2.2.1, fz_up_s e2.1, fz_up_s e3.2.2.2, fz_up_s e3.2.2.1, fz_up_s e3.2.1, fz_up_s e3.1, fz_up_s e4.2.2.2, fz_up_s e4.2.2.1, fz_up_s e4.2.1, fz_up_s e4.1, m80]
        exact ⟨fz_PC_e s17 s18 s95 w.1, w.2⟩
      · have e0 : j = (h 53 42).toNat := by omega
        have e1 : 4 * j = (4 * h 53 42).toNat := by omega
        have e2 : 4 * j + 1 = (4 * h 53 42 + 1).toNat := by omega
        have e3 : 4 * j + 2 = (4 * h 53 42 + 2).toNat := by omega
        have e4 : 4 * j + 3 = (4 * h 53 42 + 3).toNat := by omega
        have y := fz_4at h1 nu wh x v (i0 := (4 * h 53 42).toNat) (i1 := (4 * h 53 42 + 1).toNat) (i2 := (4 * h 53 42 + 2).toNat) (i3 := (4 * h 53 42 + 3).toNat) (by omega)
        rw [e4, e3, e2, e1, e0, y.1, y.2.1, y.2.2.1, y.2.2.2, fz_up_e, fz_up_e, fz_up_e, fz_up_e]
        exact ⟨fz_PC_e s17 s18 s95 p, rfl, rfl, rfl, rfl⟩
    · exfalso; omega
  · rcases m with ⟨m0, m1⟩ | ⟨m0, m1, m2, m3⟩
    · exfalso; omega
    · refine ⟨⟨by rw [z35]; omega, by rw [z35]; omega, by rw [z35]; omega, by rw [z35]; omega, by rw [z35]; omega⟩, fun j hj => ?_⟩
      rw [z35, c2] at hj
      rw [z36, z37, z38, z39, c3, c4, c5, c6, m3]
      by_cases e : j < 39
      · have w := hE (j + 1) (by omega)
        have cp : ∀ cc, fz_cp h cc 1 cc 0 39 cc j = h cc (j + 1) := fun cc => by
          unfold fz_cp
          rw [if_pos (by omega), Nat.sub_zero, Nat.add_comm]
        have u : ∀ cc (x : Int), q cc = fz_cp h cc 1 cc 0 39 cc → fz_up q cc (39 : Int).toNat x cc j = h cc (j + 1) := fun cc x hq => by
          rw [fz_up_s (show j ≠ (39 : Int).toNat by omega), hq, cp]
        have v8 : ∀ i : Nat, i < 156 → ∀ a0 a1 a2 a3 : Int, fz_up (fz_up (fz_up (fz_up (fz_cp h1 80 4 80 0 156) 80 (4 * 39 : Int).toNat a0) 80 (4 * 39 + 1 : Int).toNat a1) 80 (4 * 39 + 2 : Int).toNat a2) 80 (4 * 39 + 3 : Int).toNat a3 80 i = h 80 (i + 4) := fun i hi a0 a1 a2 a3 => by
          rw [fz_up_s (show i ≠ (4 * 39 + 3 : Int).toNat by omega), fz_up_s (show i ≠ (4 * 39 + 2 : Int).toNat by omega), fz_up_s (show i ≠ (4 * 39 + 1 : Int).toNat by omega), fz_up_s (show i ≠ (4 * 39 : Int).toNat by omega)]
          unfold fz_cp
          rw [if_pos (by omega), Nat.sub_zero, m80, Nat.add_comm]
        rw [u 36 _ o1, u 37 _ o2, u 38 _ o3, u 39 _ o4, v8 (4 * j) (by omega), v8 (4 * j + 1) (by omega), v8 (4 * j + 2) (by omega), v8 (4 * j + 3) (by omega)]
        refine ⟨fz_PC_e s17 s18 s95 w.1, ?_, ?_, ?_, ?_⟩
        · rw [w.2.1]; congr 1
        · rw [w.2.2.1]; congr 1
        · rw [w.2.2.2.1]; congr 1
        · rw [w.2.2.2.2]; congr 1
      · have e0 : j = (39 : Int).toNat := by omega
        subst e0
        have v9 : ∀ a0 a1 a2 a3 : Int, ∀ G : fz_H, fz_up (fz_up (fz_up (fz_up G 80 (4 * 39 : Int).toNat a0) 80 (4 * 39 + 1 : Int).toNat a1) 80 (4 * 39 + 2 : Int).toNat a2) 80 (4 * 39 + 3 : Int).toNat a3 80 156 = a0 ∧ fz_up (fz_up (fz_up (fz_up G 80 (4 * 39 : Int).toNat a0) 80 (4 * 39 + 1 : Int).toNat a1) 80 (4 * 39 + 2 : Int).toNat a2) 80 (4 * 39 + 3 : Int).toNat a3 80 157 = a1 ∧ fz_up (fz_up (fz_up (fz_up G 80 (4 * 39 : Int).toNat a0) 80 (4 * 39 + 1 : Int).toNat a1) 80 (4 * 39 + 2 : Int).toNat a2) 80 (4 * 39 + 3 : Int).toNat a3 80 158 = a2 ∧ fz_up (fz_up (fz_up (fz_up G 80 (4 * 39 : Int).toNat a0) 80 (4 * 39 + 1 : Int).toNat a1) 80 (4 * 39 + 2 : Int).toNat a2) 80 (4 * 39 + 3 : Int).toNat a3 80 159 = a3 := fun a0 a1 a2 a3 G => by
          refine ⟨?_, ?_, ?_, ?_⟩
          · rw [fz_up_s (by decide), fz_up_s (by decide), fz_up_s (by decide)]; exact fz_up_e
          · rw [fz_up_s (by decide), fz_up_s (by decide)]; exact fz_up_e
          · rw [fz_up_s (by decide)]; exact fz_up_e
          · exact fz_up_e
        have y := v9 nu wh x v (fz_cp h1 80 4 80 0 156)
        rw [fz_up_e, fz_up_e, fz_up_e, fz_up_e]
        exact ⟨fz_PC_e s17 s18 s95 p, y.1.symm, y.2.1.symm, y.2.2.1.symm, y.2.2.2.symm⟩
theorem fz_mend_rel {h h1 h2 : fz_H} {nu wh v r q : Int} (hI : fz_Iv h) (hC : fz_RC h) (r2 : fz_R2 h) (r3 : fz_R3 h) (r4 : fz_R4 h) (r28 : fz_R28 h) (hG : fz_RG h) (hL : fz_RL h) (a7 : h 1 7 = h 53 0) (a8 : h 1 8 = h 53 2) (a9 : h 9 5 = h 53 10) (b0 : h 53 0 ≤ 8) (b2 : h 53 2 ≤ 12) (b10 : h 53 10 ≤ 10) (c : fz_mC h h1 nu wh v r) (m : fz_mM h1 h2 nu wh v q) (fc : ∀ c s : Nat, 53 ≤ c → h1 c s = h c s) : r = q ∧ fz_R2 h2 ∧ fz_R3 h2 ∧ fz_R4 h2 ∧ fz_R28 h2 ∧ fz_RG h2 ∧ fz_RL h2 ∧ fz_RC h2 := by
  have pp : fz_PC h nu wh ↔ fz_PN h1 nu wh := by
    rw [fz_PCN a7 a8 a9 b0 b2 b10]
    unfold fz_PN
    rw [fc 53 0 (by decide), fc 53 2 (by decide), fc 53 10 (by decide)]
  have ok : fz_okC h nu wh v ↔ fz_okN h1 nu wh v := by
    unfold fz_okC fz_okN
    rw [← pp]
    constructor
    · rintro ⟨z1, z2⟩; exact ⟨z1, (fz_LM hI.2.1 hI.2.2.1 (fz_PC_w z1)).mp z2⟩
    · rintro ⟨z1, z2⟩; exact ⟨z1, (fz_LM hI.2.1 hI.2.2.1 (fz_PC_w z1)).mpr z2⟩
  have ge : fz_okC h nu wh v → fz_gM h1 nu wh = fz_gC h nu wh := fun z => by
    rw [fz_g_eq r2 r3 r4 r28 hG hL z.1]
    unfold fz_gM
    exact fc _ _ fz_lM_m.1
  rcases c with ⟨c0, c1, c2⟩ | ⟨c0, c1, c2, c3⟩ | ⟨c0, c1, c2, g, c3, c4, c5⟩
  · rcases m with ⟨m0, m1, m2⟩ | ⟨m0, m1⟩ | ⟨m0, m1⟩
    · rw [m2, c2]; exact ⟨by omega, r2, r3, r4, r28, hG, hL, hC⟩
    · exact absurd (ok.mpr m0) c0
    · exact absurd (ok.mpr m0) c0
  · have gg := ge c0
    rcases m with ⟨m0, m1⟩ | ⟨m0, m1, m2, m3⟩ | ⟨m0, m1, m2, m3⟩
    · exact absurd (ok.mp c0) m0
    · rw [m3, c3]; exact ⟨by omega, r2, r3, r4, r28, hG, hL, hC⟩
    · exfalso; omega
  · have gg := ge c0
    rcases m with ⟨m0, m1⟩ | ⟨m0, m1, m2, m3⟩ | ⟨m0, m1, m2, m3, m4⟩
    · exact absurd (ok.mp c0) m0
    · exfalso; omega
    · have e : q = r := by omega
      subst e
      have fg := fz_fr_add c4
      have s := fz_R_set r2 r3 r4 r28 hG hL c0.1 (fz_st2_in fg c5 m4)
      exact ⟨rfl, s.1, s.2.1, s.2.2.1, s.2.2.2.1, s.2.2.2.2.1, s.2.2.2.2.2, fz_RC_mend hC c0.1 hC.1.2.2.2.2 c3 fg c5 m3 m4⟩
theorem fz_RC_un {h g h1 h2 : fz_H} {nu wh v d : Int} (hC : fz_RC h) (eg : g = fz_up h 35 4 d) (a : fz_aC g h1 nu wh v) (e42 : h2 53 42 = d) (hd : 0 ≤ d ∧ d ≤ h 35 5) (m : ∀ c s : Nat, ¬ (c = 53 ∧ s = 42) → h2 c s = fz_up h1 (fz_lM nu wh).1 (fz_lM nu wh).2 v c s) : fz_RC h2 := by
  obtain ⟨⟨d1, d2, d3, d4, d5⟩, hE⟩ := hC
  have lc := @fz_lC_n nu wh
  have lm := @fz_lM_m nu wh
  have ln := @fz_lM_n nu wh
  have k1 : ∀ c : Nat, c = 1 ∨ c = 9 ∨ c = 35 ∨ c = 36 ∨ c = 37 ∨ c = 38 ∨ c = 39 ∨ (53 ≤ c) → h1 c = g c := fun c hc => by
    rw [a c (by omega) (by omega), fz_up_ne (by omega)]
  have k2 : ∀ c : Nat, c < 53 ∨ c = 80 → h2 c = h1 c := fun c hc => funext fun s => by
    rw [m c s (by omega), fz_up_o (by omega)]
  have k3 : ∀ c : Nat, c = 1 ∨ c = 9 ∨ c = 36 ∨ c = 37 ∨ c = 38 ∨ c = 39 ∨ c = 80 → h2 c = h c := fun c hc => by
    rw [k2 c (by omega), k1 c (by omega), eg, fz_up_ne (by omega)]
  have z35 : h2 35 = g 35 := by rw [k2 35 (by omega), k1 35 (by omega)]
  have z4 : h2 35 4 = d := by rw [z35, eg, fz_up_e]
  have z5 : h2 35 5 = h 35 5 := by rw [z35, eg, fz_up_s (by decide)]
  have z41 : h2 53 41 = h 53 41 := by
    rw [m 53 41 (by decide)]
    unfold fz_up
    rw [if_neg (by rintro ⟨x1, x2⟩; have := ln.2 x1.symm; omega), k1 53 (by omega), eg, fz_up_o (by decide)]
  refine ⟨⟨by omega, by omega, by omega, by omega, by omega⟩, fun j hj => ?_⟩
  rw [z5] at hj
  rw [k3 36 (by decide), k3 37 (by decide), k3 38 (by decide), k3 39 (by decide), k3 80 (by decide)]
  have w := hE j hj
  exact ⟨fz_PC_e (by rw [k3 1 (by decide)]) (by rw [k3 1 (by decide)]) (by rw [k3 9 (by decide)]) w.1, w.2⟩
theorem fz_st2_un {h g h1 h2 : fz_H} {nu wh v d : Int} (eg : g = fz_up h 35 4 d) (a : fz_aC g h1 nu wh v) (m : ∀ c s : Nat, ¬ (c = 53 ∧ s = 42) → h2 c s = fz_up h1 (fz_lM nu wh).1 (fz_lM nu wh).2 v c s) : fz_st2 h h2 nu wh v := fz_st2_in (fun c s q => by rw [eg, fz_up_o (by omega)]) a (fun c s _ q => m c s (by omega))
theorem fz_undo_rel {h h1 h2 : fz_H} {r q : Int} (hC : fz_RC h) (r2 : fz_R2 h) (r3 : fz_R3 h) (r4 : fz_R4 h) (r28 : fz_R28 h) (hG : fz_RG h) (hL : fz_RL h) (c : fz_uC h h1 r) (m : fz_uM h1 h2 q) (fc : ∀ c s : Nat, 53 ≤ c → h1 c s = h c s) : r = q ∧ fz_R2 h2 ∧ fz_R3 h2 ∧ fz_R4 h2 ∧ fz_R28 h2 ∧ fz_RG h2 ∧ fz_RL h2 ∧ fz_RC h2 := by
  have hC0 := hC
  obtain ⟨⟨d1, d2, d3, d4, d5⟩, hE⟩ := hC
  unfold fz_uM at m
  rw [fc 53 42 (by decide), ← d1, show h1 80 = h 80 from funext fun s => fc 80 s (by decide)] at m
  rcases c with ⟨c0, c1, c2⟩ | ⟨c0, c1, c2⟩
  · rcases m with ⟨m0, m1, m2⟩ | ⟨m0, m1⟩
    · rw [m2, c2]; exact ⟨by omega, r2, r3, r4, r28, hG, hL, hC0⟩
    · exfalso; omega
  · rcases m with ⟨m0, m1⟩ | ⟨m0, m1, m2⟩
    · exfalso; omega
    · have w := hE (h 35 4 - 1).toNat (by omega)
      have a := c2 w.1
      have i0 : (4 * (h 35 4 - 1)).toNat = 4 * (h 35 4 - 1).toNat := by omega
      have i1 : (4 * (h 35 4 - 1) + 1).toNat = 4 * (h 35 4 - 1).toNat + 1 := by omega
      have i2 : (4 * (h 35 4 - 1) + 2).toNat = 4 * (h 35 4 - 1).toNat + 2 := by omega
      rw [i0, i1, i2, ← w.2.1, ← w.2.2.1, ← w.2.2.2.1] at m2
      have mm : ∀ c s : Nat, ¬ (c = 53 ∧ s = 42) → h2 c s = fz_up h1 (fz_lM (h 36 (h 35 4 - 1).toNat) (h 37 (h 35 4 - 1).toNat)).1 (fz_lM (h 36 (h 35 4 - 1).toNat) (h 37 (h 35 4 - 1).toNat)).2 (h 38 (h 35 4 - 1).toNat) c s := fun c s z => by
        rw [m2]
        unfold fz_up
        rw [if_neg z]
      have ln := @fz_lM_n (h 36 (h 35 4 - 1).toNat) (h 37 (h 35 4 - 1).toNat)
      have e42 : h2 53 42 = h 35 4 - 1 := by
        rw [m2]
        unfold fz_up
        rw [if_neg (by rintro ⟨x1, x2⟩; have := ln.2 x1.symm; omega), if_pos ⟨rfl, rfl⟩]
      have s := fz_R_set r2 r3 r4 r28 hG hL w.1 (fz_st2_un rfl a mm)
      exact ⟨by omega, s.1, s.2.1, s.2.2.1, s.2.2.2.1, s.2.2.2.2.1, s.2.2.2.2.2, fz_RC_un hC0 rfl a e42 (by omega) mm⟩
theorem fz_redo_rel {h h1 h2 : fz_H} {r q : Int} (hC : fz_RC h) (r2 : fz_R2 h) (r3 : fz_R3 h) (r4 : fz_R4 h) (r28 : fz_R28 h) (hG : fz_RG h) (hL : fz_RL h) (c : fz_vC h h1 r) (m : fz_xM h1 h2 q) (fc : ∀ c s : Nat, 53 ≤ c → h1 c s = h c s) : r = q ∧ fz_R2 h2 ∧ fz_R3 h2 ∧ fz_R4 h2 ∧ fz_R28 h2 ∧ fz_RG h2 ∧ fz_RL h2 ∧ fz_RC h2 := by
  have hC0 := hC
  obtain ⟨⟨d1, d2, d3, d4, d5⟩, hE⟩ := hC
  unfold fz_xM at m
  rw [fc 53 42 (by decide), fc 53 41 (by decide), ← d1, ← d2, show h1 80 = h 80 from funext fun s => fc 80 s (by decide)] at m
  rcases c with ⟨c0, c1, c2⟩ | ⟨c0, c1, c2⟩
  · rcases m with ⟨m0, m1, m2⟩ | ⟨m0, m1⟩
    · rw [m2, c2]; exact ⟨by omega, r2, r3, r4, r28, hG, hL, hC0⟩
    · exfalso; omega
  · rcases m with ⟨m0, m1⟩ | ⟨m0, m1, m2⟩
    · exfalso; omega
    · have w := hE (h 35 4).toNat (by omega)
      have a := c2 w.1
      have i0 : (4 * h 35 4).toNat = 4 * (h 35 4).toNat := by omega
      have i1 : (4 * h 35 4 + 1).toNat = 4 * (h 35 4).toNat + 1 := by omega
      have i3 : (4 * h 35 4 + 3).toNat = 4 * (h 35 4).toNat + 3 := by omega
      rw [i0, i1, i3, ← w.2.1, ← w.2.2.1, ← w.2.2.2.2] at m2
      have mm : ∀ c s : Nat, ¬ (c = 53 ∧ s = 42) → h2 c s = fz_up h1 (fz_lM (h 36 (h 35 4).toNat) (h 37 (h 35 4).toNat)).1 (fz_lM (h 36 (h 35 4).toNat) (h 37 (h 35 4).toNat)).2 (h 39 (h 35 4).toNat) c s := fun c s z => by
        rw [m2]
        unfold fz_up
        rw [if_neg z]
      have e42 : h2 53 42 = h 35 4 + 1 := by rw [m2, fz_up_e]
      have s := fz_R_set r2 r3 r4 r28 hG hL w.1 (fz_st2_un rfl a mm)
      exact ⟨by omega, s.1, s.2.1, s.2.2.1, s.2.2.2.1, s.2.2.2.2.1, s.2.2.2.2.2, fz_RC_un hC0 rfl a e42 (by omega) mm⟩
/-! journeys -/
def fz_ac (a b t : Int) : Int := if a = t then b else if b = t then a else -2
def fz_mx (f g : Nat → Int) (n : Int) : Nat → Int := fun s => if (s : Int) < n then f s else g s
theorem fz_mx_0 {f g : Nat → Int} : g = fz_mx f g 0 := by
  funext s
  unfold fz_mx
  rw [if_neg (by omega)]
theorem fz_mx_st {f g : Nat → Int} {H H1 : fz_H} {c : Nat} {i v : Int} (e : H c = fz_mx f g i) (e1 : H1 = fz_up H c i.toNat v) (q : f i.toNat = v) (hi : 0 ≤ i) : H1 c = fz_mx f g (i + 1) := by
  funext s
  rw [e1]
  unfold fz_up
  rw [e]
  unfold fz_mx
  by_cases z : s = i.toNat
  · rw [if_pos ⟨rfl, z⟩, if_pos (by omega), z, q]
  · rw [if_neg (by omega)]
    by_cases y : (s : Int) < i
    · rw [if_pos y, if_pos (by omega)]
    · rw [if_neg y, if_neg (by omega)]
theorem fz_mx_e {f g k : Nat → Int} {i j : Int} (e : k = fz_mx f g i) (h : i = j) : k = fz_mx f g j := by rw [← h]; exact e
theorem fz_cp_mx {h : fz_H} {a b : Nat} : fz_cp h a 0 b 0 4 b = fz_mx (h a) (h b) 4 := by
  funext s
  unfold fz_cp fz_mx
  by_cases z : s < 4
  · rw [if_pos (by omega), if_pos (by omega), Nat.zero_add, Nat.sub_zero]
  · rw [if_neg (by omega), if_neg (by omega)]
def fz_wkO (h : fz_H) (on rd : Int) : Prop := 0 ≤ on ∧ on < 4 ∧ 0 ≤ rd ∧ rd < h 1 8
def fz_wkC (h h' : fz_H) (on rd r : Int) : Prop := (¬ fz_wkO h on rd ∧ r = -1 ∧ h' 40 1 = h 40 1 ∧ h' 41 = h 41) ∨ (fz_wkO h on rd ∧ fz_ac (h 5 rd.toNat) (h 6 rd.toNat) (h 41 on.toNat) < 0 ∧ r = -2 ∧ h' 40 1 = h 40 1 ∧ h' 41 = h 41) ∨ (fz_wkO h on rd ∧ 0 ≤ fz_ac (h 5 rd.toNat) (h 6 rd.toNat) (h 41 on.toNat) ∧ 999 < h 40 1 + h 3 rd.toNat ∧ r = -5 ∧ h' 40 1 = h 40 1 ∧ h' 41 = h 41) ∨ (fz_wkO h on rd ∧ 0 ≤ fz_ac (h 5 rd.toNat) (h 6 rd.toNat) (h 41 on.toNat) ∧ h 40 1 + h 3 rd.toNat ≤ 999 ∧ r = fz_ac (h 5 rd.toNat) (h 6 rd.toNat) (h 41 on.toNat) ∧ h' 40 1 = h 40 1 + h 3 rd.toNat ∧ h' 41 = fz_up h 41 on.toNat (fz_ac (h 5 rd.toNat) (h 6 rd.toNat) (h 41 on.toNat)) 41)
def fz_wkN (h : fz_H) (on rd : Int) : Prop := 0 ≤ on ∧ on ≤ 3 ∧ 0 ≤ rd ∧ rd ≤ 11 ∧ rd < h 53 2
def fz_wkM (h h' : fz_H) (on rd r : Int) : Prop := (¬ fz_wkN h on rd ∧ r = -1 ∧ h' 53 34 = h 53 34 ∧ h' 76 = h 76) ∨ (fz_wkN h on rd ∧ fz_ac (h 55 rd.toNat) (h 56 rd.toNat) (h 76 on.toNat) < 0 ∧ r = -2 ∧ h' 53 34 = h 53 34 ∧ h' 76 = h 76) ∨ (fz_wkN h on rd ∧ 0 ≤ fz_ac (h 55 rd.toNat) (h 56 rd.toNat) (h 76 on.toNat) ∧ 999 < h 53 34 + h 57 rd.toNat ∧ r = -5 ∧ h' 53 34 = h 53 34 ∧ h' 76 = h 76) ∨ (fz_wkN h on rd ∧ 0 ≤ fz_ac (h 55 rd.toNat) (h 56 rd.toNat) (h 76 on.toNat) ∧ h 53 34 + h 57 rd.toNat ≤ 999 ∧ r = fz_ac (h 55 rd.toNat) (h 56 rd.toNat) (h 76 on.toNat) ∧ h' 53 34 = h 53 34 + h 57 rd.toNat ∧ h' 76 = fz_up h 76 on.toNat (fz_ac (h 55 rd.toNat) (h 56 rd.toNat) (h 76 on.toNat)) 76)
theorem fz_walk_rel {h h1 h2 : fz_H} {on rd r q : Int} (hJ : fz_RJ h) (h5 : fz_R5 h) (h6 : fz_R6 h) (h3 : fz_R3 h) (c : fz_wkC h h1 on rd r) (m : fz_wkM h1 h2 on rd q) (n2 : h 1 8 = h 53 2) (b2 : h 53 2 ≤ 12) (fc : ∀ c s : Nat, 53 ≤ c → h1 c s = h c s) (g1 : h2 40 1 = h1 40 1) (g41 : h2 41 = h1 41) (t6 : h2 40 6 = h 40 6) (t42 : h2 42 = h 42) (t43 : h2 43 0 = h 43 0) (t37 : h2 53 37 = h 53 37) (t78 : h2 78 = h 78) (t38 : h2 53 38 = h 53 38) : r = q ∧ fz_RJ h2 := by
  obtain ⟨j1, j2, j3, j4, j5⟩ := hJ
  unfold fz_R5 at h5
  unfold fz_R6 at h6
  unfold fz_R3 at h3
  have fcc : ∀ c : Nat, 53 ≤ c → h1 c = h c := fun c hc => funext fun s => fc c s hc
  unfold fz_wkM fz_wkN at m
  rw [fcc 53 (by decide), fcc 55 (by decide), fcc 56 (by decide), fcc 57 (by decide), ← h5, ← h6, ← h3] at m
  unfold fz_wkC fz_wkO at c
  unfold fz_RJ
  rw [g1, g41, t6, t42, t43, t37, t78, t38]
  have e76 : h1 76 = h 41 := by rw [fcc 76 (by decide), j2]
  rw [e76, ← j1, ← n2] at m
  have key : fz_up h 41 on.toNat (fz_ac (h 5 rd.toNat) (h 6 rd.toNat) (h 41 on.toNat)) 41 = fz_up h1 76 on.toNat (fz_ac (h 5 rd.toNat) (h 6 rd.toNat) (h 41 on.toNat)) 76 := fz_up_pair e76.symm rfl rfl
  generalize fz_ac (h 5 rd.toNat) (h 6 rd.toNat) (h 41 on.toNat) = z at *
  rcases c with ⟨c0, c1, c2, c3⟩ | ⟨c0, c1, c2, c3, c4⟩ | ⟨c0, c1, c2, c3, c4, c5⟩ | ⟨c0, c1, c2, c3, c4, c5⟩
  · rcases m with ⟨m0, m1, m2, m3⟩ | ⟨m0, m1⟩ | ⟨m0, m1⟩ | ⟨m0, m1⟩
    · exact ⟨by omega, by omega, by rw [c3, m3], j3, j4, j5⟩
    · exfalso; omega
    · exfalso; omega
    · exfalso; omega
  · rcases m with ⟨m0, m1⟩ | ⟨m0, m1, m2, m3, m4⟩ | ⟨m0, m1⟩ | ⟨m0, m1⟩
    · exfalso; omega
    · exact ⟨by omega, by omega, by rw [c4, m4], j3, j4, j5⟩
    · exfalso; omega
    · exfalso; omega
  · rcases m with ⟨m0, m1⟩ | ⟨m0, m1⟩ | ⟨m0, m1, m2, m3, m4, m5⟩ | ⟨m0, m1, m2⟩
    · exfalso; omega
    · exfalso; omega
    · exact ⟨by omega, by omega, by rw [c5, m5], j3, j4, j5⟩
    · exfalso; omega
  · rcases m with ⟨m0, m1⟩ | ⟨m0, m1⟩ | ⟨m0, m1, m2⟩ | ⟨m0, m1, m2, m3, m4, m5⟩
    · exfalso; omega
    · exfalso; omega
    · exfalso; omega
    · exact ⟨by omega, by omega, by rw [c5, m5]; exact key, j3, j4, j5⟩
def fz_imC (h h' : fz_H) : Prop := h' 42 = fz_mx (h 41) (h 42) 4 ∧ h' 43 0 = h 40 1 ∧ h' 40 6 = 1 ∧ h' 40 1 = h 40 1 ∧ h' 41 = h 41
def fz_imM (h h' : fz_H) : Prop := h' 78 = fz_mx (h 76) (h 78) 4 ∧ h' 53 38 = h 53 34 ∧ h' 53 37 = 1 ∧ h' 53 34 = h 53 34 ∧ h' 76 = h 76
theorem fz_image_rel {h h1 h2 : fz_H} (hJ : fz_RJ h) (c : fz_imC h h1) (m : fz_imM h1 h2) (fc : ∀ c s : Nat, 53 ≤ c → h1 c s = h c s) (fm : ∀ c s : Nat, c < 53 → h2 c s = h1 c s) : fz_RJ h2 := by
  obtain ⟨j1, j2, j3, j4, j5⟩ := hJ
  obtain ⟨c1, c2, c3, c4, c5⟩ := c
  obtain ⟨m1, m2, m3, m4, m5⟩ := m
  have fcc : ∀ c : Nat, 53 ≤ c → h1 c = h c := fun c hc => funext fun s => fc c s hc
  have fmm : ∀ c : Nat, c < 53 → h2 c = h1 c := fun c hc => funext fun s => fm c s hc
  rw [fcc 76 (by decide), fcc 78 (by decide), ← j2, ← j4] at m1
  rw [fcc 53 (by decide), ← j1] at m2 m4
  rw [fcc 76 (by decide), ← j2] at m5
  unfold fz_RJ
  rw [fmm 40 (by decide), fmm 41 (by decide), fmm 42 (by decide), fmm 43 (by decide), c1, c2, c3, c4, c5, m1, m2, m3, m4, m5]
  exact ⟨rfl, rfl, rfl, rfl, rfl⟩
def fz_bkC (h h' : fz_H) (r : Int) : Prop := (h 40 6 = 0 ∧ r = -5 ∧ h' = h) ∨ (h 40 6 ≠ 0 ∧ r = h 43 0 ∧ h' 41 = fz_mx (h 42) (h 41) 4 ∧ h' 40 1 = h 43 0 ∧ h' 40 6 = h 40 6 ∧ h' 42 = h 42 ∧ h' 43 = h 43)
def fz_bkM (h h' : fz_H) (r : Int) : Prop := (h 53 37 = 0 ∧ r = -5 ∧ h' = h) ∨ (h 53 37 ≠ 0 ∧ r = h 53 38 ∧ h' 76 = fz_mx (h 78) (h 76) 4 ∧ h' 53 34 = h 53 38 ∧ h' 53 37 = h 53 37 ∧ h' 78 = h 78 ∧ h' 53 38 = h 53 38)
theorem fz_back_rel {h h1 h2 : fz_H} {r q : Int} (hJ : fz_RJ h) (c : fz_bkC h h1 r) (m : fz_bkM h1 h2 q) (fc : ∀ c s : Nat, 53 ≤ c → h1 c s = h c s) (fm : ∀ c s : Nat, c < 53 → h2 c s = h1 c s) : r = q ∧ fz_RJ h2 := by
  have hJ0 := hJ
  obtain ⟨j1, j2, j3, j4, j5⟩ := hJ
  have fcc : ∀ c : Nat, 53 ≤ c → h1 c = h c := fun c hc => funext fun s => fc c s hc
  have fmm : ∀ c : Nat, c < 53 → h2 c = h1 c := fun c hc => funext fun s => fm c s hc
  unfold fz_bkM at m
  rw [fcc 53 (by decide), fcc 76 (by decide), fcc 78 (by decide), ← j2, ← j3, ← j4, ← j5] at m
  rcases c with ⟨c0, c1, c2⟩ | ⟨c0, c1, c2, c3, c4, c5, c6⟩
  · rcases m with ⟨m0, m1, m2⟩ | ⟨m0, m1⟩
    · rw [m2, c2]; exact ⟨by omega, hJ0⟩
    · exact absurd c0 m0
  · rcases m with ⟨m0, m1⟩ | ⟨m0, m1, m2, m3, m4, m5, m6⟩
    · exact absurd m0 c0
    · refine ⟨by omega, ?_⟩
      unfold fz_RJ
      rw [fmm 40 (by decide), fmm 41 (by decide), fmm 42 (by decide), fmm 43 (by decide), c2, c3, c4, c5, c6, m2, m3, m4, m5, m6]
      exact ⟨rfl, rfl, rfl, rfl, rfl⟩
theorem fz_fr_lo {S : List (Nat × Nat)} {h h' : fz_H} (hf : fz_fr S h h') (hs : S.all (fun q => Nat.blt q.1 53) = true) : ∀ c s : Nat, 53 ≤ c → h' c s = h c s := by
  intro c s hc
  refine hf c s ?_
  cases hm : fz_me S c s with
  | false => rfl
  | true =>
    exfalso
    obtain ⟨q, hq, h1⟩ := List.any_eq_true.mp hm
    have h2 := List.all_eq_true.mp hs q hq
    rw [Bool.and_eq_true] at h1
    have e := Nat.eq_of_beq_eq_true h1.1
    have := Nat.le_of_ble_eq_true h2
    omega
theorem fz_fr_hi {S : List (Nat × Nat)} {h h' : fz_H} (hf : fz_fr S h h') (hs : S.all (fun q => Nat.ble 53 q.1) = true) : ∀ c s : Nat, c < 53 → h' c s = h c s := by
  intro c s hc
  refine hf c s ?_
  cases hm : fz_me S c s with
  | false => rfl
  | true =>
    exfalso
    obtain ⟨q, hq, h1⟩ := List.any_eq_true.mp hm
    have h2 := List.all_eq_true.mp hs q hq
    rw [Bool.and_eq_true] at h1
    have e := Nat.eq_of_beq_eq_true h1.1
    have := Nat.le_of_ble_eq_true h2
    omega
theorem fz_row5_eq {f g : Nat → Int} {p : Int} (e : f = g) : fz_row5 f p = fz_row5 g p := by rw [e]
/-! roads cut, and laid back -/
theorem fz_b1 (x : BitVec 32) : (x &&& 1#32).toInt = if x.getLsbD 0 then 1 else 0 := by
  have e : x &&& 1#32 = if x.getLsbD 0 then 1#32 else 0#32 := by
    apply BitVec.eq_of_getLsbD_eq
    intro i hi
    rw [BitVec.getLsbD_and]
    by_cases h : i = 0
    · subst h
      cases x.getLsbD 0 <;> rfl
    · have e1 : (1#32).getLsbD i = false := by simp [BitVec.getLsbD_one, h]
      rw [e1, Bool.and_false]
      split
      · exact e1.symm
      · exact (BitVec.getLsbD_zero).symm
  rw [e]
  split <;> decide
theorem fz_shr_bit {t : Int} (r : Fin 12) : fz_and (fz_shr t (r.val : Int)) 1 = if (BitVec.ofInt 32 t).getLsbD r.val then 1 else 0 := by
  have e1 : fz_and (fz_shr t (r.val : Int)) 1 = (BitVec.ofInt 32 (((BitVec.ofInt 32 t).sshiftRight ((Int32.ofInt (r.val : Int) &&& 31).toBitVec.smod 32).toNat).toInt) &&& 1#32).toInt := rfl
  have e2 : ((Int32.ofInt (r.val : Int) &&& 31).toBitVec.smod 32).toNat = r.val := by
    have : ∀ q : Fin 12, ((Int32.ofInt (q.val : Int) &&& 31).toBitVec.smod 32).toNat = q.val := by decide +kernel
    exact this r
  rw [e1, e2, BitVec.ofInt_toInt, fz_b1, BitVec.getLsbD_sshiftRight]
  have h1 : r.val < 12 := r.isLt
  rw [show (!decide (32 ≤ 0)) = true from rfl, Bool.true_and, if_pos (show r.val + 0 < 32 by omega), Nat.add_zero]
theorem fz_shl_bit : ∀ l r : Fin 12, (BitVec.ofInt 32 (fz_shl 1 (l.val : Int))).getLsbD r.val = decide (r.val = l.val) := by decide +kernel
def fz_cb (g : Nat → Int) (v had n : Int) : Prop := ∀ r : Nat, r < 12 → (BitVec.ofInt 32 had).getLsbD r = (decide ((r : Int) < n) && decide (g r = v))
theorem fz_bt_z : ∀ q : Fin 12, (BitVec.ofInt 32 0).getLsbD q.val = false := by decide +kernel
theorem fz_cb_z {g : Nat → Int} {v n : Int} (hn : n = 0) : fz_cb g v 0 n := fun r hr => by
  subst hn
  rw [decide_eq_false (by omega), Bool.false_and]
  exact fz_bt_z ⟨r, hr⟩
theorem fz_cb_0 {g : Nat → Int} {v had n : Int} (c : fz_cb g v had n) (hn : 0 ≤ n) (h0 : g n.toNat ≠ v) : fz_cb g v had (n + 1) := fun r hr => by
  rw [c r hr]
  by_cases e : (r : Int) = n
  · have : r = n.toNat := by omega
    subst this
    rw [decide_eq_false h0, Bool.and_false, Bool.and_false]
  · congr 1
    by_cases q : (r : Int) < n
    · rw [decide_eq_true q, decide_eq_true (by omega)]
    · rw [decide_eq_false q, decide_eq_false (by omega)]
theorem fz_cb_1 {g : Nat → Int} {v had n : Int} (c : fz_cb g v had n) (hn : 0 ≤ n ∧ n < 12) (h1 : g n.toNat = v) : fz_cb g v (fz_or had (fz_shl 1 n)) (n + 1) := fun r hr => by
  have e1 : fz_or had (fz_shl 1 n) = (BitVec.ofInt 32 had ||| BitVec.ofInt 32 (fz_shl 1 n)).toInt := rfl
  have b := fz_shl_bit ⟨n.toNat, by omega⟩ ⟨r, hr⟩
  have en : ((n.toNat : Nat) : Int) = n := by omega
  simp only at b
  rw [en] at b
  rw [e1, BitVec.ofInt_toInt, BitVec.getLsbD_or, c r hr, b]
  by_cases e : (r : Int) = n
  · have q : r = n.toNat := by omega
    subst q
    rw [decide_eq_true (show n.toNat = n.toNat from rfl), Bool.or_true, decide_eq_true (by omega), decide_eq_true h1, Bool.and_true]
  · rw [decide_eq_false (show ¬ r = n.toNat by omega), Bool.or_false]
    congr 1
    by_cases q : (r : Int) < n
    · rw [decide_eq_true q, decide_eq_true (by omega)]
    · rw [decide_eq_false q, decide_eq_false (by omega)]
theorem fz_cb_e {g : Nat → Int} {v had n m : Int} (c : fz_cb g v had n) (e : n = m) : fz_cb g v had m := by rw [← e]; exact c
theorem fz_cb_g {h : fz_H} {had n l : Int} (c : fz_cb (h 58) 1 had n) (hl : 0 ≤ l ∧ l < 12 ∧ l < n) (hb : 0 ≤ h 58 l.toNat ∧ h 58 l.toNat ≤ 1) : fz_and (fz_shr had l) 1 = h 58 l.toNat := by
  have e := fz_shr_bit (t := had) ⟨l.toNat, by omega⟩
  have en : ((l.toNat : Nat) : Int) = l := by omega
  simp only at e
  rw [en, c l.toNat (by omega), decide_eq_true (by omega), Bool.true_and] at e
  rw [e]
  by_cases q : h 58 l.toNat = 1
  · rw [decide_eq_true q, if_pos rfl, q]
  · rw [decide_eq_false q]
    have : h 58 l.toNat = 0 := by omega
    rw [this]
    rfl
/-- places of roads that are none stay -/
def fz_o8 (h H : fz_H) : Prop := ∀ r : Nat, h 53 2 ≤ (r : Int) → H 58 r = h 58 r
theorem fz_o8_z {h : fz_H} : fz_o8 h h := fun _ _ => rfl
theorem fz_o8_st {h H H1 : fz_H} {l x : Int} (o : fz_o8 h H) (e : H1 = fz_up H 58 l.toNat x) (hl : 0 ≤ l ∧ l < h 53 2) : fz_o8 h H1 := fun r hr => by
  rw [e, fz_up_s (by omega)]
  exact o r hr
theorem fz_o8_f {h H H1 : fz_H} (o : fz_o8 h H) (e : H1 58 = H 58) : fz_o8 h H1 := fun r hr => by
  rw [e]
  exact o r hr
def fz_rs (h H : fz_H) (n : Int) : Prop := fz_o8 h H ∧ ∀ r : Nat, (r : Int) < n → H 58 r = h 58 r
theorem fz_rs_0 {h H : fz_H} {n : Int} (o : fz_o8 h H) (hn : n ≤ 0) : fz_rs h H n := ⟨o, fun r hr => by exfalso; omega⟩
theorem fz_rs_st {h H H1 : fz_H} {l x : Int} (s : fz_rs h H l) (e : H1 = fz_up H 58 l.toNat x) (hl : 0 ≤ l ∧ l < h 53 2) (hx : x = h 58 l.toNat) : fz_rs h H1 (l + 1) := by
  refine ⟨fz_o8_st s.1 e hl, fun r hr => ?_⟩
  rw [e]
  by_cases q : r = l.toNat
  · rw [q, fz_up_e, hx]
  · rw [fz_up_s q]
    exact s.2 r (by omega)
theorem fz_rs_e {h H : fz_H} {n : Int} (s : fz_rs h H n) (hn : h 53 2 ≤ n) : H 58 = h 58 := funext fun r => by
  by_cases q : (r : Int) < n
  · exact s.2 r q
  · exact s.1 r (by omega)
/-! further rows -/
def fz_sbC (h h' : fz_H) (r : Int) : Prop := (h 35 4 ≤ 0 ∧ r = -5 ∧ h' = h) ∨ (0 < h 35 4 ∧ r = h 35 4 - 1 ∧ h' = fz_up h 35 4 (h 35 4 - 1))
def fz_saC (h h' : fz_H) (r : Int) : Prop := (h 35 5 ≤ h 35 4 ∧ r = -5 ∧ h' = h) ∨ (h 35 4 < h 35 5 ∧ r = h 35 4 ∧ h' = fz_up h 35 4 (h 35 4 + 1))
def fz_nr (G H : fz_H) : Prop := ∀ c s : Nat, c ≠ 80 → ¬ (c = 53 ∧ (s = 41 ∨ s = 42)) → H c s = G c s
theorem fz_nr_0 {G : fz_H} : fz_nr G G := fun _ _ _ _ => rfl
theorem fz_nr_80 {G H H1 : fz_H} {i : Nat} {v : Int} (a : fz_nr G H) (e : H1 = fz_up H 80 i v) : fz_nr G H1 := fun c s h1 h2 => by
  rw [e, fz_up_o h1]
  exact a c s h1 h2
theorem fz_nr_53 {G H H1 : fz_H} {i : Nat} {v : Int} (a : fz_nr G H) (e : H1 = fz_up H 53 i v) (hi : i = 41 ∨ i = 42) : fz_nr G H1 := fun c s h1 h2 => by
  rw [e]
  unfold fz_up
  rw [if_neg (by omega)]
  exact a c s h1 h2
theorem fz_nr_cp {G H : fz_H} {i j n : Nat} (e : H = fz_cp G 80 i 80 j n) : fz_nr G H := fun c s h1 _ => by
  rw [e, fz_cp_ne h1]
theorem fz_sh_80 {G H H1 : fz_H} {x y : Int} (s : H = fz_cp G 80 (4 : Int).toNat 80 (0 : Int).toNat x.toNat) (hx : x = 156) (e : H1 = fz_up H 53 42 y) : H1 80 = fz_cp G 80 4 80 0 156 80 := by
  subst hx
  rw [e, fz_up_ne (by decide), s]
  rfl
theorem fz_ac_1 {a b t : Int} (h : a = t) : b = fz_ac a b t := by unfold fz_ac; rw [if_pos h]
theorem fz_ac_2 {a b t : Int} (h : a ≠ t) (k : b = t) : a = fz_ac a b t := by unfold fz_ac; rw [if_neg h, if_pos k]
theorem fz_ac_3 {a b t : Int} (h : a ≠ t) (k : b ≠ t) : -2 = fz_ac a b t := by unfold fz_ac; rw [if_neg h, if_neg k]
theorem fz_ac_nn {a b t : Int} (ha : 0 ≤ a) (hb : 0 ≤ b) (h : a = t ∨ b = t) : 0 ≤ fz_ac a b t := by
  unfold fz_ac
  split
  · exact hb
  · split
    · exact ha
    · omega
theorem fz_imC_in {h H1 H2 H3 H4 H5 H6 H7 : fz_H} {a b c d f : Int} (e1 : H1 = fz_cp h 41 0 42 0 4) (e2 : H2 = fz_up H1 43 0 a) (e3 : H3 = fz_up H2 43 1 b) (e4 : H4 = fz_up H3 43 2 c) (e5 : H5 = fz_up H4 43 3 d) (e6 : H6 = fz_up H5 43 4 f) (e7 : H7 = fz_up H6 40 6 1) (ha : a = h 40 1) : fz_imC h H7 := by
  subst ha
  refine ⟨?_, ?_, ?_, ?_, ?_⟩
  · rw [e7, fz_up_ne (by decide), e6, fz_up_ne (by decide), e5, fz_up_ne (by decide), e4, fz_up_ne (by decide), e3, fz_up_ne (by decide), e2, fz_up_ne (by decide), e1]
    exact fz_cp_mx
  · rw [e7, fz_up_o (by decide), e6, fz_up_s (by decide), e5, fz_up_s (by decide), e4, fz_up_s (by decide), e3, fz_up_s (by decide), e2, fz_up_e]
  · rw [e7, fz_up_e]
  · rw [e7, fz_up_s (by decide), e6, fz_up_o (by decide), e5, fz_up_o (by decide), e4, fz_up_o (by decide), e3, fz_up_o (by decide), e2, fz_up_o (by decide), e1, fz_cp_ne (by decide)]
  · rw [e7, fz_up_ne (by decide), e6, fz_up_ne (by decide), e5, fz_up_ne (by decide), e4, fz_up_ne (by decide), e3, fz_up_ne (by decide), e2, fz_up_ne (by decide), e1, fz_cp_ne (by decide)]
def fz_lbC (h h' : fz_H) : Prop := h' 41 = fz_mx (h 42) (h 41) 4 ∧ h' 40 1 = h 43 0 ∧ h' 40 6 = h 40 6 ∧ h' 42 = h 42 ∧ h' 43 = h 43
theorem fz_lbC_in {h H1 H2 H3 H4 H5 H6 : fz_H} {a b c d f : Int} (e1 : H1 = fz_cp h 42 0 41 0 4) (e2 : H2 = fz_up H1 40 1 a) (e3 : H3 = fz_up H2 40 2 b) (e4 : H4 = fz_up H3 40 3 c) (e5 : H5 = fz_up H4 40 4 d) (e6 : H6 = fz_up H5 40 5 f) (ha : a = h 43 0) : fz_lbC h H6 := by
  subst ha
  refine ⟨?_, ?_, ?_, ?_, ?_⟩
  · rw [e6, fz_up_ne (by decide), e5, fz_up_ne (by decide), e4, fz_up_ne (by decide), e3, fz_up_ne (by decide), e2, fz_up_ne (by decide), e1]
    exact fz_cp_mx
  · rw [e6, fz_up_s (by decide), e5, fz_up_s (by decide), e4, fz_up_s (by decide), e3, fz_up_s (by decide), e2, fz_up_e]
  · rw [e6, fz_up_s (by decide), e5, fz_up_s (by decide), e4, fz_up_s (by decide), e3, fz_up_s (by decide), e2, fz_up_s (by decide), e1, fz_cp_ne (by decide)]
  · rw [e6, fz_up_ne (by decide), e5, fz_up_ne (by decide), e4, fz_up_ne (by decide), e3, fz_up_ne (by decide), e2, fz_up_ne (by decide), e1, fz_cp_ne (by decide)]
  · rw [e6, fz_up_ne (by decide), e5, fz_up_ne (by decide), e4, fz_up_ne (by decide), e3, fz_up_ne (by decide), e2, fz_up_ne (by decide), e1, fz_cp_ne (by decide)]
theorem fz_apC_f {h H H1 : fz_H} {r : Int} {f : Int → Int × Int × Int × Int × Int} (a : fz_apC h H r f) (e0 : H1 10 = H 10) (e1 : H1 11 = H 11) (e2 : H1 12 = H 12) (e3 : H1 13 = H 13) (e4 : H1 14 = H 14) : fz_apC h H1 r f := by
  unfold fz_apC
  rw [e0, e1, e2, e3, e4]
  exact a
theorem fz_apM_f {h H H1 : fz_H} {r : Int} {f : Int → Int × Int × Int × Int × Int} (a : fz_apM h H r f) (e0 : H1 60 = H 60) (e1 : H1 61 = H 61) (e2 : H1 62 = H 62) (e3 : H1 63 = H 63) (e4 : H1 64 = H 64) : fz_apM h H1 r f := by
  unfold fz_apM
  rw [e0, e1, e2, e3, e4]
  exact a
theorem fz_apM_lo {h H : fz_H} {r : Int} {f g : Int → Int × Int × Int × Int × Int} (a : fz_apM h H r f) : fz_apM h H 0 g := ⟨a.1, fun k k0 k1 => by exfalso; omega⟩
theorem fz_row5_e {f g : Nat → Int} {p q : Int} (e : f = g) (h : p = q) : fz_row5 f p = fz_row5 g q := by rw [e, h]
theorem fz_doe {on a b n m mk wt : Int} (h1 : a = b) (h2 : n = m) : ((on, a, n, mk, wt) : Int × Int × Int × Int × Int) = (on, b, m, mk, wt) := by rw [h1, h2]
/-! whose the deeds are -/
def fz_RW (h : fz_H) : Prop := ∀ j : Nat, (j : Int) < h 9 5 → h 10 j = h 60 j
theorem fz_RW_eq {h h' : fz_H} (e10 : h' 10 = h 10) (e60 : h' 60 = h 60) (e9 : h' 9 5 = h 9 5) (hR : fz_RW h) : fz_RW h' := by
  intro j hj
  rw [e10, e60]
  exact hR j (by omega)
theorem fz_RW_ap {h h1 h2 : fz_H} {r q : Int} {f g : Int → Int × Int × Int × Int × Int} (hL : fz_RW h) (c : fz_apC h h1 r f) (m : fz_apM h1 h2 q g) (n : h1 53 10 = h 9 5) (fc : h1 60 = h 60) (fm : h2 10 = h1 10) (z : h2 9 5 = h 9 5 + r) (hr : r = q) (h0 : 0 ≤ h 9 5) (hfg : ∀ k, 0 ≤ k → k < r → f k = g k) : fz_RW h2 := by
  subst hr
  unfold fz_apM at m
  rw [n, fc] at m
  intro j hj
  rw [fm]
  by_cases hlt : (j : Int) < h 9 5
  · exact (c.1 j hlt).1.trans ((hL j hlt).trans (m.1 j hlt).1.symm)
  · have a := c.2 (j - h 9 5) (by omega) (by omega)
    have b := m.2 (j - h 9 5) (by omega) (by omega)
    rw [hfg _ (by omega) (by omega), show (h 9 5 + (j - h 9 5)).toNat = j by omega] at a
    rw [show (h 9 5 + (j - h 9 5)).toNat = j by omega] at b
    exact a.1.trans b.1.symm
def fz_bt (x : Int) (d : Nat) : Bool := (BitVec.ofInt 32 x).getLsbD d
theorem fz_bt_and {x y : Int} {d : Nat} : fz_bt (fz_and x y) d = (fz_bt x d && fz_bt y d) := by
  have e : fz_bt (fz_and x y) d = (BitVec.ofInt 32 ((BitVec.ofInt 32 x &&& BitVec.ofInt 32 y).toInt)).getLsbD d := rfl
  rw [e, BitVec.ofInt_toInt, BitVec.getLsbD_and]
  rfl
theorem fz_bt_not {y : Int} {d : Nat} (hd : d < 32) : fz_bt (fz_xor y (-1)) d = !fz_bt y d := by
  have e : fz_bt (fz_xor y (-1)) d = (BitVec.ofInt 32 ((BitVec.ofInt 32 y ^^^ BitVec.ofInt 32 (-1)).toInt)).getLsbD d := rfl
  have e2 : BitVec.ofInt 32 (-1) = BitVec.allOnes 32 := by decide
  rw [e, BitVec.ofInt_toInt, BitVec.getLsbD_xor, e2, BitVec.getLsbD_allOnes, decide_eq_true hd]
  unfold fz_bt
  cases (BitVec.ofInt 32 y).getLsbD d <;> rfl
theorem fz_bt_sub {x y : Int} {d : Nat} (h : fz_and x (fz_xor y (-1)) = 0) (hd : d < 12) (b : fz_bt x d = true) : fz_bt y d = true := by
  have e := @fz_bt_and x (fz_xor y (-1)) d
  have z : fz_bt 0 d = false := fz_bt_z ⟨d, hd⟩
  rw [h, z, fz_bt_not (by omega), b, Bool.true_and] at e
  cases hy : fz_bt y d with
  | true => rfl
  | false => rw [hy] at e; cases e
theorem fz_bt_l {x y : Int} {d : Nat} (b : fz_bt (fz_and x y) d = true) : fz_bt x d = true := by
  rw [fz_bt_and] at b
  cases hx : fz_bt x d with
  | true => rfl
  | false => rw [hx] at b; cases b
theorem fz_bt_1 {x l : Int} (hl : 0 ≤ l ∧ l < 12) : fz_and (fz_shr x l) 1 = if fz_bt x l.toNat then 1 else 0 := by
  have e := fz_shr_bit (t := x) ⟨l.toNat, by omega⟩
  have en : ((l.toNat : Nat) : Int) = l := by omega
  simp only at e
  rw [en] at e
  exact e
def fz_fgn (h H : fz_H) (n se pe : Int) : Prop := ∀ d : Nat, H 60 d = if (d : Int) < n ∧ fz_bt se d = true then pe else h 60 d
theorem fz_fgn_0 {h : fz_H} {n se pe : Int} (hn : n ≤ 0) : fz_fgn h h n se pe := fun d => by rw [if_neg (by omega)]
theorem fz_fgn_1 {h H H1 : fz_H} {l se pe : Int} (g : fz_fgn h H l se pe) (e : H1 = fz_up H 60 l.toNat pe) (hl : 0 ≤ l ∧ l < 12) (c : fz_and (fz_shr se l) 1 = 1) : fz_fgn h H1 (l + 1) se pe := fun d => by
  have b : fz_bt se l.toNat = true := by
    rw [fz_bt_1 hl] at c
    cases hy : fz_bt se l.toNat with
    | true => rfl
    | false => rw [hy] at c; cases c
  rw [e]
  by_cases q : d = l.toNat
  · subst q
    rw [fz_up_e, if_pos ⟨by omega, b⟩]
  · rw [fz_up_s q, g d]
    by_cases z : (d : Int) < l
    · by_cases y : fz_bt se d = true
      · rw [if_pos ⟨z, y⟩, if_pos ⟨by omega, y⟩]
      · rw [if_neg (fun w => y w.2), if_neg (fun w => y w.2)]
    · rw [if_neg (fun w => z w.1), if_neg (fun w => z (by have := w.1; omega))]
theorem fz_fgn_2 {h H : fz_H} {l se pe : Int} (g : fz_fgn h H l se pe) (hl : 0 ≤ l ∧ l < 12) (c : fz_and (fz_shr se l) 1 ≠ 1) : fz_fgn h H (l + 1) se pe := fun d => by
  have b : ¬ fz_bt se l.toNat = true := fun y => c (by rw [fz_bt_1 hl, y]; rfl)
  rw [g d]
  by_cases q : d = l.toNat
  · subst q
    rw [if_neg (fun w => b w.2), if_neg (fun w => b w.2)]
  · by_cases z : (d : Int) < l
    · by_cases y : fz_bt se d = true
      · rw [if_pos ⟨z, y⟩, if_pos ⟨by omega, y⟩]
      · rw [if_neg (fun w => y w.2), if_neg (fun w => y w.2)]
    · rw [if_neg (fun w => z w.1), if_neg (fun w => z (by have := w.1; omega))]
theorem fz_fgn_e {h H : fz_H} {n m se pe : Int} (g : fz_fgn h H n se pe) (e : n = m) : fz_fgn h H m se pe := by rw [← e]; exact g
/-- forgotten, then one's again -/
theorem fz_fg_back {h K H G G1 G2 : fz_H} {n1 n2 m s1 s2 q pe all : Int} (w : H 60 = h 60) (a : fz_fgn H G n1 s1 q) (f : G1 60 = G 60) (b : fz_fgn G1 G2 n2 s2 pe) (wk : K 60 = h 60) (c : fz_cb (K 60) pe all m) (e1 : n1 = h 53 10) (e2 : n2 = h 53 10) (hm : h 53 10 ≤ 11) (h12 : ∀ d, d < 12 → fz_bt s1 d = true → fz_bt s2 d = true) (h2 : ∀ d, d < 12 → fz_bt s2 d = true → fz_bt all d = true) : G2 60 = h 60 := funext fun d => by
  subst e1 e2
  rw [b d]
  by_cases z : (d : Int) < h 53 10 ∧ fz_bt s2 d = true
  · rw [if_pos z]
    have b1 := h2 d (by omega) z.2
    have c1 := c d (by omega)
    have e : (BitVec.ofInt 32 all).getLsbD d = true := b1
    rw [e, wk] at c1
    by_cases y : h 60 d = pe
    · exact y.symm
    · rw [decide_eq_false y, Bool.and_false] at c1
      cases c1
  · rw [if_neg z, f, a d, w]
    rw [if_neg (fun y => z ⟨y.1, h12 d (by omega) y.2⟩)]
theorem fz_of_eq {h h1 : fz_H} {nu wh r q : Int} (r2 : fz_R2 h) (r3 : fz_R3 h) (r4 : fz_R4 h) (r28 : fz_R28 h) (hG : fz_RG h) (hL : fz_RL h) (hW : fz_RW h) (hJ : fz_RJ h) (a7 : h 1 7 = h 53 0) (a8 : h 1 8 = h 53 2) (a9 : h 9 5 = h 53 10) (b0 : h 53 0 ≤ 8) (b2 : h 53 2 ≤ 12) (b10 : h 53 10 ≤ 10) (c : fz_nC h nu wh r) (m : fz_nM h nu wh q) : r = q := by
  have pp := @fz_PCN h nu wh a7 a8 a9 b0 b2 b10
  obtain ⟨j1, j2, -, -, -⟩ := hJ
  rcases c with ⟨c0, c1⟩ | ⟨c0, c1, c2⟩ | ⟨c0, c1, c2⟩
  · rcases m with ⟨m0, m1⟩ | ⟨m0, m1, m2⟩ | ⟨m0, m1, m2⟩
    · unfold fz_fxC at c1
      unfold fz_fxM at m1
      rw [← a9, ← j1, ← j2] at m1
      have hd : 0 ≤ nu ∧ nu < h 9 5 → h 10 nu.toNat = h 60 nu.toNat ∧ h 11 nu.toNat = h 61 nu.toNat := fun z => ⟨hW nu.toNat (by omega), (hL nu.toNat (by omega)).1⟩
      rcases c1 with ⟨d0, d1, d2⟩ | ⟨d0, d1, d2⟩ | ⟨d0, d1, d2⟩ | ⟨d0, d1, d2⟩ | d0
      · have := hd d1; omega
      · have := hd d1; omega
      · omega
      · omega
      · omega
    · exfalso; have := fz_PC_w (pp.mpr m1); omega
    · unfold fz_fxC at c1
      omega
  · rcases m with ⟨m0, m1⟩ | ⟨m0, m1, m2⟩ | ⟨m0, m1, m2⟩
    · exfalso; omega
    · rw [c2, m2, fz_g_eq r2 r3 r4 r28 hG hL c1]
    · exact absurd (pp.mp c1) m1
  · rcases m with ⟨m0, m1⟩ | ⟨m0, m1, m2⟩ | ⟨m0, m1, m2⟩
    · exfalso; omega
    · exact absurd (pp.mpr m1) c1
    · omega
