def fz_w28 : Nat → Int32 := upd (upd (upd (upd (upd (fun _ => Int32.ofInt 0) 0 (Int32.ofInt 1)) 1 (Int32.ofInt (-2))) 2 (Int32.ofInt 1)) 3 (Int32.ofInt 1)) 4 (Int32.ofInt (-1))
def fz_w59 : Nat → Int32 := upd (upd (upd (upd (upd (fun _ => Int32.ofInt 0) 0 (Int32.ofInt 1)) 1 (Int32.ofInt (-2))) 2 (Int32.ofInt 1)) 3 (Int32.ofInt 1)) 4 (Int32.ofInt (-1))
def fz_w83 : Nat → Int32 := upd (upd (upd (upd (upd (upd (fun _ => Int32.ofInt 0) 0 (Int32.ofInt (-1))) 1 (Int32.ofInt (-1))) 2 (Int32.ofInt (-1))) 3 (Int32.ofInt (-1))) 4 (Int32.ofInt (-1))) 5 (Int32.ofInt (-1))
def fz_h0 (sc : Nat → Int) : fz_H := fun c s => if c = 200 then sc s else if c = 201 then fz_tbl fz_c201 s else if c = 202 then fz_tbl fz_c202 s else if c = 203 then fz_tbl fz_c203 s else if c = 204 then fz_tbl fz_c204 s else if c = 28 then (fz_w28 s).toInt else if c = 59 then (fz_w59 s).toInt else if c = 83 then (fz_w83 s).toInt else if c = 27 then (if s = 8 then 60 else if s = 9 then 1 else 0) else if c = 53 then (if s = 8 then 60 else if s = 9 then 1 else 0) else 0
theorem fz_w28_b (s : Nat) : -2 ≤ (fz_w28 s).toInt ∧ (fz_w28 s).toInt ≤ 1 := by
  unfold fz_w28
  simp only [upd]
  (repeat' split) <;> decide
theorem fz_w59_b (s : Nat) : -2 ≤ (fz_w59 s).toInt ∧ (fz_w59 s).toInt ≤ 1 := by
  unfold fz_w59
  simp only [upd]
  (repeat' split) <;> decide
theorem fz_w83_b (s : Nat) : -1 ≤ (fz_w83 s).toInt ∧ (fz_w83 s).toInt ≤ 0 := by
  unfold fz_w83
  simp only [upd]
  (repeat' split) <;> decide
theorem fz_tbl_b {l : List Int} (hl : l.all (fun x => decide (-2147483648 ≤ x ∧ x ≤ 2147483647)) = true) (hn : l.length ≤ 100000) (s : Nat) : -2147483648 ≤ fz_tbl l s ∧ fz_tbl l s ≤ 2147483647 := by
  unfold fz_tbl
  split
  · omega
  · rw [fz_nth_eq]
    cases h : l[s]? with
    | none => exact ⟨by decide, by decide⟩
    | some x => exact of_decide_eq_true (List.all_eq_true.mp hl x (List.mem_of_getElem? h))
theorem fz_bd0 (c s : Nat) : (fz_bd c s).1 ≤ 0 ∧ 0 ≤ (fz_bd c s).2 := by
  have key : fz_bl.all (fun l => l.all (fun b => decide (b.1 ≤ 0 ∧ 0 ≤ b.2))) = true := by decide +kernel
  unfold fz_bd
  rw [fz_nth_eq]
  cases h : fz_bl[c]? with
  | none => exact ⟨(show (-2147483648 : Int) ≤ 0 by decide), (show (0 : Int) ≤ 2147483647 by decide)⟩
  | some l =>
    have h1 := List.all_eq_true.mp key l (List.mem_of_getElem? h)
    have h2 : ∀ b ∈ l, b.1 ≤ 0 ∧ 0 ≤ b.2 := fun b hb => of_decide_eq_true (List.all_eq_true.mp h1 b hb)
    show (fz_bs l s).1 ≤ 0 ∧ 0 ≤ (fz_bs l s).2
    unfold fz_bs
    split
    · exact h2 _ (by simp)
    · rw [fz_nth_eq]
      cases h3 : l[s]? with
      | none => exact ⟨by decide, by decide⟩
      | some b => exact h2 b (List.mem_of_getElem? h3)
theorem fz_h0_b {sc : Nat → Int} (hsc : ∀ j, -2147483648 ≤ sc j ∧ sc j ≤ 2147483647) (c s : Nat) : -2147483648 ≤ fz_h0 sc c s ∧ fz_h0 sc c s ≤ 2147483647 := by
  have a1 := fz_w28_b s
  have a2 := fz_w59_b s
  have a3 := fz_w83_b s
  have a4 := hsc s
  have b1 := fz_tbl_b (l := fz_c201) (by decide) (by decide) s
  have b2 := fz_tbl_b (l := fz_c202) (by decide) (by decide) s
  have b3 := fz_tbl_b (l := fz_c203) (by decide) (by decide) s
  have b4 := fz_tbl_b (l := fz_c204) (by decide) (by decide) s
  unfold fz_h0
  (repeat' split) <;> omega
theorem fz_h0_I {sc : Nat → Int} (hsc : ∀ j, -2147483648 ≤ sc j ∧ sc j ≤ 2147483647) : fz_Iv (fz_h0 sc) := by
  refine ⟨fun c s => ?_, rfl, rfl, rfl, rfl⟩
  have a1 := fz_w28_b s
  have a2 := fz_w59_b s
  have a3 := fz_w83_b s
  have a0 := fz_bd0 c s
  have hb := fz_h0_b hsc c s
  by_cases h1 : 200 ≤ c
  · have e : fz_bd c s = fz_fu := by
      unfold fz_bd
      rw [fz_nth_eq, List.getElem?_eq_none_iff.mpr (show fz_bl.length ≤ c from Nat.le_trans (by decide +kernel) h1)]
    rw [e]
    exact hb
  · by_cases h2 : c = 28
    · subst h2; show (-9 : Int) ≤ (fz_w28 s).toInt ∧ (fz_w28 s).toInt ≤ 9; omega
    · by_cases h3 : c = 59
      · subst h3; show (-9 : Int) ≤ (fz_w59 s).toInt ∧ (fz_w59 s).toInt ≤ 9; omega
      · by_cases h4 : c = 83
        · subst h4; show (-1 : Int) ≤ (fz_w83 s).toInt ∧ (fz_w83 s).toInt ≤ 59; omega
        · by_cases h5 : (c = 27 ∨ c = 53) ∧ (s = 8 ∨ s = 9)
          · rcases h5 with ⟨rfl | rfl, rfl | rfl⟩
            · show (0 : Int) ≤ 60 ∧ (60 : Int) ≤ 99; omega
            · show (0 : Int) ≤ 1 ∧ (1 : Int) ≤ 12; omega
            · show (0 : Int) ≤ 60 ∧ (60 : Int) ≤ 99; omega
            · show (0 : Int) ≤ 1 ∧ (1 : Int) ≤ 12; omega
          · have e : fz_h0 sc c s = 0 := by
              unfold fz_h0
              (repeat' split) <;> omega
            rw [e]
            exact a0
theorem fz_h0_RS {sc : Nat → Int} : fz_RS (fz_h0 sc) := by
  intro s hs
  left
  refine ⟨rfl, ?_⟩
  show (fz_w83 s).toInt = -1
  rcases (show s = 0 ∨ s = 1 ∨ s = 2 ∨ s = 3 ∨ s = 4 ∨ s = 5 by omega) with rfl | rfl | rfl | rfl | rfl | rfl <;> decide
theorem fz_h0_R28 {sc : Nat → Int} : fz_R28 (fz_h0 sc) := funext fun _ => rfl
theorem fz_h0_G {sc : Nat → Int} (hsc : ∀ j, -2147483648 ≤ sc j ∧ sc j ≤ 2147483647) : fz_Gd (fz_h0 sc) := by
  refine ⟨fz_h0_I hsc, fun i _ => ?_, fun i _ => ?_, fun i => ?_, fun i hi => ?_, ?_, ?_, ?_, ?_, ?_, ?_, ?_, fz_h0_RS, rfl, rfl, ⟨rfl, fun _ _ _ => rfl⟩, (fun _ _ => ⟨Or.inl rfl, Or.inl rfl⟩), (fun r hr => absurd (show (r : Int) < 0 from hr) (by omega)), rfl, rfl, rfl, fz_h0_R28, rfl, rfl, ⟨rfl, rfl⟩, (fun r hr => absurd (show (r : Int) < 0 from hr) (by omega)), ⟨⟨rfl, rfl, Int.le_refl 0, Int.le_refl 0, (by show (0 : Int) ≤ 40; omega)⟩, fun r hr => absurd (show (r : Int) < 0 from hr) (by omega)⟩, ⟨rfl, rfl, rfl, rfl, rfl⟩, (fun r hr => absurd (show (r : Int) < 0 from hr) (by omega)), fz_h0_RVg rfl rfl (fun _ => rfl) (fun _ => rfl), (fun r hr => absurd (show (r : Int) < 0 from hr) (by omega)), (fun r hr => absurd (show (r : Int) < 0 from hr) (by omega)), fl_RA_0 rfl, (fun _ _ _ _ _ _ => rfl), ⟨⟨rfl, rfl, rfl, rfl⟩, rfl, rfl, rfl, rfl⟩⟩
  · show fz_oc 0 0 ∧ fz_oc 0 0
    unfold fz_oc; omega
  · show fz_om 0 0 0 ∧ fz_om 0 0 0
    unfold fz_om; omega
  · have := fz_w83_b i
    left
    show (fz_w83 i).toInt ≤ 4
    omega
  · exfalso
    have : (i : Int) < 0 := hi
    omega
  · show (0 : Int) ≤ 10; omega
  · show (0 : Int) ≤ 0; omega
  · rfl
  · rfl
  · rfl
  · rfl
  · rfl
theorem fz_ce_w {E : fz_E} {h : fz_H} {o n : Nat} {F : Nat → Int32} (hs : fz_sh o = (1, 0, n)) (hF : ∀ j, h o j = (F j).toInt) : fz_ce E h o = .inl (E.2.2.1, n, .inl F) := by
  rw [fz_ce_i hs]
  have : (fun j => Int32.ofInt (h o j)) = F := funext fun j => by rw [hF]; exact Int32.ofInt_toInt _
  rw [this]
