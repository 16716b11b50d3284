/-! ===== new objects of the law ===== -/
def sn_w28 : Nat → Int32 := upd (upd (upd (upd (upd (fun _ => Int32.ofInt 0) 0 (Int32.ofInt 1)) 1 (Int32.ofInt (-2))) 2 (Int32.ofInt 1)) 3 (Int32.ofInt 1)) 4 (Int32.ofInt (-1))
def sn_h (sc g : Nat → Int) (n : Nat) : fz_H := fun c s => if c = 200 then sc s else if c = 201 then fz_tbl fz_c201 s else if c = 202 then fz_tbl fz_c202 s else if c = 203 then fz_tbl fz_c203 s else if c = 204 then fz_tbl fz_c204 s else if c = 205 then (if s = 100000 then (n : Int) else 0) else if c = 28 then (sn_w28 s).toInt else if c = 27 then (if s = 8 then 60 else if s = 9 then 1 else 0) else if c = 53 then g s else 0
theorem sn_w28_b (s : Nat) : -2 ≤ (sn_w28 s).toInt ∧ (sn_w28 s).toInt ≤ 1 := by
  unfold sn_w28
  simp only [upd]
  (repeat' split) <;> decide
theorem sn_tbl_b {l : List Int} (hl : l.all (fun x => decide (-2147483648 ≤ x ∧ x ≤ 2147483647)) = true) (hn : l.length ≤ 100000) (s : Nat) : -2147483648 ≤ fz_tbl l s ∧ fz_tbl l s ≤ 2147483647 := by
  unfold fz_tbl
  split
  · omega
  · rw [fz_nth_eq]
    cases h : l[s]? with
    | none => exact ⟨by decide, by decide⟩
    | some x => exact of_decide_eq_true (List.all_eq_true.mp hl x (List.mem_of_getElem? h))
theorem sn_bd0 (c s : Nat) : (fz_bd c s).1 ≤ 0 ∧ 0 ≤ (fz_bd c s).2 := by
  have key : fz_bl.all (fun l => l.all (fun b => decide (b.1 ≤ 0 ∧ 0 ≤ b.2))) = true := by decide +kernel
  unfold fz_bd
  rw [fz_nth_eq]
  cases h : fz_bl[c]? with
  | none => exact ⟨(show (-2147483648 : Int) ≤ 0 by decide), (show (0 : Int) ≤ 2147483647 by decide)⟩
  | some l =>
    have h1 := List.all_eq_true.mp key l (List.mem_of_getElem? h)
    have h2 : ∀ b ∈ l, b.1 ≤ 0 ∧ 0 ≤ b.2 := fun b hb => of_decide_eq_true (List.all_eq_true.mp h1 b hb)
    show (fz_bs l s).1 ≤ 0 ∧ 0 ≤ (fz_bs l s).2
    unfold fz_bs
    split
    · exact h2 _ (by simp)
    · rw [fz_nth_eq]
      cases h3 : l[s]? with
      | none => exact ⟨by decide, by decide⟩
      | some b => exact h2 b (List.mem_of_getElem? h3)
theorem sn_h_b {sc g : Nat → Int} {n : Nat} (hsc : ∀ j, -2147483648 ≤ sc j ∧ sc j ≤ 2147483647) (hg : ∀ j, -2147483648 ≤ g j ∧ g j ≤ 2147483647) (hn : n < 100000) (c s : Nat) : -2147483648 ≤ sn_h sc g n c s ∧ sn_h sc g n c s ≤ 2147483647 := by
  have a1 := sn_w28_b s
  have a2 := hg s
  have a4 := hsc s
  have b1 := sn_tbl_b (l := fz_c201) (by decide) (by decide) s
  have b2 := sn_tbl_b (l := fz_c202) (by decide) (by decide) s
  have b3 := sn_tbl_b (l := fz_c203) (by decide) (by decide) s
  have b4 := sn_tbl_b (l := fz_c204) (by decide) (by decide) s
  unfold sn_h
  (repeat' split) <;> omega
theorem sn_h_I {sc g : Nat → Int} {n : Nat} (hsc : ∀ j, -2147483648 ≤ sc j ∧ sc j ≤ 2147483647) (hg : ∀ j, -2147483648 ≤ g j ∧ g j ≤ 2147483647) (hn : n < 100000) : fz_Iv (sn_h sc g n) := by
  refine ⟨fun c s => ?_, rfl, rfl, rfl, rfl⟩
  have a1 := sn_w28_b s
  have a0 := sn_bd0 c s
  have hb := sn_h_b hsc hg hn c s
  by_cases h1 : 53 ≤ c
  · by_cases h2 : c = 53
    · subst h2
      exact hb
    · have e : fz_bd c s = fz_fu := by
        unfold fz_bd
        rw [fz_nth_eq, List.getElem?_eq_none_iff.mpr (show fz_bl.length ≤ c from Nat.le_trans (by decide +kernel : fz_bl.length ≤ 54) (by omega))]
      rw [e]
      exact hb
  · by_cases h2 : c = 28
    · subst h2; show (-9 : Int) ≤ (sn_w28 s).toInt ∧ (sn_w28 s).toInt ≤ 9; omega
    · by_cases h5 : c = 27 ∧ (s = 8 ∨ s = 9)
      · rcases h5 with ⟨rfl, rfl | rfl⟩
        · show (0 : Int) ≤ 60 ∧ (60 : Int) ≤ 99; omega
        · show (0 : Int) ≤ 1 ∧ (1 : Int) ≤ 12; omega
      · have e : sn_h sc g n c s = 0 := by
          unfold sn_h
          (repeat' split) <;> omega
        rw [e]
        exact a0
theorem sn_h_nh {sc g : Nat → Int} {n : Nat} (hsc : ∀ j, -2147483648 ≤ sc j ∧ sc j ≤ 2147483647) (hg : ∀ j, -2147483648 ≤ g j ∧ g j ≤ 2147483647) (hn : n < 100000) : fz_nh (sn_h sc g n) := fun c i => by
  have := sn_h_b hsc hg hn c i
  unfold fz_okx
  split <;> omega
theorem sn_h_RT {sc g : Nat → Int} {n : Nat} : fz_RT (sn_h sc g n) := fun _ _ => ⟨Or.inl rfl, Or.inl rfl⟩
theorem sn_h_RE {sc g : Nat → Int} {n : Nat} : fz_RE (sn_h sc g n) := fun r hr => absurd (show (r : Int) < 0 from hr) (by omega)
theorem sn_h_RV {sc g : Nat → Int} {n : Nat} : fz_RV (sn_h sc g n) := fz_h0_RVg rfl rfl (fun _ => rfl) (fun _ => rfl)
theorem sn_h_Xc {sc g : Nat → Int} {n : Nat} : fz_Xc (sn_h sc g n) := fun i _ => by
  show fz_oc 0 0 ∧ fz_oc 0 0
  unfold fz_oc
  omega
theorem sn_h_Z {sc g : Nat → Int} {n : Nat} : st_Z (sn_h sc g n) := ⟨⟨rfl, rfl, rfl, rfl, rfl⟩, fun _ _ => rfl⟩
theorem sn_fr0 {h : fz_H} {r : Int} (c : fl_frC h 0 0 0 r) (n : h 9 5 = 0) : r = 0 := by
  rcases c with ⟨-, F, f1, f2⟩ | ⟨n2, -⟩
  · have f3 : r = fl_bc F := f2
    have e : F = 0 := by
      by_cases q : F = 0
      · exact q
      · exfalso
        obtain ⟨d, d1, d2⟩ := fl_nz f1.1 q
        have := ((fl_isF_b f1 (d := d) (by omega)).mp d2).1
        omega
    rw [f3, e]
    decide +kernel
  · exact absurd ⟨⟨by decide, by decide⟩, ⟨by decide, by decide⟩, by decide, by decide⟩ n2
theorem sn_ah0 {h : fz_H} {r : Int} (c : fl_ahC h 0 0 0 r) (n : h 1 7 = 0) : r = 0 := by
  rcases c with ⟨-, e⟩ | ⟨n2, -⟩
  · rw [n] at e
    exact e
  · exact absurd ⟨⟨by decide, by decide⟩, ⟨by decide, by decide⟩, by decide, by decide⟩ n2
theorem sn_wk0 {h h' : fz_H} {r : Int} (c : fz_wkC h h' 0 0 r) (n : h 1 8 = 0) : r = -1 := by
  have no : ¬ fz_wkO h 0 0 := fun z => by
    unfold fz_wkO at z
    omega
  rcases c with ⟨-, e, -⟩ | ⟨z, -⟩ | ⟨z, -⟩ | ⟨z, -⟩
  · exact e
  · exact absurd z no
  · exact absurd z no
  · exact absurd z no
theorem sn_nv {x : Int} (h : -2147483648 ≤ x ∧ x < 2147483648) : fz_nv (fz_i x) := h
/-- a new object's cells -/
def sn_ob (cI cJ : ClassId) (qf : Nat → Nat) : va_W := [((qf 0), .inr (12, [.ref (qf 1), .ref (qf 9), .ref (qf 15), .ref (qf 20), .ref (qf 27), .ref (qf 33), .ref (qf 35), .ref (qf 40), .ref (qf 44), .ref (qf 47)])), ((qf 1), .inr (4, [.ref (qf 2), .ref (qf 3), .ref (qf 4), .ref (qf 5), .ref (qf 6), .ref (qf 7), .ref (qf 8), .int (Int32.ofInt 0), .int (Int32.ofInt 0)])), ((qf 2), .inl (cI, 8, .inl (fun _ => Int32.ofInt 0))), ((qf 3), .inl (cI, 12, .inl (fun _ => Int32.ofInt 0))), ((qf 4), .inl (cI, 12, .inl (fun _ => Int32.ofInt 0))), ((qf 5), .inl (cI, 12, .inl (fun _ => Int32.ofInt 0))), ((qf 6), .inl (cI, 12, .inl (fun _ => Int32.ofInt 0))), ((qf 7), .inl (cI, 64, .inl (fun _ => Int32.ofInt 0))), ((qf 8), .inl (cI, 64, .inl (fun _ => Int32.ofInt 0))), ((qf 9), .inr (6, [.ref (qf 10), .ref (qf 11), .ref (qf 12), .ref (qf 13), .ref (qf 14), .int (Int32.ofInt 0)])), ((qf 10), .inl (cI, 11, .inl (fun _ => Int32.ofInt 0))), ((qf 11), .inl (cI, 11, .inl (fun _ => Int32.ofInt 0))), ((qf 12), .inl (cI, 11, .inl (fun _ => Int32.ofInt 0))), ((qf 13), .inl (cI, 11, .inl (fun _ => Int32.ofInt 0))), ((qf 14), .inl (cI, 11, .inl (fun _ => Int32.ofInt 0))), ((qf 15), .inr (5, [.ref (qf 16), .ref (qf 17), .ref (qf 18), .ref (qf 19), .int (Int32.ofInt 0)])), ((qf 16), .inl (cI, 128, .inl (fun _ => Int32.ofInt 0))), ((qf 17), .inl (cI, 128, .inl (fun _ => Int32.ofInt 0))), ((qf 18), .inl (cI, 128, .inl (fun _ => Int32.ofInt 0))), ((qf 19), .inl (cI, 6, .inl (fun _ => Int32.ofInt 0))), ((qf 20), .inr (7, [.ref (qf 21), .ref (qf 26), .int (Int32.ofInt 0), .int (Int32.ofInt 0), .int (Int32.ofInt 0)])), ((qf 21), .inr (5, [.ref (qf 22), .ref (qf 23), .ref (qf 24), .ref (qf 25), .int (Int32.ofInt 0)])), ((qf 22), .inl (cI, 128, .inl (fun _ => Int32.ofInt 0))), ((qf 23), .inl (cI, 128, .inl (fun _ => Int32.ofInt 0))), ((qf 24), .inl (cI, 128, .inl (fun _ => Int32.ofInt 0))), ((qf 25), .inl (cI, 6, .inl (fun _ => Int32.ofInt 0))), ((qf 26), .inl (cI, 120, .inl (fun _ => Int32.ofInt 0))), ((qf 27), .inr (10, [.ref (qf 1), .ref (qf 9), .ref (qf 15), .ref (qf 28), .ref (qf 29), .ref (qf 30), .ref (qf 31), .ref (qf 32), .int (Int32.ofInt 60), .int (Int32.ofInt 1)])), ((qf 28), .inl (cI, 5, .inl (sn_w28))), ((qf 29), .inl (cI, 5, .inl (fun _ => Int32.ofInt 0))), ((qf 30), .inl (cI, 5, .inl (fun _ => Int32.ofInt 0))), ((qf 31), .inl (cI, 10, .inl (fun _ => Int32.ofInt 0))), ((qf 32), .inl (cJ, 5, .inr (.inl (fun _ => Int64.ofInt 0)))), ((qf 33), .inr (8, [.ref (qf 1), .ref (qf 27), .ref (qf 34), .int (Int32.ofInt 0), .int (Int32.ofInt 0), .int (Int32.ofInt 0), .int (Int32.ofInt 0), .int (Int32.ofInt 0)])), ((qf 34), .inl (cI, 776, .inl (fun _ => Int32.ofInt 0))), ((qf 35), .inr (2, [.ref (qf 36), .ref (qf 37), .ref (qf 38), .ref (qf 39), .int (Int32.ofInt 0), .int (Int32.ofInt 0)])), ((qf 36), .inl (cI, 40, .inl (fun _ => Int32.ofInt 0))), ((qf 37), .inl (cI, 40, .inl (fun _ => Int32.ofInt 0))), ((qf 38), .inl (cI, 40, .inl (fun _ => Int32.ofInt 0))), ((qf 39), .inl (cI, 40, .inl (fun _ => Int32.ofInt 0))), ((qf 40), .inr (3, [.ref (qf 41), .int (Int32.ofInt 0), .int (Int32.ofInt 0), .int (Int32.ofInt 0), .int (Int32.ofInt 0), .int (Int32.ofInt 0), .int (Int32.ofInt 0), .ref (qf 42), .ref (qf 43)])), ((qf 41), .inl (cI, 4, .inl (fun _ => Int32.ofInt 0))), ((qf 42), .inl (cI, 4, .inl (fun _ => Int32.ofInt 0))), ((qf 43), .inl (cI, 5, .inl (fun _ => Int32.ofInt 0))), ((qf 44), .inr (11, [.ref (qf 45), .ref (qf 46), .int (Int32.ofInt 0), .int (Int32.ofInt 0), .int (Int32.ofInt 0), .int (Int32.ofInt 0)])), ((qf 45), .inl (cI, 50, .inl (fun _ => Int32.ofInt 0))), ((qf 46), .inl (cI, 24, .inl (fun _ => Int32.ofInt 0))), ((qf 47), .inr (9, [.ref (qf 48), .ref (qf 49), .ref (qf 50), .ref (qf 51), .ref (qf 52)])), ((qf 48), .inl (cI, 6, .inl (fun _ => Int32.ofInt 0))), ((qf 49), .inl (cI, 6, .inl (fun _ => Int32.ofInt 0))), ((qf 50), .inl (cI, 6, .inl (fun _ => Int32.ofInt 0))), ((qf 51), .inl (cI, 6, .inl (fun _ => Int32.ofInt 0))), ((qf 52), .inl (cJ, 360, .inr (.inl (fun _ => Int64.ofInt 0))))]
def sn_sh (q : Nat) (qa : Nat → Nat) : Nat → Nat := fun k => match k with
  | 0 => q
  | j + 1 => qa j
theorem sn_init (D : st_D) (q : Nat) : fz_B (D.1, D.2.1, D.2.2.1) 3 52 2650 mmX10_init 0 (lv_args 0 [.ref q]) [] [(q, .inr (12, [.null, .null, .null, .null, .null, .null, .null, .null, .null, .null]))] 0 0 (fz_q (fun ws1 => ∃ qa, ws1 = sn_ob D.2.1 D.2.2.1 (sn_sh q qa))) := ccX10_init (D.1, D.2.1, D.2.2.1) q
def sn_E (D : st_D) (X : st_Xt) (qf : Nat → Nat) (q53 : Nat) (sv : Nat × Nat) (t1 t2 : Nat) (tc : Nat → Nat → Int) : fz_E := (D.1.1, D.1.2, D.2.1, D.2.2.1, (fun i => if i = 53 then q53 else if i = 200 then X.2.2.2.1 else if i = 201 then t1 else if i = 202 then t2 else if i = 205 then sv.1 else if i = 206 then sv.2 else if i = 207 then X.2.2.1.1 else if i = 208 then X.2.2.1.2 else qf i), tc)
def sn_X (X : st_Xt) (sc : Nat → Int) (t1 t2 : Nat) : Prop := X.2.2.2.2.1 = (sc 100000).toNat ∧ X.2.2.2.2.2.1 = (fun j => Int32.ofInt (sc j)) ∧ ("FameAhead", "LEAST", t1, (fz_tbl fz_c201 100000).toNat, fun j => fz_tbl fz_c201 j) ∈ X.2.2.2.2.2.2 ∧ ("FameAhead", "MOST", t2, (fz_tbl fz_c202 100000).toNat, fun j => fz_tbl fz_c202 j) ∈ X.2.2.2.2.2.2
theorem sn_EX {D : st_D} {X : st_Xt} {qf : Nat → Nat} {q53 : Nat} {sv : Nat × Nat} {t1 t2 nn : Nat} {sc g : Nat → Int} (h : sn_X X sc t1 t2) (hs : (sv.1, sv.2, nn) ∈ X.1) : st_EX (sn_E D X qf q53 sv t1 t2 (sn_h sc g nn)) X := ⟨rfl, h.1, h.2.1, rfl, rfl, hs, h.2.2.1, h.2.2.2⟩
theorem sn_ce_w {E : fz_E} {h : fz_H} {o n : Nat} {F : Nat → Int32} (hs : fz_sh o = (1, 0, n)) (hF : ∀ j, h o j = (F j).toInt) : fz_ce E h o = .inl (E.2.2.1, n, .inl F) := by
  rw [fz_ce_i hs]
  have : (fun j => Int32.ofInt (h o j)) = F := funext fun j => by rw [hF]; exact Int32.ofInt_toInt _
  rw [this]
set_option maxHeartbeats 4000000 in
set_option maxRecDepth 100000 in
theorem sn_wld (E : fz_E) (sc g : Nat → Int) (n : Nat) : fz_ws E (sn_h sc g n) = [((fz_ad E 0), .inr (12, [.ref (fz_ad E 1), .ref (fz_ad E 9), .ref (fz_ad E 15), .ref (fz_ad E 20), .ref (fz_ad E 27), .ref (fz_ad E 33), .ref (fz_ad E 35), .ref (fz_ad E 40), .ref (fz_ad E 44), .ref (fz_ad E 47)])), ((fz_ad E 1), .inr (4, [.ref (fz_ad E 2), .ref (fz_ad E 3), .ref (fz_ad E 4), .ref (fz_ad E 5), .ref (fz_ad E 6), .ref (fz_ad E 7), .ref (fz_ad E 8), .int (Int32.ofInt 0), .int (Int32.ofInt 0)])), ((fz_ad E 2), .inl (E.2.2.1, 8, .inl (fun _ => Int32.ofInt 0))), ((fz_ad E 3), .inl (E.2.2.1, 12, .inl (fun _ => Int32.ofInt 0))), ((fz_ad E 4), .inl (E.2.2.1, 12, .inl (fun _ => Int32.ofInt 0))), ((fz_ad E 5), .inl (E.2.2.1, 12, .inl (fun _ => Int32.ofInt 0))), ((fz_ad E 6), .inl (E.2.2.1, 12, .inl (fun _ => Int32.ofInt 0))), ((fz_ad E 7), .inl (E.2.2.1, 64, .inl (fun _ => Int32.ofInt 0))), ((fz_ad E 8), .inl (E.2.2.1, 64, .inl (fun _ => Int32.ofInt 0))), ((fz_ad E 9), .inr (6, [.ref (fz_ad E 10), .ref (fz_ad E 11), .ref (fz_ad E 12), .ref (fz_ad E 13), .ref (fz_ad E 14), .int (Int32.ofInt 0)])), ((fz_ad E 10), .inl (E.2.2.1, 11, .inl (fun _ => Int32.ofInt 0))), ((fz_ad E 11), .inl (E.2.2.1, 11, .inl (fun _ => Int32.ofInt 0))), ((fz_ad E 12), .inl (E.2.2.1, 11, .inl (fun _ => Int32.ofInt 0))), ((fz_ad E 13), .inl (E.2.2.1, 11, .inl (fun _ => Int32.ofInt 0))), ((fz_ad E 14), .inl (E.2.2.1, 11, .inl (fun _ => Int32.ofInt 0))), ((fz_ad E 15), .inr (5, [.ref (fz_ad E 16), .ref (fz_ad E 17), .ref (fz_ad E 18), .ref (fz_ad E 19), .int (Int32.ofInt 0)])), ((fz_ad E 16), .inl (E.2.2.1, 128, .inl (fun _ => Int32.ofInt 0))), ((fz_ad E 17), .inl (E.2.2.1, 128, .inl (fun _ => Int32.ofInt 0))), ((fz_ad E 18), .inl (E.2.2.1, 128, .inl (fun _ => Int32.ofInt 0))), ((fz_ad E 19), .inl (E.2.2.1, 6, .inl (fun _ => Int32.ofInt 0))), ((fz_ad E 20), .inr (7, [.ref (fz_ad E 21), .ref (fz_ad E 26), .int (Int32.ofInt 0), .int (Int32.ofInt 0), .int (Int32.ofInt 0)])), ((fz_ad E 21), .inr (5, [.ref (fz_ad E 22), .ref (fz_ad E 23), .ref (fz_ad E 24), .ref (fz_ad E 25), .int (Int32.ofInt 0)])), ((fz_ad E 22), .inl (E.2.2.1, 128, .inl (fun _ => Int32.ofInt 0))), ((fz_ad E 23), .inl (E.2.2.1, 128, .inl (fun _ => Int32.ofInt 0))), ((fz_ad E 24), .inl (E.2.2.1, 128, .inl (fun _ => Int32.ofInt 0))), ((fz_ad E 25), .inl (E.2.2.1, 6, .inl (fun _ => Int32.ofInt 0))), ((fz_ad E 26), .inl (E.2.2.1, 120, .inl (fun _ => Int32.ofInt 0))), ((fz_ad E 27), .inr (10, [.ref (fz_ad E 1), .ref (fz_ad E 9), .ref (fz_ad E 15), .ref (fz_ad E 28), .ref (fz_ad E 29), .ref (fz_ad E 30), .ref (fz_ad E 31), .ref (fz_ad E 32), .int (Int32.ofInt 60), .int (Int32.ofInt 1)])), ((fz_ad E 28), .inl (E.2.2.1, 5, .inl (sn_w28))), ((fz_ad E 29), .inl (E.2.2.1, 5, .inl (fun _ => Int32.ofInt 0))), ((fz_ad E 30), .inl (E.2.2.1, 5, .inl (fun _ => Int32.ofInt 0))), ((fz_ad E 31), .inl (E.2.2.1, 10, .inl (fun _ => Int32.ofInt 0))), ((fz_ad E 32), .inl (E.2.2.2.1, 5, .inr (.inl (fun _ => Int64.ofInt 0)))), ((fz_ad E 33), .inr (8, [.ref (fz_ad E 1), .ref (fz_ad E 27), .ref (fz_ad E 34), .int (Int32.ofInt 0), .int (Int32.ofInt 0), .int (Int32.ofInt 0), .int (Int32.ofInt 0), .int (Int32.ofInt 0)])), ((fz_ad E 34), .inl (E.2.2.1, 776, .inl (fun _ => Int32.ofInt 0))), ((fz_ad E 35), .inr (2, [.ref (fz_ad E 36), .ref (fz_ad E 37), .ref (fz_ad E 38), .ref (fz_ad E 39), .int (Int32.ofInt 0), .int (Int32.ofInt 0)])), ((fz_ad E 36), .inl (E.2.2.1, 40, .inl (fun _ => Int32.ofInt 0))), ((fz_ad E 37), .inl (E.2.2.1, 40, .inl (fun _ => Int32.ofInt 0))), ((fz_ad E 38), .inl (E.2.2.1, 40, .inl (fun _ => Int32.ofInt 0))), ((fz_ad E 39), .inl (E.2.2.1, 40, .inl (fun _ => Int32.ofInt 0))), ((fz_ad E 40), .inr (3, [.ref (fz_ad E 41), .int (Int32.ofInt 0), .int (Int32.ofInt 0), .int (Int32.ofInt 0), .int (Int32.ofInt 0), .int (Int32.ofInt 0), .int (Int32.ofInt 0), .ref (fz_ad E 42), .ref (fz_ad E 43)])), ((fz_ad E 41), .inl (E.2.2.1, 4, .inl (fun _ => Int32.ofInt 0))), ((fz_ad E 42), .inl (E.2.2.1, 4, .inl (fun _ => Int32.ofInt 0))), ((fz_ad E 43), .inl (E.2.2.1, 5, .inl (fun _ => Int32.ofInt 0))), ((fz_ad E 44), .inr (11, [.ref (fz_ad E 45), .ref (fz_ad E 46), .int (Int32.ofInt 0), .int (Int32.ofInt 0), .int (Int32.ofInt 0), .int (Int32.ofInt 0)])), ((fz_ad E 45), .inl (E.2.2.1, 50, .inl (fun _ => Int32.ofInt 0))), ((fz_ad E 46), .inl (E.2.2.1, 24, .inl (fun _ => Int32.ofInt 0))), ((fz_ad E 47), .inr (9, [.ref (fz_ad E 48), .ref (fz_ad E 49), .ref (fz_ad E 50), .ref (fz_ad E 51), .ref (fz_ad E 52)])), ((fz_ad E 48), .inl (E.2.2.1, 6, .inl (fun _ => Int32.ofInt 0))), ((fz_ad E 49), .inl (E.2.2.1, 6, .inl (fun _ => Int32.ofInt 0))), ((fz_ad E 50), .inl (E.2.2.1, 6, .inl (fun _ => Int32.ofInt 0))), ((fz_ad E 51), .inl (E.2.2.1, 6, .inl (fun _ => Int32.ofInt 0))), ((fz_ad E 52), .inl (E.2.2.2.1, 360, .inr (.inl (fun _ => Int64.ofInt 0)))), (fz_ad E 53, .inl (E.2.2.1, 40, .inl (fun j => Int32.ofInt (g j))))] := by
  have e0 : fz_ce E (sn_h sc g n) 0 = .inr (12, [.ref (fz_ad E 1), .ref (fz_ad E 9), .ref (fz_ad E 15), .ref (fz_ad E 20), .ref (fz_ad E 27), .ref (fz_ad E 33), .ref (fz_ad E 35), .ref (fz_ad E 40), .ref (fz_ad E 44), .ref (fz_ad E 47)]) := rfl
  have e1 : fz_ce E (sn_h sc g n) 1 = .inr (4, [.ref (fz_ad E 2), .ref (fz_ad E 3), .ref (fz_ad E 4), .ref (fz_ad E 5), .ref (fz_ad E 6), .ref (fz_ad E 7), .ref (fz_ad E 8), .int (Int32.ofInt 0), .int (Int32.ofInt 0)]) := rfl
  have e2 : fz_ce E (sn_h sc g n) 2 = .inl (E.2.2.1, 8, .inl (fun _ => Int32.ofInt 0)) := rfl
  have e3 : fz_ce E (sn_h sc g n) 3 = .inl (E.2.2.1, 12, .inl (fun _ => Int32.ofInt 0)) := rfl
  have e4 : fz_ce E (sn_h sc g n) 4 = .inl (E.2.2.1, 12, .inl (fun _ => Int32.ofInt 0)) := rfl
  have e5 : fz_ce E (sn_h sc g n) 5 = .inl (E.2.2.1, 12, .inl (fun _ => Int32.ofInt 0)) := rfl
  have e6 : fz_ce E (sn_h sc g n) 6 = .inl (E.2.2.1, 12, .inl (fun _ => Int32.ofInt 0)) := rfl
  have e7 : fz_ce E (sn_h sc g n) 7 = .inl (E.2.2.1, 64, .inl (fun _ => Int32.ofInt 0)) := rfl
  have e8 : fz_ce E (sn_h sc g n) 8 = .inl (E.2.2.1, 64, .inl (fun _ => Int32.ofInt 0)) := rfl
  have e9 : fz_ce E (sn_h sc g n) 9 = .inr (6, [.ref (fz_ad E 10), .ref (fz_ad E 11), .ref (fz_ad E 12), .ref (fz_ad E 13), .ref (fz_ad E 14), .int (Int32.ofInt 0)]) := rfl
  have e10 : fz_ce E (sn_h sc g n) 10 = .inl (E.2.2.1, 11, .inl (fun _ => Int32.ofInt 0)) := rfl
  have e11 : fz_ce E (sn_h sc g n) 11 = .inl (E.2.2.1, 11, .inl (fun _ => Int32.ofInt 0)) := rfl
  have e12 : fz_ce E (sn_h sc g n) 12 = .inl (E.2.2.1, 11, .inl (fun _ => Int32.ofInt 0)) := rfl
  have e13 : fz_ce E (sn_h sc g n) 13 = .inl (E.2.2.1, 11, .inl (fun _ => Int32.ofInt 0)) := rfl
  have e14 : fz_ce E (sn_h sc g n) 14 = .inl (E.2.2.1, 11, .inl (fun _ => Int32.ofInt 0)) := rfl
  have e15 : fz_ce E (sn_h sc g n) 15 = .inr (5, [.ref (fz_ad E 16), .ref (fz_ad E 17), .ref (fz_ad E 18), .ref (fz_ad E 19), .int (Int32.ofInt 0)]) := rfl
  have e16 : fz_ce E (sn_h sc g n) 16 = .inl (E.2.2.1, 128, .inl (fun _ => Int32.ofInt 0)) := rfl
  have e17 : fz_ce E (sn_h sc g n) 17 = .inl (E.2.2.1, 128, .inl (fun _ => Int32.ofInt 0)) := rfl
  have e18 : fz_ce E (sn_h sc g n) 18 = .inl (E.2.2.1, 128, .inl (fun _ => Int32.ofInt 0)) := rfl
  have e19 : fz_ce E (sn_h sc g n) 19 = .inl (E.2.2.1, 6, .inl (fun _ => Int32.ofInt 0)) := rfl
  have e20 : fz_ce E (sn_h sc g n) 20 = .inr (7, [.ref (fz_ad E 21), .ref (fz_ad E 26), .int (Int32.ofInt 0), .int (Int32.ofInt 0), .int (Int32.ofInt 0)]) := rfl
  have e21 : fz_ce E (sn_h sc g n) 21 = .inr (5, [.ref (fz_ad E 22), .ref (fz_ad E 23), .ref (fz_ad E 24), .ref (fz_ad E 25), .int (Int32.ofInt 0)]) := rfl
  have e22 : fz_ce E (sn_h sc g n) 22 = .inl (E.2.2.1, 128, .inl (fun _ => Int32.ofInt 0)) := rfl
  have e23 : fz_ce E (sn_h sc g n) 23 = .inl (E.2.2.1, 128, .inl (fun _ => Int32.ofInt 0)) := rfl
  have e24 : fz_ce E (sn_h sc g n) 24 = .inl (E.2.2.1, 128, .inl (fun _ => Int32.ofInt 0)) := rfl
  have e25 : fz_ce E (sn_h sc g n) 25 = .inl (E.2.2.1, 6, .inl (fun _ => Int32.ofInt 0)) := rfl
  have e26 : fz_ce E (sn_h sc g n) 26 = .inl (E.2.2.1, 120, .inl (fun _ => Int32.ofInt 0)) := rfl
  have e27 : fz_ce E (sn_h sc g n) 27 = .inr (10, [.ref (fz_ad E 1), .ref (fz_ad E 9), .ref (fz_ad E 15), .ref (fz_ad E 28), .ref (fz_ad E 29), .ref (fz_ad E 30), .ref (fz_ad E 31), .ref (fz_ad E 32), .int (Int32.ofInt 60), .int (Int32.ofInt 1)]) := rfl
  have e28 : fz_ce E (sn_h sc g n) 28 = .inl (E.2.2.1, 5, .inl (sn_w28)) := sn_ce_w rfl (fun _ => rfl)
  have e29 : fz_ce E (sn_h sc g n) 29 = .inl (E.2.2.1, 5, .inl (fun _ => Int32.ofInt 0)) := rfl
  have e30 : fz_ce E (sn_h sc g n) 30 = .inl (E.2.2.1, 5, .inl (fun _ => Int32.ofInt 0)) := rfl
  have e31 : fz_ce E (sn_h sc g n) 31 = .inl (E.2.2.1, 10, .inl (fun _ => Int32.ofInt 0)) := rfl
  have e32 : fz_ce E (sn_h sc g n) 32 = .inl (E.2.2.2.1, 5, .inr (.inl (fun _ => Int64.ofInt 0))) := rfl
  have e33 : fz_ce E (sn_h sc g n) 33 = .inr (8, [.ref (fz_ad E 1), .ref (fz_ad E 27), .ref (fz_ad E 34), .int (Int32.ofInt 0), .int (Int32.ofInt 0), .int (Int32.ofInt 0), .int (Int32.ofInt 0), .int (Int32.ofInt 0)]) := rfl
  have e34 : fz_ce E (sn_h sc g n) 34 = .inl (E.2.2.1, 776, .inl (fun _ => Int32.ofInt 0)) := rfl
  have e35 : fz_ce E (sn_h sc g n) 35 = .inr (2, [.ref (fz_ad E 36), .ref (fz_ad E 37), .ref (fz_ad E 38), .ref (fz_ad E 39), .int (Int32.ofInt 0), .int (Int32.ofInt 0)]) := rfl
  have e36 : fz_ce E (sn_h sc g n) 36 = .inl (E.2.2.1, 40, .inl (fun _ => Int32.ofInt 0)) := rfl
  have e37 : fz_ce E (sn_h sc g n) 37 = .inl (E.2.2.1, 40, .inl (fun _ => Int32.ofInt 0)) := rfl
  have e38 : fz_ce E (sn_h sc g n) 38 = .inl (E.2.2.1, 40, .inl (fun _ => Int32.ofInt 0)) := rfl
  have e39 : fz_ce E (sn_h sc g n) 39 = .inl (E.2.2.1, 40, .inl (fun _ => Int32.ofInt 0)) := rfl
  have e40 : fz_ce E (sn_h sc g n) 40 = .inr (3, [.ref (fz_ad E 41), .int (Int32.ofInt 0), .int (Int32.ofInt 0), .int (Int32.ofInt 0), .int (Int32.ofInt 0), .int (Int32.ofInt 0), .int (Int32.ofInt 0), .ref (fz_ad E 42), .ref (fz_ad E 43)]) := rfl
  have e41 : fz_ce E (sn_h sc g n) 41 = .inl (E.2.2.1, 4, .inl (fun _ => Int32.ofInt 0)) := rfl
  have e42 : fz_ce E (sn_h sc g n) 42 = .inl (E.2.2.1, 4, .inl (fun _ => Int32.ofInt 0)) := rfl
  have e43 : fz_ce E (sn_h sc g n) 43 = .inl (E.2.2.1, 5, .inl (fun _ => Int32.ofInt 0)) := rfl
  have e44 : fz_ce E (sn_h sc g n) 44 = .inr (11, [.ref (fz_ad E 45), .ref (fz_ad E 46), .int (Int32.ofInt 0), .int (Int32.ofInt 0), .int (Int32.ofInt 0), .int (Int32.ofInt 0)]) := rfl
  have e45 : fz_ce E (sn_h sc g n) 45 = .inl (E.2.2.1, 50, .inl (fun _ => Int32.ofInt 0)) := rfl
  have e46 : fz_ce E (sn_h sc g n) 46 = .inl (E.2.2.1, 24, .inl (fun _ => Int32.ofInt 0)) := rfl
  have e47 : fz_ce E (sn_h sc g n) 47 = .inr (9, [.ref (fz_ad E 48), .ref (fz_ad E 49), .ref (fz_ad E 50), .ref (fz_ad E 51), .ref (fz_ad E 52)]) := rfl
  have e48 : fz_ce E (sn_h sc g n) 48 = .inl (E.2.2.1, 6, .inl (fun _ => Int32.ofInt 0)) := rfl
  have e49 : fz_ce E (sn_h sc g n) 49 = .inl (E.2.2.1, 6, .inl (fun _ => Int32.ofInt 0)) := rfl
  have e50 : fz_ce E (sn_h sc g n) 50 = .inl (E.2.2.1, 6, .inl (fun _ => Int32.ofInt 0)) := rfl
  have e51 : fz_ce E (sn_h sc g n) 51 = .inl (E.2.2.1, 6, .inl (fun _ => Int32.ofInt 0)) := rfl
  have e52 : fz_ce E (sn_h sc g n) 52 = .inl (E.2.2.2.1, 360, .inr (.inl (fun _ => Int64.ofInt 0))) := rfl
  have e53 : fz_ce E (sn_h sc g n) 53 = .inl (E.2.2.1, 40, .inl (fun j => Int32.ofInt (g j))) := rfl
  show [(fz_ad E 0, fz_ce E (sn_h sc g n) 0), (fz_ad E 1, fz_ce E (sn_h sc g n) 1), (fz_ad E 2, fz_ce E (sn_h sc g n) 2), (fz_ad E 3, fz_ce E (sn_h sc g n) 3), (fz_ad E 4, fz_ce E (sn_h sc g n) 4), (fz_ad E 5, fz_ce E (sn_h sc g n) 5), (fz_ad E 6, fz_ce E (sn_h sc g n) 6), (fz_ad E 7, fz_ce E (sn_h sc g n) 7), (fz_ad E 8, fz_ce E (sn_h sc g n) 8), (fz_ad E 9, fz_ce E (sn_h sc g n) 9), (fz_ad E 10, fz_ce E (sn_h sc g n) 10), (fz_ad E 11, fz_ce E (sn_h sc g n) 11), (fz_ad E 12, fz_ce E (sn_h sc g n) 12), (fz_ad E 13, fz_ce E (sn_h sc g n) 13), (fz_ad E 14, fz_ce E (sn_h sc g n) 14), (fz_ad E 15, fz_ce E (sn_h sc g n) 15), (fz_ad E 16, fz_ce E (sn_h sc g n) 16), (fz_ad E 17, fz_ce E (sn_h sc g n) 17), (fz_ad E 18, fz_ce E (sn_h sc g n) 18), (fz_ad E 19, fz_ce E (sn_h sc g n) 19), (fz_ad E 20, fz_ce E (sn_h sc g n) 20), (fz_ad E 21, fz_ce E (sn_h sc g n) 21), (fz_ad E 22, fz_ce E (sn_h sc g n) 22), (fz_ad E 23, fz_ce E (sn_h sc g n) 23), (fz_ad E 24, fz_ce E (sn_h sc g n) 24), (fz_ad E 25, fz_ce E (sn_h sc g n) 25), (fz_ad E 26, fz_ce E (sn_h sc g n) 26), (fz_ad E 27, fz_ce E (sn_h sc g n) 27), (fz_ad E 28, fz_ce E (sn_h sc g n) 28), (fz_ad E 29, fz_ce E (sn_h sc g n) 29), (fz_ad E 30, fz_ce E (sn_h sc g n) 30), (fz_ad E 31, fz_ce E (sn_h sc g n) 31), (fz_ad E 32, fz_ce E (sn_h sc g n) 32), (fz_ad E 33, fz_ce E (sn_h sc g n) 33), (fz_ad E 34, fz_ce E (sn_h sc g n) 34), (fz_ad E 35, fz_ce E (sn_h sc g n) 35), (fz_ad E 36, fz_ce E (sn_h sc g n) 36), (fz_ad E 37, fz_ce E (sn_h sc g n) 37), (fz_ad E 38, fz_ce E (sn_h sc g n) 38), (fz_ad E 39, fz_ce E (sn_h sc g n) 39), (fz_ad E 40, fz_ce E (sn_h sc g n) 40), (fz_ad E 41, fz_ce E (sn_h sc g n) 41), (fz_ad E 42, fz_ce E (sn_h sc g n) 42), (fz_ad E 43, fz_ce E (sn_h sc g n) 43), (fz_ad E 44, fz_ce E (sn_h sc g n) 44), (fz_ad E 45, fz_ce E (sn_h sc g n) 45), (fz_ad E 46, fz_ce E (sn_h sc g n) 46), (fz_ad E 47, fz_ce E (sn_h sc g n) 47), (fz_ad E 48, fz_ce E (sn_h sc g n) 48), (fz_ad E 49, fz_ce E (sn_h sc g n) 49), (fz_ad E 50, fz_ce E (sn_h sc g n) 50), (fz_ad E 51, fz_ce E (sn_h sc g n) 51), (fz_ad E 52, fz_ce E (sn_h sc g n) 52), (fz_ad E 53, fz_ce E (sn_h sc g n) 53)] = _
  rw [e0, e1, e2, e3, e4, e5, e6, e7, e8, e9, e10, e11, e12, e13, e14, e15, e16, e17, e18, e19, e20, e21, e22, e23, e24, e25, e26, e27, e28, e29, e30, e31, e32, e33, e34, e35, e36, e37, e38, e39, e40, e41, e42, e43, e44, e45, e46, e47, e48, e49, e50, e51, e52, e53]
theorem sn_ob_ws (D : st_D) (X : st_Xt) (qf : Nat → Nat) (q53 : Nat) (sv : Nat × Nat) (t1 t2 nn : Nat) (sc g : Nat → Int) (tc : Nat → Nat → Int) : sn_ob D.2.1 D.2.2.1 qf ++ [(q53, .inl (D.2.1, 40, .inl (fun j => Int32.ofInt (g j))))] = fz_ws (sn_E D X qf q53 sv t1 t2 tc) (sn_h sc g nn) := by
  rw [sn_wld]
  rfl
section ST
variable {D : st_D} {X X' : st_Xt} {d NC NS : Nat} {M : fz_M} {pc a b w : Nat} {ls ls' : List (Nat × Value)} {st st' : List Value} {ws ws' : va_W} {nc ns : Nat} {Q : va_W → Option Value → Prop}
set_option maxHeartbeats 4000000 in
set_option maxRecDepth 100000 in
theorem sn_new {i1 i3 a1 b1 w1 a2 b2 w2 a3 b3 w3 : Nat} (hM : fz_okK M = true) (g1 : fz_at M.2.2.2.2 pc = some (.new i1, 3, a1, b1, w1)) (g2 : fz_at M.2.2.2.2 (pc + 3) = some (.dup, 1, a2, b2, w2)) (g3 : fz_at M.2.2.2.2 (pc + 4) = some (.invokespecial i3, 3, a3, b3, w3)) (l1 : Cond.classLink M.1.cls i1 RX10 ∈ st_tb) (l3 : Cond.methodLink M.1.cls i3 mmX10_init.1 ∈ st_tb) (hd : 4 ≤ d) (hnc : nc + 53 ≤ NC) (hns : ns + 2660 ≤ NS)
    (kk : ∀ qf : Nat → Nat, st_R D X d NC NS M (pc + 7) ls [.ref (qf 0)] (ws ++ sn_ob D.2.1 D.2.2.1 qf) (nc + 53) (ns + 2660) Q) : st_R D X d NC NS M pc ls [] ws nc ns Q := by
  refine st_new (ci := 12) tyX10 [.null, .null, .null, .null, .null, .null, .null, .null, .null, .null] hM g1 rfl tyX10_ok l1 (fz_has (n := 1025) rfl rfl) (fz_has (n := 1001) rfl rfl) rfl (by omega) (by omega) (fun q => ?_)
  refine st_dup rfl hM g2 ?_
  refine st_callB (d' := 3) (NC' := 52) (NS' := 2650) (M' := mmX10_init) (e := .inr (12, [.null, .null, .null, .null, .null, .null, .null, .null, .null, .null])) (w0 := ws) (st := [.ref q]) hM g3 l3 (fz_has (n := 1028) rfl rfl) (fz_has (n := 1001) rfl rfl) (fz_has (n := 1027) rfl rfl) (by decide +kernel) rfl rfl (Nat.le_of_ble_eq_true rfl) (Nat.le_of_ble_eq_true rfl) (by omega) (by omega) (by omega) rfl (sn_init D q) (fun ws1 hq => ?_)
  obtain ⟨qa, rfl⟩ := hq
  exact st_sz (by omega) (by omega) (kk (sn_sh q qa))
set_option maxHeartbeats 4000000 in
set_option maxRecDepth 100000 in
/-- a new object is asked, beside an array of 40 numbers -/
theorem sn_ask {d' n idx : Nat} {M' : fz_M} {As : List fz_V} {S : List Value} {Q' : fz_H → Option fz_V → Prop} {sc : Nat → Int} {t1 t2 nn q53 : Nat} {sv : Nat × Nat} {qf : Nat → Nat} {f : Nat → Int32} (hsc : ∀ j, -2147483648 ≤ sc j ∧ sc j ≤ 2147483647) (hnn : nn < 100000) (hXs : sn_X X sc t1 t2) (hsv : (sv.1, sv.2, nn) ∈ X.1) (hM : fz_okK M = true) (hc : fz_at M.2.2.2.2 pc = some (.invokevirtual idx, 3, a, b, w)) (hlk : Cond.methodLink M.1.cls idx M'.1 ∈ fz_tb) (hv : fz_vM M' n false) (hcls : M'.1.cls = RX10) (hn : As.length = n)
    (hS : S = (As.map (fz_cv (fz_ad (sn_E D X qf q53 sv t1 t2 (sn_h sc (fun j => (f j).toInt) nn))))).reverse ++ [.ref (qf 0)]) (hL : ((fz_r 0 :: As).map fz_cat).sum ≤ M'.2.2.1) (hd : d' + 1 ≤ d) (hAs : ∀ v ∈ As, fz_nv v) (hnc : nc ≤ NC) (hns : ns ≤ NS) (hR : fz_R d' M' 0 (fz_en 0 (fz_r 0 :: As)) [] (sn_h sc (fun j => (f j).toInt) nn) Q')
    (k : ∀ (f' : Nat → Int32) (h' : fz_H) (r : Option fz_V), Q' h' r → st_R D X d NC NS M (pc + 3) ls (r.toList.map (fz_cv (fz_ad (sn_E D X qf q53 sv t1 t2 (sn_h sc (fun j => (f j).toInt) nn)))) ++ []) [(q53, .inl (D.2.1, 40, .inl f'))] nc ns Q) : st_R D X d NC NS M pc ls S ([(q53, .inl (D.2.1, 40, .inl f))] ++ sn_ob D.2.1 D.2.2.1 qf) nc ns Q := by
  have hg : ∀ j, -2147483648 ≤ (f j).toInt ∧ (f j).toInt ≤ 2147483647 := fun j => by
    have := fz_b32 (f j)
    omega
  have e : f = fun j => Int32.ofInt ((f j).toInt) := funext fun j => (Int32.ofInt_toInt _).symm
  refine st_sub (ws' := sn_ob D.2.1 D.2.2.1 qf ++ [(q53, .inl (D.2.1, 40, .inl f))]) [1, 2, 3, 4, 5, 6, 7, 8, 9, 10, 11, 12, 13, 14, 15, 16, 17, 18, 19, 20, 21, 22, 23, 24, 25, 26, 27, 28, 29, 30, 31, 32, 33, 34, 35, 36, 37, 38, 39, 40, 41, 42, 43, 44, 45, 46, 47, 48, 49, 50, 51, 52, 53, 0] rfl (by decide) ?_
  have e2 : sn_ob D.2.1 D.2.2.1 qf ++ [(q53, .inl (D.2.1, 40, .inl f))] = fz_ws (sn_E D X qf q53 sv t1 t2 (sn_h sc (fun j => (f j).toInt) nn)) (sn_h sc (fun j => (f j).toInt) nn) := by
    rw [← sn_ob_ws]
    exact congrArg (fun z => sn_ob D.2.1 D.2.2.1 qf ++ [(q53, Sum.inl (D.2.1, 40, Sum.inl z))]) e
  refine st_ws e2 ?_
  refine st_callF (E := sn_E D X qf q53 sv t1 t2 (sn_h sc (fun j => (f j).toInt) nn)) (h := sn_h sc (fun j => (f j).toInt) nn) (o := 0) (ci := 12) (nf := 10) (st := []) hM hc hlk hv ⟨rfl, rfl, rfl⟩ rfl rfl (by rw [hcls]; rfl) hn hS hL (Nat.le_of_ble_eq_true rfl) hd hAs (sn_h_nh hsc hg hnn) (fun _ _ => rfl) (sn_EX hXs hsv) hnc hns hR (fun h' r q1 q2 q3 q4 => ?_)
  refine st_sub (ws' := [(q53, .inl (D.2.1, 40, .inl (fun j => Int32.ofInt (h' 53 j))))]) [53] ?_ rfl ?_
  · show [(fz_ws _ h')[53]?] = _
    rw [fz_ws_at _ h' (by decide)]
    rfl
  exact k _ h' r q1
end ST
