/-! what is news -/
def fl_nw (g : Int → Int) (hr : Int) : Nat → Int × Int
  | 0 => (if hr < 0 then -2 else 0, 0)
  | k + 1 => if 0 ≤ g (k : Int) ∧ 0 ≤ hr then ((fl_nw g hr k).1 + (if g (k : Int) ≤ hr then 1 else 0), (fl_nw g hr k).2) else if 0 ≤ g (k : Int) ∧ ((fl_nw g hr k).1 = -2 ∨ (hr = -1 ∧ (fl_nw g hr k).2 < g (k : Int)) ∨ (hr ≠ -1 ∧ g (k : Int) < (fl_nw g hr k).2)) then ((k : Int), g (k : Int)) else fl_nw g hr k
theorem fl_nw_0 {g : Int → Int} {hr : Int} (h : hr < 0) : ((-2 : Int), (0 : Int)) = fl_nw g hr (0 : Int).toNat := by
  show _ = ((if hr < 0 then (-2 : Int) else 0), (0 : Int))
  rw [if_pos h]
theorem fl_nw_1 {g : Int → Int} {hr : Int} (h : ¬ hr < 0) : ((0 : Int), (0 : Int)) = fl_nw g hr (0 : Int).toNat := by
  show _ = ((if hr < 0 then (-2 : Int) else 0), (0 : Int))
  rw [if_neg h]
theorem fl_nw_s {g : Int → Int} {hr L M L' M' k x : Int} (e : (L, M) = fl_nw g hr k.toNat) (h0 : 0 ≤ k) (ex : x = g k)
    (hs : (0 ≤ x ∧ 0 ≤ hr ∧ ((x ≤ hr ∧ L' = L + 1) ∨ (hr < x ∧ L' = L)) ∧ M' = M) ∨ (hr < 0 ∧ 0 ≤ x ∧ (L = -2 ∨ (hr = -1 ∧ M < x) ∨ (hr ≠ -1 ∧ x < M)) ∧ L' = k ∧ M' = x) ∨ ((x < 0 ∨ (hr < 0 ∧ ¬ (L = -2 ∨ (hr = -1 ∧ M < x) ∨ (hr ≠ -1 ∧ x < M)))) ∧ L' = L ∧ M' = M)) : (L', M') = fl_nw g hr (k + 1).toNat := by
  obtain ⟨n, rfl⟩ := Int.eq_ofNat_of_zero_le h0
  have e' : (L, M) = fl_nw g hr n := e
  have eL : (fl_nw g hr n).1 = L := (congrArg Prod.fst e').symm
  have eM : (fl_nw g hr n).2 = M := (congrArg Prod.snd e').symm
  show (L', M') = (if 0 ≤ g (n : Int) ∧ 0 ≤ hr then ((fl_nw g hr n).1 + (if g (n : Int) ≤ hr then 1 else 0), (fl_nw g hr n).2) else if 0 ≤ g (n : Int) ∧ ((fl_nw g hr n).1 = -2 ∨ (hr = -1 ∧ (fl_nw g hr n).2 < g (n : Int)) ∨ (hr ≠ -1 ∧ g (n : Int) < (fl_nw g hr n).2)) then ((n : Int), g (n : Int)) else fl_nw g hr n)
  rw [eL, eM, ← ex]
  split
  · refine Prod.ext ?_ ?_
    · show L' = L + (if x ≤ hr then 1 else 0)
      split <;> omega
    · show M' = M
      omega
  · split
    · refine Prod.ext ?_ ?_
      · show L' = (n : Int)
        omega
      · show M' = x
        omega
    · rw [← e']
      refine Prod.ext ?_ ?_
      · show L' = L
        omega
      · show M' = M
        omega
theorem fl_nw_e {g : Int → Int} {hr L M k n : Int} (e : (L, M) = fl_nw g hr k.toNat) (h : k = n) : L = (fl_nw g hr n.toNat).1 := by
  subst h
  exact congrArg Prod.fst e
