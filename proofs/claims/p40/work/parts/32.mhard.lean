/-! ===== what the methods keep ===== -/
abbrev qX11_worked (h : fz_H) (fr to : Int) : fz_H → Option fz_V → Prop := fun h' r0 => fz_Iv h' ∧ fz_fr [(74, 99999)] h h' ∧ ∃ r : Int, r0 = some (fz_i r) ∧ ((-2147483648) ≤ r ∧ r ≤ 2147483647)
set_option maxHeartbeats 1000000 in
set_option maxRecDepth 100000 in
theorem sX11_worked (h : fz_H) (hI : fz_Iv h) (fr to : Int) : fz_R 1 mX11_worked 0 [(0, fz_r 53), (1, fz_i fr), (2, fz_i to)] [] h (qX11_worked h fr to) := by
  sorry

abbrev qX11_isLine (h : fz_H) : fz_H → Option fz_V → Prop := fun h' r0 => fz_Iv h' ∧ fz_fr [(53, 24), (53, 25), (53, 26), (53, 27), (70, 99999), (71, 99999), (72, 99999), (73, 99999)] h h' ∧ ∃ r : Int, r0 = some (fz_i r) ∧ (r = 0 ∨ r = 1)
set_option maxHeartbeats 1000000 in
set_option maxRecDepth 100000 in
theorem sX11_isLine (h : fz_H) (hI : fz_Iv h) : fz_R 50 mX11_isLine 0 [(0, fz_r 53)] [] h (qX11_isLine h) := by
  sorry

abbrev qX11_law (h : fz_H) : fz_H → Option fz_V → Prop := fun h' r0 => fz_Iv h' ∧ fz_fr [(53, 16), (53, 18), (53, 19), (53, 24), (53, 25), (53, 26), (53, 27), (66, 99999), (67, 99999), (68, 99999), (69, 99999), (70, 99999), (71, 99999), (72, 99999), (73, 99999)] h h' ∧ ∃ r : Int, r0 = some (fz_i r) ∧ ((-2147483648) ≤ r ∧ r ≤ 2147483647)
set_option maxHeartbeats 1000000 in
set_option maxRecDepth 100000 in
theorem sX11_law (h : fz_H) (hI : fz_Iv h) : fz_R 51 mX11_law 0 [(0, fz_r 53)] [] h (qX11_law h) := by
  sorry
