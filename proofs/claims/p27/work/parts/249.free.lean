/-! one deed more, in a set -/
theorem fl_cb_1 {g : Nat → Int} {v had n had2 n2 : Int} (c : fz_cb g v had n) (hn : 0 ≤ n ∧ n < 12) (h1 : g n.toNat = v) (e : had2 = fz_or had (fz_shl 1 n)) (m : n2 = n + 1) : fz_cb g v had2 n2 := by
  subst e m
  exact fz_cb_1 c hn h1
theorem fl_cb_0 {g : Nat → Int} {v had n had2 n2 : Int} (c : fz_cb g v had n) (hn : 0 ≤ n) (h0 : g n.toNat ≠ v) (e : had2 = had) (m : n2 = n + 1) : fz_cb g v had2 n2 := by
  subst e m
  exact fz_cb_0 c hn h0
theorem fl_w0 {X x : Int} (e : X = x + 0) (b : -2147483648 ≤ x ∧ x ≤ 2147483647) : X = fz_w (x + 0) := by
  rw [e]
  exact (fz_w_id (by omega) (by omega)).symm
