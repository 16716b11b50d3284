/-! ===== small helps ===== -/
theorem fz_cmp_c (x y : Int) : (fz_cmp x y = 1 ∧ y < x) ∨ (fz_cmp x y = 0 ∧ x = y) ∨ (fz_cmp x y = -1 ∧ x < y) := by
  unfold fz_cmp
  split
  · next c => exact Or.inl ⟨rfl, c⟩
  · split
    · next c => exact Or.inr (Or.inl ⟨rfl, c⟩)
    · next c1 c2 => exact Or.inr (Or.inr ⟨rfl, by omega⟩)
section FZ
variable {d : Nat} {M : fz_M} {pc a b w : Nat} {ls ls' : List (Nat × fz_V)} {st : List fz_V} {h : fz_H} {Q : fz_H → Option fz_V → Prop}
theorem fz_tswC {x j : Int} {dflt lo hi : Int} {offs : Array Int} {len : Nat} {off : Int} {tgt : Nat} (hM : fz_okM M = true) (hc : fz_at M.2.2.2.2 pc = some (.tableswitch dflt lo hi offs, len, a, b, w)) (hx : x = j) (h1 : ¬ j < lo) (h2 : ¬ hi < j) (ho : offs[(j - lo).toNat]? = some off) (ht : (pc : Int) + off = (tgt : Int)) (k : fz_R d M tgt ls st h Q) : fz_R d M pc ls (fz_i x :: st) h Q := by
  subst hx
  exact fz_tswI hM hc h1 h2 ho ht k
end FZ
def fz_allT (l : List Int) (p : Int → Int → Bool) : Bool := (List.range l.length).all (fun j => p (j : Int) ((fz_nth l j).getD 0))
theorem fz_tab {l : List Int} {p : Int → Int → Bool} (hp : fz_allT l p = true) {x : Int} (h0 : 0 ≤ x) (h1 : x < l.length) (hl : l.length < 100000) : p x (fz_tbl l x.toNat) = true := by
  have hx : x.toNat < l.length := by omega
  have h := List.all_eq_true.mp hp _ (List.mem_range.mpr hx)
  have e : ((x.toNat : Nat) : Int) = x := by omega
  rw [e] at h
  unfold fz_tbl
  rw [if_neg (by omega)]
  exact h
theorem fz_tb201 {h : fz_H} (e : h 201 = fz_tbl fz_c201) {x : Int} (hx : 0 ≤ x ∧ x < 9) : (x = 6 → h 201 x.toNat = -9) ∧ (x ≠ 6 → 0 ≤ h 201 x.toNat ∧ h 201 x.toNat ≤ 1) ∧ (x = 1 ∨ x = 5 → h 201 x.toNat = 1) ∧ (x = 0 ∨ x = 2 ∨ x = 3 ∨ x = 4 ∨ x = 7 ∨ x = 8 → h 201 x.toNat = 0) := by
  have := fz_tab (l := fz_c201) (p := fun x v => decide ((x = 6 → v = -9) ∧ (x ≠ 6 → 0 ≤ v ∧ v ≤ 1) ∧ (x = 1 ∨ x = 5 → v = 1) ∧ (x = 0 ∨ x = 2 ∨ x = 3 ∨ x = 4 ∨ x = 7 ∨ x = 8 → v = 0))) (by decide +kernel) hx.1 (show x < 9 from hx.2) (by decide)
  rw [e]
  exact of_decide_eq_true this
theorem fz_tb202 {h : fz_H} (e : h 202 = fz_tbl fz_c202) {x : Int} (hx : 0 ≤ x ∧ x < 9) : (x = 0 → h 202 x.toNat = 9) ∧ (x = 1 → h 202 x.toNat = 24) ∧ (x = 2 → h 202 x.toNat = 1) ∧ (x = 3 → h 202 x.toNat = 999) ∧ (x = 4 → h 202 x.toNat = 4) ∧ (x = 5 → h 202 x.toNat = 9) ∧ (x = 6 → h 202 x.toNat = 9) ∧ (x = 7 → h 202 x.toNat = 99) ∧ (x = 8 → h 202 x.toNat = 12) := by
  have := fz_tab (l := fz_c202) (p := fun x v => decide ((x = 0 → v = 9) ∧ (x = 1 → v = 24) ∧ (x = 2 → v = 1) ∧ (x = 3 → v = 999) ∧ (x = 4 → v = 4) ∧ (x = 5 → v = 9) ∧ (x = 6 → v = 9) ∧ (x = 7 → v = 99) ∧ (x = 8 → v = 12))) (by decide +kernel) hx.1 (show x < 9 from hx.2) (by decide)
  rw [e]
  exact of_decide_eq_true this
theorem fz_tb203 {h : fz_H} (e : h 203 = fz_tbl fz_c203) {x : Int} (hx : 0 ≤ x ∧ x < 32) : 0 ≤ h 203 x.toNat ∧ h 203 x.toNat ≤ 81 := by
  have := fz_tab (l := fz_c203) (p := fun _ v => decide (0 ≤ v ∧ v ≤ 81)) (by decide +kernel) hx.1 (show x < 32 from hx.2) (by decide)
  rw [e]
  exact of_decide_eq_true this
theorem fz_tb204 {h : fz_H} (e : h 204 = fz_tbl fz_c204) {x : Int} (hx : 0 ≤ x ∧ x < 8) : -1 ≤ h 204 x.toNat ∧ h 204 x.toNat ≤ 4 ∧ (0 < x → 0 ≤ h 204 x.toNat) := by
  have := fz_tab (l := fz_c204) (p := fun x v => decide (-1 ≤ v ∧ v ≤ 4 ∧ (0 < x → 0 ≤ v))) (by decide +kernel) hx.1 (show x < 8 from hx.2) (by decide)
  rw [e]
  exact of_decide_eq_true this
