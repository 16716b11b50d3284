/-! ===== small helps ===== -/
theorem fz_cmp_c (x y : Int) : (fz_cmp x y = 1 ∧ y < x) ∨ (fz_cmp x y = 0 ∧ x = y) ∨ (fz_cmp x y = -1 ∧ x < y) := by
  unfold fz_cmp
  split
  · next c => exact Or.inl ⟨rfl, c⟩
  · split
    · next c => exact Or.inr (Or.inl ⟨rfl, c⟩)
    · next c1 c2 => exact Or.inr (Or.inr ⟨rfl, by omega⟩)
section FZ
variable {d : Nat} {M : fz_M} {pc a b w : Nat} {ls ls' : List (Nat × fz_V)} {st : List fz_V} {h : fz_H} {Q : fz_H → Option fz_V → Prop}
theorem fz_tswC {x j : Int} {dflt lo hi : Int} {offs : Array Int} {len : Nat} {off : Int} {tgt : Nat} (hM : fz_okM M = true) (hc : fz_at M.2.2.2.2 pc = some (.tableswitch dflt lo hi offs, len, a, b, w)) (hx : x = j) (h1 : ¬ j < lo) (h2 : ¬ hi < j) (ho : offs[(j - lo).toNat]? = some off) (ht : (pc : Int) + off = (tgt : Int)) (k : fz_R d M tgt ls st h Q) : fz_R d M pc ls (fz_i x :: st) h Q := by
  subst hx
  exact fz_tswI hM hc h1 h2 ho ht k
end FZ
def fz_allT (l : List Int) (p : Int → Int → Bool) : Bool := (List.range l.length).all (fun j => p (j : Int) ((fz_nth l j).getD 0))
theorem fz_tab {l : List Int} {p : Int → Int → Bool} (hp : fz_allT l p = true) {x : Int} (h0 : 0 ≤ x) (h1 : x < l.length) (hl : l.length < 100000) : p x (fz_tbl l x.toNat) = true := by
  have hx : x.toNat < l.length := by omega
  have h := List.all_eq_true.mp hp _ (List.mem_range.mpr hx)
  have e : ((x.toNat : Nat) : Int) = x := by omega
  rw [e] at h
  unfold fz_tbl
  rw [if_neg (by omega)]
  exact h
theorem fz_tb201 {h : fz_H} (e : h 201 = fz_tbl fz_c201) {x : Int} (hx : 0 ≤ x ∧ x < 9) : (x = 6 → h 201 x.toNat = -9) ∧ (x ≠ 6 → 0 ≤ h 201 x.toNat ∧ h 201 x.toNat ≤ 1) ∧ (x = 1 ∨ x = 5 → h 201 x.toNat = 1) ∧ (x = 0 ∨ x = 2 ∨ x = 3 ∨ x = 4 ∨ x = 7 ∨ x = 8 → h 201 x.toNat = 0) := by
  have := fz_tab (l := fz_c201) (p := fun x v => decide ((x = 6 → v = -9) ∧ (x ≠ 6 → 0 ≤ v ∧ v ≤ 1) ∧ (x = 1 ∨ x = 5 → v = 1) ∧ (x = 0 ∨ x = 2 ∨ x = 3 ∨ x = 4 ∨ x = 7 ∨ x = 8 → v = 0))) (by decide +kernel) hx.1 (show x < 9 from hx.2) (by decide)
  rw [e]
  exact of_decide_eq_true this
theorem fz_tb202 {h : fz_H} (e : h 202 = fz_tbl fz_c202) {x : Int} (hx : 0 ≤ x ∧ x < 9) : (x = 0 → h 202 x.toNat = 9) ∧ (x = 1 → h 202 x.toNat = 24) ∧ (x = 2 → h 202 x.toNat = 1) ∧ (x = 3 → h 202 x.toNat = 999) ∧ (x = 4 → h 202 x.toNat = 4) ∧ (x = 5 → h 202 x.toNat = 9) ∧ (x = 6 → h 202 x.toNat = 9) ∧ (x = 7 → h 202 x.toNat = 99) ∧ (x = 8 → h 202 x.toNat = 12) := by
  have := fz_tab (l := fz_c202) (p := fun x v => decide ((x = 0 → v = 9) ∧ (x = 1 → v = 24) ∧ (x = 2 → v = 1) ∧ (x = 3 → v = 999) ∧ (x = 4 → v = 4) ∧ (x = 5 → v = 9) ∧ (x = 6 → v = 9) ∧ (x = 7 → v = 99) ∧ (x = 8 → v = 12))) (by decide +kernel) hx.1 (show x < 9 from hx.2) (by decide)
  rw [e]
  exact of_decide_eq_true this
theorem fz_tb203 {h : fz_H} (e : h 203 = fz_tbl fz_c203) {x : Int} (hx : 0 ≤ x ∧ x < 32) : 0 ≤ h 203 x.toNat ∧ h 203 x.toNat ≤ 81 := by
  have := fz_tab (l := fz_c203) (p := fun _ v => decide (0 ≤ v ∧ v ≤ 81)) (by decide +kernel) hx.1 (show x < 32 from hx.2) (by decide)
  rw [e]
  exact of_decide_eq_true this
theorem fz_tb204 {h : fz_H} (e : h 204 = fz_tbl fz_c204) {x : Int} (hx : 0 ≤ x ∧ x < 8) : -1 ≤ h 204 x.toNat ∧ h 204 x.toNat ≤ 4 ∧ (0 < x → 0 ≤ h 204 x.toNat) := by
  have := fz_tab (l := fz_c204) (p := fun x v => decide (-1 ≤ v ∧ v ≤ 4 ∧ (0 < x → 0 ≤ v))) (by decide +kernel) hx.1 (show x < 8 from hx.2) (by decide)
  rw [e]
  exact of_decide_eq_true this
/-! ===== what the changes kept hold ===== -/
def fz_oc (w v : Int) : Prop := (w = 0 → 0 ≤ v ∧ v ≤ 9) ∧ (w = 1 → 0 ≤ v ∧ v ≤ 24) ∧ (w = 2 → 0 ≤ v ∧ v ≤ 1) ∧ (w = 3 → 0 ≤ v ∧ v ≤ 999) ∧ (w = 4 → 0 ≤ v ∧ v ≤ 4) ∧ (w = 5 → 0 ≤ v ∧ v ≤ 9) ∧ (w = 6 → -9 ≤ v ∧ v ≤ 9) ∧ (w = 7 → 0 ≤ v ∧ v ≤ 99) ∧ (w = 8 → 0 ≤ v ∧ v ≤ 12)
def fz_Xc (h : fz_H) : Prop := ∀ i : Nat, i < 40 → fz_oc (h 37 i) (h 38 i) ∧ fz_oc (h 37 i) (h 39 i)
theorem fz_Xc_eq {h h' : fz_H} (e1 : h' 37 = h 37) (e2 : h' 38 = h 38) (e3 : h' 39 = h 39) (hX : fz_Xc h) : fz_Xc h' := by
  intro i hi
  rw [e1, e2, e3]
  exact hX i hi
theorem fz_Xc_up {h : fz_H} {c s : Nat} {x : Int} (h1 : 37 ≠ c) (h2 : 38 ≠ c) (h3 : 39 ≠ c) (hX : fz_Xc h) : fz_Xc (fz_up h c s x) := fz_Xc_eq (fz_up_ne h1) (fz_up_ne h2) (fz_up_ne h3) hX
theorem fz_Xc_cp {h : fz_H} {a i b j n : Nat} (h1 : 37 ≠ b) (h2 : 38 ≠ b) (h3 : 39 ≠ b) (hX : fz_Xc h) : fz_Xc (fz_cp h a i b j n) := fz_Xc_eq (fz_cp_ne h1) (fz_cp_ne h2) (fz_cp_ne h3) hX
theorem fz_Xc_fr {S : List (Nat × Nat)} {h h' : fz_H} (hf : fz_fr S h h') (hs : S.all (fun q => !(Nat.beq q.1 37) && !(Nat.beq q.1 38) && !(Nat.beq q.1 39)) = true) (hX : fz_Xc h) : fz_Xc h' := by
  have key : ∀ c s, (c = 37 ∨ c = 38 ∨ c = 39) → fz_me S c s = false := by
    intro c s hc
    cases hm : fz_me S c s with
    | false => rfl
    | true =>
      exfalso
      obtain ⟨q, hq, h1⟩ := List.any_eq_true.mp hm
      have h2 := List.all_eq_true.mp hs q hq
      rw [Bool.and_eq_true] at h1
      have e := Nat.eq_of_beq_eq_true h1.1
      simp only [Bool.and_eq_true, Bool.not_eq_true'] at h2
      rcases hc with rfl | rfl | rfl
      · rw [e] at h2; exact absurd h2.1.1 (by decide)
      · rw [e] at h2; exact absurd h2.1.2 (by decide)
      · rw [e] at h2; exact absurd h2.2 (by decide)
  exact fz_Xc_eq (funext fun s => hf 37 s (key 37 s (Or.inl rfl))) (funext fun s => hf 38 s (key 38 s (Or.inr (Or.inl rfl)))) (funext fun s => hf 39 s (key 39 s (Or.inr (Or.inr rfl)))) hX
/-- one more change is written -/
theorem fz_Xc_wr {h h1 : fz_H} {d : Nat} {w x y : Int} (hX : fz_Xc h) (e37 : h1 37 = fun j => if j = d then w else h 37 j) (e38 : h1 38 = fun j => if j = d then x else h 38 j) (e39 : h1 39 = fun j => if j = d then y else h 39 j) (ho1 : fz_oc w x) (ho2 : fz_oc w y) : fz_Xc h1 := by
  intro i hi
  rw [e37, e38, e39]
  by_cases hd : i = d
  · simp only [hd, if_pos]
    exact ⟨ho1, ho2⟩
  · simp only [if_neg hd]
    exact hX i hi
/-- the oldest goes -/
theorem fz_Xc_dr {h h1 : fz_H} (hX : fz_Xc h) (e37 : ∀ j, h1 37 j = if j < 39 then h 37 (j + 1) else h 37 j) (e38 : ∀ j, h1 38 j = if j < 39 then h 38 (j + 1) else h 38 j) (e39 : ∀ j, h1 39 j = if j < 39 then h 39 (j + 1) else h 39 j) : fz_Xc h1 := by
  intro i hi
  rw [e37, e38, e39]
  by_cases hd : i < 39
  · simp only [if_pos hd]
    exact hX (i + 1) (by omega)
  · simp only [if_neg hd]
    exact hX i hi
theorem fz_cp_at {h : fz_H} {a b : Nat} (k : Nat) : fz_cp h a 1 b 0 39 b k = if k < 39 then h a (k + 1) else h b k := by
  unfold fz_cp
  by_cases hk : k < 39
  · rw [if_pos hk, if_pos ⟨rfl, by omega, by omega⟩]
    congr 1
    omega
  · rw [if_neg hk, if_neg (by omega)]
theorem fz_oc_rng {w v : Int} (hw : 0 ≤ w ∧ w ≤ 8) (h : fz_oc w v) : -9 ≤ v ∧ v ≤ 999 := by
  obtain ⟨h0, h1, h2, h3, h4, h5, h6, h7, h8⟩ := h
  rcases (show w = 0 ∨ w = 1 ∨ w = 2 ∨ w = 3 ∨ w = 4 ∨ w = 5 ∨ w = 6 ∨ w = 7 ∨ w = 8 by omega) with e | e | e | e | e | e | e | e | e
  · have := h0 e; omega
  · have := h1 e; omega
  · have := h2 e; omega
  · have := h3 e; omega
  · have := h4 e; omega
  · have := h5 e; omega
  · have := h6 e; omega
  · have := h7 e; omega
  · have := h8 e; omega
theorem fz_ocT {h : fz_H} {w v : Int} (e1 : h 201 = fz_tbl fz_c201) (e2 : h 202 = fz_tbl fz_c202) (hw : 0 ≤ w ∧ w ≤ 8) (h1 : h 201 w.toNat ≤ v) (h2 : v ≤ h 202 w.toNat) : fz_oc w v := by
  rw [e1] at h1
  rw [e2] at h2
  rcases (show w = 0 ∨ w = 1 ∨ w = 2 ∨ w = 3 ∨ w = 4 ∨ w = 5 ∨ w = 6 ∨ w = 7 ∨ w = 8 by omega) with rfl | rfl | rfl | rfl | rfl | rfl | rfl | rfl | rfl
  · have a : (0 : Int) ≤ v := h1
    have b : v ≤ 9 := h2
    unfold fz_oc; omega
  · have a : (1 : Int) ≤ v := h1
    have b : v ≤ 24 := h2
    unfold fz_oc; omega
  · have a : (0 : Int) ≤ v := h1
    have b : v ≤ 1 := h2
    unfold fz_oc; omega
  · have a : (0 : Int) ≤ v := h1
    have b : v ≤ 999 := h2
    unfold fz_oc; omega
  · have a : (0 : Int) ≤ v := h1
    have b : v ≤ 4 := h2
    unfold fz_oc; omega
  · have a : (1 : Int) ≤ v := h1
    have b : v ≤ 9 := h2
    unfold fz_oc; omega
  · have a : (-9 : Int) ≤ v := h1
    have b : v ≤ 9 := h2
    unfold fz_oc; omega
  · have a : (0 : Int) ≤ v := h1
    have b : v ≤ 99 := h2
    unfold fz_oc; omega
  · have a : (0 : Int) ≤ v := h1
    have b : v ≤ 12 := h2
    unfold fz_oc; omega
section FZ
variable {d : Nat} {M : fz_M} {pc a b w : Nat} {ls ls' : List (Nat × fz_V)} {st : List fz_V} {h : fz_H} {Q : fz_H → Option fz_V → Prop}
theorem fz_laddN {x y : Int} (hM : fz_okM M = true) (hc : fz_at M.2.2.2.2 pc = some (.ladd, 1, a, b, w)) (hn : -9223372036854775808 ≤ x + y ∧ x + y ≤ 9223372036854775807) (k : fz_R d M (pc + 1) ls (fz_l (x + y) :: st) h Q) : fz_R d M pc ls (fz_l y :: fz_l x :: st) h Q :=
  fz_ladd hM hc (by rw [fz_wl_id hn.1 (by omega)]; exact k)
theorem fz_lmulN {x y : Int} (hM : fz_okM M = true) (hc : fz_at M.2.2.2.2 pc = some (.lmul, 1, a, b, w)) (hn : -9223372036854775808 ≤ x * y ∧ x * y ≤ 9223372036854775807) (k : fz_R d M (pc + 1) ls (fz_l (x * y) :: st) h Q) : fz_R d M pc ls (fz_l y :: fz_l x :: st) h Q :=
  fz_lmul hM hc (by rw [fz_wl_id hn.1 (by omega)]; exact k)
end FZ
/-! ===== the model: what shelves hold, what changes hold ===== -/
def fz_Xh (h : fz_H) : Prop := ∀ i : Nat, h 83 i ≤ 4 ∨ 10 ≤ h 83 i
theorem fz_Xh_eq {h h' : fz_H} (e : h' 83 = h 83) (hX : fz_Xh h) : fz_Xh h' := by
  intro i
  rw [e]
  exact hX i
theorem fz_Xh_st {h : fz_H} {s : Nat} {v : Int} (hX : fz_Xh h) (hv : v ≤ 4 ∨ 10 ≤ v) : fz_Xh (fz_up h 83 s v) := by
  intro i
  by_cases hi : i = s
  · simp [fz_up, hi]; exact hv
  · simp [fz_up, hi]; exact hX i
def fz_om (n w v : Int) : Prop := (0 ≤ w ∧ w ≤ 8) ∧ (w = 0 → (0 ≤ n ∧ n ≤ 7) ∧ 0 ≤ v ∧ v ≤ 9) ∧ (w = 1 → (0 ≤ n ∧ n ≤ 11) ∧ 0 ≤ v ∧ v ≤ 24) ∧ (w = 2 → (0 ≤ n ∧ n ≤ 11) ∧ 0 ≤ v ∧ v ≤ 1) ∧ (w = 3 → (0 ≤ n ∧ n ≤ 10) ∧ 0 ≤ v ∧ v ≤ 999) ∧ (w = 4 → (0 ≤ n ∧ n ≤ 10) ∧ 0 ≤ v ∧ v ≤ 4) ∧ (w = 5 → (0 ≤ n ∧ n ≤ 10) ∧ 0 ≤ v ∧ v ≤ 9) ∧ (w = 6 → (0 ≤ n ∧ n ≤ 4) ∧ -9 ≤ v ∧ v ≤ 9) ∧ (w = 7 → (n = 0) ∧ 0 ≤ v ∧ v ≤ 99) ∧ (w = 8 → (n = 0) ∧ 0 ≤ v ∧ v ≤ 12)
def fz_Xd (h : fz_H) : Prop := ∀ i : Nat, i < 40 → fz_om (h 80 (4 * i)) (h 80 (4 * i + 1)) (h 80 (4 * i + 2)) ∧ fz_om (h 80 (4 * i)) (h 80 (4 * i + 1)) (h 80 (4 * i + 3))
theorem fz_Xd_eq {h h' : fz_H} (e : h' 80 = h 80) (hX : fz_Xd h) : fz_Xd h' := by
  intro i hi
  rw [e]
  exact hX i hi
