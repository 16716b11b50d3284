/-! ===== what holds between calls ===== -/
def fz_fu : Int × Int := ((-2147483648), 2147483647)
def fz_fl : Int × Int := ((-9223372036854775808), 9223372036854775807)
def fz_bl : List (List (Int × Int)) := [[fz_fu, fz_fu, fz_fu, fz_fu, fz_fu, fz_fu, fz_fu, fz_fu, fz_fu, fz_fu], [fz_fu, fz_fu, fz_fu, fz_fu, fz_fu, fz_fu, fz_fu, (0, 8), (0, 12)], [(0, 9)], [(0, 24)], [(0, 1)], [(0, 7)], [(0, 7)], [(0, 1000000)], [(0, 1000000)], [fz_fu, fz_fu, fz_fu, fz_fu, fz_fu, (0, 10)], [(0, 3)], [(0, 7)], [(0, 999)], [(0, 4)], [(0, 9)], [fz_fu, fz_fu, fz_fu, fz_fu, (0, 128)], [fz_fu], [fz_fu], [fz_fu], [fz_fu], [fz_fu, fz_fu, (0, 120), (0, 120), (0, 1)], [fz_fu, fz_fu, fz_fu, fz_fu, (0, 128)], [fz_fu], [fz_fu], [fz_fu], [fz_fu], [(0, 255)], [fz_fu, fz_fu, fz_fu, fz_fu, fz_fu, fz_fu, fz_fu, fz_fu, (0, 99), (0, 12)], [((-9), 9)], [fz_fu], [fz_fu], [fz_fu], [fz_fl], [fz_fu, fz_fu, fz_fu, (0, 3), (0, 999), fz_fu, (0, 4), fz_fu], [fz_fu], [fz_fu, fz_fu, fz_fu, fz_fu, (0, 40), (0, 40)], [fz_fu], [(0, 8)], [((-9), 999)], [((-9), 999)], [fz_fu, (0, 999), fz_fu, fz_fu, fz_fu, fz_fu, (0, 1), fz_fu, fz_fu], [(0, 7)], [(0, 7)], [(0, 999), fz_fu, fz_fu, fz_fu, fz_fu], [fz_fu, fz_fu, (0, 50), fz_fu, (0, 49), (0, 7)], [(0, 7)], [fz_fu], [fz_fu, fz_fu, fz_fu, fz_fu, fz_fu], [(0, 2)], [fz_fu], [(0, 4)], [(0, 60)], [fz_fl], [(0, 8), fz_fu, (0, 12), fz_fu, fz_fu, fz_fu, fz_fu, fz_fu, (0, 99), (0, 12), (0, 11), fz_fu, fz_fu, fz_fu, fz_fu, fz_fu, (0, 120), fz_fu, (0, 1), (0, 60), fz_fu, fz_fu, fz_fu, fz_fu, (0, 120), (0, 6), (0, 200), (0, 61), fz_fu, fz_fu, fz_fu, fz_fu, fz_fu, fz_fu, (0, 999), fz_fu, fz_fu, (0, 1), (0, 999), fz_fu, fz_fu, (0, 40), (0, 40), fz_fu, (0, 50), fz_fu, (0, 1000), fz_fu, fz_fu, fz_fu, fz_fu, fz_fu, fz_fu, fz_fu, fz_fu, (0, 4), fz_fu, fz_fu], [(0, 9)], [(0, 7)], [(0, 7)], [(0, 24)], [(0, 1)], [((-9), 9)], [fz_fu], [(0, 7)], [(0, 999)], [(0, 4)], [(0, 9)], [(0, 255)], [(0, 200)], [(0, 200)], [(0, 200)], [fz_fu], [(0, 200)], [(0, 200)], [(0, 200)], [fz_fu], [fz_fu], [fz_fu], [(0, 7)], [fz_fu], [(0, 7)], [fz_fu], [fz_fu], [(0, 7)], [fz_fu], [((-1), 59)], [(0, 60)], [fz_fl], [fz_fu], [fz_fu], [fz_fu], [(0, 7)], [(0, 7)]]
def fz_bs (l : List (Int × Int)) (s : Nat) : Int × Int := match l with
  | [b] => b
  | l => (fz_nth l s).getD fz_fu
def fz_bd (c s : Nat) : Int × Int := match fz_nth fz_bl c with
  | some l => fz_bs l s
  | none => fz_fu
/-- a table that nobody writes -/
def fz_tbl (l : List Int) : Nat → Int := fun j => if j = 100000 then (l.length : Int) else (fz_nth l j).getD 0
def fz_c201 : List Int := [0, 1, 0, 0, 0, 1, -9, 0, 0]
def fz_c202 : List Int := [9, 24, 1, 999, 4, 9, 9, 99, 12]
def fz_c203 : List Int := [1, 10, 11, 2, 20, 0, 0, 0, 0, 30, 0, 0, 0, 41, 40, 0, 0, 0, 50, 0, 0, 0, 0, 60, 70, 0, 0, 0, 0, 80, 0, 81]
def fz_c204 : List Int := [-1, 0, 0, 2, 1, 3, 0, 4]
def fz_Iv (h : fz_H) : Prop := (∀ c s, (fz_bd c s).1 ≤ h c s ∧ h c s ≤ (fz_bd c s).2) ∧ h 201 = fz_tbl fz_c201 ∧ h 202 = fz_tbl fz_c202 ∧ h 203 = fz_tbl fz_c203 ∧ h 204 = fz_tbl fz_c204
theorem fz_Iv_up {h : fz_H} {c s : Nat} {x : Int} (hI : fz_Iv h) (hc : c < 200) (h1 : (fz_bd c s).1 ≤ x) (h2 : x ≤ (fz_bd c s).2) : fz_Iv (fz_up h c s x) := by
  refine ⟨fun d j => ?_, ?_, ?_, ?_, ?_⟩
  · unfold fz_up
    split
    · next e => rw [e.1, e.2]; exact ⟨h1, h2⟩
    · exact hI.1 d j
  · rw [fz_up_ne (by omega)]; exact hI.2.1
  · rw [fz_up_ne (by omega)]; exact hI.2.2.1
  · rw [fz_up_ne (by omega)]; exact hI.2.2.2.1
  · rw [fz_up_ne (by omega)]; exact hI.2.2.2.2
/-- between cells of one bound each -/
theorem fz_Iv_cp {h : fz_H} {a i b j n : Nat} (hI : fz_Iv h) (hb : b < 200) (hab : ∀ k l : Nat, j ≤ l → l < j + n → k = i + (l - j) → (fz_bd b l).1 ≤ h a k ∧ h a k ≤ (fz_bd b l).2) : fz_Iv (fz_cp h a i b j n) := by
  refine ⟨fun d k => ?_, ?_, ?_, ?_, ?_⟩
  · unfold fz_cp
    split
    · next e => rw [e.1]; exact hab _ k e.2.1 e.2.2 rfl
    · exact hI.1 d k
  · rw [fz_cp_ne (by omega)]; exact hI.2.1
  · rw [fz_cp_ne (by omega)]; exact hI.2.2.1
  · rw [fz_cp_ne (by omega)]; exact hI.2.2.2.1
  · rw [fz_cp_ne (by omega)]; exact hI.2.2.2.2
/-- which cells may be others: (cell, place), (cell, 99999): all of it -/
def fz_me (S : List (Nat × Nat)) (c s : Nat) : Bool := S.any (fun q => Nat.beq q.1 c && (Nat.beq q.2 99999 || Nat.beq q.2 s))
def fz_fr (S : List (Nat × Nat)) (h h' : fz_H) : Prop := ∀ c s, fz_me S c s = false → h' c s = h c s
theorem fz_fr_rf {S : List (Nat × Nat)} {h : fz_H} : fz_fr S h h := fun _ _ _ => rfl
theorem fz_fr_up {S : List (Nat × Nat)} {h h' : fz_H} {c s : Nat} {x : Int} (hf : fz_fr S h h') (hm : fz_me S c s = true) : fz_fr S h (fz_up h' c s x) := by
  intro d j hd
  unfold fz_up
  rw [if_neg]
  · exact hf d j hd
  · intro e
    rw [e.1, e.2, hm] at hd
    cases hd
theorem fz_fr_cp {S : List (Nat × Nat)} {h h' : fz_H} {a i b j n : Nat} (hf : fz_fr S h h') (hm : ∀ s, fz_me S b s = true) : fz_fr S h (fz_cp h' a i b j n) := by
  intro d k hd
  unfold fz_cp
  rw [if_neg]
  · exact hf d k hd
  · intro e
    rw [e.1, hm k] at hd
    cases hd
def fz_su (S T : List (Nat × Nat)) : Bool := S.all (fun q => T.any (fun r => Nat.beq r.1 q.1 && (Nat.beq r.2 99999 || Nat.beq r.2 q.2)))
theorem fz_su_me {S T : List (Nat × Nat)} (h : fz_su S T = true) {c s : Nat} (hm : fz_me T c s = false) : fz_me S c s = false := by
  cases hs : fz_me S c s with
  | false => rfl
  | true =>
    exfalso
    obtain ⟨q, hq, h1⟩ := List.any_eq_true.mp hs
    obtain ⟨r, hr, h2⟩ := List.any_eq_true.mp (List.all_eq_true.mp h q hq)
    have : fz_me T c s = true := by
      refine List.any_eq_true.mpr ⟨r, hr, ?_⟩
      rw [Bool.and_eq_true, Bool.or_eq_true] at h1 h2 ⊢
      have e1 := Nat.eq_of_beq_eq_true h1.1
      have e2 := Nat.eq_of_beq_eq_true h2.1
      refine ⟨by rw [e2, e1]; exact Nat.beq_refl c, ?_⟩
      rcases h2.2 with z | z
      · exact Or.inl z
      · have e3 := Nat.eq_of_beq_eq_true z
        rw [e3]
        exact h1.2
    rw [this] at hm
    cases hm
theorem fz_fr_tr {S T : List (Nat × Nat)} {h h1 h2 : fz_H} (ha : fz_fr T h h1) (hb : fz_fr S h1 h2) (hs : fz_su S T = true) : fz_fr T h h2 := fun c s hm => (hb c s (fz_su_me hs hm)).trans (ha c s hm)
def fz_pk (ls : List (Nat × fz_V)) (ks : List Nat) : List (Nat × fz_V) := ks.filterMap (fun k => fz_nth ls k)
theorem fz_pk_sub {ls ls' : List (Nat × fz_V)} (ks : List Nat) (hl : fz_pk ls ks = ls') : ∀ q ∈ ls', q ∈ ls := by
  subst hl
  intro q hq
  obtain ⟨k, -, hk⟩ := List.mem_filterMap.mp hq
  rw [fz_nth_eq] at hk
  exact List.mem_of_getElem? hk
section FZ
variable {d : Nat} {M : fz_M} {pc a b w : Nat} {ls ls' : List (Nat × fz_V)} {st : List fz_V} {h : fz_H} {Q : fz_H → Option fz_V → Prop}
/-- results by name -/
theorem fz_nmi {x : Int} (k : ∀ z : Int, z = x → fz_R d M pc ls (fz_i z :: st) h Q) : fz_R d M pc ls (fz_i x :: st) h Q := k x rfl
theorem fz_nml {x : Int} (k : ∀ z : Int, z = x → fz_R d M pc ls (fz_l z :: st) h Q) : fz_R d M pc ls (fz_l x :: st) h Q := k x rfl
theorem fz_nmw {x : Int} (k : ∀ z : Int, -2147483648 ≤ z ∧ z ≤ 2147483647 → fz_R d M pc ls (fz_i z :: st) h Q) : fz_R d M pc ls (fz_i x :: st) h Q := by
  refine fz_knows (fun hs => k x ?_)
  have : -2147483648 ≤ x ∧ x < 2147483648 := fz_h1 hs
  omega
theorem fz_nmx {x : Int} (k : ∀ z : Int, -9223372036854775808 ≤ z ∧ z ≤ 9223372036854775807 → fz_R d M pc ls (fz_l z :: st) h Q) : fz_R d M pc ls (fz_l x :: st) h Q := by
  refine fz_knows (fun hs => k x ?_)
  have : -9223372036854775808 ≤ x ∧ x < 9223372036854775808 := fz_h1 hs
  omega
theorem fz_eqi {x y : Int} (e : x = y) (k : fz_R d M pc ls (fz_i y :: st) h Q) : fz_R d M pc ls (fz_i x :: st) h Q := e ▸ k
theorem fz_eqL {x y : Int} (e : x = y) (k : fz_R d M pc ls (fz_l y :: st) h Q) : fz_R d M pc ls (fz_l x :: st) h Q := e ▸ k
theorem fz_nmh {S : List (Nat × Nat)} {h0 h1 : fz_H} (hI : fz_Iv h1) (hf : fz_fr S h0 h1) (k : ∀ H : fz_H, fz_Iv H → fz_fr S h0 H → fz_R d M pc ls st H Q) : fz_R d M pc ls st h1 Q := k h1 hI hf
theorem fz_up_o {h : fz_H} {c d i s : Nat} {x : Int} (hc : c ≠ d) : fz_up h d i x c s = h c s := by rw [fz_up_ne hc]
theorem fz_up_s {h : fz_H} {c i s : Nat} {x : Int} (hs : s ≠ i) : fz_up h c i x c s = h c s := by
  unfold fz_up
  rw [if_neg (fun e => hs e.2)]
theorem fz_up_e {h : fz_H} {c i : Nat} {x : Int} : fz_up h c i x c i = x := by
  unfold fz_up
  rw [if_pos ⟨rfl, rfl⟩]
theorem fz_nmu {S : List (Nat × Nat)} {h0 h1 : fz_H} (hI : fz_Iv h1) (hf : fz_fr S h0 h1) (k : ∀ H : fz_H, fz_Iv H → fz_fr S h0 H → H = h1 → fz_R d M pc ls st H Q) : fz_R d M pc ls st h1 Q := k h1 hI hf rfl
theorem fz_iaddN {x y : Int} (hM : fz_okM M = true) (hc : fz_at M.2.2.2.2 pc = some (.iadd, 1, a, b, w)) (hn : -2147483648 ≤ x + y ∧ x + y ≤ 2147483647) (k : fz_R d M (pc + 1) ls (fz_i (x + y) :: st) h Q) : fz_R d M pc ls (fz_i y :: fz_i x :: st) h Q :=
  fz_iadd hM hc (by rw [fz_w_id hn.1 (by omega)]; exact k)
theorem fz_isubN {x y : Int} (hM : fz_okM M = true) (hc : fz_at M.2.2.2.2 pc = some (.isub, 1, a, b, w)) (hn : -2147483648 ≤ x - y ∧ x - y ≤ 2147483647) (k : fz_R d M (pc + 1) ls (fz_i (x - y) :: st) h Q) : fz_R d M pc ls (fz_i y :: fz_i x :: st) h Q :=
  fz_isub hM hc (by rw [fz_w_id hn.1 (by omega)]; exact k)
theorem fz_imulN {x y : Int} (hM : fz_okM M = true) (hc : fz_at M.2.2.2.2 pc = some (.imul, 1, a, b, w)) (hn : -2147483648 ≤ x * y ∧ x * y ≤ 2147483647) (k : fz_R d M (pc + 1) ls (fz_i (x * y) :: st) h Q) : fz_R d M pc ls (fz_i y :: fz_i x :: st) h Q :=
  fz_imul hM hc (by rw [fz_w_id hn.1 (by omega)]; exact k)
theorem fz_inegN {x : Int} (hM : fz_okM M = true) (hc : fz_at M.2.2.2.2 pc = some (.ineg, 1, a, b, w)) (hn : -2147483648 ≤ -x ∧ -x ≤ 2147483647) (k : fz_R d M (pc + 1) ls (fz_i (-x) :: st) h Q) : fz_R d M pc ls (fz_i x :: st) h Q :=
  fz_ineg hM hc (by rw [fz_w_id hn.1 (by omega)]; exact k)
/-- x not negative, y positive -/
theorem fz_idivN {x y : Int} (hM : fz_okM M = true) (hc : fz_at M.2.2.2.2 pc = some (.idiv, 1, a, b, w)) (hx : 0 ≤ x) (hy : 0 < y) (hn : x ≤ 2147483647) (k : fz_R d M (pc + 1) ls (fz_i (x / y) :: st) h Q) : fz_R d M pc ls (fz_i y :: fz_i x :: st) h Q :=
  fz_idiv (by omega) hM hc (by
    have h1 := Int.ediv_nonneg hx (Int.le_of_lt hy)
    have h2 := Int.ediv_le_self y hx
    rw [fz_td hx, fz_w_id (by omega) (by omega)]
    exact k)
theorem fz_iremN {x y : Int} (hM : fz_okM M = true) (hc : fz_at M.2.2.2.2 pc = some (.irem, 1, a, b, w)) (hx : 0 ≤ x) (hy : 0 < y) (hn : y ≤ 2147483647) (k : fz_R d M (pc + 1) ls (fz_i (x % y) :: st) h Q) : fz_R d M pc ls (fz_i y :: fz_i x :: st) h Q :=
  fz_irem (by omega) hM hc (by
    have h1 := Int.emod_nonneg x (by omega : y ≠ 0)
    have h2 := Int.emod_lt_of_pos x hy
    rw [fz_tm hx, fz_w_id (by omega) (by omega)]
    exact k)
/-- by a positive number, of any sign -/
theorem fz_tdf (x y : Int) (hy : 0 < y) : ∃ r : Int, x = y * Int.tdiv x y + r ∧ r = Int.tmod x y ∧ -y < r ∧ r < y ∧ (0 ≤ x → 0 ≤ r) ∧ (x ≤ 0 → r ≤ 0) := by
  refine ⟨Int.tmod x y, ?_, rfl, ?_, ?_, ?_, ?_⟩
  · have := Int.mul_tdiv_add_tmod x y; omega
  · exact Int.lt_tmod_of_pos x hy
  · exact Int.tmod_lt_of_pos x hy
  · intro h0; exact Int.tmod_nonneg y h0
  · intro h0; have := Int.tmod_nonneg y (show 0 ≤ -x by omega); rw [Int.neg_tmod] at this; omega
theorem fz_idivT {x y : Int} (hM : fz_okM M = true) (hc : fz_at M.2.2.2.2 pc = some (.idiv, 1, a, b, w)) (hy : 1 < y) (hn : -2147483648 ≤ x ∧ x ≤ 2147483647) (k : ∀ z r : Int, x = y * z + r → -y < r → r < y → (0 ≤ x → 0 ≤ r) → (x ≤ 0 → r ≤ 0) → -2147483648 ≤ z ∧ z ≤ 2147483647 → z = Int.tdiv x y → fz_R d M (pc + 1) ls (fz_i z :: st) h Q) : fz_R d M pc ls (fz_i y :: fz_i x :: st) h Q := by
  refine fz_idiv (by omega) hM hc ?_
  obtain ⟨r, h1, h2, h3, h4, h5, h6⟩ := fz_tdf x y (by omega)
  have hb : -2147483648 ≤ Int.tdiv x y ∧ Int.tdiv x y ≤ 2147483647 := by
    rcases Int.le_total 0 x with h0 | h0
    · rw [fz_td h0]
      have := Int.ediv_nonneg h0 (show 0 ≤ y by omega)
      have := Int.ediv_le_self y h0
      omega
    · have e : Int.tdiv x y = -(Int.tdiv (-x) y) := by rw [Int.neg_tdiv]; omega
      rw [e, fz_td (show 0 ≤ -x by omega)]
      have := Int.ediv_nonneg (show 0 ≤ -x by omega) (show 0 ≤ y by omega)
      have := Int.ediv_le_self y (show 0 ≤ -x by omega)
      omega
  rw [fz_w_id hb.1 (by omega)]
  exact k _ r h1 h3 h4 h5 h6 hb rfl
theorem fz_iremT {x y : Int} (hM : fz_okM M = true) (hc : fz_at M.2.2.2.2 pc = some (.irem, 1, a, b, w)) (hy : 1 < y) (hn : y ≤ 2147483647) (k : ∀ r z : Int, x = y * z + r → -y < r → r < y → (0 ≤ x → 0 ≤ r) → (x ≤ 0 → r ≤ 0) → r = Int.tmod x y → fz_R d M (pc + 1) ls (fz_i r :: st) h Q) : fz_R d M pc ls (fz_i y :: fz_i x :: st) h Q := by
  refine fz_irem (by omega) hM hc ?_
  obtain ⟨r, h1, h2, h3, h4, h5, h6⟩ := fz_tdf x y (by omega)
  rw [← h2, fz_w_id (by omega) (by omega)]
  exact k r _ h1 h3 h4 h5 h6 h2
theorem fz_iincN {i : Nat} {n x : Int} (hM : fz_okM M = true) (hc : fz_at M.2.2.2.2 pc = some (.iinc i n, 3, a, b, w)) (hi : i < M.2.2.1) (hv : fz_lk ls i = some (fz_i x)) (hn : -2147483648 ≤ x + n ∧ x + n ≤ 2147483647) (hl : (i, fz_i (x + n)) :: fz_s1 i ls = ls') (k : fz_R d M (pc + 3) ls' st h Q) : fz_R d M pc ls st h Q :=
  fz_iinc hM hc hi hv (by rw [fz_w_id hn.1 (by omega)]; exact hl) k
/-- loads of a known value -/
theorem fz_getV {o ci sl idx : Nat} {v : Int} (hM : fz_okM M = true) (hc : fz_at M.2.2.2.2 pc = some (.getfield idx, 3, sl, ci, w)) (ho : fz_fo o ci sl 0 = true) (hv : h o sl = v) (k : fz_R d M (pc + 3) ls (fz_i v :: st) h Q) : fz_R d M pc ls (fz_r o :: st) h Q := fz_getI hM hc ho (hv ▸ k)
theorem fz_ialdV {o z n : Nat} {x v : Int} (hM : fz_okM M = true) (hc : fz_at M.2.2.2.2 pc = some (.iaload, 1, a, b, w)) (ho : fz_sh o = (1, z, n)) (h0 : 0 ≤ x) (h1 : x < n) (hv : h o x.toNat = v) (k : fz_R d M (pc + 1) ls (fz_i v :: st) h Q) : fz_R d M pc ls (fz_i x :: fz_r o :: st) h Q := fz_iald hM hc ho h0 h1 (hv ▸ k)
theorem fz_laldV {o z n : Nat} {x v : Int} (hM : fz_okM M = true) (hc : fz_at M.2.2.2.2 pc = some (.laload, 1, a, b, w)) (ho : fz_sh o = (2, z, n)) (h0 : 0 ≤ x) (h1 : x < n) (hv : h o x.toNat = v) (k : fz_R d M (pc + 1) ls (fz_l v :: st) h Q) : fz_R d M pc ls (fz_i x :: fz_r o :: st) h Q := fz_lald hM hc ho h0 h1 (hv ▸ k)
theorem fz_taldV {o : Nat} {x v : Int} (hM : fz_okM M = true) (hc : fz_at M.2.2.2.2 pc = some (.iaload, 1, a, b, w)) (ho : 200 ≤ o ∧ o < 205) (h0 : 0 ≤ x) (h1 : x < h o 100000) (hv : h o x.toNat = v) (k : fz_R d M (pc + 1) ls (fz_i v :: st) h Q) : fz_R d M pc ls (fz_i x :: fz_r o :: st) h Q := fz_tald hM hc ho h0 h1 (hv ▸ k)
end FZ
