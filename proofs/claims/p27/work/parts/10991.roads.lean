/-! ===== roads without carters ===== -/
def fl_rh (R : Nat → Nat → Prop) : Nat → Nat → Nat → Prop
  | 0, a, b => a = b
  | m + 1, a, b => ∃ c, R a c ∧ fl_rh R m c b
theorem fl_rh_s {R : Nat → Nat → Prop} : ∀ {m a b c : Nat}, fl_rh R m a b → R b c → fl_rh R (m + 1) a c
  | 0, a, b, c, e, r => ⟨c, by rw [show a = b from e]; exact r, rfl⟩
  | m + 1, a, b, c, ⟨d, h1, h2⟩, r => ⟨d, h1, fl_rh_s h2 r⟩
theorem fl_rh_eq {R Q : Nat → Nat → Prop} (e : ∀ a b, R a b ↔ Q a b) {m a b : Nat} : fl_rh R m a b ↔ fl_rh Q m a b := by
  have : R = Q := funext fun x => funext fun y => propext (e x y)
  rw [this]
/-- a road that carters go, not in the set -/
def fl_ok1 (cd : Nat → Int) (w : Int) (r : Nat) : Prop := cd r = 1 ∧ ¬ fz_bt w r = true
def fl_rt (n : Int) (e1 e2 cd : Nat → Int) (w : Int) (a b : Nat) : Prop := ∃ r : Nat, (r : Int) < n ∧ fl_ok1 cd w r ∧ ((e1 r = a ∧ e2 r = b) ∨ (e1 r = b ∧ e2 r = a))
def fl_rtcC (h : fz_H) (w : Int) : Nat → Nat → Prop := fl_rt (h 1 8) (h 5) (h 6) (h 4) w
def fl_rtcM (h : fz_H) (w : Int) : Nat → Nat → Prop := fl_rt (h 53 2) (h 55) (h 56) (h 58) w
def fl_catC (h : fz_H) (w a b : Int) : Prop := ∃ m, fl_rh (fl_rtcC h w) m a.toNat b.toNat
def fl_catM (h : fz_H) (w a b : Int) : Prop := ∃ m, fl_rh (fl_rtcM h w) m a.toNat b.toNat
/-! bits once more -/
theorem fl_bt_or {x y : Int} {d : Nat} : fz_bt (fz_or x y) d = (fz_bt x d || fz_bt y d) := by
  have e : fz_bt (fz_or x y) d = (BitVec.ofInt 32 ((BitVec.ofInt 32 x ||| BitVec.ofInt 32 y).toInt)).getLsbD d := rfl
  rw [e, BitVec.ofInt_toInt, BitVec.getLsbD_or]
  rfl
theorem fl_bt_shl {x : Int} {d : Nat} (hx : 0 ≤ x ∧ x ≤ 7) (hd : d < 12) : fz_bt (fz_shl 1 x) d = true ↔ (d : Int) = x := by
  have key : ∀ a : Fin 8, ∀ b : Fin 12, (fz_bt (fz_shl 1 (a.val : Int)) b.val = decide (b.val = a.val)) := by decide +kernel
  have k := key ⟨x.toNat, by omega⟩ ⟨d, hd⟩
  simp only at k
  rw [show ((x.toNat : Nat) : Int) = x by omega] at k
  rw [k, decide_eq_true_eq]
  omega
theorem fl_shl_nn {n : Int} (h : 0 ≤ n ∧ n ≤ 12) : 0 ≤ fz_shl 1 n := by
  have key : ∀ m : Fin 13, 0 ≤ fz_shl 1 (m.val : Int) := by decide +kernel
  have k := key ⟨n.toNat, by omega⟩
  simp only at k
  rw [show ((n.toNat : Nat) : Int) = n by omega] at k
  exact k
theorem fl_vl_0 {x : Int} : ∀ {n : Nat}, (∀ d, d < n → ¬ fz_bt x d = true) → fl_vlx x n = 0
  | 0, _ => rfl
  | n + 1, h => by
    have a := fl_vl_0 (x := x) (n := n) (fun d hd => h d (by omega))
    show fl_vlx x n + (if fz_bt x n = true then ((2 ^ n : Nat) : Int) else 0) = 0
    rw [if_neg (h n (by omega)), a]
    rfl
theorem fl_nz {x : Int} (hx : 0 ≤ x ∧ x ≤ 2047) (h : x ≠ 0) : ∃ d, d < 11 ∧ fz_bt x d = true := by
  refine Classical.byContradiction (fun z => h ?_)
  rw [(fl_tab_i hx).1]
  exact fl_vl_0 (fun d hd b => z ⟨d, hd, b⟩)
theorem fl_pc_lt {x y : Int} {e : Nat} : ∀ {n : Nat}, (∀ d, d < n → fz_bt x d = true → fz_bt y d = true) → e < n → fz_bt y e = true → ¬ fz_bt x e = true → fl_pc x n + 1 ≤ fl_pc y n
  | 0, _, h, _, _ => by omega
  | n + 1, h, he, hy, hx => by
    show fl_pc x n + (if fz_bt x n = true then 1 else 0) + 1 ≤ fl_pc y n + (if fz_bt y n = true then 1 else 0)
    by_cases q : e = n
    · subst q
      have a := (fl_sb_vl (x := x) (y := y) (n := e) (fun d hd => h d (by omega))).2
      rw [if_pos hy, if_neg hx]
      omega
    · have a := fl_pc_lt (x := x) (y := y) (e := e) (n := n) (fun d hd => h d (by omega)) (by omega) hy hx
      by_cases c : fz_bt x n = true
      · rw [if_pos c, if_pos (h n (by omega) c)]; omega
      · rw [if_neg c]
        split <;> omega
theorem fl_sb_lt {x y : Int} (hx : 0 ≤ x ∧ x ≤ 2047) (hy : 0 ≤ y ∧ y ≤ 2047) (s : fl_sb x y) (ne : x ≠ y) : fl_pc x 11 + 1 ≤ fl_pc y 11 := by
  by_cases c : ∃ e, e < 11 ∧ fz_bt y e = true ∧ ¬ fz_bt x e = true
  · obtain ⟨e, e0, e1, e2⟩ := c
    exact fl_pc_lt s e0 e1 e2
  · refine absurd (fl_sb_an hx hy s (fun d hd b => ?_)) ne
    exact Classical.byContradiction (fun z => c ⟨d, hd, b, z⟩)
theorem fl_pc_le {x t : Int} (ht : 0 ≤ t) : ∀ {n : Nat}, (∀ d : Nat, d < n → fz_bt x d = true → (d : Int) < t) → fl_pc x n ≤ t ∧ fl_pc x n ≤ n
  | 0, _ => ⟨ht, Int.le_refl _⟩
  | n + 1, h => by
    have a := fl_pc_le (x := x) ht (n := n) (fun d hd => h d (by omega))
    show fl_pc x n + (if fz_bt x n = true then 1 else 0) ≤ t ∧ fl_pc x n + (if fz_bt x n = true then 1 else 0) ≤ ((n + 1 : Nat) : Int)
    by_cases c : fz_bt x n = true
    · have := h n (by omega) c
      rw [if_pos c]
      omega
    · rw [if_neg c]
      omega
/-! the class: towns reached, round by round -/
def fl_BK (h : fz_H) (w a re : Int) : Prop := (0 ≤ re ∧ re ≤ 2047) ∧ (∀ d : Nat, d < 11 → fz_bt re d = true → (d : Int) < h 1 7 ∧ ∃ m, fl_rh (fl_rtcC h w) m a.toNat d) ∧ fz_bt re a.toNat = true
def fl_BI (h : fz_H) (w a re n : Int) : Prop := fl_BK h w a re ∧ 1 + n ≤ fl_pc re 11
def fl_BJ (h : fz_H) (w a re be q : Int) : Prop := fl_BK h w a re ∧ fl_sb be re ∧ (re = be → ∀ r : Nat, (r : Int) < q → fl_ok1 (h 4) w r → (fz_bt be (h 5 r).toNat = true ∨ fz_bt be (h 6 r).toNat = true) → fz_bt be (h 5 r).toNat = true ∧ fz_bt be (h 6 r).toNat = true)
theorem fl_BI_0 {h : fz_H} {w a : Int} (ha : 0 ≤ a ∧ a < h 1 7) (h8 : h 1 7 ≤ 8) (hr : 0 ≤ fz_shl 1 a ∧ fz_shl 1 a ≤ 2047) : fl_BI h w a (fz_shl 1 a) 0 := by
  have b : fz_bt (fz_shl 1 a) a.toNat = true := (fl_bt_shl ⟨ha.1, by omega⟩ (by omega)).mpr (by omega)
  refine ⟨⟨hr, fun d hd z => ?_, b⟩, ?_⟩
  · have e := (fl_bt_shl ⟨ha.1, by omega⟩ (by omega)).mp z
    exact ⟨by omega, 0, show a.toNat = d by omega⟩
  · have z := fl_pc_lt (x := 0) (y := fz_shl 1 a) (e := a.toNat) (n := 11) (fun d hd y => by
      have e : fz_bt 0 d = false := fz_bt_z ⟨d, by omega⟩
      rw [e] at y
      cases y) (by omega) b (by
      have e : fz_bt 0 a.toNat = false := fz_bt_z ⟨a.toNat, by omega⟩
      rw [e]
      decide)
    have z0 : fl_pc 0 11 = 0 := by decide +kernel
    omega
theorem fl_BJ_0 {h : fz_H} {w a re n : Int} (I : fl_BI h w a re n) : fl_BJ h w a re re 0 := ⟨I.1, fun d _ z => z, fun _ r hr => by exfalso; omega⟩
theorem fl_BJ_n {h : fz_H} {w a re be q : Int} (J : fl_BJ h w a re be q) (h0 : 0 ≤ q) (no : ¬ fl_ok1 (h 4) w q.toNat) : fl_BJ h w a re be (q + 1) := ⟨J.1, J.2.1, fun e r hr o b => by
  by_cases c : (r : Int) = q
  · have : r = q.toNat := by omega
    subst this
    exact absurd o no
  · exact J.2.2 e r (by omega) o b⟩
theorem fl_no1 {h : fz_H} {w q : Int} (c : h 4 q.toNat ≠ 1) : ¬ fl_ok1 (h 4) w q.toNat := fun z => c z.1
theorem fl_no2 {h : fz_H} {w q : Int} (hq : 0 ≤ q ∧ q < 12) (c : fz_and (fz_shr w q) 1 ≠ 0) : ¬ fl_ok1 (h 4) w q.toNat := fun z => c (by
  rw [fz_bt_1 hq, if_neg z.2])
theorem fl_ok1_in {h : fz_H} {w q : Int} (hq : 0 ≤ q ∧ q < 12) (c1 : h 4 q.toNat = 1) (c : fz_and (fz_shr w q) 1 = 0) : fl_ok1 (h 4) w q.toNat := ⟨c1, fun z => by
  rw [fz_bt_1 hq, if_pos z] at c
  exact absurd c (by decide)⟩
theorem fl_ends {x y : Int} {d : Nat} (hx : 0 ≤ x ∧ x ≤ 7) (hy : 0 ≤ y ∧ y ≤ 7) (hd : d < 12) : fz_bt (fz_or (fz_shl 1 x) (fz_shl 1 y)) d = true ↔ ((d : Int) = x ∨ (d : Int) = y) := by
  rw [fl_bt_or, Bool.or_eq_true, fl_bt_shl hx hd, fl_bt_shl hy hd]
theorem fl_BJ_3 {h : fz_H} {w a re be q : Int} (J : fl_BJ h w a re be q) (h0 : 0 ≤ q) (hx : 0 ≤ h 5 q.toNat ∧ h 5 q.toNat ≤ 7) (hy : 0 ≤ h 6 q.toNat ∧ h 6 q.toNat ≤ 7) (c : fz_and re (fz_or (fz_shl 1 (h 5 q.toNat)) (fz_shl 1 (h 6 q.toNat))) = 0) : fl_BJ h w a re be (q + 1) := ⟨J.1, J.2.1, fun e r hr o b => by
  by_cases cq : (r : Int) = q
  · have er : r = q.toNat := by omega
    subst er
    exfalso
    have key : ∀ d, d < 11 → fz_bt re d = true → ((d : Int) = h 5 q.toNat ∨ (d : Int) = h 6 q.toNat) → False := fun d hd z1 z2 => by
      have z := @fz_bt_and re (fz_or (fz_shl 1 (h 5 q.toNat)) (fz_shl 1 (h 6 q.toNat))) d
      have e0 : fz_bt 0 d = false := fz_bt_z ⟨d, by omega⟩
      rw [c, e0, z1, (fl_ends hx hy (by omega)).mpr z2] at z
      cases z
    rw [← e] at b
    rcases b with b | b
    · exact key (h 5 q.toNat).toNat (by omega) b (Or.inl (by omega))
    · exact key (h 6 q.toNat).toNat (by omega) b (Or.inr (by omega))
  · exact J.2.2 e r (by omega) o b⟩
theorem fl_BJ_y {h : fz_H} {w a re be q : Int} (J : fl_BJ h w a re be q) (hb : 0 ≤ be ∧ be ≤ 2047) (h0 : 0 ≤ q ∧ q < h 1 8) (hx : 0 ≤ h 5 q.toNat ∧ h 5 q.toNat ≤ 7) (hy : 0 ≤ h 6 q.toNat ∧ h 6 q.toNat ≤ 7) (ht : h 5 q.toNat < h 1 7 ∧ h 6 q.toNat < h 1 7) (ok : fl_ok1 (h 4) w q.toNat) (c : fz_and re (fz_or (fz_shl 1 (h 5 q.toNat)) (fz_shl 1 (h 6 q.toNat))) ≠ 0) (hv : 0 ≤ fz_or re (fz_or (fz_shl 1 (h 5 q.toNat)) (fz_shl 1 (h 6 q.toNat))) ∧ fz_or re (fz_or (fz_shl 1 (h 5 q.toNat)) (fz_shl 1 (h 6 q.toNat))) ≤ 2047) (he : 0 ≤ fz_or (fz_shl 1 (h 5 q.toNat)) (fz_shl 1 (h 6 q.toNat)) ∧ fz_or (fz_shl 1 (h 5 q.toNat)) (fz_shl 1 (h 6 q.toNat)) ≤ 2047) : fl_BJ h w a (fz_or re (fz_or (fz_shl 1 (h 5 q.toNat)) (fz_shl 1 (h 6 q.toNat)))) be (q + 1) := by
  obtain ⟨⟨j1, j2, j3⟩, j4, j5⟩ := J
  have E : ∀ d, d < 12 → (fz_bt (fz_or (fz_shl 1 (h 5 q.toNat)) (fz_shl 1 (h 6 q.toNat))) d = true ↔ ((d : Int) = h 5 q.toNat ∨ (d : Int) = h 6 q.toNat)) := fun d hd => fl_ends hx hy hd
  have m := fz_and_m (x := re) (y := fz_or (fz_shl 1 (h 5 q.toNat)) (fz_shl 1 (h 6 q.toNat))) he.1 (by omega)
  obtain ⟨d0, d1, d2⟩ := fl_nz ⟨m.1, by omega⟩ c
  rw [fz_bt_and, Bool.and_eq_true] at d2
  have d3 := (E d0 (by omega)).mp d2.2
  have r0 := j2 d0 d1 d2.1
  -- both ends are reached
  have R1 : fl_rtcC h w (h 5 q.toNat).toNat (h 6 q.toNat).toNat := ⟨q.toNat, by omega, ok, Or.inl ⟨by omega, by omega⟩⟩
  have R2 : fl_rtcC h w (h 6 q.toNat).toNat (h 5 q.toNat).toNat := ⟨q.toNat, by omega, ok, Or.inr ⟨by omega, by omega⟩⟩
  have both : (∃ m, fl_rh (fl_rtcC h w) m a.toNat (h 5 q.toNat).toNat) ∧ ∃ m, fl_rh (fl_rtcC h w) m a.toNat (h 6 q.toNat).toNat := by
    obtain ⟨_, m0, r0⟩ := r0
    rcases d3 with d3 | d3
    · have e : d0 = (h 5 q.toNat).toNat := by omega
      subst e
      exact ⟨⟨m0, r0⟩, ⟨m0 + 1, fl_rh_s r0 R1⟩⟩
    · have e : d0 = (h 6 q.toNat).toNat := by omega
      subst e
      exact ⟨⟨m0 + 1, fl_rh_s r0 R2⟩, ⟨m0, r0⟩⟩
  refine ⟨⟨hv, fun d hd z => ?_, by rw [fl_bt_or, j3]; rfl⟩, fun d hd z => by rw [fl_bt_or, j4 d hd z]; rfl, fun e r hr o b => ?_⟩
  · rw [fl_bt_or, Bool.or_eq_true] at z
    rcases z with z | z
    · exact j2 d hd z
    · rcases (E d (by omega)).mp z with y | y
      · have e : d = (h 5 q.toNat).toNat := by omega
        subst e
        exact ⟨by omega, both.1⟩
      · have e : d = (h 6 q.toNat).toNat := by omega
        subst e
        exact ⟨by omega, both.2⟩
  · have s1 : fl_sb re be := fun d hd z => by
      rw [← e, fl_bt_or, z]
      rfl
    have e2 : re = be := fl_sb_an j1 hb s1 j4
    by_cases cq : (r : Int) = q
    · have er : r = q.toNat := by omega
      subst er
      rw [← e]
      constructor
      · rw [fl_bt_or, Bool.or_eq_true]
        exact Or.inr ((E _ (by omega)).mpr (Or.inl (by omega)))
      · rw [fl_bt_or, Bool.or_eq_true]
        exact Or.inr ((E _ (by omega)).mpr (Or.inr (by omega)))
    · exact j5 e2 r (by omega) o b
theorem fl_BI_s {h : fz_H} {w a re be n q : Int} (I : fl_BI h w a be n) (J : fl_BJ h w a re be q) (ne : re ≠ be) : fl_BI h w a re (n + 1) := by
  have z := fl_sb_lt I.1.1 J.1.1 J.2.1 (fun y => ne y.symm)
  have i := I.2
  exact ⟨J.1, by omega⟩
theorem fl_BI_x {h : fz_H} {w a re n : Int} (I : fl_BI h w a re n) (hn : h 1 7 ≤ n) (h0 : 0 ≤ h 1 7) : False := by
  have z := fl_pc_le (x := re) h0 (n := 11) (fun d hd b => (I.1.2.1 d hd b).1)
  have i := I.2
  omega
theorem fl_BJ_e {h : fz_H} {w a b re be q r y : Int} (J : fl_BJ h w a re be q) (e : re = be) (hq : h 1 8 ≤ q) (hb : 0 ≤ b ∧ b < 8) (h5 : ∀ s, 0 ≤ h 5 s ∧ h 5 s ≤ 7) (h6 : ∀ s, 0 ≤ h 6 s ∧ h 6 s ≤ 7) (ha : a.toNat < 8) (v : y = fz_and (fz_shr re b) 1) (c : (y = 1 ∧ r = 1) ∨ (y ≠ 1 ∧ r = 0)) : (r = 1 ∧ fl_catC h w a b) ∨ (r = 0 ∧ ¬ fl_catC h w a b) := by
  subst e
  obtain ⟨⟨j1, j2, j3⟩, j4, j5⟩ := J
  have cl : ∀ m x d, x < 8 → fz_bt re x = true → fl_rh (fl_rtcC h w) m x d → fz_bt re d = true := by
    intro m
    induction m with
    | zero => intro x d _ bx z; rw [← show x = d from z]; exact bx
    | succ m ih =>
      rintro x d hx bx ⟨c, ⟨r, r0, r1, r2⟩, z⟩
      have k := j5 rfl r (by omega) r1
      have b5 := h5 r
      have b6 := h6 r
      rcases r2 with ⟨r2, r3⟩ | ⟨r2, r3⟩
      · have e1 : (h 5 r).toNat = x := by omega
        have e2 : (h 6 r).toNat = c := by omega
        rw [e1, e2] at k
        exact ih c d (by omega) (k (Or.inl bx)).2 z
      · have e1 : (h 5 r).toNat = c := by omega
        have e2 : (h 6 r).toNat = x := by omega
        rw [e1, e2] at k
        exact ih c d (by omega) (k (Or.inr bx)).1 z
  rw [fz_bt_1 ⟨hb.1, by omega⟩] at v
  by_cases t : fz_bt re b.toNat = true
  · rw [if_pos t] at v
    rcases c with ⟨c1, c2⟩ | ⟨c1, c2⟩
    · exact Or.inl ⟨c2, (j2 b.toNat (by omega) t).2⟩
    · exact absurd v c1
  · rw [if_neg t] at v
    rcases c with ⟨c1, c2⟩ | ⟨c1, c2⟩
    · exfalso; omega
    · exact Or.inr ⟨c2, fun ⟨m, z⟩ => t (cl m a.toNat b.toNat ha j3 z)⟩
/-! the fewest that will do -/
def fl_cI (P : Int → Prop) (n found : Int) : Prop := (found = -2 ∧ ∀ k, 0 ≤ k → k < n → fl_bc k ≤ 3 → ¬ P k) ∨ ((0 ≤ found ∧ found < n ∧ P found ∧ fl_bc found ≤ 3) ∧ ∀ k, 0 ≤ k → k < n → P k → fl_bc k ≤ 3 → fl_bc found < fl_bc k ∨ (fl_bc found = fl_bc k ∧ found ≤ k))
theorem fl_cI_0 {P : Int → Prop} : fl_cI P 0 (-2) := Or.inl ⟨rfl, fun k k0 k1 => by exfalso; omega⟩
theorem fl_cI_n {P : Int → Prop} {n found : Int} (I : fl_cI P n found) (c : 3 < fl_bc n ∨ (found ≠ -2 ∧ fl_bc found ≤ fl_bc n) ∨ ¬ P n) : fl_cI P (n + 1) found := by
  rcases I with ⟨a, b⟩ | ⟨⟨a1, a2, a3, a4⟩, b⟩
  · refine Or.inl ⟨a, fun k k0 k1 k2 k3 => ?_⟩
    by_cases e : k = n
    · subst e
      rcases c with c | c | c
      · omega
      · exact c.1 a
      · exact c k3
    · exact b k k0 (by omega) k2 k3
  · refine Or.inr ⟨⟨a1, by omega, a3, a4⟩, fun k k0 k1 k2 k3 => ?_⟩
    by_cases e : k = n
    · subst e
      rcases c with c | c | c
      · exfalso; omega
      · have := c.2
        omega
      · exact absurd k2 c
    · exact b k k0 (by omega) k2 k3
theorem fl_cI_y {P : Int → Prop} {n found : Int} (I : fl_cI P n found) (h0 : 0 ≤ n) (c3 : fl_bc n ≤ 3) (c : found = -2 ∨ fl_bc n < fl_bc found) (p : P n) : fl_cI P (n + 1) n := by
  refine Or.inr ⟨⟨h0, by omega, p, c3⟩, fun k k0 k1 k2 k3 => ?_⟩
  by_cases e : k = n
  · subst e
    exact Or.inr ⟨rfl, Int.le_refl _⟩
  · rcases I with ⟨a, b⟩ | ⟨⟨a1, a2, a3, a4⟩, b⟩
    · exact absurd k2 (b k k0 (by omega) k3)
    · have := b k k0 (by omega) k2 k3
      rcases c with c | c
      · exfalso; omega
      · omega
theorem fl_cI_e {P : Int → Prop} {n m found : Int} (I : fl_cI P n found) (e : n = m) : fl_cI P m found := by rw [← e]; exact I
theorem fl_cI_u {P Q : Int → Prop} {n f g : Int} (e : ∀ k, P k ↔ Q k) (a : fl_cI P n f) (b : fl_cI Q n g) : f = g := by
  rcases a with ⟨a, a0⟩ | ⟨⟨a1, a2, a3, a4⟩, a0⟩
  · rcases b with ⟨b, b0⟩ | ⟨⟨b1, b2, b3, b4⟩, b0⟩
    · omega
    · exact absurd ((e g).mpr b3) (a0 g b1 b2 b4)
  · rcases b with ⟨b, b0⟩ | ⟨⟨b1, b2, b3, b4⟩, b0⟩
    · exact absurd ((e f).mp a3) (b0 f a1 a2 a4)
    · have x := a0 g b1 b2 ((e g).mpr b3) b4
      have y := b0 f a1 a2 ((e f).mp a3) a4
      omega
/-- the class keeps the size besides -/
def fl_cF (fewest found : Int) : Prop := (found = -2 ∧ fewest = 4) ∨ (found ≠ -2 ∧ fewest = fl_bc found)
theorem fl_cI_nC {P : Int → Prop} {n found fewest y : Int} (I : fl_cI P n found) (F : fl_cF fewest found) (ey : y = fl_bc n) (c : fewest ≤ y) : fl_cI P (n + 1) found := by
  refine fl_cI_n I ?_
  rcases F with ⟨f1, f2⟩ | ⟨f1, f2⟩
  · exact Or.inl (by omega)
  · exact Or.inr (Or.inl ⟨f1, by omega⟩)
theorem fl_cI_yC {P : Int → Prop} {n found fewest y : Int} (I : fl_cI P n found) (F : fl_cF fewest found) (h0 : 0 ≤ n) (ey : y = fl_bc n) (c : y < fewest) (p : P n) : fl_cI P (n + 1) n := by
  rcases F with ⟨f1, f2⟩ | ⟨f1, f2⟩
  · exact fl_cI_y I h0 (by omega) (Or.inl f1) p
  · refine fl_cI_y I h0 ?_ (Or.inr (by omega)) p
    rcases I with ⟨a, _⟩ | ⟨⟨a1, a2, a3, a4⟩, _⟩
    · exact absurd a f1
    · omega
def fl_cux (f wh : Int) : Int := if f = -2 ∨ wh = 1 then f else fl_bc f
theorem fl_cux_1 {f wh : Int} (c : f = -2 ∨ wh = 1) : f = fl_cux f wh := (if_pos c).symm
theorem fl_cux_2 {f wh y : Int} (c : ¬ (f = -2 ∨ wh = 1)) (e : y = fl_bc f) : y = fl_cux f wh := by
  unfold fl_cux
  rw [if_neg c, e]
theorem fl_cF_2 {fewest f wh : Int} (F : fl_cF fewest f) (c : ¬ (f = -2 ∨ wh = 1)) : fewest = fl_cux f wh := by
  rcases F with ⟨f1, f2⟩ | ⟨f1, f2⟩
  · exact absurd (Or.inl f1) c
  · exact fl_cux_2 c f2
def fl_oC (a b d t wh : Int) : Prop := (0 ≤ d ∧ d < a) ∧ (0 ≤ t ∧ t < b) ∧ 0 ≤ wh ∧ wh ≤ 1
def fl_cuC (h : fz_H) (d t wh r : Int) : Prop := (fl_oC (h 9 5) (h 1 7) d t wh ∧ ∃ f, fl_cI (fun k => ¬ fl_catC h k (h 11 d.toNat) t) (fz_shl 1 (h 1 8)) f ∧ r = fl_cux f wh) ∨ (¬ fl_oC (h 9 5) (h 1 7) d t wh ∧ r = -1)
def fl_cuM (h : fz_H) (d t wh r : Int) : Prop := (fl_oC (h 53 10) (h 53 0) d t wh ∧ ∃ f, fl_cI (fun k => ¬ fl_catM h k (h 61 d.toNat) t) (fz_shl 1 (h 53 2)) f ∧ r = fl_cux f wh) ∨ (¬ fl_oC (h 53 10) (h 53 0) d t wh ∧ r = -1)
theorem fl_cu_eq {h h1 : fz_H} {d t wh r q : Int} (R : fl_Rl h) (k : ∀ c s : Nat, 53 ≤ c → h1 c s = h c s) (c : fl_cuC h d t wh r) (m : fl_cuM h1 d t wh q) : r = q := by
  obtain ⟨U, V, r5, r6, r3, r4, r2, hL, hP, hW, n2, n0, n9, b11, b12, b2⟩ := R
  have f : ∀ c, 53 ≤ c → h1 c = h c := fun c hc => funext fun s => k c s hc
  have e : ∀ w a b, fl_catM h1 w a b ↔ fl_catC h w a b := fun w a b => by
    unfold fl_catM fl_catC fl_rtcM fl_rtcC
    unfold fz_R5 at r5
    unfold fz_R6 at r6
    unfold fz_R4 at r4
    rw [f 55 (by decide), f 56 (by decide), f 58 (by decide), k 53 2 (by decide), n2, r5, r6, r4]
  unfold fl_cuM at m
  rw [k 53 10 (by decide), k 53 0 (by decide), k 53 2 (by decide), n9, n0, n2, k 61 _ (by decide)] at m
  rcases c with ⟨c1, g, c2, c3⟩ | ⟨c1, c2⟩
  · rcases m with ⟨m1, g2, m2, m3⟩ | ⟨m1, m2⟩
    · obtain ⟨⟨z1, z2⟩, _⟩ := c1
      have l := (hL d.toNat (by omega)).1
      rw [← l] at m2
      rw [c3, m3, fl_cI_u (fun x => not_congr (e x _ _).symm) c2 m2]
    · exact absurd c1 m1
  · rcases m with ⟨m1, m2⟩ | ⟨m1, m2⟩
    · exact absurd m1 c1
    · rw [c2, m2]
/-! the model: searched with these roads -/
def fl_cuI (H : fz_H) (had se n : Int) : Prop := ∀ r : Nat, (r : Int) < n → H 58 r = fz_and (fz_shr (fz_and had (fz_xor se (-1))) (r : Int)) 1
theorem fl_cuI_0 {H : fz_H} {had se : Int} : fl_cuI H had se 0 := fun r hr => by exfalso; omega
theorem fl_cuI_s {H H2 : fz_H} {had se n v : Int} (I : fl_cuI H had se n) (h0 : 0 ≤ n) (e : H2 = fz_up H 58 n.toNat v) (ev : v = fz_and (fz_shr (fz_and had (fz_xor se (-1))) n) 1) : fl_cuI H2 had se (n + 1) := fun r hr => by
  rw [e]
  by_cases q : r = n.toNat
  · rw [q, fz_up_e, ev, show ((n.toNat : Nat) : Int) = n by omega]
  · rw [fz_up_s q]
    exact I r (by omega)
theorem fl_wk_rh {E : Nat → Nat → Int → Prop} {R : Nat → Nat → Prop} {n : Nat} (e : ∀ a b, R a b ↔ ∃ w, E a b w) (hE : fz_Ed E n) : ∀ {m a b : Nat}, (∃ L, fz_wk E n m a b L) ↔ fl_rh R m a b
  | 0, a, b => ⟨fun ⟨L, h1, h2⟩ => h1, fun h => ⟨0, h, rfl⟩⟩
  | m + 1, a, b => by
    constructor
    · rintro ⟨L, c, w, L', h1, h2, h3, h4⟩
      exact ⟨c, (e a c).mpr ⟨w, h1⟩, (fl_wk_rh e hE).mp ⟨L', h2⟩⟩
    · rintro ⟨c, h1, h2⟩
      obtain ⟨w, hw⟩ := (e a c).mp h1
      obtain ⟨L', hL⟩ := (fl_wk_rh e hE).mpr h2
      exact ⟨w + L', c, w, L', hw, hL, rfl, Or.inr (hE a c w hw).2.2⟩
theorem fl_gf_rh {h H : fz_H} {t b : Int} {R : Nat → Nat → Prop} (g : fz_gf h H t 1) (hE : fz_Ed (fz_EM h 1) (h 53 0).toNat) (hn : h 53 0 ≤ 8) (hb : ∀ q, 0 ≤ h 55 q ∧ 0 ≤ h 56 q) (ht : 0 ≤ t ∧ t < h 53 0) (hb0 : 0 ≤ b ∧ b < h 53 0) (e : ∀ a c, R a c ↔ ∃ w, fz_EM h 1 a c w) : H 86 b.toNat ≠ -2 ↔ ∃ m, fl_rh R m t.toNat b.toNat := by
  obtain ⟨⟨g0, g1⟩, g2, g3⟩ := g
  have rx := fz_rxs_E g2 (Int.le_refl _) hb
  have t0 := g0 (by omega)
  constructor
  · intro z
    rcases g1 b.toNat (by omega) with y | ⟨_, m, y⟩
    · exact absurd y z
    · exact ⟨m, (fl_wk_rh e hE).mp ⟨_, y⟩⟩
  · rintro ⟨m, z⟩
    obtain ⟨L, w⟩ := (fl_wk_rh e hE).mpr z
    have hs : ∀ b, b < 8 → H 86 b = -2 ∨ (0 ≤ H 87 b ∧ H 87 b ≤ 7) := fun b hb => (g1 b hb).elim Or.inl (fun y => Or.inr y.1.2)
    exact (fz_rx_wk hE (by omega) rx hs (by omega) w (by rw [t0.1]; decide)).1
theorem fl_cu_h {h H G : fz_H} {d t had se y n : Int} (he : fz_heM H G d t y) (hE : fz_Ed (fz_EM H 1) (H 53 0).toNat) (hn : H 53 0 ≤ 8) (hb : ∀ q, 0 ≤ H 55 q ∧ 0 ≤ H 56 q) (ht : 0 ≤ H 61 d.toNat ∧ H 61 d.toNat < H 53 0) (hb0 : 0 ≤ t ∧ t < H 53 0) (b62 : 0 ≤ H 62 d.toNat) (b54 : 0 ≤ H 54 t.toNat) (I : fl_cuI H had se n) (cb : fz_cb (h 58) 1 had (h 53 2)) (e2 : H 53 2 = h 53 2) (en : n = h 53 2) (h12 : h 53 2 ≤ 12) (e55 : H 55 = h 55) (e56 : H 56 = h 56) (e61 : H 61 = h 61) : y = -2 ↔ ¬ fl_catM h se (h 61 d.toNat) t := by
  obtain ⟨g, ey⟩ := he
  have nn := fz_gf_nn g (b := t.toNat) (by omega)
  have R : ∀ a c, fl_rtcM h se a c ↔ ∃ w, fz_EM H 1 a c w := fun a c => by
    have ok : ∀ r : Nat, (r : Int) < h 53 2 → (H 58 r = 1 ↔ fl_ok1 (h 58) se r) := fun r hr => by
      rw [I r (by omega), fz_bt_1 ⟨by omega, by omega⟩, show ((r : Nat) : Int).toNat = r by omega]
      have cr : fz_bt had r = (decide ((r : Int) < h 53 2) && decide (h 58 r = 1)) := cb r (by omega)
      rw [decide_eq_true hr, Bool.true_and] at cr
      unfold fl_ok1
      rw [fz_bt_and, fz_bt_not (by omega), cr]
      by_cases c1 : h 58 r = 1
      · rw [decide_eq_true c1, Bool.true_and]
        cases hs : fz_bt se r with
        | true => exact ⟨fun z => absurd z (by decide), fun z => absurd rfl z.2⟩
        | false => exact ⟨fun _ => ⟨c1, by decide⟩, fun _ => rfl⟩
      · rw [decide_eq_false c1, Bool.false_and]
        exact ⟨fun z => absurd z (by decide), fun z => absurd z.1 c1⟩
    constructor
    · rintro ⟨r, r0, r1, r2⟩
      exact ⟨_, r, by rw [e2]; exact r0, Or.inr ((ok r r0).mpr r1), by rw [e55, e56]; exact r2, rfl⟩
    · rintro ⟨w, r, r0, r1, r2, _⟩
      rw [e2] at r0
      rw [e55, e56] at r2
      rcases r1 with r1 | r1
      · exact absurd r1 (by decide)
      · exact ⟨r, r0, (ok r r0).mp r1, r2⟩
  have z := fl_gf_rh g hE hn hb ht hb0 R
  unfold fl_catM
  rw [← e61, ← not_congr z, ey]
  unfold fz_hh
  rcases nn with nn | nn
  · rw [if_pos (by omega)]
    exact ⟨fun _ y => y nn, fun _ => rfl⟩
  · rw [if_neg (by omega)]
    exact ⟨fun _ => by exfalso; omega, fun y => by exfalso; exact y (by omega)⟩
/-! ===== the route of best reception ===== -/
def fl_cmr (ro su rt : Int) (s : Int × Int × Int) : Int × Int × Int := if s.1 < su ∨ (s.1 = su ∧ (ro < s.2.1 ∨ (ro = s.2.1 ∧ rt < s.2.2))) then (su, ro, rt) else s
theorem fl_cmr_y {ro su rt a b c : Int} (h : a < su ∨ (a = su ∧ (ro < b ∨ (ro = b ∧ rt < c)))) : (su, ro, rt) = fl_cmr ro su rt (a, b, c) := (if_pos h).symm
theorem fl_cmr_n {ro su rt a b c : Int} (h : ¬ (a < su ∨ (a = su ∧ (ro < b ∨ (ro = b ∧ rt < c))))) : (a, b, c) = fl_cmr ro su rt (a, b, c) := (if_neg h).symm
def fl_fo (g : Nat → Int × Int × Int → Int × Int × Int) : Nat → Int × Int × Int → Int × Int × Int
  | 0, s => s
  | k + 1, s => g k (fl_fo g k s)
def fl_ex (n : Nat) (e1 e2 le : Nat → Int) (av rv : Int → Int → Int) : Nat → Int → Int → Int → Int → Int → Int × Int × Int → Int × Int × Int
  | 0, _, _, ro, su, rt, s => fl_cmr ro su rt s
  | f + 1, fr, hr, ro, su, rt, s => fl_fo (fun r z => if fz_ac (e1 r) (e2 r) fr < 0 ∨ 999 < hr + le r ∨ av (fz_ac (e1 r) (e2 r) fr) (hr + le r) = 1 then z else fl_ex n e1 e2 le av rv f (fz_ac (e1 r) (e2 r) fr) (hr + le r) (ro + 1) (fz_w (su + rv (fz_ac (e1 r) (e2 r) fr) (hr + le r))) (rt * 8 + fz_ac (e1 r) (e2 r) fr) z) n (fl_cmr ro su rt s)
def fl_gx (n : Nat) (e1 e2 le : Nat → Int) (av rv : Int → Int → Int) (f : Nat) (fr hr ro su rt : Int) : Nat → Int × Int × Int → Int × Int × Int := fun r z => if fz_ac (e1 r) (e2 r) fr < 0 ∨ 999 < hr + le r ∨ av (fz_ac (e1 r) (e2 r) fr) (hr + le r) = 1 then z else fl_ex n e1 e2 le av rv f (fz_ac (e1 r) (e2 r) fr) (hr + le r) (ro + 1) (fz_w (su + rv (fz_ac (e1 r) (e2 r) fr) (hr + le r))) (rt * 8 + fz_ac (e1 r) (e2 r) fr) z
theorem fl_ex_s {n : Nat} {e1 e2 le : Nat → Int} {av rv : Int → Int → Int} {f : Nat} {fr hr ro su rt : Int} {s : Int × Int × Int} : fl_ex n e1 e2 le av rv (f + 1) fr hr ro su rt s = fl_fo (fl_gx n e1 e2 le av rv f fr hr ro su rt) n (fl_cmr ro su rt s) := rfl
theorem fl_gx_n {n : Nat} {e1 e2 le : Nat → Int} {av rv : Int → Int → Int} {f : Nat} {fr hr ro su rt k to c : Int} {s T : Int × Int × Int} (e : T = fl_fo (fl_gx n e1 e2 le av rv f fr hr ro su rt) k.toNat s) (h0 : 0 ≤ k) (ac : to = fz_ac (e1 k.toNat) (e2 k.toNat) fr) (ec : c = hr + le k.toNat) (h : to < 0 ∨ 999 < c ∨ av to c = 1) : T = fl_fo (fl_gx n e1 e2 le av rv f fr hr ro su rt) (k + 1).toNat s := by
  subst ac ec
  rw [show (k + 1).toNat = k.toNat + 1 by omega]
  show T = fl_gx n e1 e2 le av rv f fr hr ro su rt k.toNat (fl_fo (fl_gx n e1 e2 le av rv f fr hr ro su rt) k.toNat s)
  rw [← e]
  unfold fl_gx
  rw [if_pos h]
theorem fl_gx_y {n : Nat} {e1 e2 le : Nat → Int} {av rv : Int → Int → Int} {f : Nat} {fr hr ro su rt k to c : Int} {s T T2 : Int × Int × Int} (e : T = fl_fo (fl_gx n e1 e2 le av rv f fr hr ro su rt) k.toNat s) (h0 : 0 ≤ k) (ac : to = fz_ac (e1 k.toNat) (e2 k.toNat) fr) (ec : c = hr + le k.toNat) (h : ¬ (to < 0 ∨ 999 < c ∨ av to c = 1)) (x : T2 = fl_ex n e1 e2 le av rv f to c (ro + 1) (fz_w (su + rv to c)) (rt * 8 + to) T) : T2 = fl_fo (fl_gx n e1 e2 le av rv f fr hr ro su rt) (k + 1).toNat s := by
  subst ac ec
  rw [show (k + 1).toNat = k.toNat + 1 by omega]
  show T2 = fl_gx n e1 e2 le av rv f fr hr ro su rt k.toNat (fl_fo (fl_gx n e1 e2 le av rv f fr hr ro su rt) k.toNat s)
  rw [← e, x]
  unfold fl_gx
  rw [if_neg h]
theorem fl_fo_eq {g g' : Nat → Int × Int × Int → Int × Int × Int} : ∀ {n : Nat} {s : Int × Int × Int}, (∀ k, k < n → ∀ z, g' k z = g k z) → fl_fo g' n s = fl_fo g n s
  | 0, _, _ => rfl
  | n + 1, s, h => by
    show g' n (fl_fo g' n s) = g n (fl_fo g n s)
    rw [fl_fo_eq (fun k hk => h k (by omega)), h n (by omega)]
theorem fl_ex_eq {n : Nat} {e1 e2 le e1' e2' le' : Nat → Int} {av rv av' rv' : Int → Int → Int} {T : Int} (E : ∀ r : Nat, r < n → e1' r = e1 r ∧ e2' r = e2 r ∧ le' r = le r ∧ e1 r < T ∧ e2 r < T) (A : ∀ t x, 0 ≤ t → t < T → av' t x = av t x ∧ rv' t x = rv t x) : ∀ {f : Nat} {fr hr ro su rt : Int} {s : Int × Int × Int}, fl_ex n e1' e2' le' av' rv' f fr hr ro su rt s = fl_ex n e1 e2 le av rv f fr hr ro su rt s
  | 0, _, _, _, _, _, _ => rfl
  | f + 1, fr, hr, ro, su, rt, s => by
    rw [fl_ex_s, fl_ex_s]
    refine fl_fo_eq (fun k hk z => ?_)
    obtain ⟨a, b, c, d1, d2⟩ := E k hk
    unfold fl_gx
    rw [a, b, c]
    by_cases q : fz_ac (e1 k) (e2 k) fr < 0
    · rw [if_pos (Or.inl q), if_pos (Or.inl q)]
    · have lt : fz_ac (e1 k) (e2 k) fr < T := by
        unfold fz_ac at *
        split
        · exact d2
        · next h1 =>
          rw [if_neg h1] at q
          split
          · exact d1
          · next h2 =>
            rw [if_neg h2] at q
            exact absurd q (by decide)
      have w := A (fz_ac (e1 k) (e2 k) fr) (hr + le k) (by omega) lt
      rw [w.1, w.2]
      by_cases q2 : fz_ac (e1 k) (e2 k) fr < 0 ∨ 999 < hr + le k ∨ av (fz_ac (e1 k) (e2 k) fr) (hr + le k) = 1
      · rw [if_pos q2, if_pos q2]
      · rw [if_neg q2, if_neg q2]
        exact fl_ex_eq E A
/-! the class: receptions known -/
def fl_avC (h : fz_H) (on t x : Int) : Int := fl_ar (fl_SC h on on 1 t x) (h 27 8)
def fl_rvC (h : fz_H) (on t x : Int) : Int := fl_reC h on x t
def fl_mv (h : fz_H) (t c : Int) : Int := if fl_avC h (h 33 3) t (h 33 4 + c) = 1 then -1999999999 else fl_rvC h (h 33 3) t (h 33 4 + c)
def fl_MM (h : fz_H) : Prop := ∀ t c : Nat, t < 8 → c < 97 → h 34 (t * 97 + c) = -2000000000 ∨ h 34 (t * 97 + c) = fl_mv h t c
theorem fl_lk9 {h H : fz_H} (e2 : H 2 = h 2) (e8 : H 8 = h 8) (e9 : H 9 = h 9) (e10 : H 10 = h 10) (e11 : H 11 = h 11) (e12 : H 12 = h 12) (e13 : H 13 = h 13) (e14 : H 14 = h 14) (e15 : H 15 = h 15) (e16 : H 16 = h 16) (e17 : H 17 = h 17) : fl_SC H = fl_SC h := by
  have v := fl_vC_e (h := h) (H := H) (congrFun e15 4) e16 e17
  have l : fl_ldC H = fl_ldC h := by
    funext on t hr d
    unfold fl_ldC fz_haC
    rw [e2, e8, e11, e12, e13, e14, v]
  funext p q m t hr
  unfold fl_SC
  rw [l, e10, e13, e9]
theorem fl_mv_e {h H : fz_H} (s : fl_SC H = fl_SC h) (e28 : H 28 = h 28) (e27 : H 27 8 = h 27 8) (a3 : H 33 3 = h 33 3) (a4 : H 33 4 = h 33 4) : fl_mv H = fl_mv h := by
  funext t c
  unfold fl_mv fl_avC fl_rvC fl_reC
  rw [s, e28, e27, a3, a4]
theorem fl_MM_eq {h H : fz_H} (e34 : H 34 = h 34) (a3 : H 33 3 = h 33 3) (a4 : H 33 4 = h 33 4) (e28 : H 28 = h 28) (e27 : H 27 8 = h 27 8) (e2 : H 2 = h 2) (e8 : H 8 = h 8) (e9 : H 9 = h 9) (e10 : H 10 = h 10) (e11 : H 11 = h 11) (e12 : H 12 = h 12) (e13 : H 13 = h 13) (e14 : H 14 = h 14) (e15 : H 15 = h 15) (e16 : H 16 = h 16) (e17 : H 17 = h 17) (M : fl_MM h) : fl_MM H := by
  have m := fl_mv_e (fl_lk9 e2 e8 e9 e10 e11 e12 e13 e14 e15 e16 e17) e28 e27 a3 a4
  intro t c ht hc
  rw [e34, m]
  exact M t c ht hc
theorem fl_MM_u {h : fz_H} {v : Int} (u : ∀ s : Nat, s < 776 → h 34 s = v) (hv : v = -2000000000) : fl_MM h := fun t c ht hc => Or.inl (by rw [u _ (by omega), hv])
theorem fl_MM_st {H H2 : fz_H} {p t c v : Int} (M : fl_MM H) (e : H2 = fz_up H 34 p.toNat v) (hp : p = t * 97 + c) (ht : 0 ≤ t ∧ t < 8) (hc : 0 ≤ c ∧ c < 97) (hv : v = fl_mv H t c) : fl_MM H2 := by
  have f : ∀ x, x ≠ 34 → H2 x = H x := fun x hx => by rw [e, fz_up_ne hx]
  have m : fl_mv H2 = fl_mv H := fl_mv_e (fl_lk9 (f 2 (by decide)) (f 8 (by decide)) (f 9 (by decide)) (f 10 (by decide)) (f 11 (by decide)) (f 12 (by decide)) (f 13 (by decide)) (f 14 (by decide)) (f 15 (by decide)) (f 16 (by decide)) (f 17 (by decide))) (f 28 (by decide)) (congrFun (f 27 (by decide)) 8) (congrFun (f 33 (by decide)) 3) (congrFun (f 33 (by decide)) 4)
  intro a b ha hb
  rw [m, e]
  by_cases q : a * 97 + b = p.toNat
  · have q1 : a = t.toNat := by omega
    have q2 : b = c.toNat := by omega
    right
    rw [q, fz_up_e, hv, q1, q2, show ((t.toNat : Nat) : Int) = t by omega, show ((c.toNat : Nat) : Int) = c by omega]
  · rw [fz_up_s q]
    exact M a b ha hb
/-- how well one is received lies within bounds -/
theorem fl_rp_b {v w : Nat → Int} : ∀ {n : Nat}, n ≤ 5 → (∀ k, k < n → 0 ≤ v k ∧ v k ≤ 99) → (∀ k, k < n → -9 ≤ w k ∧ w k ≤ 9) → -891 * (n : Int) ≤ fl_rp v w n ∧ fl_rp v w n ≤ 891 * (n : Int)
  | 0, _, _, _ => ⟨Int.le_refl 0, Int.le_refl 0⟩
  | n + 1, h5, hv, hw => by
    have a := fl_rp_b (v := v) (w := w) (n := n) (by omega) (fun k hk => hv k (by omega)) (fun k hk => hw k (by omega))
    have b := hv n (by omega)
    have c := hw n (by omega)
    have p1 : v n * w n ≤ v n * 9 := Int.mul_le_mul_of_nonneg_left c.2 b.1
    have p2 : v n * (-9) ≤ v n * w n := Int.mul_le_mul_of_nonneg_left c.1 b.1
    have e1 : fz_w (v n * w n) = v n * w n := fz_w_id (by omega) (by omega)
    show _ ≤ fz_w (fl_rp v w n + fz_w (v n * w n)) ∧ fz_w (fl_rp v w n + fz_w (v n * w n)) ≤ _
    rw [e1, fz_w_id (by omega) (by omega)]
    omega
theorem fl_SC_b {h : fz_H} {p q m t hr : Int} (b2 : ∀ s, 0 ≤ h 2 s) (b14 : ∀ s, h 14 s ≤ 9) : 0 ≤ fl_SC h p q m t hr ∧ fl_SC h p q m t hr ≤ 99 := fl_sl_b (fun k _ => fl_ldC_b (b2 _) (b14 _))
theorem fl_rvC_b {h : fz_H} {on t x : Int} (b2 : ∀ s, 0 ≤ h 2 s) (b14 : ∀ s, h 14 s ≤ 9) (b28 : ∀ s, -9 ≤ h 28 s ∧ h 28 s ≤ 9) : -4455 ≤ fl_rvC h on t x ∧ fl_rvC h on t x ≤ 4455 := fl_rp_b (n := 5) (by decide) (fun k _ => fl_SC_b b2 b14) (fun k _ => b28 k)
theorem fl_mv_a {h A : fz_H} {on t x c y : Int} (vo : ∀ m : Nat, m < 5 → A 29 m = fl_SC h on on m t x) (es : fl_SC A = fl_SC h) (ia : (y = 1 ∧ 0 < A 29 1 ∧ A 27 8 ≤ A 29 1) ∨ (y = 0 ∧ ¬ (0 < A 29 1 ∧ A 27 8 ≤ A 29 1))) (eo : on = A 33 3) (ex : x = A 33 4 + c) (hy : y = 1) : -1999999999 = fl_mv A t c := by
  subst eo
  subst ex
  unfold fl_mv fl_avC fl_ar
  rcases ia with ⟨_, i⟩ | ⟨i, _⟩
  · have e : A 29 1 = fl_SC A (A 33 3) (A 33 3) 1 t (A 33 4 + c) := by rw [es]; exact vo 1 (by decide)
    rw [← e, if_pos i, if_pos rfl]
  · exfalso; omega
theorem fl_mv_r {h A : fz_H} {on t x c y v : Int} (vo : ∀ m : Nat, m < 5 → A 29 m = fl_SC h on on m t x) (es : fl_SC A = fl_SC h) (ia : (y = 1 ∧ 0 < A 29 1 ∧ A 27 8 ≤ A 29 1) ∨ (y = 0 ∧ ¬ (0 < A 29 1 ∧ A 27 8 ≤ A 29 1))) (eo : on = A 33 3) (ex : x = A 33 4 + c) (hy : y = 0) (rc : v = fl_rp (A 29) (A 28) 5) : v = fl_mv A t c := by
  subst eo
  subst ex
  unfold fl_mv fl_avC fl_ar fl_rvC fl_reC
  rcases ia with ⟨i, _⟩ | ⟨_, i⟩
  · exfalso; omega
  · have e : A 29 1 = fl_SC A (A 33 3) (A 33 3) 1 t (A 33 4 + c) := by rw [es]; exact vo 1 (by decide)
    rw [← e, if_neg i, if_neg (by decide), rc]
    exact fl_rp_eq (fun k hk => ⟨by rw [es]; exact vo k hk, rfl⟩)
theorem fl_rp_vb {h A : fz_H} {on t x v : Int} (vo : ∀ m : Nat, m < 5 → A 29 m = fl_SC h on on m t x) (b2 : ∀ s, 0 ≤ h 2 s) (b14 : ∀ s, h 14 s ≤ 9) (b28 : ∀ s, -9 ≤ A 28 s ∧ A 28 s ≤ 9) (rc : v = fl_rp (A 29) (A 28) 5) : -4455 ≤ v ∧ v ≤ 4455 := by
  rw [rc]
  exact fl_rp_b (n := 5) (by decide) (fun k hk => by rw [vo k hk]; exact fl_SC_b b2 b14) (fun k _ => b28 k)
theorem fl_mv_at {h H : fz_H} {p t c z : Int} (M : fl_MM H) (q : H 34 p.toNat = z) (hp : p = t * 97 + c) (ht : 0 ≤ t ∧ t < 8) (hc : 0 ≤ c ∧ c < 97) (nu : z ≠ -2000000000) (e : fl_mv H = fl_mv h) : z = fl_mv h t c := by
  have m := M t.toNat c.toNat (by omega) (by omega)
  rw [show t.toNat * 97 + c.toNat = p.toNat by omega, q, e, show ((t.toNat : Nat) : Int) = t by omega, show ((c.toNat : Nat) : Int) = c by omega] at m
  exact m.resolve_left nu
def fl_exC (h : fz_H) (f : Nat) (fr hr ro su rt : Int) (s : Int × Int × Int) : Int × Int × Int := fl_ex (h 1 8).toNat (h 5) (h 6) (h 3) (fl_avC h (h 33 3)) (fl_rvC h (h 33 3)) f fr (h 33 4 + hr) ro su rt s
def fl_gxC (h : fz_H) (f : Nat) (fr hr ro su rt : Int) : Nat → Int × Int × Int → Int × Int × Int := fl_gx (h 1 8).toNat (h 5) (h 6) (h 3) (fl_avC h (h 33 3)) (fl_rvC h (h 33 3)) f fr (h 33 4 + hr) ro su rt
def fl_lkX : List Nat := [1, 2, 3, 5, 6, 8, 9, 10, 11, 12, 13, 14, 15, 16, 17, 27, 28]
theorem fl_kX {S : List (Nat × Nat)} {h H : fz_H} (f : fz_fr S h H) (hs : S.all (fun q => !(fl_lkX.any (Nat.beq q.1))) = true) : ∀ c, fl_lkX.any (fun x => Nat.beq c x) = true → H c = h c := fun c hc => funext fun s => fl_fr_c f hs hc
theorem fl_SC_kX {S : List (Nat × Nat)} {h H : fz_H} (f : fz_fr S h H) (hs : S.all (fun q => !(fl_lkX.any (Nat.beq q.1))) = true) : fl_SC H = fl_SC h := by
  have k := fl_kX f hs
  exact fl_lk9 (k 2 rfl) (k 8 rfl) (k 9 rfl) (k 10 rfl) (k 11 rfl) (k 12 rfl) (k 13 rfl) (k 14 rfl) (k 15 rfl) (k 16 rfl) (k 17 rfl)
theorem fl_mv_fr {S : List (Nat × Nat)} {h H : fz_H} (f : fz_fr S h H) (hs : S.all (fun q => !(fl_lkX.any (Nat.beq q.1))) = true) (a3 : H 33 3 = h 33 3) (a4 : H 33 4 = h 33 4) : fl_mv H = fl_mv h :=
  fl_mv_e (fl_SC_kX f hs) (fl_kX f hs 28 rfl) (congrFun (fl_kX f hs 27 rfl) 8) a3 a4
theorem fl_exC_fr {S : List (Nat × Nat)} {h H : fz_H} (f : fz_fr S h H) (hs : S.all (fun q => !(fl_lkX.any (Nat.beq q.1))) = true) (a3 : H 33 3 = h 33 3) (a4 : H 33 4 = h 33 4) : fl_exC H = fl_exC h := by
  have k := fl_kX f hs
  have s := fl_SC_kX f hs
  have a : fl_avC H = fl_avC h := by
    funext on t x
    unfold fl_avC
    rw [s, k 27 rfl]
  have r : fl_rvC H = fl_rvC h := by
    funext on t x
    unfold fl_rvC fl_reC
    rw [s, k 28 rfl]
  funext g fr hr ro su rt z
  unfold fl_exC
  rw [a, r, a3, a4, k 1 rfl, k 5 rfl, k 6 rfl, k 3 rfl]
theorem fl_rgC_n {h : fz_H} {f : Nat} {fr hr ro su rt k to c : Int} {s T : Int × Int × Int} (e : T = fl_fo (fl_gxC h f fr hr ro su rt) k.toNat s) (h0 : 0 ≤ k) (ac : to = fz_ac (h 5 k.toNat) (h 6 k.toNat) fr) (ec : c = hr + h 3 k.toNat) (x : to < 0 ∨ 999 < h 33 4 + c) : T = fl_fo (fl_gxC h f fr hr ro su rt) (k + 1).toNat s := fl_gx_n e h0 ac (c := h 33 4 + c) (by omega) (x.elim Or.inl (fun z => Or.inr (Or.inl z)))
theorem fl_rgC_a {h : fz_H} {f : Nat} {fr hr ro su rt k to c z : Int} {s T : Int × Int × Int} (e : T = fl_fo (fl_gxC h f fr hr ro su rt) k.toNat s) (h0 : 0 ≤ k) (ac : to = fz_ac (h 5 k.toNat) (h 6 k.toNat) fr) (ec : c = hr + h 3 k.toNat) (m : z = fl_mv h to c) (b2 : ∀ s, 0 ≤ h 2 s) (b14 : ∀ s, h 14 s ≤ 9) (b28 : ∀ s, -9 ≤ h 28 s ∧ h 28 s ≤ 9) (hz : z = -1999999999) : T = fl_fo (fl_gxC h f fr hr ro su rt) (k + 1).toNat s := by
  refine fl_gx_n e h0 ac (c := h 33 4 + c) (by omega) (Or.inr (Or.inr ?_))
  refine Classical.byContradiction (fun q => ?_)
  have b := fl_rvC_b (h := h) (on := h 33 3) (t := to) (x := h 33 4 + c) b2 b14 b28
  unfold fl_mv at m
  rw [if_neg q] at m
  omega
theorem fl_rgC_y {h : fz_H} {f : Nat} {fr hr ro su rt k to c z : Int} {s T T2 : Int × Int × Int} (e : T = fl_fo (fl_gxC h f fr hr ro su rt) k.toNat s) (h0 : 0 ≤ k) (ac : to = fz_ac (h 5 k.toNat) (h 6 k.toNat) fr) (ec : c = hr + h 3 k.toNat) (c0 : 0 ≤ to) (c1 : h 33 4 + c ≤ 999) (m : z = fl_mv h to c) (hz : z ≠ -1999999999) (x : T2 = fl_exC h f to c (ro + 1) (fz_w (su + z)) (rt * 8 + to) T) : T2 = fl_fo (fl_gxC h f fr hr ro su rt) (k + 1).toNat s := by
  unfold fl_mv at m
  have q : ¬ fl_avC h (h 33 3) to (h 33 4 + c) = 1 := fun q => by
    rw [if_pos q] at m
    exact hz m
  rw [if_neg q] at m
  refine fl_gx_y e h0 ac (c := h 33 4 + c) (by omega) (fun w => ?_) (by rw [← m]; exact x)
  rcases w with w | w | w
  · omega
  · omega
  · exact q w
theorem fl_rgC_e {h : fz_H} {f : Nat} {fr hr ro su rt k : Int} {s T : Int × Int × Int} (e : T = fl_fo (fl_gxC h f fr hr ro su rt) k.toNat (fl_cmr ro su rt s)) (hk : k = h 1 8) : T = fl_exC h (f + 1) fr hr ro su rt s := by
  subst hk
  exact e
/-- the whole search -/
def fl_seC (h : fz_H) (on fr hr : Int) : Int × Int × Int := fl_ex (h 1 8).toNat (h 5) (h 6) (h 3) (fl_avC h on) (fl_rvC h on) 4 fr hr 0 0 0 (0, 0, 0)
theorem fl_seC_in {S : List (Nat × Nat)} {h H : fz_H} {on fr hr a b c : Int} {T : Int × Int × Int} (f : fz_fr S h H) (hs : S.all (fun q => !(fl_lkX.any (Nat.beq q.1))) = true) (a3 : H 33 3 = on) (a4 : H 33 4 = hr) (ha : a = 0) (hb : b = 0) (hc : c = 0) (x : T = fl_exC H 4 fr 0 0 0 0 (a, b, c)) : T = fl_seC h on fr hr := by
  have k := fl_kX f hs
  have s := fl_SC_kX f hs
  have av : fl_avC H = fl_avC h := by
    funext on t x
    unfold fl_avC
    rw [s, k 27 rfl]
  have r : fl_rvC H = fl_rvC h := by
    funext on t x
    unfold fl_rvC fl_reC
    rw [s, k 28 rfl]
  subst ha
  subst hb
  subst hc
  rw [x]
  unfold fl_exC fl_seC
  rw [av, r, a3, a4, k 1 rfl, k 5 rfl, k 6 rfl, k 3 rfl, show hr + 0 = hr by omega]
def fl_tA (br bt k : Int) : Int := if k < 0 ∨ br ≤ k then -2 else fz_and (fz_shr bt (3 * (br - 1 - k))) 7
theorem fl_tA_n {br bt k : Int} (h : k < 0 ∨ br ≤ k) : -2 = fl_tA br bt k := (if_pos h).symm
theorem fl_tA_y {br bt k r : Int} (h : ¬ (k < 0 ∨ br ≤ k)) (e : r = fz_and (fz_shr bt (3 * (br - 1 - k))) 7) : r = fl_tA br bt k := by
  unfold fl_tA
  rw [if_neg h, e]
def fl_rox (s : Int × Int × Int) (k : Int) : Int := if k = -1 then s.1 else fl_tA s.2.1 s.2.2 k
theorem fl_rox_1 {a b c k : Int} {s : Int × Int × Int} (e : (a, b, c) = s) (h : k = -1) : a = fl_rox s k := by
  rw [← e]
  exact (if_pos h).symm
theorem fl_rox_2 {a b c k r : Int} {s : Int × Int × Int} (e : (a, b, c) = s) (h : k ≠ -1) (x : r = fl_tA b c k) : r = fl_rox s k := by
  rw [← e, x]
  exact (if_neg h).symm
def fl_oRo (b on th k : Int) : Prop := (0 ≤ on ∧ on < 4) ∧ (0 ≤ th ∧ th / 1000 < b) ∧ -1 ≤ k
def fl_rtCC (h : fz_H) (on th k r : Int) : Prop := (fl_oRo (h 1 7) on th k ∧ r = fl_rox (fl_seC h on (th / 1000) (th % 1000)) k) ∨ (¬ fl_oRo (h 1 7) on th k ∧ r = -2000000000)
/-! the model: towns tried -/
def fl_num (a : Nat → Int) : Nat → Int
  | 0 => 0
  | k + 1 => fl_num a k * 8 + a k
theorem fl_num_b {a : Nat → Int} (ha : ∀ s, 0 ≤ a s ∧ a s ≤ 7) : ∀ {k : Nat}, 0 ≤ fl_num a k
  | 0 => Int.le_refl 0
  | k + 1 => by
    have x := fl_num_b ha (k := k)
    have y := ha k
    show 0 ≤ fl_num a k * 8 + a k
    omega
theorem fl_num_eq {a b : Nat → Int} : ∀ {k : Nat}, (∀ i, i < k → a i = b i) → fl_num a k = fl_num b k
  | 0, _ => rfl
  | k + 1, h => by
    show fl_num a k * 8 + a k = fl_num b k * 8 + b k
    rw [fl_num_eq (fun i hi => h i (by omega)), h k (by omega)]
theorem fl_num_lt {a b : Nat → Int} (ha : ∀ s, 0 ≤ a s ∧ a s ≤ 7) (hb : ∀ s, 0 ≤ b s ∧ b s ≤ 7) {i : Nat} (e : ∀ j, j < i → a j = b j) (l : a i < b i) : ∀ {d : Nat}, fl_num a (i + 1 + d) < fl_num b (i + 1 + d)
  | 0 => by
    show fl_num a i * 8 + a i < fl_num b i * 8 + b i
    rw [fl_num_eq e]
    omega
  | d + 1 => by
    have x := fl_num_lt ha hb e l (d := d)
    have p := ha (i + 1 + d)
    have q := hb (i + 1 + d)
    show fl_num a (i + 1 + d) * 8 + a (i + 1 + d) < fl_num b (i + 1 + d) * 8 + b (i + 1 + d)
    omega
def fl_S3 (h : fz_H) : Int × Int × Int := (h 53 54, h 53 55, fl_num (h 89) (h 53 55).toNat)
def fl_ahM2 (h : fz_H) (n : Int) : Prop := n < h 53 55 ∨ (n = h 53 55 ∧ fl_num (h 90) n.toNat < fl_num (h 89) n.toNat)
def fl_aI (h : fz_H) (n : Int) : Prop := ∀ j : Nat, (j : Int) < n → h 90 j = h 89 j
theorem fl_aI_0 {h : fz_H} : fl_aI h 0 := fun j hj => by exfalso; omega
theorem fl_aI_s {h : fz_H} {n x y : Int} (I : fl_aI h n) (h0 : 0 ≤ n) (ex : x = h 90 n.toNat) (ey : y = h 89 n.toNat) (e : x = y) : fl_aI h (n + 1) := fun j hj => by
  by_cases q : (j : Int) = n
  · have : j = n.toNat := by omega
    rw [this, ← ex, ← ey, e]
  · exact I j (by omega)
theorem fl_aI_l {h : fz_H} {n m x y r : Int} (I : fl_aI h n) (h0 : 0 ≤ n ∧ n < m) (em : m = h 53 55) (ha : ∀ s, 0 ≤ h 90 s ∧ h 90 s ≤ 7) (hb : ∀ s, 0 ≤ h 89 s ∧ h 89 s ≤ 7) (ex : x = h 90 n.toNat) (ey : y = h 89 n.toNat) (c : (x < y ∧ r = 1) ∨ (y < x ∧ r = 0)) : (r = 1 ∧ fl_ahM2 h m) ∨ (r = 0 ∧ ¬ fl_ahM2 h m) := by
  have eI : ∀ j, j < n.toNat → h 90 j = h 89 j := fun j hj => I j (by omega)
  have k : m.toNat = n.toNat + 1 + (m.toNat - n.toNat - 1) := by omega
  rcases c with ⟨c1, c2⟩ | ⟨c1, c2⟩
  · refine Or.inl ⟨c2, Or.inr ⟨em, ?_⟩⟩
    rw [k]
    exact fl_num_lt ha hb eI (by rw [← ex, ← ey]; exact c1)
  · refine Or.inr ⟨c2, fun z => ?_⟩
    rcases z with z | ⟨_, z⟩
    · omega
    · have w := fl_num_lt hb ha (fun j hj => (eI j hj).symm) (show h 89 n.toNat < h 90 n.toNat by rw [← ex, ← ey]; exact c1) (d := m.toNat - n.toNat - 1)
      rw [← k] at w
      omega
theorem fl_aI_e {h : fz_H} {n m r : Int} (I : fl_aI h n) (hn : m ≤ n) (em : m = h 53 55) (hr : r = 0) : (r = 1 ∧ fl_ahM2 h m) ∨ (r = 0 ∧ ¬ fl_ahM2 h m) := by
  refine Or.inr ⟨hr, fun z => ?_⟩
  rcases z with z | ⟨_, z⟩
  · omega
  · rw [fl_num_eq (a := h 90) (b := h 89) (fun i hi => I i (by omega))] at z
    omega
theorem fl_aI_m {h : fz_H} {m r : Int} (c : (m < h 53 55 ∧ r = 1) ∨ (h 53 55 < m ∧ r = 0)) : (r = 1 ∧ fl_ahM2 h m) ∨ (r = 0 ∧ ¬ fl_ahM2 h m) := by
  rcases c with ⟨c1, c2⟩ | ⟨c1, c2⟩
  · exact Or.inl ⟨c2, Or.inl c1⟩
  · refine Or.inr ⟨c2, fun z => ?_⟩
    rcases z with z | ⟨z, _⟩ <;> omega
/-- a better one is kept -/
def fl_cpI (h H : fz_H) (n : Int) : Prop := ∀ j : Nat, (j : Int) < n → H 89 j = h 90 j
theorem fl_cpI_0 {h H : fz_H} : fl_cpI h H 0 := fun j hj => by exfalso; omega
theorem fl_cpI_s {h H H2 : fz_H} {n v : Int} (I : fl_cpI h H n) (h0 : 0 ≤ n) (e : H2 = fz_up H 89 n.toNat v) (ev : v = h 90 n.toNat) : fl_cpI h H2 (n + 1) := fun j hj => by
  rw [e]
  by_cases q : j = n.toNat
  · rw [q, fz_up_e, ev]
  · rw [fz_up_s q]
    exact I j (by omega)
theorem fl_keep_y {h H : fz_H} {su ro n : Int} (I : fl_cpI h H n) (hn : ro ≤ n) (h0 : 0 ≤ ro) (e54 : H 53 54 = su) (e55 : H 53 55 = ro) (c : h 53 54 < su ∨ (h 53 54 = su ∧ fl_ahM2 h ro)) : fl_S3 H = fl_cmr ro su (fl_num (h 90) ro.toNat) (fl_S3 h) := by
  have e : fl_num (H 89) ro.toNat = fl_num (h 90) ro.toNat := fl_num_eq (fun i hi => I i (by omega))
  unfold fl_S3
  rw [e54, e55, e]
  refine fl_cmr_y ?_
  rcases c with c | ⟨c1, a⟩
  · exact Or.inl c
  · refine Or.inr ⟨c1, ?_⟩
    rcases a with a | ⟨a1, a2⟩
    · exact Or.inl a
    · exact Or.inr ⟨a1, by rw [← a1]; exact a2⟩
theorem fl_keep_n {h : fz_H} {su ro : Int} (c : su < h 53 54 ∨ (h 53 54 = su ∧ ¬ fl_ahM2 h ro)) : fl_S3 h = fl_cmr ro su (fl_num (h 90) ro.toNat) (fl_S3 h) := by
  refine fl_cmr_n ?_
  rintro (z | ⟨z1, z2⟩)
  · rcases c with c | c <;> omega
  · rcases c with c | ⟨_, a⟩
    · omega
    · refine a ?_
      rcases z2 with z2 | ⟨z2, z3⟩
      · exact Or.inl z2
      · exact Or.inr ⟨z2, by rw [← z2] at z3; exact z3⟩
theorem fl_S3_e {h H : fz_H} (e54 : H 53 54 = h 53 54) (e55 : H 53 55 = h 53 55) (e89 : H 89 = h 89) : fl_S3 H = fl_S3 h := by
  unfold fl_S3
  rw [e54, e55, e89]
theorem fl_S3_0 {h : fz_H} (e54 : h 53 54 = 0) (e55 : h 53 55 = 0) : fl_S3 h = (0, 0, 0) := by
  unfold fl_S3
  rw [e54, e55]
  rfl
def fl_avT (h : fz_H) (pe t x : Int) : Int := fl_ar (fl_ST h pe 1 t x) (h 53 8)
def fl_rvT (h : fz_H) (pe t x : Int) : Int := fl_rp (fun k : Nat => fl_ST h pe (k : Int) t x) (h 59) 5
def fl_exM (h : fz_H) (pe : Int) (f : Nat) (fr hr ro su rt : Int) (s : Int × Int × Int) : Int × Int × Int := fl_ex (h 53 2).toNat (h 55) (h 56) (h 57) (fl_avT h pe) (fl_rvT h pe) f fr hr ro su rt s
def fl_gxM (h : fz_H) (pe : Int) (f : Nat) (fr hr ro su rt : Int) : Nat → Int × Int × Int → Int × Int × Int := fl_gx (h 53 2).toNat (h 55) (h 56) (h 57) (fl_avT h pe) (fl_rvT h pe) f fr hr ro su rt
theorem fl_exM_fr {S : List (Nat × Nat)} {h H : fz_H} (f : fz_fr S h H) (h1 : fl_f53 S = true) (e55 : H 55 = h 55) (e56 : H 56 = h 56) (e57 : H 57 = h 57) (e59 : H 59 = h 59) (a2 : H 53 2 = h 53 2) (a8 : H 53 8 = h 53 8) : fl_exM H = fl_exM h ∧ fl_avT H = fl_avT h ∧ fl_rvT H = fl_rvT h := by
  have s := fl_ST_fr f h1
  have a : fl_avT H = fl_avT h := by
    funext pe t x
    unfold fl_avT
    rw [s, a8]
  have r : fl_rvT H = fl_rvT h := by
    funext pe t x
    unfold fl_rvT
    rw [s, e59]
  refine ⟨?_, a, r⟩
  funext pe g fr hr ro su rt z
  unfold fl_exM
  rw [a, r, a2, e55, e56, e57]
theorem fl_rgM_n {h : fz_H} {pe : Int} {f : Nat} {fr hr ro su rt k to c : Int} {s T : Int × Int × Int} (e : T = fl_fo (fl_gxM h pe f fr hr ro su rt) k.toNat s) (h0 : 0 ≤ k) (ac : to = fz_ac (h 55 k.toNat) (h 56 k.toNat) fr) (ec : c = hr + h 57 k.toNat) (x : to < 0 ∨ 999 < c) : T = fl_fo (fl_gxM h pe f fr hr ro su rt) (k + 1).toNat s := fl_gx_n e h0 ac ec (x.elim Or.inl (fun z => Or.inr (Or.inl z)))
theorem fl_rgM_a {h H : fz_H} {pe : Int} {f : Nat} {fr hr ro su rt k to c y : Int} {s T : Int × Int × Int} (e : T = fl_fo (fl_gxM h pe f fr hr ro su rt) k.toNat s) (h0 : 0 ≤ k) (ac : to = fz_ac (h 55 k.toNat) (h 56 k.toNat) fr) (ec : c = hr + h 57 k.toNat) (ia : (y = 1 ∧ 0 < fl_ST H pe 1 to c ∧ H 53 8 ≤ fl_ST H pe 1 to c) ∨ (y = 0 ∧ ¬ (0 < fl_ST H pe 1 to c ∧ H 53 8 ≤ fl_ST H pe 1 to c))) (av : fl_avT H = fl_avT h) (hy : y = 1) : T = fl_fo (fl_gxM h pe f fr hr ro su rt) (k + 1).toNat s := by
  refine fl_gx_n e h0 ac ec (Or.inr (Or.inr ?_))
  rw [← av]
  have z := fl_ar_in ia (d := y) (by omega)
  exact z.symm.trans hy
theorem fl_rgM_y {h H G : fz_H} {pe : Int} {f : Nat} {fr hr ro su rt k to c y v r2 : Int} {s T T2 : Int × Int × Int} (e : T = fl_fo (fl_gxM h pe f fr hr ro su rt) k.toNat s) (h0 : 0 ≤ k) (ac : to = fz_ac (h 55 k.toNat) (h 56 k.toNat) fr) (ec : c = hr + h 57 k.toNat) (c0 : 0 ≤ to) (c1 : c ≤ 999) (ia : (y = 1 ∧ 0 < fl_ST H pe 1 to c ∧ H 53 8 ≤ fl_ST H pe 1 to c) ∨ (y = 0 ∧ ¬ (0 < fl_ST H pe 1 to c ∧ H 53 8 ≤ fl_ST H pe 1 to c))) (av : fl_avT H = fl_avT h) (hy : y = 0) (rc : v = fl_rp (fun k : Nat => fl_ST G pe (k : Int) to c) (G 59) 5) (rv : fl_rvT G = fl_rvT h) (er : r2 = rt * 8 + to) (x : T2 = fl_exM h pe f to c (ro + 1) (fz_w (su + v)) r2 T) : T2 = fl_fo (fl_gxM h pe f fr hr ro su rt) (k + 1).toNat s := by
  subst er
  have z := fl_ar_in ia (d := y) (by omega)
  have z2 : fl_avT h pe to c = y := by rw [← av]; exact z.symm
  have z3 : v = fl_rvT h pe to c := by rw [← rv]; exact rc
  refine fl_gx_y e h0 ac ec (fun w => ?_) (by rw [← z3]; exact x)
  rcases w with w | w | w
  · omega
  · omega
  · rw [z2] at w; omega
theorem fl_rgM_z {h B : fz_H} {pe : Int} {f : Nat} {to c ro su r2 : Int} {T T2 : Int × Int × Int} (x : T2 = fl_exM B pe f to c ro su r2 (fl_S3 B)) (xf : fl_exM B = fl_exM h) (sB : fl_S3 B = T) : T2 = fl_exM h pe f to c ro su r2 T := by rw [x, xf, sB]
theorem fl_exC_hh {S : List (Nat × Nat)} {h H : fz_H} {g : Nat} {fr hr ro su rt : Int} {z T : Int × Int × Int} (f : fz_fr S h H) (hs : S.all (fun q => !(fl_lkX.any (Nat.beq q.1))) = true) (a3 : H 33 3 = h 33 3) (a4 : H 33 4 = h 33 4) (x : T = fl_exC H g fr hr ro su rt z) : T = fl_exC h g fr hr ro su rt z := by
  rw [x, fl_exC_fr f hs a3 a4]
theorem fl_rgM_e {h : fz_H} {pe : Int} {f : Nat} {fr hr ro su rt k : Int} {s T : Int × Int × Int} (e : T = fl_fo (fl_gxM h pe f fr hr ro su rt) k.toNat (fl_cmr ro su rt s)) (hk : k = h 53 2) : T = fl_exM h pe (f + 1) fr hr ro su rt s := by
  subst hk
  exact e
/-- towns already tried stay -/
def fl_t90 (h H : fz_H) (n : Int) : Prop := ∀ j : Nat, (j : Int) < n → H 90 j = h 90 j
theorem fl_t90_e {h G H : fz_H} {n : Int} (t : fl_t90 h G n) (e : H 90 = G 90) : fl_t90 h H n := fun j hj => by
  rw [e]
  exact t j hj
theorem fl_t90_up {h G H : fz_H} {n m v : Int} (t : fl_t90 h G n) (h0 : 0 ≤ m) (e : H = fz_up G 90 m.toNat v) (hm : n ≤ m) : fl_t90 h H n := fun j hj => by
  rw [e, fz_up_s (by omega)]
  exact t j hj
theorem fl_t90_tr {h G H : fz_H} {n m : Int} (t : fl_t90 h G n) (u : fl_t90 G H m) (hm : n ≤ m) : fl_t90 h H n := fun j hj => by
  rw [u j (by omega)]
  exact t j hj
theorem fl_num_up {h G H : fz_H} {n : Nat} {m v : Int} (t : fl_t90 h G m) (em : m.toNat = n) (h0 : 0 ≤ m) (e : H 90 = fz_up G 90 m.toNat v 90) : fl_num (H 90) (n + 1) = fl_num (h 90) n * 8 + v := by
  show fl_num (H 90) n * 8 + H 90 n = _
  rw [e, fl_num_eq (a := fz_up G 90 m.toNat v 90) (b := h 90) (k := n) (fun i hi => by rw [fz_up_s (by omega)]; exact t i (by omega)), ← em, fz_up_e]
/-- the whole search of the model -/
noncomputable def fl_seM (h : fz_H) (pe fr hr : Int) : Int × Int × Int := fl_ex (h 53 2).toNat (h 55) (h 56) (h 57) (fun t x => fl_ar (fl_SM h pe 1 t x) (h 53 8)) (fun t x => fl_reM h pe x t) 4 fr hr 0 0 0 (0, 0, 0)
theorem fl_seM_in {S : List (Nat × Nat)} {h H : fz_H} {pe fr hr su rt : Int} {T s : Int × Int × Int} (f : fz_fr S h H) (hs : fl_okS S = true) (TT : fl_HTh h H) (hM : fz_RM h) (hs0 : s = (0, 0, 0)) (hsu : su = 0) (hrt : rt = 0) (x : T = fl_exM H pe 4 fr hr 0 su rt s) : T = fl_seM h pe fr hr := by
  subst hs0 hsu hrt
  rw [x]
  unfold fl_exM fl_seM
  rw [fl_okG_s (s := 2) f hs rfl rfl, fl_okG_c (c := 55) f hs rfl, fl_okG_c (c := 56) f hs rfl, fl_okG_c (c := 57) f hs rfl]
  refine fl_ex_eq (T := h 53 0) (fun r hr => ⟨rfl, rfl, rfl, hM r (by omega)⟩) (fun t x t0 t1 => ⟨?_, ?_⟩)
  · unfold fl_avT
    rw [fl_ST_fH f hs TT ⟨t0, t1⟩, fl_okG_s (s := 8) f hs rfl rfl]
  · unfold fl_rvT fl_reM
    rw [fl_okG_c (c := 59) f hs rfl]
    exact fl_rp_eq (fun k _ => ⟨fl_ST_fH f hs TT ⟨t0, t1⟩, rfl⟩)
/-! digits again -/
set_option maxRecDepth 100000 in
theorem fl_dig : (List.range 4096).all (fun n => (List.range 4).all (fun j => decide (fz_and (fz_shr (n : Int) (3 * (j : Int))) 7 = ((n / 8 ^ j % 8 : Nat) : Int)))) = true := by decide +kernel
theorem fl_dig_i {n j : Int} (hn : 0 ≤ n ∧ n < 4096) (hj : 0 ≤ j ∧ j < 4) : fz_and (fz_shr n (3 * j)) 7 = ((n.toNat / 8 ^ j.toNat % 8 : Nat) : Int) := by
  have a := List.all_eq_true.mp (List.all_eq_true.mp fl_dig n.toNat (List.mem_range.mpr (by omega))) j.toNat (List.mem_range.mpr (by omega))
  rw [decide_eq_true_eq, show ((n.toNat : Nat) : Int) = n by omega, show ((j.toNat : Nat) : Int) = j by omega] at a
  exact a
theorem fl_dig_n {a : Nat → Int} (ha : ∀ s, 0 ≤ a s ∧ a s ≤ 7) {m k : Nat} (hm : m ≤ 4) (hk : k < m) : fz_and (fz_shr (fl_num a m) (3 * ((m : Int) - 1 - (k : Int)))) 7 = a k := by
  have a0 := ha 0
  have a1 := ha 1
  have a2 := ha 2
  have a3 := ha 3
  have n1 : fl_num a 1 = a 0 := by show 0 * 8 + a 0 = a 0; omega
  have n2 : fl_num a 2 = a 0 * 8 + a 1 := by show fl_num a 1 * 8 + a 1 = _; rw [n1]
  have n3 : fl_num a 3 = (a 0 * 8 + a 1) * 8 + a 2 := by show fl_num a 2 * 8 + a 2 = _; rw [n2]
  have n4 : fl_num a 4 = ((a 0 * 8 + a 1) * 8 + a 2) * 8 + a 3 := by show fl_num a 3 * 8 + a 3 = _; rw [n3]
  have c : (m = 1 ∧ k = 0) ∨ (m = 2 ∧ k = 0) ∨ (m = 2 ∧ k = 1) ∨ (m = 3 ∧ k = 0) ∨ (m = 3 ∧ k = 1) ∨ (m = 3 ∧ k = 2) ∨ (m = 4 ∧ k = 0) ∨ (m = 4 ∧ k = 1) ∨ (m = 4 ∧ k = 2) ∨ (m = 4 ∧ k = 3) := by omega
  rcases c with ⟨rfl, rfl⟩ | ⟨rfl, rfl⟩ | ⟨rfl, rfl⟩ | ⟨rfl, rfl⟩ | ⟨rfl, rfl⟩ | ⟨rfl, rfl⟩ | ⟨rfl, rfl⟩ | ⟨rfl, rfl⟩ | ⟨rfl, rfl⟩ | ⟨rfl, rfl⟩
  · rw [n1, show (((1 : Nat) : Int) - 1 - ((0 : Nat) : Int)) = 0 by decide, fl_dig_i (by omega) (by decide)]
    show ((a 0).toNat / 8 ^ 0 % 8 : Nat) = a 0
    rw [show 8 ^ 0 = 1 by decide]; omega
  · rw [n2, show (((2 : Nat) : Int) - 1 - ((0 : Nat) : Int)) = 1 by decide, fl_dig_i (by omega) (by decide)]
    show ((a 0 * 8 + a 1).toNat / 8 ^ 1 % 8 : Nat) = a 0
    rw [show 8 ^ 1 = 8 by decide]; omega
  · rw [n2, show (((2 : Nat) : Int) - 1 - ((1 : Nat) : Int)) = 0 by decide, fl_dig_i (by omega) (by decide)]
    show ((a 0 * 8 + a 1).toNat / 8 ^ 0 % 8 : Nat) = a 1
    rw [show 8 ^ 0 = 1 by decide]; omega
  · rw [n3, show (((3 : Nat) : Int) - 1 - ((0 : Nat) : Int)) = 2 by decide, fl_dig_i (by omega) (by decide)]
    show (((a 0 * 8 + a 1) * 8 + a 2).toNat / 8 ^ 2 % 8 : Nat) = a 0
    rw [show 8 ^ 2 = 64 by decide]; omega
  · rw [n3, show (((3 : Nat) : Int) - 1 - ((1 : Nat) : Int)) = 1 by decide, fl_dig_i (by omega) (by decide)]
    show (((a 0 * 8 + a 1) * 8 + a 2).toNat / 8 ^ 1 % 8 : Nat) = a 1
    rw [show 8 ^ 1 = 8 by decide]; omega
  · rw [n3, show (((3 : Nat) : Int) - 1 - ((2 : Nat) : Int)) = 0 by decide, fl_dig_i (by omega) (by decide)]
    show (((a 0 * 8 + a 1) * 8 + a 2).toNat / 8 ^ 0 % 8 : Nat) = a 2
    rw [show 8 ^ 0 = 1 by decide]; omega
  · rw [n4, show (((4 : Nat) : Int) - 1 - ((0 : Nat) : Int)) = 3 by decide, fl_dig_i (by omega) (by decide)]
    show ((((a 0 * 8 + a 1) * 8 + a 2) * 8 + a 3).toNat / 8 ^ 3 % 8 : Nat) = a 0
    rw [show 8 ^ 3 = 512 by decide]; omega
  · rw [n4, show (((4 : Nat) : Int) - 1 - ((1 : Nat) : Int)) = 2 by decide, fl_dig_i (by omega) (by decide)]
    show ((((a 0 * 8 + a 1) * 8 + a 2) * 8 + a 3).toNat / 8 ^ 2 % 8 : Nat) = a 1
    rw [show 8 ^ 2 = 64 by decide]; omega
  · rw [n4, show (((4 : Nat) : Int) - 1 - ((2 : Nat) : Int)) = 1 by decide, fl_dig_i (by omega) (by decide)]
    show ((((a 0 * 8 + a 1) * 8 + a 2) * 8 + a 3).toNat / 8 ^ 1 % 8 : Nat) = a 2
    rw [show 8 ^ 1 = 8 by decide]; omega
  · rw [n4, show (((4 : Nat) : Int) - 1 - ((3 : Nat) : Int)) = 0 by decide, fl_dig_i (by omega) (by decide)]
    show ((((a 0 * 8 + a 1) * 8 + a 2) * 8 + a 3).toNat / 8 ^ 0 % 8 : Nat) = a 3
    rw [show 8 ^ 0 = 1 by decide]; omega
theorem fl_roxM_1 {H : fz_H} {k : Int} {s : Int × Int × Int} (e : fl_S3 H = s) (h : k = -1) : H 53 54 = fl_rox s k := fl_rox_1 e h
theorem fl_roxM_2 {H : fz_H} {k : Int} {s : Int × Int × Int} (e : fl_S3 H = s) (h : k ≠ -1) (c : k < 0 ∨ H 53 55 ≤ k) : -2 = fl_rox s k := fl_rox_2 e h (fl_tA_n c)
theorem fl_roxM_3 {H : fz_H} {k r : Int} {s : Int × Int × Int} (e : fl_S3 H = s) (h : k ≠ -1) (c : 0 ≤ k ∧ k < H 53 55) (b : H 53 55 ≤ 4) (ha : ∀ s, 0 ≤ H 89 s ∧ H 89 s ≤ 7) (er : r = H 89 k.toNat) : r = fl_rox s k := by
  refine fl_rox_2 e h (fl_tA_y (by omega) ?_)
  have z := fl_dig_n ha (m := (H 53 55).toNat) (k := k.toNat) (by omega) (by omega)
  rw [show (((H 53 55).toNat : Nat) : Int) = H 53 55 by omega, show ((k.toNat : Nat) : Int) = k by omega] at z
  rw [er, z]
def fl_rtMM (h : fz_H) (on th k r : Int) : Prop := (fl_oRo (h 53 0) on th k ∧ r = fl_rox (fl_seM h on (th / 1000) (th % 1000)) k) ∨ (¬ fl_oRo (h 53 0) on th k ∧ r = -2000000000)
theorem fl_hi7 {h h1 : fz_H} (k : ∀ c s : Nat, 53 ≤ c → h1 c s = h c s) : fl_seM h1 = fl_seM h := by
  have f : ∀ c, 53 ≤ c → h1 c = h c := fun c hc => funext fun s => k c s hc
  funext pe fr hr
  unfold fl_seM
  rw [f 55 (by decide), f 56 (by decide), f 57 (by decide), (fl_hi k).2, (fl_hi2 k).1, k 53 2 (by decide), k 53 8 (by decide)]
theorem fl_ro_eq {h h1 : fz_H} {on th j r q : Int} (R : fl_Rl h) (r28 : fz_R28 h) (rG : fz_RG h) (hE : fz_RE h) (k : ∀ c s : Nat, 53 ≤ c → h1 c s = h c s) (c : fl_rtCC h on th j r) (m : fl_rtMM h1 on th j q) : r = q := by
  have n0 := R.2.2.2.2.2.2.2.2.2.2.2.1
  have n2 := R.2.2.2.2.2.2.2.2.2.2.1
  have r5 := R.2.2.1
  have r6 := R.2.2.2.1
  have r3 := R.2.2.2.2.1
  unfold fl_rtMM at m
  rw [fl_hi7 k, k 53 0 (by decide), n0] at m
  refine fl_or c m Iff.rfl (fun z => ?_) rfl
  have e : fl_seC h on (th / 1000) (th % 1000) = fl_seM h on (th / 1000) (th % 1000) := by
    unfold fz_R5 at r5
    unfold fz_R6 at r6
    unfold fz_R3 at r3
    unfold fl_seC fl_seM
    rw [n2]
    refine fl_ex_eq (T := h 1 7) (fun r hr => ⟨by rw [r5], by rw [r6], by rw [r3], ?_⟩) (fun t x t0 t1 => ⟨?_, ?_⟩)
    · rw [← r5, ← r6]
      exact hE r (by omega)
    · unfold fl_avC
      rw [fl_Rl_S R ⟨t0, t1⟩, rG.1]
    · exact fl_Rl_r R r28 ⟨t0, t1⟩
  rw [e]
/-! ===== words garbled on the road ===== -/
def fl_c1 (g : Int) (c : Nat → Int) : Nat → Int := fun m => if m = 0 then fz_wl (fz_wl (c 0 * (12 - g)) + fz_wl (c 4 * g)) else fz_wl (fz_wl (c m * (12 - g)) + fz_wl (c (m - 1) * g))
def fl_ch5 (g : Int) : Nat → Nat → Int
  | 0 => fun m => if m = 0 then 1 else 0
  | k + 1 => fl_c1 g (fl_ch5 g k)
def fl_p12 : Nat → Int
  | 0 => 1
  | k + 1 => fz_wl (fl_p12 k * 12)
theorem fl_p12_s {x k : Int} (e : x = fl_p12 k.toNat) (h0 : 0 ≤ k) : fz_wl (x * 12) = fl_p12 (k + 1).toNat := by
  rw [show (k + 1).toNat = k.toNat + 1 by omega, e]
  rfl
theorem fl_p12_sM {x k : Int} (e : x = fl_p12 k.toNat) (h0 : 0 ≤ k) (b : 0 ≤ x ∧ x ≤ 1000000000) : x * 12 = fl_p12 (k + 1).toNat := by
  rw [← fl_p12_s e h0, fz_wl_id (by omega) (by omega)]
/-- while one road's chances are worked out, from the last mark down -/
def fl_cJ (g : Int) (C : Nat → Int) (H : fz_H) (mv : Int) : Prop := ∀ m : Nat, m < 5 → H 32 m = if mv < (m : Int) then fl_c1 g C m else C m
theorem fl_cJ_0 {g : Int} {C : Nat → Int} {H : fz_H} (e : ∀ m : Nat, m < 5 → H 32 m = C m) : fl_cJ g C H 4 := fun m hm => by
  rw [if_neg (by omega)]
  exact e m hm
theorem fl_cJ_s {g : Int} {C : Nat → Int} {H H2 : fz_H} {mv x y m2 : Int} (J : fl_cJ g C H mv) (hm : 0 < mv ∧ mv ≤ 4) (ex : H 32 mv.toNat = x) (ey : H 32 (mv - 1).toNat = y) (e : H2 = fz_up H 32 mv.toNat (fz_wl (fz_wl (x * (12 - g)) + fz_wl (y * g)))) (em : m2 = mv - 1) : fl_cJ g C H2 m2 := fun m hm5 => by
  subst em
  have jx := J mv.toNat (by omega)
  have jy := J (mv - 1).toNat (by omega)
  rw [if_neg (by omega)] at jx jy
  rw [e]
  by_cases q : m = mv.toNat
  · rw [q, fz_up_e, if_pos (by omega)]
    unfold fl_c1
    rw [if_neg (by omega), ← ex, ← ey, jx, jy, show mv.toNat - 1 = (mv - 1).toNat by omega]
  · rw [fz_up_s q, J m hm5]
    by_cases c : mv < (m : Int)
    · rw [if_pos c, if_pos (by omega)]
    · rw [if_neg c, if_neg (by omega)]
theorem fl_ch_s {g : Int} {H H2 : fz_H} {k x l mv : Int} (J : fl_cJ g (fl_ch5 g k.toNat) H mv) (hm : mv = 0) (hk : 0 ≤ k) (ex : H 32 0 = x) (el : l = fl_ch5 g k.toNat 4) (e : H2 = fz_up H 32 0 (fz_wl (fz_wl (x * (12 - g)) + fz_wl (l * g)))) : ∀ m : Nat, m < 5 → H2 32 m = fl_ch5 g (k + 1).toNat m := fun m hm5 => by
  subst hm
  have j0 := J 0 (by decide)
  rw [if_neg (by omega)] at j0
  rw [show (k + 1).toNat = k.toNat + 1 by omega, e]
  show _ = fl_c1 g (fl_ch5 g k.toNat) m
  by_cases q : m = 0
  · subst q
    rw [fz_up_e, el, ← ex, j0]
    rfl
  · rw [fz_up_s q, J m hm5, if_pos (by omega)]
theorem fl_ch_0 {g : Int} {H H2 : fz_H} {v : Int} (f : ∀ s : Nat, s < 5 → H 32 s = v) (hv : v = 0) (e : H2 = fz_up H 32 0 1) : ∀ m : Nat, m < 5 → H2 32 m = fl_ch5 g 0 m := fun m hm => by
  rw [e]
  by_cases q : m = 0
  · subst q
    rw [fz_up_e]
    rfl
  · rw [fz_up_s q, f m hm, hv]
    show (0 : Int) = (if m = 0 then 1 else 0)
    rw [if_neg q]
theorem fl_at5 {H : fz_H} {C : Nat → Int} {m : Nat} {x : Int} (e : ∀ m : Nat, m < 5 → H 32 m = C m) (hm : m < 5) (q : H 32 m = x) : x = C m := q.symm.trans (e m hm)
/-! what divides both -/
def fl_gq : Nat → Int → Int → Int
  | 0, x, _ => x
  | n + 1, x, y => if y = 0 then x else fl_gq n y (fz_wl (Int.tmod x y))
theorem fl_gq_s {k x y v : Int} (e : fl_gq (200 - k).toNat x y = v) (hk : 0 ≤ k ∧ k < 200) (hy : y ≠ 0) : fl_gq (200 - (k + 1)).toNat y (fz_wl (Int.tmod x y)) = v := by
  rw [show (200 - k).toNat = (200 - (k + 1)).toNat + 1 by omega] at e
  have e2 : fl_gq ((200 - (k + 1)).toNat + 1) x y = fl_gq (200 - (k + 1)).toNat y (fz_wl (Int.tmod x y)) := if_neg hy
  rw [← e2]
  exact e
theorem fl_gq_e {k x y v : Int} (e : fl_gq (200 - k).toNat x y = v) (hk : 0 ≤ k) (c : 200 ≤ k ∨ y = 0) : x = v := by
  rw [← e]
  by_cases q : 200 ≤ k
  · rw [show (200 - k).toNat = 0 by omega]
    rfl
  · rw [show (200 - k).toNat = (200 - (k + 1)).toNat + 1 by omega]
    exact (if_pos (show y = 0 by omega)).symm
def fl_gr : Nat → Int → Int → Int → Prop
  | 0, x, y, v => y = 0 ∧ x = v
  | n + 1, x, y, v => (y = 0 ∧ x = v) ∨ (y ≠ 0 ∧ fl_gr n y (fz_wl (Int.tmod x y)) v)
theorem fl_gr_s {n : Nat} {x y v : Int} (h : fl_gr n x y v) (hy : y ≠ 0) : ∃ m, fl_gr m y (fz_wl (Int.tmod x y)) v := by
  match n, h with
  | 0, h => exact absurd h.1 hy
  | n + 1, Or.inl h => exact absurd h.1 hy
  | n + 1, Or.inr h => exact ⟨n, h.2⟩
theorem fl_gr_e {n : Nat} {x y v : Int} (h : fl_gr n x y v) (hy : y = 0) : x = v := by
  match n, h with
  | 0, h => exact h.2
  | n + 1, Or.inl h => exact h.2
  | n + 1, Or.inr h => exact absurd hy h.1
def fl_gb : Nat → Int → Int → Int → Bool
  | 0, x, y, v => decide (y = 0) && decide (x = v)
  | n + 1, x, y, v => (decide (y = 0) && decide (x = v)) || (!(decide (y = 0)) && fl_gb n y (fz_wl (Int.tmod x y)) v)
theorem fl_gb_r : ∀ {n : Nat} {x y v : Int}, fl_gb n x y v = true → fl_gr n x y v
  | 0, x, y, v, h => by
    unfold fl_gb at h
    rw [Bool.and_eq_true, decide_eq_true_eq, decide_eq_true_eq] at h
    exact h
  | n + 1, x, y, v, h => by
    unfold fl_gb at h
    rw [Bool.or_eq_true, Bool.and_eq_true, Bool.and_eq_true, decide_eq_true_eq, decide_eq_true_eq] at h
    rcases h with h | ⟨h1, h2⟩
    · exact Or.inl h
    · refine Or.inr ⟨fun z => ?_, fl_gb_r h2⟩
      rw [z] at h1
      exact absurd h1 (by decide)
/-! the model's sum -/
def fl_w1 (n : Int) : Nat → Int
  | 0 => 1
  | k + 1 => fz_wl (Int.tdiv (fz_wl (fl_w1 n k * (n - (k : Int)))) ((k : Int) + 1))
def fl_w2 (g q w0 : Int) : Nat → Int
  | 0 => w0
  | k + 1 => fz_wl (fl_w2 g q w0 k * (if (k : Int) < q then g else 12 - g))
def fl_av (g n : Int) : Nat → Int
  | 0 => 0
  | j + 1 => fz_wl (fl_av g n j + fl_w2 g (5 * (j : Int)) (fl_w1 n (5 * j)) n.toNat)
theorem fl_w1_s {n x k : Int} (e : x = fl_w1 n k.toNat) (h0 : 0 ≤ k) : fz_wl (Int.tdiv (fz_wl (x * (n - k))) (k + 1)) = fl_w1 n (k + 1).toNat := by
  rw [show (k + 1).toNat = k.toNat + 1 by omega, e]
  show _ = fz_wl (Int.tdiv (fz_wl (fl_w1 n k.toNat * (n - ((k.toNat : Nat) : Int)))) (((k.toNat : Nat) : Int) + 1))
  rw [show ((k.toNat : Nat) : Int) = k by omega]
theorem fl_w2_s {g q w0 x k f : Int} (e : x = fl_w2 g q w0 k.toNat) (h0 : 0 ≤ k) (c : (k < q ∧ f = g) ∨ (¬ k < q ∧ f = 12 - g)) : fz_wl (x * f) = fl_w2 g q w0 (k + 1).toNat := by
  rw [show (k + 1).toNat = k.toNat + 1 by omega, e]
  show _ = fz_wl (fl_w2 g q w0 k.toNat * (if ((k.toNat : Nat) : Int) < q then g else 12 - g))
  rw [show ((k.toNat : Nat) : Int) = k by omega]
  rcases c with ⟨c1, c2⟩ | ⟨c1, c2⟩
  · rw [if_pos c1, c2]
  · rw [if_neg c1, c2]
theorem fl_av_s {g n x w q w0 i k : Int} (e : x = fl_av g n (q / 5).toNat) (hq : 0 ≤ q ∧ q % 5 = 0) (e1 : w0 = fl_w1 n i.toNat) (hi : i = q) (e2 : w = fl_w2 g q w0 k.toNat) (hk : k = n) : fz_wl (x + w) = fl_av g n ((q + 5) / 5).toNat := by
  subst hk hi
  rw [show ((i + 5) / 5).toNat = (i / 5).toNat + 1 by omega, e]
  show _ = fz_wl (fl_av g k (i / 5).toNat + fl_w2 g (5 * (((i / 5).toNat : Nat) : Int)) (fl_w1 k (5 * (i / 5).toNat)) k.toNat)
  rw [show 5 * (((i / 5).toNat : Nat) : Int) = i by omega, show 5 * (i / 5).toNat = i.toNat by omega, e2, e1]
theorem fl_av_e {g n x q : Int} (e : x = fl_av g n (q / 5).toNat) (hq : 0 ≤ n ∧ n < q ∧ q ≤ n + 5 ∧ q % 5 = 0) : x = fl_av g n (n / 5 + 1).toNat := by
  rw [show (n / 5 + 1).toNat = (q / 5).toNat by omega]
  exact e
/-- both sums, both divisors -/
def fl_tbG (g n : Nat) : Bool := decide (fl_av (g : Int) (n : Int) (n / 5 + 1) = fl_ch5 (g : Int) n 0) && (fl_gb 60 (fl_ch5 (g : Int) n 0) (fl_p12 n) (fl_gq 200 (fl_p12 n) (fl_ch5 (g : Int) n 0)) && decide (0 < fl_gq 200 (fl_p12 n) (fl_ch5 (g : Int) n 0)))
set_option maxRecDepth 100000 in
theorem fl_tbG_all : (List.range 13).all (fun g => (List.range 8).all (fun n => fl_tbG g n)) = true := by decide +kernel
theorem fl_tbG_i {g n : Int} (hg : 0 ≤ g ∧ g ≤ 12) (hn : 0 ≤ n ∧ n ≤ 7) : fl_av g n (n / 5 + 1).toNat = fl_ch5 g n.toNat 0 ∧ fl_gr 60 (fl_ch5 g n.toNat 0) (fl_p12 n.toNat) (fl_gq 200 (fl_p12 n.toNat) (fl_ch5 g n.toNat 0)) ∧ 0 < fl_gq 200 (fl_p12 n.toNat) (fl_ch5 g n.toNat 0) := by
  have a := List.all_eq_true.mp (List.all_eq_true.mp fl_tbG_all g.toNat (List.mem_range.mpr (by omega))) n.toNat (List.mem_range.mpr (by omega))
  unfold fl_tbG at a
  rw [Bool.and_eq_true, Bool.and_eq_true, decide_eq_true_eq, decide_eq_true_eq, show ((g.toNat : Nat) : Int) = g by omega, show ((n.toNat : Nat) : Int) = n by omega] at a
  rw [show (n / 5 + 1).toNat = n.toNat / 5 + 1 by omega]
  exact ⟨a.1, fl_gb_r a.2.1, a.2.2⟩
/-- the answers -/
def fl_ga (g n pt : Int) : Int := if fl_gq 200 (fl_p12 n.toNat) (fl_ch5 g n.toNat 0) ≤ 0 then pt else fz_wl (Int.tdiv (if pt = 0 then fl_ch5 g n.toNat 0 else fl_p12 n.toNat) (fl_gq 200 (fl_p12 n.toNat) (fl_ch5 g n.toNat 0)))
theorem fl_ga_0 {g n pt c A B : Int} (eA : A = fl_ch5 g n.toNat 0) (eB : B = fl_p12 n.toNat) (ec : c = fl_gq 200 B A) (h : c ≤ 0) : pt = fl_ga g n pt := by
  subst eA eB ec
  unfold fl_ga
  rw [if_pos h]
theorem fl_ga_1 {g n pt c A B r x : Int} (eA : A = fl_ch5 g n.toNat 0) (eB : B = fl_p12 n.toNat) (ec : c = fl_gq 200 B A) (h : ¬ c ≤ 0) (hp : (pt = 0 ∧ x = A) ∨ (pt ≠ 0 ∧ x = B)) (er : r = fz_wl (Int.tdiv x c)) : r = fl_ga g n pt := by
  subst eA eB ec
  unfold fl_ga
  rw [if_neg h, er]
  rcases hp with ⟨p, e⟩ | ⟨p, e⟩
  · rw [if_pos p, e]
  · rw [if_neg p, e]
theorem fl_ga_M {g n pt A B v x r : Int} (hg : 0 ≤ g ∧ g ≤ 12) (hn : 0 ≤ n ∧ n ≤ 7) (eA : A = fl_av g n (n / 5 + 1).toNat) (eB : B = fl_p12 n.toNat) (ev : v = fl_gq 200 (fl_p12 n.toNat) (fl_ch5 g n.toNat 0)) (hp : (pt = 0 ∧ x = A) ∨ (pt ≠ 0 ∧ x = B)) (er : r = fz_wl (Int.tdiv x v)) : r = fl_ga g n pt := by
  have t := fl_tbG_i hg hn
  rw [t.1] at eA
  refine fl_ga_1 (c := v) eA eB (by rw [eA, eB]; exact ev) ?_ hp er
  rw [ev]
  have := t.2.2
  omega
/-- how the model begins to divide -/
theorem fl_gr_0 {g n A B : Int} (hg : 0 ≤ g ∧ g ≤ 12) (hn : 0 ≤ n ∧ n ≤ 7) (eA : A = fl_av g n (n / 5 + 1).toNat) (eB : B = fl_p12 n.toNat) : ∃ m, fl_gr m A B (fl_gq 200 (fl_p12 n.toNat) (fl_ch5 g n.toNat 0)) := by
  have t := fl_tbG_i hg hn
  rw [t.1] at eA
  rw [eA, eB]
  exact ⟨60, t.2.1⟩
theorem fl_gr_st {x y v : Int} (h : ∃ m, fl_gr m x y v) (hy : y ≠ 0) : ∃ m, fl_gr m y (fz_wl (Int.tmod x y)) v := by
  obtain ⟨m, h⟩ := h
  exact fl_gr_s h hy
theorem fl_gr_en {x y v : Int} (h : ∃ m, fl_gr m x y v) (hy : y = 0) : x = v := by
  obtain ⟨m, h⟩ := h
  exact fl_gr_e h hy
theorem fl_tmod_b {x y : Int} (hx : -9223372036854775808 ≤ x ∧ x ≤ 9223372036854775807) (hy : -9223372036854775808 ≤ y ∧ y ≤ 9223372036854775807) (hne : y ≠ 0) : fz_wl (Int.tmod x y) < max y (-y) ∧ -(max y (-y)) < fz_wl (Int.tmod x y) := by
  have t1 : (Int.tmod x y).natAbs < y.natAbs := by
    rw [Int.natAbs_tmod]
    exact Nat.mod_lt _ (by omega)
  rw [fz_wl_id (by omega) (by omega)]
  omega
def fl_oG (a b d t pt : Int) : Prop := (0 ≤ d ∧ d < a) ∧ (0 ≤ t ∧ t < b) ∧ 0 ≤ pt ∧ pt ≤ 1
def fl_gbx (a b g x d t pt r : Int) : Prop := (¬ fl_oG a b d t pt ∧ r = -9223372036854775808) ∨ (fl_oG a b d t pt ∧ x < 0 ∧ r = pt) ∨ (fl_oG a b d t pt ∧ 0 ≤ x ∧ r = fl_ga g x pt)
theorem fl_gbx_eq {a b g x y d t pt r q : Int} (c : fl_gbx a b g x d t pt r) (m : fl_gbx a b g y d t pt q) (e : fl_oG a b d t pt → x = y) : r = q := by
  rcases c with ⟨c0, c1⟩ | ⟨c0, c1, c2⟩ | ⟨c0, c1, c2⟩
  · rcases m with ⟨m0, m1⟩ | ⟨m0, m1⟩ | ⟨m0, m1⟩
    · omega
    · exact absurd m0 c0
    · exact absurd m0 c0
  · have := e c0
    rcases m with ⟨m0, m1⟩ | ⟨m0, m1, m2⟩ | ⟨m0, m1, m2⟩
    · exact absurd c0 m0
    · omega
    · exfalso; omega
  · have z := e c0
    rcases m with ⟨m0, m1⟩ | ⟨m0, m1, m2⟩ | ⟨m0, m1, m2⟩
    · exact absurd c0 m0
    · exfalso; omega
    · rw [c2, m2, z]
def fl_gbC (h : fz_H) (d t pt r : Int) : Prop := fl_gbx (h 9 5) (h 1 7) (h 27 9) (fz_rr (h 8 (8 * h 11 d.toNat + t).toNat)) d t pt r
def fl_gbM (h h' : fz_H) (d t pt r : Int) : Prop := (¬ fl_oG (h 53 10) (h 53 0) d t pt ∧ r = -9223372036854775808) ∨ (fl_oG (h 53 10) (h 53 0) d t pt ∧ ∃ (h2 : fz_H) (x : Int), fz_rtM h h2 d t x ∧ fl_gbx (h 53 10) (h 53 0) (h 53 9) x d t pt r)
theorem fl_gb_eq {h h1 h2 : fz_H} {d t pt r q : Int} (R : fl_Rl h) (hG : fz_RG h) (k : ∀ c s : Nat, 53 ≤ c → h1 c s = h c s) (hb : ∀ q, 0 ≤ h 55 q ∧ 0 ≤ h 56 q) (c : fl_gbC h d t pt r) (m : fl_gbM h1 h2 d t pt q) : r = q := by
  obtain ⟨U, V, r5, r6, r3, r4, r2, hL, hP, hW, n2, n0, n9, b11, b12, b2⟩ := R
  have f : ∀ c, 53 ≤ c → h1 c = h c := fun c hc => funext fun s => k c s hc
  unfold fl_gbC at c
  unfold fl_gbM at m
  rw [k 53 10 (by decide), k 53 0 (by decide), n9, n0] at m
  rcases m with ⟨m0, m1⟩ | ⟨m0, G, x, m1, m2⟩
  · rcases c with ⟨c0, c1⟩ | ⟨c0, c1, c2⟩ | ⟨c0, c1, c2⟩
    · omega
    · exact absurd c0 m0
    · exact absurd c0 m0
  · have hd := m0.1
    have ht := m0.2.1
    obtain ⟨mg, mx⟩ := m1
    have l := hL d.toNat (by omega)
    have p := hP d.toNat (by omega)
    have b := b11 d.toNat
    rw [k 61 _ (by decide), ← l.1] at mg
    have z := fz_gf_v V.2 (fz_EM_EC r5 r6 r3 r4 ((k 53 2 (by decide)).trans n2) (f 55 (by decide)) (f 56 (by decide)) (f 57 (by decide)) (f 58 (by decide))) ((k 53 0 (by decide)).trans n0) mg (by rw [f 55 (by decide), f 56 (by decide)]; exact hb) (t := h 11 d.toNat) (b := t) (by omega) (by omega)
    have e : fz_rr (h 8 (8 * h 11 d.toNat + t).toNat) = x := by
      rcases mx with ⟨x1, x2⟩ | ⟨x1, x2⟩
      · have w := z.1
        rw [x1] at w
        rw [x2]
        unfold fz_hr at w
        unfold fz_rr
        split at w
        · next e => rw [if_pos e]
        · exfalso
          have := V.2.2.2.2.2 (8 * h 11 d.toNat + t).toNat
          omega
      · rw [x2]
        exact (z.2 x1).symm
    rw [k 53 9 (by decide), ← hG.2] at m2
    exact fl_gbx_eq c m2 (fun _ => e)
