/-! ===== people: what is said of one ===== -/
theorem SC_nm {A B : fz_H} (e : fz_nm A = fz_nm B) : fl_SC A = fl_SC B := by
  have q := congrArg (fun g : fz_H => fl_SC g) e
  exact q
theorem pf_b {h : fz_H} (hI : fz_Iv h) {p q m t hr : Int} : 0 ≤ fl_SC h p q m t hr ∧ fl_SC h p q m t hr ≤ 99 := fl_SC_b (fun s => (hI.1 2 s).1) (fun s => (hI.1 14 s).2)
theorem pf_said {h : fz_H} {p m t hr th r : Int} (hp : 0 ≤ p ∧ p ≤ 3) (hm : 0 ≤ m ∧ m ≤ 4) (ht : 0 ≤ t ∧ t < h 1 7) (hh : 0 ≤ hr ∧ hr ≤ 999) (et : th = 1000 * t + hr) (c : fl_saC h (10 * p + m) th r) : r = fl_SC h p p m t hr := by
  subst et
  have e := he_C c ⟨by omega, by omega, by omega⟩
  rw [e, show (10 * p + m) / 10 = p by omega, show (10 * p + m) % 10 = m by omega, show (1000 * t + hr) / 1000 = t by omega, show (1000 * t + hr) % 1000 = hr by omega]
theorem pf_rc {h : fz_H} {p t hr th wh r : Int} (hp : 0 ≤ p ∧ p ≤ 3) (ht : 0 ≤ t ∧ t < h 1 7) (hh : 0 ≤ hr ∧ hr ≤ 999) (et : th = 1000 * t + hr) (hw : 0 ≤ wh ∧ wh ≤ 3) (c : fl_rcC h p th wh r) : r = fl_re (fun m : Nat => fl_SC h p p (m : Int) t hr) (h 28) (h 27 8) wh := by
  subst et
  have e := he_C c ⟨⟨hp.1, by omega⟩, ⟨by omega, by omega⟩, hw⟩
  rw [e, show (1000 * t + hr) / 1000 = t by omega, show (1000 * t + hr) % 1000 = hr by omega]
theorem pf_re0 {v w : Nat → Int} {ar : Int} : fl_re v w ar 0 = fl_rp v w 5 := by
  unfold fl_re
  rw [if_pos rfl]
theorem pf_re1 {v w : Nat → Int} {ar : Int} : fl_re v w ar 1 = if 0 < v 1 ∧ ar ≤ v 1 then 1 else 0 := by
  unfold fl_re
  rw [if_neg (by decide), if_pos rfl]
theorem pf_re2 {v w : Nat → Int} {ar : Int} : fl_re v w ar 2 = fl_ms v 5 := by
  unfold fl_re
  rw [if_neg (by decide), if_neg (by decide), if_pos rfl]
theorem pf_re3 {v w : Nat → Int} {ar : Int} : fl_re v w ar 3 = (fl_lm v 5).1 := by
  unfold fl_re
  rw [if_neg (by decide), if_neg (by decide), if_neg (by decide)]
theorem pf_lm {v : Nat → Int} : ∀ n : Nat, ((fl_lm v n).1 = -2 ∧ (fl_lm v n).2 = 0 ∧ fl_ms v n = 0) ∨ (0 ≤ (fl_lm v n).1 ∧ 0 < (fl_lm v n).2 ∧ 0 < fl_ms v n)
  | 0 => Or.inl ⟨rfl, rfl, rfl⟩
  | n + 1 => by
    have i := pf_lm (v := v) n
    have e1 : fl_lm v (n + 1) = if (fl_lm v n).2 < v n then ((n : Int), v n) else fl_lm v n := rfl
    have e2 : fl_ms v (n + 1) = fl_ms v n + (if 0 < v n then 1 else 0) := rfl
    by_cases c : (fl_lm v n).2 < v n
    · rw [if_pos c] at e1
      rw [if_pos (by omega)] at e2
      rw [e1, e2]
      exact Or.inr ⟨by show (0 : Int) ≤ (n : Int); omega, by show 0 < v n; omega, by omega⟩
    · rw [if_neg c] at e1
      rw [e1, e2]
      rcases i with ⟨i1, i2, i3⟩ | ⟨i1, i2, i3⟩
      · rw [if_neg (by omega)]
        exact Or.inl ⟨i1, i2, by omega⟩
      · refine Or.inr ⟨i1, i2, ?_⟩
        split <;> omega
theorem pf_ms_b {v : Nat → Int} : ∀ n : Nat, 0 ≤ fl_ms v n ∧ fl_ms v n ≤ n
  | 0 => ⟨Int.le_refl _, Int.le_refl _⟩
  | n + 1 => by
    have i := pf_ms_b (v := v) n
    have e2 : fl_ms v (n + 1) = fl_ms v n + (if 0 < v n then 1 else 0) := rfl
    rw [e2]
    split <;> omega
/-! towns as bits -/
theorem pf_tb {c : Int → Int} : ∀ n : Nat, n ≤ 8 → ∀ d : Nat, d < 12 → (fz_bt (fl_tb c n) d = true ↔ d < n ∧ c (d : Int) = 1)
  | 0, _, d, hd => by
    constructor
    · intro z
      have : fz_bt 0 d = true := z
      unfold fz_bt at this
      simp at this
    · intro z
      exact absurd z.1 (by omega)
  | n + 1, hn, d, hd => by
    have i := pf_tb (c := c) n (by omega) d hd
    have e : fl_tb c (n + 1) = if c (n : Int) = 1 then fz_or (fl_tb c n) (fz_shl 1 (n : Int)) else fl_tb c n := rfl
    rw [e]
    by_cases q : c (n : Int) = 1
    · rw [if_pos q, fl_bt_or, Bool.or_eq_true, i, fl_bt_shl ⟨by omega, by omega⟩ hd]
      constructor
      · rintro (⟨a, b⟩ | a)
        · exact ⟨by omega, b⟩
        · have : d = n := by omega
          subst this
          exact ⟨by omega, q⟩
      · rintro ⟨a, b⟩
        by_cases y : d = n
        · exact Or.inr (by omega)
        · exact Or.inl ⟨by omega, b⟩
    · rw [if_neg q, i]
      constructor
      · rintro ⟨a, b⟩
        exact ⟨by omega, b⟩
      · rintro ⟨a, b⟩
        refine ⟨?_, b⟩
        by_cases y : d = n
        · subst y
          exact absurd b q
        · omega
theorem pf_tbk {c : Int → Int} {n : Nat} {k : Int} (hn : n ≤ 8) (hk : 0 ≤ k ∧ k < n) : fz_and (fz_shr (fl_tb c n) k) 1 = if c k = 1 then 1 else 0 := by
  have i := pf_tb (c := c) n hn k.toNat (by omega)
  rw [show ((k.toNat : Nat) : Int) = k by omega] at i
  rw [fz_bt_1 ⟨hk.1, by omega⟩]
  by_cases q : c k = 1
  · rw [if_pos q, if_pos (i.mpr ⟨by omega, q⟩)]
  · rw [if_neg q, if_neg (fun z => q (i.mp z).2)]
theorem pf_tb0 {c : Int → Int} {n : Nat} (hn : n ≤ 8) : fl_tb c n = 0 ↔ ∀ k : Nat, k < n → c (k : Int) ≠ 1 := by
  constructor
  · intro z k hk q
    have i := (pf_tb (c := c) n hn k (by omega)).mpr ⟨hk, q⟩
    rw [z] at i
    unfold fz_bt at i
    simp at i
  · intro z
    have : ∀ m : Nat, m ≤ n → fl_tb c m = 0 := fun m => by
      induction m with
      | zero => intro _; rfl
      | succ m ih =>
        intro hm
        have e : fl_tb c (m + 1) = if c (m : Int) = 1 then fz_or (fl_tb c m) (fz_shl 1 (m : Int)) else fl_tb c m := rfl
        rw [e, if_neg (z m (by omega))]
        exact ih (by omega)
    exact this n (Nat.le_refl _)
theorem pf_ah {h : fz_H} {p t hr wh r : Int} (hI : fz_Iv h) (hp : 0 ≤ p ∧ p ≤ 3) (ht : 0 ≤ t ∧ t < h 1 7) (hh : 0 ≤ hr ∧ hr ≤ 999) (hw : wh = 0 ∨ wh = 1) (c : fl_ahC h p hr wh r) : fz_and (fz_shr r t) 1 = if fl_cw (fun m : Nat => fl_SC h p p (m : Int) t hr) (h 27 8) wh = 1 then 1 else 0 := by
  have b : 0 ≤ h 1 7 ∧ h 1 7 ≤ 8 := hI.1 1 7
  have e := he_C c ⟨hp, hh, by omega, by omega⟩
  unfold fl_ahx at e
  rw [if_neg (by omega)] at e
  rw [e, pf_tbk (by omega) ⟨ht.1, by omega⟩]
  rfl
theorem pf_cw0 {v : Nat → Int} {ar : Int} : fl_cw v ar 0 = if fl_ms v 5 = 0 then 1 else 0 := rfl
theorem pf_cw1 {v : Nat → Int} {ar : Int} : fl_cw v ar 1 = if 0 < v 1 ∧ ar ≤ v 1 then 1 else 0 := rfl
theorem pf_ah0 {h : fz_H} {p t hr r mk : Int} (hI : fz_Iv h) (hp : 0 ≤ p ∧ p ≤ 3) (ht : 0 ≤ t ∧ t < h 1 7) (hh : 0 ≤ hr ∧ hr ≤ 999) (c : fl_ahC h p hr 0 r) (m : mk = fl_ms (fun m : Nat => fl_SC h p p (m : Int) t hr) 5) : (mk = 0 ∧ fz_and (fz_shr r t) 1 = 1) ∨ (mk ≠ 0 ∧ fz_and (fz_shr r t) 1 = 0) := by
  rw [pf_ah hI hp ht hh (Or.inl rfl) c, pf_cw0, ← m]
  by_cases q : mk = 0
  · rw [if_pos q, if_pos rfl]; exact Or.inl ⟨q, rfl⟩
  · rw [if_neg q, if_neg (by decide)]; exact Or.inr ⟨q, rfl⟩
theorem pf_ah1 {h : fz_H} {p t hr r y : Int} (hI : fz_Iv h) (hp : 0 ≤ p ∧ p ≤ 3) (ht : 0 ≤ t ∧ t < h 1 7) (hh : 0 ≤ hr ∧ hr ≤ 999) (c : fl_ahC h p hr 1 r) (d : y = fl_re (fun m : Nat => fl_SC h p p (m : Int) t hr) (h 28) (h 27 8) 1) : fz_and (fz_shr r t) 1 = y := by
  rw [pf_ah hI hp ht hh (Or.inr rfl) c, pf_cw1, d, pf_re1]
  by_cases q : 0 < (fun m : Nat => fl_SC h p p (m : Int) t hr) 1 ∧ h 27 8 ≤ (fun m : Nat => fl_SC h p p (m : Int) t hr) 1
  · rw [if_pos q, if_pos rfl]
  · rw [if_neg q, if_neg (by decide)]
/-! the row of what is said, judged -/
theorem pf_row {h h' : fz_H} (c : fz_rC h h' 0 0 5) : h' 48 0 = 2 ∧ h' 50 0 = 0 ∧ h' 51 0 = 5 := by
  rcases c with ⟨-, e⟩ | ⟨n, -⟩
  · have f : ∀ c i : Nat, c ≠ 52 → h' c i = (fz_up (fz_up (fz_up h 48 (0 : Int).toNat 2) 50 (0 : Int).toNat 0) 51 (0 : Int).toNat 5) c i := fun c i hc => by
      rw [e]
      unfold fz_fill
      simp [hc]
    rw [f 48 0 (by decide), f 50 0 (by decide), f 51 0 (by decide)]
    exact ⟨rfl, rfl, rfl⟩
  · exact absurd ⟨by decide, by decide, by decide, by decide, by decide, by decide⟩ n
theorem pf_lb : (List.range 100).all (fun n => decide (fz_lb 0 (n : Int) = (n : Int))) = true := by decide +kernel
theorem pf_lbi {v : Int} (h : 0 ≤ v ∧ v ≤ 99) : fz_lb 0 v = v := by
  have z := List.all_eq_true.mp pf_lb v.toNat (List.mem_range.mpr (by omega))
  rw [show ((v.toNat : Nat) : Int) = v by omega] at z
  exact of_decide_eq_true z
theorem pf_put {h h' : fz_H} {k v : Int} {f : Nat → Int} (i : ∀ j : Nat, (j : Int) < k → h 52 j = f j) (hk : 0 ≤ k ∧ k < 5) (r1 : h 48 0 = 2) (r2 : h 50 0 = 0) (r3 : h 51 0 = 5) (hv : 0 ≤ v ∧ v ≤ 99) (ev : v = f k.toNat) (c : fz_pC h h' 0 k v) : ∀ j : Nat, (j : Int) < k + 1 → h' 52 j = f j := fun j hj => by
  rcases c with ⟨-, e⟩ | ⟨n, -⟩
  · have r2' : h 50 (0 : Int).toNat = 0 := r2
    rw [r2', pf_lbi hv, show (60 * 0 + k).toNat = k.toNat by omega] at e
    rw [e]
    by_cases q : j = k.toNat
    · rw [q, fz_up_e]
      exact ev
    · rw [fz_up_s q]
      exact i j (by omega)
  · exact absurd ⟨by decide, by decide, r1, hk.1, by show k < h 51 0; omega⟩ n
theorem pf_judge {h : fz_H} {p t hr th r : Int} (hp : 0 ≤ p ∧ p ≤ 3) (ht : 0 ≤ t ∧ t < h 1 7) (hh : 0 ≤ hr ∧ hr ≤ 999) (et : th = 1000 * t + hr) (r1 : h 48 0 = 2) (r2 : h 50 0 = 0) (i : ∀ k : Nat, (k : Int) < 5 → h 52 k = fl_SC h p p (k : Int) t hr) (c : fl_jdC h 0 p th r) : r = -2 := by
  subst et
  have r1' : h 48 (0 : Int).toNat = 2 := r1
  have r2' : h 50 (0 : Int).toNat = 0 := r2
  have ok : fl_oJ (h 1 7) 0 p (1000 * t + hr) := ⟨⟨by decide, by decide⟩, hp, by omega, by omega⟩
  rcases c with ⟨n, -⟩ | ⟨-, n, -⟩ | ⟨-, -, n, -⟩ | ⟨-, j⟩
  · exact absurd ok n
  · omega
  · exact absurd ⟨r1', r2'⟩ n
  · rw [show (1000 * t + hr) / 1000 = t by omega, show (1000 * t + hr) % 1000 = hr by omega] at j
    rcases j with ⟨e, -⟩ | ⟨a, b, -, n, -⟩
    · exact e
    · refine absurd ?_ n
      unfold fl_gjC
      rw [show (60 * 0 + r).toNat = r.toNat by omega, i r.toNat (by omega), show ((r.toNat : Nat) : Int) = r by omega]
theorem pf_rp {v w : Nat → Int} {L L' k x y : Int} (e : L = fl_rp v w k.toNat) (h0 : 0 ≤ k) (ex : x = v k.toNat) (ey : y = w k.toNat) (eL : L' = fz_w (L + fz_w (x * y))) : L' = fl_rp v w (k + 1).toNat := by
  obtain ⟨n, rfl⟩ := Int.eq_ofNat_of_zero_le h0
  rw [eL, e, ex, ey]
  rfl
theorem pf_c1 {A B : fz_H} {p t hr mk : Int} (nm : fz_nm A = fz_nm B) (e : mk = fl_ms (fun m : Nat => fl_SC B p p (m : Int) t hr) 5) : mk = fl_ms (fun m : Nat => fl_SC A p p (m : Int) t hr) 5 := by
  rw [SC_nm nm]
  exact e
theorem nm_28 {A B : fz_H} (nm : fz_nm A = fz_nm B) : A 28 = B 28 := by
  have q := congrArg (fun g : fz_H => g 28) nm
  exact q
theorem pf_c2 {A B : fz_H} {p t hr rc : Int} (nm : fz_nm A = fz_nm B) (e : rc = fl_rp (fun m : Nat => fl_SC B p p (m : Int) t hr) (B 28) 5) : rc = fl_rp (fun m : Nat => fl_SC A p p (m : Int) t hr) (A 28) 5 := by
  rw [SC_nm nm, nm_28 nm]
  exact e
theorem pf_c3 {A B : fz_H} {p t hr : Int} (nm : fz_nm A = fz_nm B) (i : ∀ k : Nat, (k : Int) < 5 → A 52 k = fl_SC B p p (k : Int) t hr) : ∀ k : Nat, (k : Int) < 5 → A 52 k = fl_SC A p p (k : Int) t hr := by
  rw [SC_nm nm]
  exact i
theorem pf_c4 {C H : fz_H} {p m t hr y : Int} (nm : fz_nm C = fz_nm H) (hm : 0 ≤ m) (e : y = fl_SC C p p m t hr) : y = (fun m : Nat => fl_SC H p p (m : Int) t hr) m.toNat := by
  rw [SC_nm nm] at e
  rw [e]
  show fl_SC H p p m t hr = fl_SC H p p ((m.toNat : Nat) : Int) t hr
  rw [show ((m.toNat : Nat) : Int) = m by omega]
theorem pf_c5 {C H : fz_H} {k : Nat} {y : Int} (nm : fz_nm C = fz_nm H) (e : y = C 28 k) : y = H 28 k := by
  rw [nm_28 nm] at e
  exact e
/-! what is known of one at a time, of what is said and of the row -/
def st_W (p t hr mk rc : Int) (h : fz_H) : Prop := mk = fl_ms (fun m : Nat => fl_SC h p p (m : Int) t hr) 5 ∧ rc = fl_rp (fun m : Nat => fl_SC h p p (m : Int) t hr) (h 28) 5 ∧ (h 48 0 = 2 ∧ h 50 0 = 0 ∧ h 51 0 = 5) ∧ ∀ k : Nat, (k : Int) < 5 → h 52 k = fl_SC h p p (k : Int) t hr
def st_offW (S : List (Nat × Nat)) : Bool := fz_offs S && S.all (fun q => !(Nat.beq q.1 48 || Nat.beq q.1 50 || Nat.beq q.1 51 || Nat.beq q.1 52))
theorem st_W_fr {S : List (Nat × Nat)} {p t hr mk rc : Int} {h h' : fz_H} (hS : st_offW S = true) (f : fz_fr S h h') (w : st_W p t hr mk rc h) : st_W p t hr mk rc h' := by
  unfold st_offW at hS
  rw [Bool.and_eq_true] at hS
  have nm := fz_nm_fr hS.1 f
  have o : ∀ c : Nat, (c = 48 ∨ c = 50 ∨ c = 51 ∨ c = 52) → ∀ i, h' c i = h c i := fun c hc i => by
    refine f c i ?_
    unfold fz_me
    rw [List.any_eq_false]
    intro q hq hz
    have h1 := List.all_eq_true.mp hS.2 q hq
    simp only [Bool.and_eq_true, Bool.or_eq_true, Bool.not_eq_true', Bool.or_eq_false_iff] at h1 hz
    have e1 : q.1 = c := Nat.eq_of_beq_eq_true hz.1
    rw [e1] at h1
    obtain ⟨⟨⟨a1, a2⟩, a3⟩, a4⟩ := h1
    rcases hc with rfl | rfl | rfl | rfl
    · cases a1
    · cases a2
    · cases a3
    · cases a4
  obtain ⟨w1, w2, ⟨w3, w4, w5⟩, w6⟩ := w
  unfold st_W
  rw [SC_nm nm, nm_28 nm, o 48 (by decide), o 50 (by decide), o 51 (by decide)]
  exact ⟨w1, w2, ⟨w3, w4, w5⟩, fun k hk => (o 52 (by decide) k).trans (w6 k hk)⟩
theorem st_W_0 {h : fz_H} {p t hr mk rc th r : Int} (w : st_W p t hr mk rc h) (hp : 0 ≤ p ∧ p ≤ 3) (ht : 0 ≤ t ∧ t < h 1 7) (hh : 0 ≤ hr ∧ hr ≤ 999) (et : th = 1000 * t + hr) (c : fl_rcC h p th 0 r) : r = rc := (pf_rc hp ht hh et (by decide) c).trans w.2.1.symm
theorem st_W_2 {h : fz_H} {p t hr mk rc th r : Int} (w : st_W p t hr mk rc h) (hp : 0 ≤ p ∧ p ≤ 3) (ht : 0 ≤ t ∧ t < h 1 7) (hh : 0 ≤ hr ∧ hr ≤ 999) (et : th = 1000 * t + hr) (c : fl_rcC h p th 2 r) : r = mk := (pf_rc hp ht hh et (by decide) c).trans w.1.symm
theorem st_W_3 {h : fz_H} {p t hr mk rc th r : Int} (w : st_W p t hr mk rc h) (hp : 0 ≤ p ∧ p ≤ 3) (ht : 0 ≤ t ∧ t < h 1 7) (hh : 0 ≤ hr ∧ hr ≤ 999) (et : th = 1000 * t + hr) (c : fl_rcC h p th 3 r) : (r < 0 ∧ mk = 0) ∨ (0 ≤ r ∧ mk ≠ 0) := by
  have e := pf_rc hp ht hh et (by decide) c
  rw [pf_re3] at e
  have m := w.1
  rcases pf_lm (v := fun m : Nat => fl_SC h p p (m : Int) t hr) 5 with ⟨a, -, b⟩ | ⟨a, -, b⟩
  · exact Or.inl ⟨by omega, by omega⟩
  · exact Or.inr ⟨by omega, by omega⟩
theorem st_W_5 {A C : fz_H} {p t hr th r y : Int} (nm : fz_nm C = fz_nm A) (hI : fz_Iv A) (hp : 0 ≤ p ∧ p ≤ 3) (ht : 0 ≤ t ∧ t < A 1 7) (ht2 : t < C 1 7) (hh : 0 ≤ hr ∧ hr ≤ 999) (et : th = 1000 * t + hr) (c : fl_ahC A p hr 1 r) (d : fl_rcC C p th 1 y) : fz_and (fz_shr r t) 1 = y := by
  have e := pf_rc hp ⟨ht.1, ht2⟩ hh et (by decide) d
  rw [SC_nm nm, nm_28 nm, show C 27 8 = A 27 8 from by
    have q := congrArg (fun g : fz_H => g 27 8) nm
    exact q] at e
  exact pf_ah1 hI hp ht hh c e
theorem st_W_j {h : fz_H} {p t hr mk rc th r : Int} (w : st_W p t hr mk rc h) (hp : 0 ≤ p ∧ p ≤ 3) (ht : 0 ≤ t ∧ t < h 1 7) (hh : 0 ≤ hr ∧ hr ≤ 999) (et : th = 1000 * t + hr) (c : fl_jdC h 0 p th r) : r = -2 := pf_judge hp ht hh et w.2.2.1.1 w.2.2.1.2.1 w.2.2.2 c
theorem st_W_in {A B : fz_H} {p t hr mk rc k : Int} (nm : fz_nm A = fz_nm B) (hk : k = 5) (m : mk = fl_ms (fun m : Nat => fl_SC B p p (m : Int) t hr) k.toNat) (r : rc = fl_rp (fun m : Nat => fl_SC B p p (m : Int) t hr) (B 28) k.toNat) (r1 : A 48 0 = 2) (r2 : A 50 0 = 0) (r3 : A 51 0 = 5) (i : ∀ j : Nat, (j : Int) < k → A 52 j = fl_SC B p p (j : Int) t hr) : st_W p t hr mk rc A := by
  subst hk
  unfold st_W
  rw [SC_nm nm, nm_28 nm]
  exact ⟨m, r, ⟨r1, r2, r3⟩, i⟩
