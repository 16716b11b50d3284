/-! ===== what asking tells is a function of what asking leaves as it is ===== -/
def fz_coreC (c : Nat) : Bool := Nat.ble c 17 || Nat.beq c 27 || Nat.beq c 28 || Nat.beq c 40 || Nat.beq c 41
def fz_core (c i : Nat) : Bool := bif Nat.ble c 17 then true else bif Nat.beq c 27 then true else bif Nat.beq c 28 then true else bif Nat.beq c 41 then true else bif Nat.beq c 40 then !(Nat.beq i 6) else false
/-- the heap with all else masked out -/
def fz_nm (h : fz_H) : fz_H := fun c i => bif fz_core c i then h c i else 0
def fz_offs (S : List (Nat × Nat)) : Bool := S.all (fun q => !(fz_coreC q.1) || (Nat.beq q.1 40 && Nat.beq q.2 6))
theorem fz_core_C {c i : Nat} (h : fz_core c i = true) : fz_coreC c = true := by
  unfold fz_core at h
  unfold fz_coreC
  cases h1 : Nat.ble c 17 <;> cases h2 : Nat.beq c 27 <;> cases h3 : Nat.beq c 28 <;> cases h4 : Nat.beq c 41 <;> cases h5 : Nat.beq c 40 <;> simp_all
theorem fz_nm_fr {S : List (Nat × Nat)} {h h' : fz_H} (hS : fz_offs S = true) (hf : fz_fr S h h') : fz_nm h' = fz_nm h := by
  funext c i
  show (bif fz_core c i then h' c i else 0) = (bif fz_core c i then h c i else 0)
  cases hc : fz_core c i with
  | false => rfl
  | true =>
    show h' c i = h c i
    refine hf c i ?_
    unfold fz_me
    rw [List.any_eq_false]
    intro q hq hz
    have h1 := List.all_eq_true.mp hS q hq
    simp only [Bool.and_eq_true, Bool.or_eq_true, Bool.not_eq_true'] at h1 hz
    have e1 : q.1 = c := Nat.eq_of_beq_eq_true hz.1
    rcases h1 with h1 | ⟨h1, h2⟩
    · rw [e1, fz_core_C hc] at h1
      cases h1
    · have e2 := Nat.eq_of_beq_eq_true h1
      have e3 := Nat.eq_of_beq_eq_true h2
      rcases hz.2 with h3 | h3
      · have := Nat.eq_of_beq_eq_true h3
        omega
      · have e4 := Nat.eq_of_beq_eq_true h3
        have e5 : c = 40 := by omega
        have e6 : i = 6 := by omega
        rw [e5, e6] at hc
        exact absurd hc (by decide)
noncomputable def fz_th (P : Int → Prop) : Int := Classical.epsilon P
theorem fz_th_e {P : Int → Prop} {r : Int} (h : P r) (u : ∀ a b, P a → P b → a = b) : r = fz_th P := u _ _ h (Classical.epsilon_spec (p := P) ⟨r, h⟩)
theorem u_or {C : Prop} {r q e c : Int} (a : (C ∧ r = e) ∨ (¬ C ∧ r = c)) (b : (C ∧ q = e) ∨ (¬ C ∧ q = c)) : r = q := by
  rcases a with ⟨a1, a2⟩ | ⟨a1, a2⟩ <;> rcases b with ⟨b1, b2⟩ | ⟨b1, b2⟩ <;> first | exact a2.trans b2.symm | exact absurd a1 b1 | exact absurd b1 a1
theorem u_of {g : fz_H} {nu wh r q : Int} (a : fz_nC g nu wh r) (b : fz_nC g nu wh q) : r = q := by
  unfold fz_nC at a b
  rcases a with ⟨a1, a2⟩ | ⟨a1, a2, a3⟩ | ⟨a1, a2, a3⟩ <;> rcases b with ⟨b1, b2⟩ | ⟨b1, b2, b3⟩ | ⟨b1, b2, b3⟩ <;> first | omega | exact absurd a2 b2 | exact absurd b2 a2 | (unfold fz_fxC at a2 b2; omega)
theorem u_way {g : fz_H} {ab wh r q : Int} (a : fz_wyC g ab wh r) (b : fz_wyC g ab wh q) : r = q := by
  unfold fz_wyC at a b
  rcases a with ⟨a1, a2⟩ | ⟨a1, a2, a3⟩ | ⟨a1, a2, a3⟩ <;> rcases b with ⟨b1, b2⟩ | ⟨b1, b2, b3⟩ | ⟨b1, b2, b3⟩ <;> first | omega | exact absurd a1 b1 | exact absurd b1 a1
def fl_nwC (h : fz_H) (d hr r : Int) : Prop := ((0 ≤ d ∧ d < h 9 5 ∧ -2 ≤ hr) ∧ r = (fl_nw (fz_haC h d) hr (h 1 7).toNat).1) ∨ (¬ (0 ≤ d ∧ d < h 9 5 ∧ -2 ≤ hr) ∧ r = -1)
theorem u_free {g : fz_H} {on hr wh r q : Int} (a : fl_frC g on hr wh r) (b : fl_frC g on hr wh q) : r = q := by
  unfold fl_frC at a b
  rcases a with ⟨a1, F, a2, a3⟩ | ⟨a1, a2⟩ <;> rcases b with ⟨b1, G, b2, b3⟩ | ⟨b1, b2⟩
  · have e : F = G := by
      exact fl_sb_an a2.1 b2.1 (fun d hd z => (fl_isF_b b2 (by omega)).mpr ((fl_isF_b a2 (by omega)).mp z)) (fun d hd z => (fl_isF_b a2 (by omega)).mpr ((fl_isF_b b2 (by omega)).mp z))
    rw [a3, b3, e]
  · exact absurd a1 b1
  · exact absurd b1 a1
  · omega
theorem u_first {g : fz_H} {pm tx wh r q : Int} (a : fl_fiC g pm tx wh r) (b : fl_fiC g pm tx wh q) : r = q := by
  unfold fl_fiC at a b
  rcases a with ⟨a1, a2⟩ | ⟨a1, a2⟩ <;> rcases b with ⟨b1, b2⟩ | ⟨b1, b2⟩ <;> first | exact fl_fiP_u (fun _ _ _ => rfl) a2 b2 | omega | exact absurd a1 b1 | exact absurd b1 a1
theorem u_led {g : fz_H} {wh r q : Int} (a : fl_leC g wh r) (b : fl_leC g wh q) : r = q := by
  unfold fl_leC at a b
  omega
noncomputable def a_of (g : fz_H) (nu wh : Int) : Int := fz_th (fz_nC g nu wh)
noncomputable def a_way (g : fz_H) (ab wh : Int) : Int := fz_th (fz_wyC g ab wh)
noncomputable def a_news (g : fz_H) (d hr : Int) : Int := fz_th (fl_nwC g d hr)
noncomputable def a_garb (g : fz_H) (d t pt : Int) : Int := fz_th (fl_gbC g d t pt)
noncomputable def a_atH (g : fz_H) (on hr wh : Int) : Int := fz_th (fl_ahC g on hr wh)
noncomputable def a_free (g : fz_H) (on hr wh : Int) : Int := fz_th (fl_frC g on hr wh)
noncomputable def a_recv (g : fz_H) (on th wh : Int) : Int := fz_th (fl_rcC g on th wh)
noncomputable def a_home (g : fz_H) (on th wh : Int) : Int := fz_th (fl_hoC g on th wh)
noncomputable def a_alike (g : fz_H) (pq th wh : Int) : Int := fz_th (fl_akCC g pq th wh)
noncomputable def a_first (g : fz_H) (pm tx wh : Int) : Int := fz_th (fl_fiC g pm tx wh)
noncomputable def a_led (g : fz_H) (wh : Int) : Int := fz_th (fl_leC g wh)
theorem nm_gC {h : fz_H} {nu wh : Int} : fz_gC (fz_nm h) nu wh = fz_gC h nu wh := by
  unfold fz_gC fz_lC
  by_cases c0 : wh = 0
  · rw [if_pos c0]; rfl
  rw [if_neg c0]
  by_cases c1 : wh = 1
  · rw [if_pos c1]; rfl
  rw [if_neg c1]
  by_cases c2 : wh = 2
  · rw [if_pos c2]; rfl
  rw [if_neg c2]
  by_cases c3 : wh = 3
  · rw [if_pos c3]; rfl
  rw [if_neg c3]
  by_cases c4 : wh = 4
  · rw [if_pos c4]; rfl
  rw [if_neg c4]
  by_cases c5 : wh = 5
  · rw [if_pos c5]; rfl
  rw [if_neg c5]
  by_cases c6 : wh = 6
  · rw [if_pos c6]; rfl
  rw [if_neg c6]
  by_cases c7 : wh = 7
  · rw [if_pos c7]; rfl
  rw [if_neg c7]
  rfl
theorem nm_nC {h : fz_H} {nu wh r : Int} (c : fz_nC h nu wh r) : fz_nC (fz_nm h) nu wh r := by
  unfold fz_nC at c ⊢
  rw [nm_gC]
  exact c
theorem a_of_e {h g : fz_H} {nu wh r : Int} (e : fz_nm h = g) (c : fz_nC h nu wh r) : r = a_of g nu wh := by
  subst e
  exact fz_th_e (nm_nC c) (fun _ _ a b => u_of a b)
theorem a_way_e {h g : fz_H} {ab wh r : Int} (e : fz_nm h = g) (c : fz_wyC h ab wh r) : r = a_way g ab wh := by
  subst e
  exact fz_th_e (show fz_wyC (fz_nm h) ab wh r from c) (fun _ _ a b => u_way a b)
theorem a_news_e {h g : fz_H} {d hr r : Int} (e : fz_nm h = g) (c : fl_nwC h d hr r) : r = a_news g d hr := by
  subst e
  exact fz_th_e (show fl_nwC (fz_nm h) d hr r from c) (fun _ _ a b => u_or a b)
theorem a_garb_e {h g : fz_H} {d t pt r : Int} (e : fz_nm h = g) (c : fl_gbC h d t pt r) : r = a_garb g d t pt := by
  subst e
  exact fz_th_e (show fl_gbC (fz_nm h) d t pt r from c) (fun _ _ a b => fl_gbx_eq a b (fun _ => rfl))
theorem a_atH_e {h g : fz_H} {on hr wh r : Int} (e : fz_nm h = g) (c : fl_ahC h on hr wh r) : r = a_atH g on hr wh := by
  subst e
  exact fz_th_e (show fl_ahC (fz_nm h) on hr wh r from c) (fun _ _ a b => u_or a b)
theorem a_free_e {h g : fz_H} {on hr wh r : Int} (e : fz_nm h = g) (c : fl_frC h on hr wh r) : r = a_free g on hr wh := by
  subst e
  exact fz_th_e (show fl_frC (fz_nm h) on hr wh r from c) (fun _ _ a b => u_free a b)
theorem a_recv_e {h g : fz_H} {on th wh r : Int} (e : fz_nm h = g) (c : fl_rcC h on th wh r) : r = a_recv g on th wh := by
  subst e
  exact fz_th_e (show fl_rcC (fz_nm h) on th wh r from c) (fun _ _ a b => u_or a b)
theorem a_home_e {h g : fz_H} {on th wh r : Int} (e : fz_nm h = g) (c : fl_hoC h on th wh r) : r = a_home g on th wh := by
  subst e
  exact fz_th_e (show fl_hoC (fz_nm h) on th wh r from c) (fun _ _ a b => u_or a b)
theorem a_alike_e {h g : fz_H} {pq th wh r : Int} (e : fz_nm h = g) (c : fl_akCC h pq th wh r) : r = a_alike g pq th wh := by
  subst e
  exact fz_th_e (show fl_akCC (fz_nm h) pq th wh r from c) (fun _ _ a b => u_or a b)
theorem a_first_e {h g : fz_H} {pm tx wh r : Int} (e : fz_nm h = g) (c : fl_fiC h pm tx wh r) : r = a_first g pm tx wh := by
  subst e
  exact fz_th_e (show fl_fiC (fz_nm h) pm tx wh r from c) (fun _ _ a b => u_first a b)
theorem a_led_e {h g : fz_H} {wh r : Int} (e : fz_nm h = g) (c : fl_leC h wh r) : r = a_led g wh := by
  subst e
  exact fz_th_e (show fl_leC (fz_nm h) wh r from c) (fun _ _ a b => u_led a b)
