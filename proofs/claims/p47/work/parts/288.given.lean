/-! ===== roads taken from the carters, and given back ===== -/
theorem df_new1 {h : fz_H} {e r hr at_ : Int} (hh : hr = -1 ∨ hr = -2) (he : 0 ≤ e ∧ e < h 9 5) (ha : 0 ≤ at_ ∧ at_ < h 1 7) (c : fl_nwC h e hr r) (g0 : 0 ≤ fz_haC h e at_) : 0 ≤ r ∧ r < h 1 7 := by
  have e1 := he_C c ⟨he.1, he.2, by omega⟩
  rcases df_nw (g := fz_haC h e) (hr := hr) (by omega) (h 1 7).toNat with ⟨_, y⟩ | ⟨x1, -⟩
  · have := y at_.toNat (by omega)
    rw [show ((at_.toNat : Nat) : Int) = at_ by omega] at this
    omega
  · rw [← e1] at x1
    omega
theorem df_sga {h : fz_H} (hI : fz_Iv h) {e t a : Int} (ea : a = h 11 e.toNat) : (fz_haC h e t = -2 ∧ fz_hr (h 8 (8 * a + t).toNat) < 0) ∨ (0 ≤ fz_haC h e t ∧ 0 ≤ fz_hr (h 8 (8 * a + t).toNat)) := by
  subst ea
  exact df_sg hI e t
def st_cI (h : fz_H) (e t f : Int) : Prop := fl_cI (fun k => ¬ fl_catC h k (h 11 e.toNat) t) (fz_shl 1 (h 1 8)) f
theorem df_cutb {h : fz_H} (hI : fz_Iv h) (V : fz_RV h) (P : fz_RP2 h) {e t r : Int} (he : 0 ≤ e ∧ e < h 9 5) (ht : 0 ≤ t ∧ t < h 1 7) (c : fl_cuC h e t 1 r) : (fz_haC h e t < 0 → r = 0) ∧ (0 ≤ fz_haC h e t → r ≠ 0) ∧ (0 ≤ fz_haC h e t → st_cI h e t r) := ⟨fun x => cf_1 hI V P he ht (by decide) c x, fun x => (cf_2 hI V P he ht c x).1, fun x => (cf_2 hI V P he ht c x).2⟩
theorem ha_nm {A B : fz_H} (e : fz_nm A = fz_nm B) : fz_haC A = fz_haC B := by
  have q := congrArg (fun g : fz_H => fz_haC g) e
  exact q
theorem cI_nm {A B : fz_H} (e : fz_nm A = fz_nm B) {d t f : Int} (c : st_cI A d t f) : st_cI B d t f := by
  have q : st_cI (fz_nm A) d t f := c
  rw [e] at q
  exact q
/-- what undoing so often leads back to -/
def st_ud (m : Int) (A B C z : Nat → Int) : Nat → Int → (Nat → Int) → Prop
  | 0, _, c => c = z
  | n + 1, d, c => (0 ≤ A (d - 1).toNat ∧ A (d - 1).toNat < m) ∧ B (d - 1).toNat = 2 ∧ C (d - 1).toNat = 1 ∧ st_ud m A B C z n (d - 1) (fun s => if s = (A (d - 1).toNat).toNat then 1 else c s)
theorem st_ud_ext {m : Int} {A B C A' B' C' z : Nat → Int} : ∀ {n : Nat} {d : Int} {c : Nat → Int}, (n : Int) ≤ d → (∀ i : Nat, (i : Int) < d → A' i = A i ∧ B' i = B i ∧ C' i = C i) → st_ud m A B C z n d c → st_ud m A' B' C' z n d c
  | 0, _, _, _, _, h => h
  | n + 1, d, c, hn, e, ⟨h1, h2, h3, h4⟩ => by
    have q := e (d - 1).toNat (by omega)
    refine ⟨by rw [q.1]; exact h1, by rw [q.2.1]; exact h2, by rw [q.2.2]; exact h3, ?_⟩
    rw [q.1]
    exact st_ud_ext (by omega) (fun i hi => e i (by omega)) h4
/-- off these cells all is as it was -/
def st_ufr (B C : fz_H) : Prop := ∀ c s : Nat, c ≠ 4 → c ≠ 7 → c ≠ 8 → c ≠ 35 → c ≠ 36 → c ≠ 37 → c ≠ 38 → c ≠ 39 → c ≠ 18 → c ≠ 19 → C c s = B c s
def st_uo (B C : fz_H) (n : Int) : Prop := st_ufr B C ∧ C 35 4 = B 35 4 + n ∧ 0 ≤ n ∧ st_ud (B 1 8) (C 36) (C 37) (C 38) (B 4) n.toNat (C 35 4) (C 4)
def st_un (B C : fz_H) (f n k : Int) : Prop := st_uo B C n ∧ n ≤ k ∧ ∀ r : Nat, C 4 r = if (r : Int) < k ∧ fz_bt f r = true then 0 else B 4 r
theorem st_un_0 {B : fz_H} {f : Int} : st_un B B f 0 0 := ⟨⟨fun _ _ _ _ _ _ _ _ _ _ _ _ => rfl, (Int.add_zero _).symm, by decide, rfl⟩, by decide, fun r => by rw [if_neg (by omega)]⟩
theorem st_un_n {B C : fz_H} {f n k : Int} (u : st_un B C f n k) (h0 : 0 ≤ k ∧ k < 12) (b : fz_and (fz_shr f k) 1 ≠ 1) : st_un B C f n (k + 1) := by
  refine ⟨u.1, by have := u.2.1; omega, fun r => ?_⟩
  rw [u.2.2 r]
  have z : ¬ fz_bt f k.toNat = true := fun y => by
    rw [fz_bt_1 h0, y] at b
    exact b rfl
  by_cases e : r = k.toNat
  · subst e
    rw [if_neg (by omega), if_neg (fun y => z y.2)]
  · by_cases q : (r : Int) < k ∧ fz_bt f r = true
    · rw [if_pos q, if_pos ⟨by omega, q.2⟩]
    · rw [if_neg q, if_neg (fun y => q ⟨by omega, y.2⟩)]
theorem st_un_b {f k : Int} (h0 : 0 ≤ k ∧ k < 12) (b : fz_and (fz_shr f k) 1 = 1) : fz_bt f k.toNat = true := by
  rw [fz_bt_1 h0] at b
  cases hb : fz_bt f k.toNat with
  | true => rfl
  | false => rw [hb] at b; exact absurd b (by decide)
theorem st_un_1 {B C : fz_H} (hI : fz_Iv B) {f n k y e t : Int} (u : st_un B C f n k) (c : st_cI B e t f) (hf : 1 ≤ f) (h0 : 0 ≤ k ∧ k < B 1 8) (b : fz_and (fz_shr f k) 1 = 1) (o : y = C 4 k.toNat) : y = 1 := by
  have b18 : 0 ≤ B 1 8 ∧ B 1 8 ≤ 12 := hI.1 1 8
  have q := cf_min b18 c hf h0 (st_un_b (by omega) b)
  rw [o, u.2.2, if_neg (by omega), q]
theorem st_un_m {B C E : fz_H} (hI : fz_Iv B) (hC : fz_Iv C) {f n k r e t : Int} (u : st_un B C f n k) (c : st_cI B e t f) (hf : 1 ≤ f) (h0 : 0 ≤ k ∧ k < B 1 8) (b : fz_and (fz_shr f k) 1 = 1) (d19 : B 35 4 ≤ 19) (m : fz_mC C E k 2 0 r) : r = 1 ∧ st_un B E f (n + 1) (k + 1) := by
  have b18 : 0 ≤ B 1 8 ∧ B 1 8 ≤ 12 := hI.1 1 8
  have q := cf_min b18 c hf h0 (st_un_b (by omega) b)
  obtain ⟨⟨u1, u2, u3, u4⟩, u5, u6⟩ := u
  have C4 : C 4 k.toNat = 1 := by rw [u6, if_neg (by omega), q]
  have C18 : C 1 8 = B 1 8 := u1 1 8 (by decide) (by decide) (by decide) (by decide) (by decide) (by decide) (by decide) (by decide) (by decide) (by decide)
  have gc : fz_gC C k 2 = 1 := by
    unfold fz_gC fz_lC
    rw [if_neg (by decide), if_neg (by decide), if_pos rfl]
    exact C4
  have d0 : 0 ≤ B 35 4 := (hI.1 35 4).1
  rcases m with ⟨m, -⟩ | ⟨-, m1, m2, -⟩ | ⟨-, m1, -, g, cg, fg, a⟩
  · refine absurd ⟨Or.inr (Or.inr (Or.inl ⟨rfl, h0.1, by omega⟩)), ?_, ?_⟩ m
    · have e1 : C 201 = _ := hC.2.1
      rw [e1]
      decide
    · have e1 : C 202 = _ := hC.2.2.1
      rw [e1]
      decide
  · rw [gc] at m1
    omega
  · rw [gc] at m1
    rcases cg with ⟨-, g1, -, g3, g4, g5, -⟩ | ⟨z, -⟩
    · have l : fz_lC k 2 = (4, k.toNat) := by
        unfold fz_lC
        rw [if_neg (by decide), if_neg (by decide), if_pos rfl]
      have ex : ∀ x : Nat, x ≠ 7 → x ≠ 8 → x ≠ 4 → E x = g x := fun x x1 x2 x3 => by
        rw [a x x1 x2, l]
        exact fz_up_ne x3
      have e4 : ∀ s : Nat, E 4 s = if s = k.toNat then 0 else C 4 s := fun s => by
        have w := congrFun (a 4 (by decide) (by decide)) s
        rw [l] at w
        rw [w]
        by_cases y : s = k.toNat
        · rw [if_pos y, y]
          exact fz_up_e
        · rw [if_neg y, ← fg 4 s rfl]
          exact fz_up_s y
      have E35 : E 35 4 = C 35 4 + 1 := by rw [ex 35 (by decide) (by decide) (by decide)]; exact g1
      have hd : 0 ≤ C 35 4 := by omega
      have e36 : E 36 = fz_up C 36 (C 35 4).toNat k 36 := by rw [ex 36 (by decide) (by decide) (by decide)]; exact g3
      have e37 : E 37 = fz_up C 37 (C 35 4).toNat 2 37 := by rw [ex 37 (by decide) (by decide) (by decide)]; exact g4
      have e38 : E 38 = fz_up C 38 (C 35 4).toNat r 38 := by rw [ex 38 (by decide) (by decide) (by decide)]; exact g5
      refine ⟨m1, ⟨⟨fun c s h1 h2 h3 h4 h5 h6 h7 h8 h9 h10 => ?_, by omega, by omega, ?_⟩, by omega, fun s => ?_⟩⟩
      · rw [ex c h2 h3 h1, ← u1 c s h1 h2 h3 h4 h5 h6 h7 h8 h9 h10]
        refine fg c s ?_
        have q : ∀ x, x ≠ c → Nat.beq x c = false := fun x hx => by
          cases hb : Nat.beq x c with
          | false => rfl
          | true => exact absurd (Nat.eq_of_beq_eq_true hb) hx
        unfold fz_me
        simp [q 35 (Ne.symm h4), q 36 (Ne.symm h5), q 37 (Ne.symm h6), q 38 (Ne.symm h7), q 39 (Ne.symm h8)]
      · rw [show (n + 1).toNat = n.toNat + 1 by omega, E35]
        have p : C 35 4 + 1 - 1 = C 35 4 := by omega
        have A1 : E 36 (C 35 4).toNat = k := by rw [e36, fz_up_e]
        have A2 : E 37 (C 35 4).toNat = 2 := by rw [e37, fz_up_e]
        have A3 : E 38 (C 35 4).toNat = 1 := by rw [e38, fz_up_e]; exact m1
        show (0 ≤ E 36 (C 35 4 + 1 - 1).toNat ∧ E 36 (C 35 4 + 1 - 1).toNat < B 1 8) ∧ E 37 (C 35 4 + 1 - 1).toNat = 2 ∧ E 38 (C 35 4 + 1 - 1).toNat = 1 ∧ st_ud (B 1 8) (E 36) (E 37) (E 38) (B 4) n.toNat (C 35 4 + 1 - 1) (fun s => if s = (E 36 (C 35 4 + 1 - 1).toNat).toNat then 1 else E 4 s)
        rw [p, A1, A2, A3]
        refine ⟨by omega, rfl, rfl, ?_⟩
        have fe : (fun s => if s = k.toNat then 1 else E 4 s) = C 4 := funext fun s => by
          by_cases y : s = k.toNat
          · rw [if_pos y, y, C4]
          · rw [if_neg y, e4 s, if_neg y]
        rw [fe]
        refine st_ud_ext (by omega) (fun i hi => ?_) u4
        rw [e36, e37, e38, fz_up_s (by omega), fz_up_s (by omega), fz_up_s (by omega)]
        exact ⟨rfl, rfl, rfl⟩
      · rw [e4 s, u6 s]
        by_cases y : s = k.toNat
        · rw [if_pos y, if_pos ⟨by omega, by rw [y]; exact st_un_b (by omega) b⟩]
        · rw [if_neg y]
          by_cases w : (s : Int) < k ∧ fz_bt f s = true
          · rw [if_pos w, if_pos ⟨by omega, w.2⟩]
          · rw [if_neg w, if_neg (fun v => w ⟨by omega, v.2⟩)]
    · exfalso; omega
/-- then the town never hears -/
theorem st_gone {B C : fz_H} (hIB : fz_Iv B) (hI : fz_Iv C) (V : fz_RV C) {f n k e t : Int} (u : st_un B C f n k) (c : st_cI B e t f) (hf : 1 ≤ f) (hk : B 1 8 ≤ k) (a : 0 ≤ B 11 e.toNat ∧ B 11 e.toNat < B 1 7) (ht : 0 ≤ t ∧ t < B 1 7) : fz_haC C e t = -2 := by
  obtain ⟨⟨u1, u2, u3, u4⟩, u5, u6⟩ := u
  have fe : ∀ x : Nat, x ≠ 4 → x ≠ 7 → x ≠ 8 → x ≠ 35 → x ≠ 36 → x ≠ 37 → x ≠ 38 → x ≠ 39 → x ≠ 18 → x ≠ 19 → C x = B x := fun x h1 h2 h3 h4 h5 h6 h7 h8 h9 h10 => funext fun s => u1 x s h1 h2 h3 h4 h5 h6 h7 h8 h9 h10
  have e1 : C 1 = B 1 := fe 1 (by decide) (by decide) (by decide) (by decide) (by decide) (by decide) (by decide) (by decide) (by decide) (by decide)
  have e5 : C 5 = B 5 := fe 5 (by decide) (by decide) (by decide) (by decide) (by decide) (by decide) (by decide) (by decide) (by decide) (by decide)
  have e6 : C 6 = B 6 := fe 6 (by decide) (by decide) (by decide) (by decide) (by decide) (by decide) (by decide) (by decide) (by decide) (by decide)
  have e11 : C 11 = B 11 := fe 11 (by decide) (by decide) (by decide) (by decide) (by decide) (by decide) (by decide) (by decide) (by decide) (by decide)
  have g := cf_gone (H := C) c hf e5 e6 (by rw [e1]) (fun r hr => by
    rw [u6 r]
    by_cases b : fz_bt f r = true
    · rw [if_pos ⟨by omega, b⟩, if_pos b]
    · rw [if_neg (fun y => b y.2), if_neg b])
  have w := (wf_cat hI V (a := B 11 e.toNat) (b := t) (by rw [e1]; exact a) (by rw [e1]; exact ht)).mpr g
  have s := df_sg hI e t
  rw [e11] at s
  omega
/-- a road given back -/
theorem st_uo_u {B C E : fz_H} {n r : Int} (u : st_uo B C n) (hn : 1 ≤ n) (d0 : 0 ≤ B 35 4) (m : fz_uC C E r) : 0 ≤ r ∧ st_uo B E (n - 1) := by
  obtain ⟨u1, u2, u3, u4⟩ := u
  rcases m with ⟨m, -⟩ | ⟨-, m1, m2⟩
  · omega
  · rw [show n.toNat = (n - 1).toNat + 1 by omega] at u4
    obtain ⟨k1, k2, k3, k4⟩ := u4
    have C18 : C 1 8 = B 1 8 := u1 1 8 (by decide) (by decide) (by decide) (by decide) (by decide) (by decide) (by decide) (by decide) (by decide) (by decide)
    rw [k2, k3] at m2
    have a := m2 (Or.inr (Or.inr (Or.inl ⟨rfl, k1.1, by omega⟩)))
    have l : fz_lC (C 36 (C 35 4 - 1).toNat) 2 = (4, (C 36 (C 35 4 - 1).toNat).toNat) := by
      unfold fz_lC
      rw [if_neg (by decide), if_neg (by decide), if_pos rfl]
    have ex : ∀ x : Nat, x ≠ 7 → x ≠ 8 → x ≠ 4 → E x = fz_up C 35 4 (C 35 4 - 1) x := fun x x1 x2 x3 => by
      rw [a x x1 x2, l]
      exact fz_up_ne x3
    have e4 : E 4 = fun s => if s = (C 36 (C 35 4 - 1).toNat).toNat then 1 else C 4 s := funext fun s => by
      have w := congrFun (a 4 (by decide) (by decide)) s
      rw [l] at w
      rw [w]
      by_cases y : s = (C 36 (C 35 4 - 1).toNat).toNat
      · rw [if_pos y, y]
        exact fz_up_e
      · rw [if_neg y]
        refine (fz_up_s y).trans ?_
        show fz_up C 35 4 (C 35 4 - 1) 4 s = C 4 s
        rw [fz_up_ne (by decide)]
    have E35 : E 35 4 = C 35 4 - 1 := by rw [ex 35 (by decide) (by decide) (by decide), fz_up_e]
    have eo : ∀ x : Nat, x ≠ 7 → x ≠ 8 → x ≠ 4 → x ≠ 35 → E x = C x := fun x x1 x2 x3 x4 => by rw [ex x x1 x2 x3, fz_up_ne x4]
    refine ⟨by omega, fun c s h1 h2 h3 h4 h5 h6 h7 h8 h9 h10 => ?_, by omega, by omega, ?_⟩
    · rw [eo c h2 h3 h1 h4]
      exact u1 c s h1 h2 h3 h4 h5 h6 h7 h8 h9 h10
    · rw [eo 36 (by decide) (by decide) (by decide) (by decide), eo 37 (by decide) (by decide) (by decide) (by decide), eo 38 (by decide) (by decide) (by decide) (by decide), E35, e4]
      exact k4
theorem st_uo_0 {B C : fz_H} {n : Int} (u : st_uo B C n) (hn : n = 0) : C 4 = B 4 ∧ C 35 4 = B 35 4 ∧ st_ufr B C := by
  subst hn
  exact ⟨u.2.2.2, by have := u.2.1; omega, u.1⟩
theorem st_uf1 {B C : fz_H} (u : st_ufr B C) : C 1 = B 1 ∧ C 9 = B 9 ∧ C 11 = B 11 ∧ C 53 = B 53 ∧ C 20 = B 20 ∧ C 3 = B 3 ∧ C 12 = B 12 ∧ C 2 = B 2 ∧ C 5 = B 5 ∧ C 6 = B 6 := by
  have fe : ∀ x : Nat, x ≠ 4 → x ≠ 7 → x ≠ 8 → x ≠ 35 → x ≠ 36 → x ≠ 37 → x ≠ 38 → x ≠ 39 → x ≠ 18 → x ≠ 19 → C x = B x := fun x h1 h2 h3 h4 h5 h6 h7 h8 h9 h10 => funext fun s => u x s h1 h2 h3 h4 h5 h6 h7 h8 h9 h10
  refine ⟨fe 1 ?_ ?_ ?_ ?_ ?_ ?_ ?_ ?_ ?_ ?_, fe 9 ?_ ?_ ?_ ?_ ?_ ?_ ?_ ?_ ?_ ?_, fe 11 ?_ ?_ ?_ ?_ ?_ ?_ ?_ ?_ ?_ ?_, fe 53 ?_ ?_ ?_ ?_ ?_ ?_ ?_ ?_ ?_ ?_, fe 20 ?_ ?_ ?_ ?_ ?_ ?_ ?_ ?_ ?_ ?_, fe 3 ?_ ?_ ?_ ?_ ?_ ?_ ?_ ?_ ?_ ?_, fe 12 ?_ ?_ ?_ ?_ ?_ ?_ ?_ ?_ ?_ ?_, fe 2 ?_ ?_ ?_ ?_ ?_ ?_ ?_ ?_ ?_ ?_, fe 5 ?_ ?_ ?_ ?_ ?_ ?_ ?_ ?_ ?_ ?_, fe 6 ?_ ?_ ?_ ?_ ?_ ?_ ?_ ?_ ?_ ?_⟩ <;> decide
theorem st_uo_N {t : Int} {B C : fz_H} {n : Int} (u : st_uo B C n) (hn : n = 0) (N : st_N t B) : st_N t C := by
  obtain ⟨-, d, f⟩ := st_uo_0 u hn
  obtain ⟨e1, e9, -, e53, e20, -⟩ := st_uf1 f
  unfold st_N
  rw [e1, e9, e53, e20, d]
  exact N
theorem st_uo_L1 {B C : fz_H} {n : Int} (u : st_uo B C n) (z : st_L1 B) : st_L1 C := by
  obtain ⟨e1, -, -, -, -, e3, -⟩ := st_uf1 u.1
  unfold st_L1
  rw [e1, e3]
  exact z
theorem st_ha_s {B C : fz_H} (V : fz_RV B) (V' : fz_RV C) (hIB : fz_Iv B) {e t : Int} (e1 : C 1 = B 1) (e5 : C 5 = B 5) (e6 : C 6 = B 6) (e3 : C 3 = B 3) (e4 : C 4 = B 4) (e11 : C 11 = B 11) (e12 : C 12 = B 12) (e2 : C 2 = B 2) (a : B 11 e.toNat < B 1 7) (ht : 0 ≤ t ∧ t < B 1 7) : fz_haC C e t = fz_haC B e t := by
  have b : 0 ≤ B 11 e.toNat ∧ B 11 e.toNat ≤ 7 := hIB.1 11 _
  have w := (wf_same V V' (by rw [e1]) (by rw [e1]) e5 e6 e3 e4 (a := B 11 e.toNat) (b := t) ⟨b.1, a⟩ ht).2
  unfold fz_haC
  rw [e11, e12, e2, w]
theorem st_uo_h {B C : fz_H} {n : Int} (u : st_uo B C n) (hn : n = 0) (V : fz_RV B) (V' : fz_RV C) (hIB : fz_Iv B) {e t : Int} (a : B 11 e.toNat < B 1 7) (ht : 0 ≤ t ∧ t < B 1 7) : fz_haC C e t = fz_haC B e t := by
  obtain ⟨e4, -, f⟩ := st_uo_0 u hn
  obtain ⟨e1, -, e11, -, -, e3, e12, e2, e5, e6⟩ := st_uf1 f
  exact st_ha_s V V' hIB e1 e5 e6 e3 e4 e11 e12 e2 a ht
theorem st_uo_e {B C : fz_H} {n m : Int} (u : st_uo B C n) (e : n = m) : st_uo B C m := by rw [← e]; exact u
theorem st_uo_a {B C : fz_H} {n a e : Int} (u : st_uo B C n) (ea : a = B 11 e.toNat) : a = C 11 e.toNat := by
  obtain ⟨-, -, e11, -⟩ := st_uf1 u.1
  rw [e11]
  exact ea
theorem st_uo_1 {t : Int} {B C : fz_H} {n : Int} (u : st_uo B C n) (N : st_N t B) (hI : fz_Iv B) : C 53 1 = B 1 8 ∧ C 1 8 = B 1 8 ∧ C 1 7 = t ∧ B 1 7 = t ∧ C 9 5 = B 9 5 ∧ C 35 4 = B 35 4 + n ∧ B 35 4 ≤ 19 ∧ 0 ≤ B 35 4 ∧ (0 ≤ B 1 8 ∧ B 1 8 ≤ 12) ∧ (0 ≤ t ∧ t ≤ 8) := by
  obtain ⟨e1, e9, -, e53, -⟩ := st_uf1 u.1
  have n1 := st_N_e hI N
  rw [e1, e9, e53]
  exact ⟨by omega, rfl, by omega, by omega, rfl, u.2.1, by omega, by omega, by omega, by omega⟩
theorem st_un_N {t : Int} {B C : fz_H} {f n k : Int} (u : st_un B C f n k) (N : st_N t B) (hI : fz_Iv B) : C 53 1 = B 1 8 ∧ C 1 8 = B 1 8 ∧ C 1 7 = t ∧ B 1 7 = t ∧ C 9 5 = B 9 5 ∧ C 35 4 = B 35 4 + n ∧ B 35 4 ≤ 19 ∧ 0 ≤ B 35 4 ∧ (0 ≤ B 1 8 ∧ B 1 8 ≤ 12) ∧ (0 ≤ t ∧ t ≤ 8) := st_uo_1 u.1 N hI
