/-! ===== what asking tells is known by roads, deeds and law ===== -/
theorem th_c {P Q : Int → Prop} (e : ∀ r, P r ↔ Q r) : fz_th P = fz_th Q := congrArg fz_th (funext fun r => propext (e r))
theorem or_c {P P' : Prop} {r x x' y : Int} (hp : P' ↔ P) (hx : P → x' = x) : ((P' ∧ r = x') ∨ (¬ P' ∧ r = y)) ↔ ((P ∧ r = x) ∨ (¬ P ∧ r = y)) := by
  constructor
  · rintro (⟨a, b⟩ | ⟨a, b⟩)
    · exact Or.inl ⟨hp.mp a, b.trans (hx (hp.mp a))⟩
    · exact Or.inr ⟨fun z => a (hp.mpr z), b⟩
  · rintro (⟨a, b⟩ | ⟨a, b⟩)
    · exact Or.inl ⟨hp.mpr a, b.trans (hx a).symm⟩
    · exact Or.inr ⟨fun z => a (hp.mp z), b⟩
/-- alike but for the ways that no two towns have -/
def st_vw (B C : fz_H) : Prop := ((C 1 7 = B 1 7 ∧ C 1 8 = B 1 8 ∧ C 9 5 = B 9 5) ∧ (C 2 = B 2 ∧ C 3 = B 3 ∧ C 4 = B 4) ∧ (C 10 = B 10 ∧ C 11 = B 11 ∧ C 12 = B 12 ∧ C 13 = B 13 ∧ C 14 = B 14) ∧ (C 15 = B 15 ∧ C 16 = B 16 ∧ C 17 = B 17) ∧ (C 27 = B 27 ∧ C 28 = B 28 ∧ C 41 = B 41) ∧ (C 40 1 = B 40 1 ∧ C 40 2 = B 40 2 ∧ C 40 3 = B 40 3 ∧ C 40 4 = B 40 4 ∧ C 40 5 = B 40 5)) ∧ (0 ≤ B 9 5 ∧ 0 ≤ B 1 7 ∧ ∀ d : Nat, (d : Int) < B 9 5 → 0 ≤ B 11 d ∧ B 11 d < B 1 7) ∧ ∀ x y : Int, (0 ≤ x ∧ x < B 1 7) → (0 ≤ y ∧ y < B 1 7) → C 7 (8 * x + y).toNat = B 7 (8 * x + y).toNat ∧ C 8 (8 * x + y).toNat = B 8 (8 * x + y).toNat
theorem vw_ha {B C : fz_H} (v : st_vw B C) {d t : Int} (hd : 0 ≤ d ∧ d < B 9 5) (ht : 0 ≤ t ∧ t < B 1 7) : fz_haC C d t = fz_haC B d t := by
  obtain ⟨⟨-, ⟨e2, -⟩, ⟨-, e11, e12, -⟩, -⟩, ⟨-, -, p⟩, w⟩ := v
  have q := (w _ t (p d.toNat (by omega)) ht).2
  unfold fz_haC
  rw [e11, e12, e2, q]
theorem vw_v {B C : fz_H} (v : st_vw B C) : fl_vC C = fl_vC B := by
  obtain ⟨⟨-, -, -, ⟨e15, e16, e17⟩, -⟩, -⟩ := v
  funext w a d m t p
  unfold fl_vC
  rw [e15, e16, e17]
theorem vw_ld {B C : fz_H} (v : st_vw B C) {on t hr d : Int} (hd : 0 ≤ d ∧ d < B 9 5) (ht : 0 ≤ t ∧ t < B 1 7) : fl_ldC C on t hr d = fl_ldC B on t hr d := by
  have a := vw_ha v hd ht
  have b := vw_v v
  obtain ⟨⟨-, -, ⟨-, -, e12, e13, e14⟩, -⟩, -⟩ := v
  unfold fl_ldC
  rw [a, b, e12, e13, e14]
theorem vw_SC {B C : fz_H} (v : st_vw B C) {p q m t hr : Int} (ht : 0 ≤ t ∧ t < B 1 7) : fl_SC C p q m t hr = fl_SC B p q m t hr := by
  have a : ∀ k : Nat, k < (B 9 5).toNat → fl_ldC C p t hr (k : Int) = fl_ldC B p t hr (k : Int) := fun k hk => vw_ld v (by omega) ht
  obtain ⟨⟨⟨-, -, e9⟩, -, ⟨e10, -, -, e13, -⟩, -⟩, -⟩ := v
  unfold fl_SC
  rw [e9, e10, e13]
  exact fl_sl_eq (fun k hk => ⟨rfl, rfl, a k hk⟩)
theorem vw_gC {B C : fz_H} (v : st_vw B C) {nu wh : Int} : fz_gC C nu wh = fz_gC B nu wh := by
  obtain ⟨⟨-, ⟨e2, e3, e4⟩, ⟨-, -, e12, e13, e14⟩, -, ⟨e27, e28, -⟩, -⟩, -⟩ := v
  unfold fz_gC fz_lC
  by_cases c0 : wh = 0
  · rw [if_pos c0]; exact congrFun e2 _
  rw [if_neg c0]
  by_cases c1 : wh = 1
  · rw [if_pos c1]; exact congrFun e3 _
  rw [if_neg c1]
  by_cases c2 : wh = 2
  · rw [if_pos c2]; exact congrFun e4 _
  rw [if_neg c2]
  by_cases c3 : wh = 3
  · rw [if_pos c3]; exact congrFun e12 _
  rw [if_neg c3]
  by_cases c4 : wh = 4
  · rw [if_pos c4]; exact congrFun e13 _
  rw [if_neg c4]
  by_cases c5 : wh = 5
  · rw [if_pos c5]; exact congrFun e14 _
  rw [if_neg c5]
  by_cases c6 : wh = 6
  · rw [if_pos c6]; exact congrFun e28 _
  rw [if_neg c6]
  by_cases c7 : wh = 7
  · rw [if_pos c7]; exact congrFun e27 _
  rw [if_neg c7]
  exact congrFun e27 _
theorem vw_nC {B C : fz_H} (v : st_vw B C) {nu wh r : Int} : fz_nC (fz_nm C) nu wh r ↔ fz_nC (fz_nm B) nu wh r := by
  have g := vw_gC v (nu := nu) (wh := wh)
  obtain ⟨⟨⟨e17, e18, e9⟩, -, ⟨e10, e11, -⟩, -, ⟨-, -, e41⟩, ⟨e40, -⟩⟩, -⟩ := v
  unfold fz_nC
  rw [nm_gC, nm_gC, g]
  show ((8 < wh ∧ fz_fxC C nu wh r) ∨ (wh ≤ 8 ∧ fz_PC C nu wh ∧ r = fz_gC B nu wh) ∨ (wh ≤ 8 ∧ ¬ fz_PC C nu wh ∧ r = -2000000000)) ↔ ((8 < wh ∧ fz_fxC B nu wh r) ∨ (wh ≤ 8 ∧ fz_PC B nu wh ∧ r = fz_gC B nu wh) ∨ (wh ≤ 8 ∧ ¬ fz_PC B nu wh ∧ r = -2000000000))
  unfold fz_fxC fz_PC
  rw [e17, e18, e9, e10, e11, e41, e40]
theorem vw_of {B C : fz_H} (v : st_vw B C) : a_of (fz_nm C) = a_of (fz_nm B) := funext fun nu => funext fun wh => th_c (fun _ => vw_nC v)
theorem vw_way {B C : fz_H} (v : st_vw B C) : a_way (fz_nm C) = a_way (fz_nm B) := funext fun ab => funext fun wh => th_c (fun r => by
  show fz_wyC C ab wh r ↔ fz_wyC B ab wh r
  obtain ⟨⟨⟨e17, -⟩, -⟩, -, w⟩ := v
  unfold fz_wyC fz_wyO
  rw [e17]
  by_cases c : 0 ≤ ab ∧ ab / 10 < B 1 7 ∧ ab % 10 < B 1 7 ∧ 0 ≤ wh ∧ wh ≤ 1
  · have q := w (ab / 10) (ab % 10) ⟨by omega, c.2.1⟩ ⟨by omega, c.2.2.1⟩
    rw [q.1, q.2]
  · constructor
    · rintro (z | z | z)
      · exact Or.inl z
      · exact absurd z.1 c
      · exact absurd z.1 c
    · rintro (z | z | z)
      · exact Or.inl z
      · exact absurd z.1 c
      · exact absurd z.1 c)
theorem nw_eq {g g' : Int → Int} {hr : Int} : ∀ {n : Nat}, (∀ k : Nat, k < n → g' (k : Int) = g (k : Int)) → fl_nw g' hr n = fl_nw g hr n
  | 0, _ => rfl
  | n + 1, h => by
    have i := nw_eq (hr := hr) (n := n) (fun k hk => h k (by omega))
    unfold fl_nw
    rw [i, h n (by omega)]
theorem vw_news {B C : fz_H} (v : st_vw B C) : a_news (fz_nm C) = a_news (fz_nm B) := funext fun d => funext fun hr => th_c (fun r => by
  show fl_nwC C d hr r ↔ fl_nwC B d hr r
  unfold fl_nwC
  refine or_c ?_ (fun c => ?_)
  · rw [v.1.1.2.2]
  · rw [v.1.1.1, nw_eq (g := fz_haC B d) (g' := fz_haC C d) (fun k hk => vw_ha v ⟨c.1, c.2.1⟩ (by omega))])
theorem vw_garb {B C : fz_H} (v : st_vw B C) : a_garb (fz_nm C) = a_garb (fz_nm B) := funext fun d => funext fun t => funext fun pt => th_c (fun r => by
  show fl_gbC C d t pt r ↔ fl_gbC B d t pt r
  have q : fl_oG (B 9 5) (B 1 7) d t pt → C 8 (8 * B 11 d.toNat + t).toNat = B 8 (8 * B 11 d.toNat + t).toNat := fun c => (v.2.2 _ t (v.2.1.2.2 d.toNat (by have := c.1; omega)) c.2.1).2
  obtain ⟨⟨⟨e17, -, e9⟩, -, ⟨-, e11, -⟩, -, ⟨e27, -⟩, -⟩, -⟩ := v
  unfold fl_gbC fl_gbx
  rw [e17, e9, e27, e11]
  by_cases c : fl_oG (B 9 5) (B 1 7) d t pt
  · rw [q c]
  · constructor
    · rintro (z | z | z)
      · exact Or.inl z
      · exact absurd z.1 c
      · exact absurd z.1 c
    · rintro (z | z | z)
      · exact Or.inl z
      · exact absurd z.1 c
      · exact absurd z.1 c)
theorem vw_recv {B C : fz_H} (v : st_vw B C) : a_recv (fz_nm C) = a_recv (fz_nm B) := funext fun on => funext fun th => funext fun wh => th_c (fun r => by
  show fl_rcC C on th wh r ↔ fl_rcC B on th wh r
  unfold fl_rcC
  refine or_c ?_ (fun c => ?_)
  · rw [v.1.1.1]
  · have c2 := c.2.1
    have s : (fun m : Nat => fl_SC C on on (m : Int) (th / 1000) (th % 1000)) = fun m : Nat => fl_SC B on on (m : Int) (th / 1000) (th % 1000) := funext fun m => vw_SC v (by omega)
    rw [s, v.1.2.2.2.2.1.1, v.1.2.2.2.2.1.2.1])
theorem vw_atH {B C : fz_H} (v : st_vw B C) : a_atH (fz_nm C) = a_atH (fz_nm B) := funext fun on => funext fun hr => funext fun wh => th_c (fun r => by
  show fl_ahC C on hr wh r ↔ fl_ahC B on hr wh r
  unfold fl_ahC
  refine or_c Iff.rfl (fun c => ?_)
  rw [v.1.1.1]
  have n0 := v.2.1.2.1
  have s : ∀ k : Nat, k < (B 1 7).toNat → (fun m : Nat => fl_SC C on on (m : Int) (k : Int) hr) = fun m : Nat => fl_SC B on on (m : Int) (k : Int) hr := fun k hk => funext fun m => vw_SC v (by omega)
  unfold fl_ahx
  by_cases w : wh = 2
  · rw [if_pos w, if_pos w, fl_bt_eq (v := fl_reC B on hr) (v' := fl_reC C on hr) (fun k hk => by
      unfold fl_reC
      rw [s k hk, v.1.2.2.2.2.1.2.1])]
  · rw [if_neg w, if_neg w]
    exact fl_tb_eq (fun k hk => by
      unfold fl_cC
      rw [s k hk, v.1.2.2.2.2.1.1]))
theorem vw_home {B C : fz_H} (v : st_vw B C) : a_home (fz_nm C) = a_home (fz_nm B) := funext fun on => funext fun th => funext fun wh => th_c (fun r => by
  show fl_hoC C on th wh r ↔ fl_hoC B on th wh r
  unfold fl_hoC
  refine or_c ?_ (fun c => ?_)
  · rw [v.1.1.1]
  · have c2 := c.2.1
    rw [v.1.1.1, fl_hm_eq (f := fl_ftC B (th / 1000)) (f' := fl_ftC C (th / 1000)) (u := fl_uC B on) (u' := fl_uC C on) (fun k hk => ⟨by
      unfold fl_ftC
      rw [(v.2.2 (th / 1000) (k : Int) (by omega) (by omega)).1], fun x => by
      unfold fl_uC
      rw [show (fun m : Nat => fl_SC C on on (m : Int) (k : Int) x) = fun m : Nat => fl_SC B on on (m : Int) (k : Int) x from funext fun m => vw_SC v (by omega)]⟩)])
theorem vw_alike {B C : fz_H} (v : st_vw B C) : a_alike (fz_nm C) = a_alike (fz_nm B) := funext fun pq => funext fun th => funext fun wh => th_c (fun r => by
  show fl_akCC C pq th wh r ↔ fl_akCC B pq th wh r
  unfold fl_akCC
  refine or_c ?_ (fun c => ?_)
  · rw [v.1.1.1]
  · have c2 := c.2.1
    have s : ∀ p q t hr : Int, 0 ≤ t ∧ t < B 1 7 → (fun m : Nat => fl_SC C p q (m : Int) t hr) = fun m : Nat => fl_SC B p q (m : Int) t hr := fun p q t hr ht => funext fun m => vw_SC v ht
    have al : ∀ a b t hr : Int, 0 ≤ t ∧ t < B 1 7 → fl_alC C a b t hr = fl_alC B a b t hr := fun a b t hr ht => by
      unfold fl_alC
      rw [s a a t hr ht, s b b t hr ht]
    have rm : ∀ p q hr : Int, fl_rmC C p q (th / 1000) hr = fl_rmC B p q (th / 1000) hr := fun p q hr => by
      unfold fl_rmC
      rw [s p q _ hr (by omega), v.1.2.2.2.2.1.2.1]
    rw [al _ _ _ _ (show 0 ≤ th / 1000 ∧ th / 1000 < B 1 7 by omega), rm, rm, v.1.1.1]
    have tb := fl_tb_eq (c := fl_akC B pq (th % 1000)) (c' := fl_akC C pq (th % 1000)) (n := (B 1 7).toNat) (fun k hk => by
      unfold fl_akC
      rw [al _ _ _ _ (show 0 ≤ (k : Int) ∧ (k : Int) < B 1 7 by omega)])
    unfold fl_akx
    rw [tb])
theorem vw_first {B C : fz_H} (v : st_vw B C) : a_first (fz_nm C) = a_first (fz_nm B) := funext fun pm => funext fun tx => funext fun wh => th_c (fun r => by
  show fl_fiC C pm tx wh r ↔ fl_fiC B pm tx wh r
  unfold fl_fiC
  rw [v.1.1.1]
  by_cases c : fl_oF (B 1 7) pm tx wh
  · have c2 := c.2.1
    rw [show fl_SC C (pm / 10) (pm / 10) (pm % 10) (tx / 100) = fl_SC B (pm / 10) (pm / 10) (pm % 10) (tx / 100) from funext fun hr => vw_SC v (by omega)]
  · constructor
    · rintro (z | z)
      · exact absurd z.1 c
      · exact Or.inr z
    · rintro (z | z)
      · exact absurd z.1 c
      · exact Or.inr z)
theorem vw_as {B C : fz_H} (v : st_vw B C) {hr : Int} {d : Nat} (hd : (d : Int) < B 9 5) : fl_asC C hr (d : Int) ↔ fl_asC B hr (d : Int) := by
  have e10 := v.1.2.2.1.1
  have e27 := v.1.2.2.2.2.1.1
  have e17 := v.1.1.1
  unfold fl_asC
  rw [e10, e27, e17]
  constructor
  · rintro ⟨t, t0, t1, t2, t3⟩
    rw [vw_ld v (by omega) ⟨t0, t1⟩] at t2 t3
    exact ⟨t, t0, t1, t2, t3⟩
  · rintro ⟨t, t0, t1, t2, t3⟩
    rw [← vw_ld v (by omega) ⟨t0, t1⟩] at t2 t3
    exact ⟨t, t0, t1, t2, t3⟩
theorem vw_free {B C : fz_H} (v : st_vw B C) : a_free (fz_nm C) = a_free (fz_nm B) := funext fun on => funext fun hr => funext fun wh => th_c (fun r => by
  show fl_frC C on hr wh r ↔ fl_frC B on hr wh r
  have P : ∀ d : Nat, (d : Int) < B 9 5 → (fl_fPC C on hr d ↔ fl_fPC B on hr d) := fun d hd => by
    unfold fl_fPC
    rw [v.1.2.2.1.1, v.1.2.2.1.2.2.2.1, vw_as v hd]
  unfold fl_frC
  rw [v.1.1.2.2]
  constructor
  · rintro (⟨a, F, f1, f2⟩ | z)
    · exact Or.inl ⟨a, F, fl_isF_eq P f1, f2⟩
    · exact Or.inr z
  · rintro (⟨a, F, f1, f2⟩ | z)
    · exact Or.inl ⟨a, F, fl_isF_eq (fun d hd => (P d hd).symm) f1, f2⟩
    · exact Or.inr z)
theorem vw_led {B C : fz_H} (v : st_vw B C) : a_led (fz_nm C) = a_led (fz_nm B) := funext fun wh => th_c (fun r => by
  show fl_leC C wh r ↔ fl_leC B wh r
  obtain ⟨⟨-, -, -, -, -, e1, e2, e3, e4, e5⟩, -⟩ := v
  unfold fl_leC
  rw [e1, e2, e3, e4, e5])
theorem td27_c {g g' : fz_H} (h1 : a_of g' = a_of g) (h2 : a_way g' = a_way g) : td27 g' = td27 g := by
  funext s n
  induction n with
  | zero => rfl
  | succ n i => simp only [td27, i, h1, h2]
theorem td79_c {g g' : fz_H} (h1 : a_of g' = a_of g) : td79 g' = td79 g := by
  funext s n
  induction n with
  | zero => rfl
  | succ n i => simp only [td79, i, h1]
theorem td121_c {g g' : fz_H} (h1 : a_of g' = a_of g) (h2 : a_news g' = a_news g) (h3 : a_garb g' = a_garb g) : td121 g' = td121 g := by
  funext s n
  induction n with
  | zero => rfl
  | succ n i => simp only [td121, i, h1, h2, h3]
theorem td242_c {g g' : fz_H} (h1 : a_of g' = a_of g) : td242 g' = td242 g := by
  funext s n
  induction n with
  | zero => rfl
  | succ n i => simp only [td242, i, h1]
theorem td273_c {g g' : fz_H} (h0 : g' 1 7 = g 1 7) (h1 : a_of g' = a_of g) (h2 : a_atH g' = a_atH g) (h3 : a_free g' = a_free g) (h4 : a_recv g' = a_recv g) (h5 : a_home g' = a_home g) (h6 : a_alike g' = a_alike g) (h7 : a_first g' = a_first g) : td273 g' = td273 g := by
  funext s n
  induction n with
  | zero => rfl
  | succ n i => simp only [td273, i, h0, h1, h2, h3, h4, h5, h6, h7]
theorem td433_c {g g' : fz_H} (h1 : a_led g' = a_led g) : td433 g' = td433 g := by
  funext s n
  induction n with
  | zero => rfl
  | succ n i => simp only [td433, i, h1]
theorem vw_td {B C : fz_H} (v : st_vw B C) : st_td (fz_nm C) = st_td (fz_nm B) := by
  have a := vw_of v
  have n1 : (fz_nm C) 1 7 = (fz_nm B) 1 7 := v.1.1.1
  have n2 : (fz_nm C) 1 8 = (fz_nm B) 1 8 := v.1.1.2.1
  have n3 : (fz_nm C) 9 5 = (fz_nm B) 9 5 := v.1.1.2.2
  unfold st_td
  rw [td27_c a (vw_way v), td79_c a, td121_c a (vw_news v) (vw_garb v), td242_c a, td273_c n1 a (vw_atH v) (vw_free v) (vw_recv v) (vw_home v) (vw_alike v) (vw_first v), td433_c (vw_led v), a, n1, n2, n3]
theorem st_uo_S {s : Int} {B C : fz_H} {n : Int} (u : st_uo B C n) (hn : n = 0) (V : fz_RV B) (V' : fz_RV C) (P : fz_RP2 B) (hIB : fz_Iv B) (S : st_S s B) : st_S s C := by
  obtain ⟨e4, -, f⟩ := st_uo_0 u hn
  have fe : ∀ x : Nat, x ≠ 4 → x ≠ 7 → x ≠ 8 → x ≠ 35 → x ≠ 36 → x ≠ 37 → x ≠ 38 → x ≠ 39 → x ≠ 18 → x ≠ 19 → C x = B x := fun x h1 h2 h3 h4 h5 h6 h7 h8 h9 h10 => funext fun s => f x s h1 h2 h3 h4 h5 h6 h7 h8 h9 h10
  obtain ⟨e1, e9, e11, -, -, e3, e12, e2, e5, e6⟩ := st_uf1 f
  have e10 : C 10 = B 10 := by refine fe 10 ?_ ?_ ?_ ?_ ?_ ?_ ?_ ?_ ?_ ?_ <;> decide
  have e13 : C 13 = B 13 := by refine fe 13 ?_ ?_ ?_ ?_ ?_ ?_ ?_ ?_ ?_ ?_ <;> decide
  have e14 : C 14 = B 14 := by refine fe 14 ?_ ?_ ?_ ?_ ?_ ?_ ?_ ?_ ?_ ?_ <;> decide
  have e15 : C 15 = B 15 := by refine fe 15 ?_ ?_ ?_ ?_ ?_ ?_ ?_ ?_ ?_ ?_ <;> decide
  have e16 : C 16 = B 16 := by refine fe 16 ?_ ?_ ?_ ?_ ?_ ?_ ?_ ?_ ?_ ?_ <;> decide
  have e17 : C 17 = B 17 := by refine fe 17 ?_ ?_ ?_ ?_ ?_ ?_ ?_ ?_ ?_ ?_ <;> decide
  have e27 : C 27 = B 27 := by refine fe 27 ?_ ?_ ?_ ?_ ?_ ?_ ?_ ?_ ?_ ?_ <;> decide
  have e28 : C 28 = B 28 := by refine fe 28 ?_ ?_ ?_ ?_ ?_ ?_ ?_ ?_ ?_ ?_ <;> decide
  have e41 : C 41 = B 41 := by refine fe 41 ?_ ?_ ?_ ?_ ?_ ?_ ?_ ?_ ?_ ?_ <;> decide
  have e40 : C 40 = B 40 := by refine fe 40 ?_ ?_ ?_ ?_ ?_ ?_ ?_ ?_ ?_ ?_ <;> decide
  have b9 : 0 ≤ B 9 5 := (hIB.1 9 5).1
  have b1 : 0 ≤ B 1 7 := (hIB.1 1 7).1
  have v : st_vw B C := ⟨⟨⟨by rw [e1], by rw [e1], by rw [e9]⟩, ⟨e2, e3, e4⟩, ⟨e10, e11, e12, e13, e14⟩, ⟨e15, e16, e17⟩, ⟨e27, e28, e41⟩, by rw [e40], by rw [e40], by rw [e40], by rw [e40], by rw [e40]⟩, ⟨b9, b1, fun d hd => ⟨(hIB.1 11 d).1, P d hd⟩⟩, fun x y hx hy => wf_same V V' (by rw [e1]) (by rw [e1]) e5 e6 e3 e4 hx hy⟩
  unfold st_S
  rw [vw_td v]
  exact S
