/-! ===== which deeds it was ===== -/
def st_PQ (p t hr : Int) (h : fz_H) (own k : Int) : Prop := (0 ≤ k ∧ k ≤ 2047) ∧ fl_sb k own ∧ ∀ m : Int, 0 ≤ m → m < 5 → fl_SC h p p m t hr = fl_sl (fl_b1s k) (h 13) (fl_ldC h p t hr) 1 1 m (h 9 5).toNat
def st_WQ (p t hr : Int) (h : fz_H) (wh r : Int) : Prop := ∃ own cnt least inAll : Int, fl_own (h 10) p own (h 9 5) ∧ fl_wcI (st_PQ p t hr h own) (fz_shl 1 (h 9 5)) cnt least inAll ∧ r = fl_wx cnt least inAll wh
theorem st_WQ_nm {A B : fz_H} (nm : fz_nm A = fz_nm B) {p t hr wh r : Int} (q : st_WQ p t hr A wh r) : st_WQ p t hr B wh r := by
  have z : st_WQ p t hr (fz_nm A) wh r := q
  rw [nm] at z
  exact z
theorem st_WQ_in {h : fz_H} {p t hr mk rc th wh r : Int} (w : st_W p t hr mk rc h) (hp : 0 ≤ p ∧ p ≤ 3) (ht : 0 ≤ t ∧ t < h 1 7) (hh : 0 ≤ hr ∧ hr ≤ 999) (et : th = 1000 * t + hr) (hw : 0 ≤ wh ∧ wh ≤ 2) (c : fl_whC h 0 p th wh r) : st_WQ p t hr h wh r := by
  subst et
  obtain ⟨-, -, ⟨w1, w2, w3⟩, w4⟩ := w
  have w1' : h 48 (0 : Int).toNat = 2 := w1
  have w2' : h 50 (0 : Int).toNat = 0 := w2
  have w3' : h 51 (0 : Int).toNat = 5 := w3
  have ok : fl_oW (h 1 7) 0 p (1000 * t + hr) wh := ⟨⟨⟨by decide, by decide⟩, hp, by omega, by omega⟩, hw⟩
  rcases c with ⟨n, -⟩ | ⟨-, n, -⟩ | ⟨-, -, n, -⟩ | ⟨-, own, cnt, least, inAll, o, i, e⟩
  · exact absurd ok n
  · omega
  · exact absurd ⟨w1', w2'⟩ n
  · rw [show (1000 * t + hr) / 1000 = t by omega, show (1000 * t + hr) % 1000 = hr by omega] at i
    refine ⟨own, cnt, least, inAll, o, fl_wcI_eq (fun k => ?_) i, e⟩
    have g : ∀ m : Int, 0 ≤ m → m < 5 → fl_gjC h 0 m = fl_SC h p p m t hr := fun m m0 m1 => by
      unfold fl_gjC
      rw [show (60 * 0 + m).toNat = m.toNat by omega, w4 m.toNat (by omega), show ((m.toNat : Nat) : Int) = m by omega]
    unfold fl_QC st_PQ fl_sn
    rw [w3']
    constructor
    · rintro ⟨a, b, c⟩
      exact ⟨a, b, fun m m0 m1 => (g m m0 m1).symm.trans (c m m0 m1 m1)⟩
    · rintro ⟨a, b, c⟩
      exact ⟨a, b, fun m m0 m1 _ => (g m m0 m1).trans (c m m0 m1)⟩
theorem wq_m_all : (List.range 11).all (fun n => (List.range 11).all (fun d => fz_bt (fz_shl 1 (n : Int) - 1) d == Nat.blt d n) && (decide (1 ≤ fz_shl 1 (n : Int)) && decide (fz_shl 1 (n : Int) ≤ 1024))) = true := by decide +kernel
theorem wq_m {n : Int} (hn : 0 ≤ n ∧ n ≤ 10) : (1 ≤ fz_shl 1 n ∧ fz_shl 1 n ≤ 1024) ∧ ∀ d : Nat, d < 11 → fz_bt (fz_shl 1 n - 1) d = Nat.blt d n.toNat := by
  have z := List.all_eq_true.mp wq_m_all n.toNat (List.mem_range.mpr (by omega))
  rw [show ((n.toNat : Nat) : Int) = n by omega, Bool.and_eq_true, Bool.and_eq_true, decide_eq_true_eq, decide_eq_true_eq] at z
  exact ⟨z.2, fun d hd => eq_of_beq (List.all_eq_true.mp z.1 d (List.mem_range.mpr hd))⟩
theorem wq_own {h : fz_H} {p t hr own : Int} (hn : 0 ≤ h 9 5 ∧ h 9 5 ≤ 10) (o : fl_own (h 10) p own (h 9 5)) : own < fz_shl 1 (h 9 5) ∧ st_PQ p t hr h own own := by
  have m := wq_m hn
  constructor
  · have s := (fl_sb_le (x := own) (y := fz_shl 1 (h 9 5) - 1) o.1 (by omega) (fun d hd b => by
      rw [m.2 d hd]
      have := ((fl_own_b o (d := d) (by omega)).mp b).1
      exact Nat.ble_eq_true_of_le (by omega))).1
    omega
  · refine ⟨o.1, fun d _ b => b, fun x x0 x1 => ?_⟩
    unfold fl_SC
    refine (fl_sl_c2 (p := 1) (p2 := p) (fun k hk => ⟨?_, rfl, fun _ => rfl⟩)).symm
    rw [fl_b1s_i, fl_own_b o (d := k) (by omega)]
    exact ⟨fun z => z.2, fun z => ⟨by omega, z⟩⟩
theorem st_W_w0 {h : fz_H} {p t hr mk rc th r : Int} (w : st_W p t hr mk rc h) (hI : fz_Iv h) (hp : 0 ≤ p ∧ p ≤ 3) (ht : 0 ≤ t ∧ t < h 1 7) (hh : 0 ≤ hr ∧ hr ≤ 999) (et : th = 1000 * t + hr) (c : fl_whC h 0 p th 0 r) : 1 ≤ r := by
  have hn : 0 ≤ h 9 5 ∧ h 9 5 ≤ 10 := hI.1 9 5
  obtain ⟨own, cnt, least, inAll, o, i, e⟩ := st_WQ_in w hp ht hh et (by decide) c
  have q := wq_own (t := t) (hr := hr) hn o
  have e2 : r = cnt := e
  obtain ⟨i1, i2⟩ := i
  have c0 : 0 ≤ cnt := by rw [i1]; exact fl_cn_0
  rcases i2 with ⟨-, -, -, n⟩ | ⟨n, -⟩
  · exact absurd q.2 (n own o.1.1 q.1)
  · omega
theorem wq_12 {h : fz_H} {p t hr r1 r2 r3 : Int} (hn : 0 ≤ h 9 5 ∧ h 9 5 ≤ 10) (a : st_WQ p t hr h 1 r1) (b : st_WQ p t hr h 2 r2) (c : st_WQ p t hr h 2 r3) : fz_and r1 r2 = r3 := by
  obtain ⟨own, cnt, least, inAll, o, i, e⟩ := a
  obtain ⟨own2, cnt2, least2, inAll2, o2, i2, e2⟩ := b
  obtain ⟨own3, cnt3, least3, inAll3, o3, i3, e3⟩ := c
  have u2 := fl_own_u (fun _ _ => rfl) o2 o
  have u3 := fl_own_u (fun _ _ => rfl) o3 o
  subst u2 u3
  have m := wq_m hn
  have q := wq_own (t := t) (hr := hr) hn o
  have f1 : r1 = least := e
  have f2 : r2 = inAll2 := e2
  have f3 : r3 = inAll3 := e3
  rcases i.2 with ⟨-, -, -, n⟩ | ⟨-, ⟨l0, l1, l2, -⟩, -⟩
  · exact absurd q.2 (n _ o.1.1 q.1)
  · rcases i2.2 with ⟨-, -, -, n⟩ | ⟨-, -, b0, bc⟩
    · exact absurd q.2 (n _ o.1.1 q.1)
    · rcases i3.2 with ⟨-, -, -, n⟩ | ⟨-, -, c0, cc⟩
      · exact absurd q.2 (n _ o.1.1 q.1)
      · rw [f1, f2, f3]
        have e23 : inAll2 = inAll3 := fl_sb_an b0 c0 (fun d hd z => (cc d hd).mpr ((bc d hd).mp z)) (fun d hd z => (bc d hd).mpr ((cc d hd).mp z))
        rw [e23]
        have am := fz_and_m (x := least) (y := inAll3) (by omega) (by omega)
        refine fl_sb_an (by omega) c0 (fun d hd z => ?_) (fun d hd z => ?_)
        · rw [fz_bt_and, Bool.and_eq_true] at z
          exact z.2
        · rw [fz_bt_and, Bool.and_eq_true]
          exact ⟨(cc d hd).mp z least l0 l1 l2, z⟩
theorem st_W_w12 {A B C H : fz_H} {p t hr mk rc th r1 r2 r3 : Int} (na : fz_nm A = fz_nm H) (nb : fz_nm B = fz_nm H) (nc : fz_nm C = fz_nm H) (wa : st_W p t hr mk rc A) (wb : st_W p t hr mk rc B) (wc : st_W p t hr mk rc C) (hI : fz_Iv A) (hp : 0 ≤ p ∧ p ≤ 3) (ht : 0 ≤ t ∧ t < A 1 7) (hh : 0 ≤ hr ∧ hr ≤ 999) (et : th = 1000 * t + hr) (a : fl_whC A 0 p th 1 r1) (b : fl_whC B 0 p th 2 r2) (c : fl_whC C 0 p th 2 r3) : fz_and r1 r2 = r3 := by
  have tA : A 1 7 = H 1 7 := by
    have q := congrArg (fun g : fz_H => g 1 7) na
    exact q
  have tB : B 1 7 = H 1 7 := by
    have q := congrArg (fun g : fz_H => g 1 7) nb
    exact q
  have tC : C 1 7 = H 1 7 := by
    have q := congrArg (fun g : fz_H => g 1 7) nc
    exact q
  have t9 : A 9 5 = H 9 5 := by
    have q := congrArg (fun g : fz_H => g 9 5) na
    exact q
  have hn : 0 ≤ A 9 5 ∧ A 9 5 ≤ 10 := hI.1 9 5
  exact wq_12 (h := H) (by omega) (st_WQ_nm na (st_WQ_in wa hp ht hh et (by decide) a)) (st_WQ_nm nb (st_WQ_in wb hp (by omega) hh et (by decide) b)) (st_WQ_nm nc (st_WQ_in wc hp (by omega) hh et (by decide) c))
