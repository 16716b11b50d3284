/-! ===== rules: arrays, tables, copies ===== -/
theorem fz_nh_i {h : fz_H} {o j : Nat} (hn : fz_nh h) (h1 : (fz_sh o).1 ≠ 2) : -2147483648 ≤ h o j ∧ h o j < 2147483648 := by
  have := hn o j
  unfold fz_okx at this
  rw [if_neg h1] at this
  exact this
theorem fz_nh_l {h : fz_H} {o j : Nat} (hn : fz_nh h) (h1 : (fz_sh o).1 = 2) : -9223372036854775808 ≤ h o j ∧ h o j < 9223372036854775808 := by
  have := hn o j
  unfold fz_okx at this
  rw [if_pos h1] at this
  exact this
theorem fz_ce_i {E : fz_E} {h : fz_H} {o z n : Nat} (hs : fz_sh o = (1, z, n)) : fz_ce E h o = .inl (E.2.2.1, n, .inl (fun j => Int32.ofInt (h o j))) := by
  unfold fz_ce
  rw [hs, if_neg (show ¬ (1 : Nat) = 0 by decide), if_pos rfl]
theorem fz_ce_l {E : fz_E} {h : fz_H} {o z n : Nat} (hs : fz_sh o = (2, z, n)) : fz_ce E h o = .inl (E.2.2.2.1, n, .inr (.inl (fun j => Int64.ofInt (h o j)))) := by
  unfold fz_ce
  rw [hs, if_neg (show ¬ (2 : Nat) = 0 by decide), if_neg (show ¬ (2 : Nat) = 1 by decide)]
section FZ
variable {d : Nat} {M : fz_M} {pc a b w : Nat} {ls ls' : List (Nat × fz_V)} {st : List fz_V} {h : fz_H} {Q : fz_H → Option fz_V → Prop}
theorem fz_iald {o z n : Nat} {x : Int} (hM : fz_okM M = true) (hc : fz_at M.2.2.2.2 pc = some (.iaload, 1, a, b, w)) (ho : fz_sh o = (1, z, n)) (h0 : 0 ≤ x) (h1 : x < n) (k : fz_R d M (pc + 1) ls (fz_i (h o x.toNat) :: st) h Q) : fz_R d M pc ls (fz_i x :: fz_r o :: st) h Q := by
  intro E p l e R s m args below meth c cells slots Qf C hend H locs lsc hW hs hl hh
  have hlt : o < fz_N := fz_sh_lt ho (show (1 : Nat) ≠ 9 by decide)
  have hx1 : -2147483648 ≤ x ∧ x < 2147483648 := fz_h1 hs
  have hat := fz_ws_at E h hlt
  rw [fz_ce_i ho] at hat
  have hK := C.2.2.2.2.2.2.2.2.2.1
  show W p l e R s m args below meth c H locs cells slots Qf (F0 m pc lsc (.int (Int32.ofInt x) :: .ref (fz_ad E o) :: st.map (fz_cv (fz_ad E))))
  refine va_iald C.1 C.2.1 hK hW.1 o 0 hat rfl (fz_in h0 h1 hx1.2) (fz_dec hM hc) ?_
  rw [fz_ix h0 hx1.2]
  exact k E p l e R s m args below meth c cells slots Qf C hend H locs lsc hW (fz_n2 (show fz_nv (fz_i _) from fz_nh_i hW.2.2.2.1 (by rw [ho]; show (1 : Nat) ≠ 2; decide)) hs) hl hh
theorem fz_lald {o z n : Nat} {x : Int} (hM : fz_okM M = true) (hc : fz_at M.2.2.2.2 pc = some (.laload, 1, a, b, w)) (ho : fz_sh o = (2, z, n)) (h0 : 0 ≤ x) (h1 : x < n) (k : fz_R d M (pc + 1) ls (fz_l (h o x.toNat) :: st) h Q) : fz_R d M pc ls (fz_i x :: fz_r o :: st) h Q := by
  intro E p l e R s m args below meth c cells slots Qf C hend H locs lsc hW hs hl hh
  have hlt : o < fz_N := fz_sh_lt ho (show (2 : Nat) ≠ 9 by decide)
  have hx1 : -2147483648 ≤ x ∧ x < 2147483648 := fz_h1 hs
  have hat := fz_ws_at E h hlt
  rw [fz_ce_l ho] at hat
  have hK := C.2.2.2.2.2.2.2.2.2.1
  show W p l e R s m args below meth c H locs cells slots Qf (F0 m pc lsc (.int (Int32.ofInt x) :: .ref (fz_ad E o) :: st.map (fz_cv (fz_ad E))))
  refine va_lald C.1 C.2.1 hK hW.1 o 1 hat rfl (fz_in h0 h1 hx1.2) (fz_dec hM hc) ?_
  rw [fz_ix h0 hx1.2]
  exact k E p l e R s m args below meth c cells slots Qf C hend H locs lsc hW (fz_n2 (show fz_nv (fz_l _) from fz_nh_l hW.2.2.2.1 (by rw [ho])) hs) hl hh
theorem fz_iast {o z n : Nat} {x v : Int} (hM : fz_okM M = true) (hc : fz_at M.2.2.2.2 pc = some (.iastore, 1, a, b, w)) (ho : fz_sh o = (1, z, n)) (h0 : 0 ≤ x) (h1 : x < n) (k : fz_R d M (pc + 1) ls st (fz_up h o x.toNat v) Q) : fz_R d M pc ls (fz_i v :: fz_i x :: fz_r o :: st) h Q := by
  intro E p l e R s m args below meth c cells slots Qf C hend H locs lsc hW hs hl hh
  have hlt : o < fz_N := fz_sh_lt ho (show (1 : Nat) ≠ 9 by decide)
  have hx1 : -2147483648 ≤ x ∧ x < 2147483648 := fz_h2 hs
  have hat := fz_ws_at E h hlt
  rw [fz_ce_i ho] at hat
  have hK := C.2.2.2.2.2.2.2.2.2.1
  show W p l e R s m args below meth c H locs cells slots Qf (F0 m pc lsc (.int (Int32.ofInt v) :: .int (Int32.ofInt x) :: .ref (fz_ad E o) :: st.map (fz_cv (fz_ad E))))
  refine va_iast C.1 C.2.1 hK hW.1 hW.2.1 hW.2.2.1 o 0 hat rfl (fz_in h0 h1 hx1.2) (fz_dec hM hc) (fun H1 locs1 hP hD hS => ?_)
  have hws : (fz_ws E h).set o (fz_ad E o, .inl (E.2.2.1, n, .inl (upd (fun j => Int32.ofInt (h o j)) (Int32.ofInt x).toNatClampNeg (Int32.ofInt v)))) = fz_ws E (fz_up h o x.toNat v) := by
    rw [fz_ws_up (h := h) (h' := fz_up h o x.toNat v) (c := o) (fun i hi => fz_up_ne hi), fz_ce_i ho, fz_ix h0 hx1.2]
    congr 6
    funext j
    by_cases hj : j = x.toNat
    · simp [upd, fz_up, hj]
    · simp [upd, fz_up, hj]
  rw [hws] at hP hD
  refine k E p l e R s m args below meth c cells slots Qf C hend H1 locs1 lsc ⟨hP, hD, hS, fz_nh_up hW.2.2.2.1 ?_, fz_ht_up hlt hW.2.2.2.2⟩ (fz_tl (fz_tl (fz_tl hs))) hl hh
  unfold fz_okx
  rw [ho, if_neg (show ¬ (1 : Nat) = 2 by decide)]
  exact (fz_h1 hs : fz_nv (fz_i v))
theorem fz_last {o z n : Nat} {x v : Int} (hM : fz_okM M = true) (hc : fz_at M.2.2.2.2 pc = some (.lastore, 1, a, b, w)) (ho : fz_sh o = (2, z, n)) (h0 : 0 ≤ x) (h1 : x < n) (k : fz_R d M (pc + 1) ls st (fz_up h o x.toNat v) Q) : fz_R d M pc ls (fz_l v :: fz_i x :: fz_r o :: st) h Q := by
  intro E p l e R s m args below meth c cells slots Qf C hend H locs lsc hW hs hl hh
  have hlt : o < fz_N := fz_sh_lt ho (show (2 : Nat) ≠ 9 by decide)
  have hx1 : -2147483648 ≤ x ∧ x < 2147483648 := fz_h2 hs
  have hat := fz_ws_at E h hlt
  rw [fz_ce_l ho] at hat
  have hK := C.2.2.2.2.2.2.2.2.2.1
  show W p l e R s m args below meth c H locs cells slots Qf (F0 m pc lsc (.long (Int64.ofInt v) :: .int (Int32.ofInt x) :: .ref (fz_ad E o) :: st.map (fz_cv (fz_ad E))))
  refine va_last C.1 C.2.1 hK hW.1 hW.2.1 hW.2.2.1 o 1 hat rfl (fz_in h0 h1 hx1.2) (fz_dec hM hc) (fun H1 locs1 hP hD hS => ?_)
  have hws : (fz_ws E h).set o (fz_ad E o, .inl (E.2.2.2.1, n, .inr (.inl (vp_updL (fun j => Int64.ofInt (h o j)) (Int32.ofInt x).toNatClampNeg (Int64.ofInt v))))) = fz_ws E (fz_up h o x.toNat v) := by
    rw [fz_ws_up (h := h) (h' := fz_up h o x.toNat v) (c := o) (fun i hi => fz_up_ne hi), fz_ce_l ho, fz_ix h0 hx1.2]
    congr 7
    funext j
    by_cases hj : j = x.toNat
    · simp [vp_updL, fz_up, hj]
    · simp [vp_updL, fz_up, hj]
  rw [hws] at hP hD
  refine k E p l e R s m args below meth c cells slots Qf C hend H1 locs1 lsc ⟨hP, hD, hS, fz_nh_up hW.2.2.2.1 ?_, fz_ht_up hlt hW.2.2.2.2⟩ (fz_tl (fz_tl (fz_tl hs))) hl hh
  unfold fz_okx
  rw [ho, if_pos rfl]
  exact (fz_h1 hs : fz_nv (fz_l v))
theorem fz_alen {o z n kd : Nat} (hM : fz_okM M = true) (hc : fz_at M.2.2.2.2 pc = some (.arraylength, 1, a, b, w)) (ho : fz_sh o = (kd, z, n)) (hk : kd = 1 ∨ kd = 2) (hn : n < 2147483648) (k : fz_R d M (pc + 1) ls (fz_i (n : Int) :: st) h Q) : fz_R d M pc ls (fz_r o :: st) h Q := by
  intro E p l e R s m args below meth c cells slots Qf C hend H locs lsc hW hs hl hh
  have hlt : o < fz_N := fz_sh_lt ho (show kd ≠ 9 by omega)
  have hat := fz_ws_at E h hlt
  have hK := C.2.2.2.2.2.2.2.2.2.1
  show W p l e R s m args below meth c H locs cells slots Qf (F0 m pc lsc (.ref (fz_ad E o) :: st.map (fz_cv (fz_ad E))))
  have e1 : Int32.ofNat n = Int32.ofInt (n : Int) := rfl
  have kk := k E p l e R s m args below meth c cells slots Qf C hend H locs lsc hW (fz_n1 (show fz_nv (fz_i (n : Int)) from ⟨by omega, by omega⟩) hs) hl hh
  rcases hk with rfl | rfl
  · rw [fz_ce_i ho] at hat
    exact va_alen C.1 C.2.1 hK hW.1 o 0 hat rfl e1 (fz_dec hM hc) kk
  · rw [fz_ce_l ho] at hat
    exact va_alen C.1 C.2.1 hK hW.1 o 1 hat rfl e1 (fz_dec hM hc) kk
theorem fz_tald {o : Nat} {x : Int} (hM : fz_okM M = true) (hc : fz_at M.2.2.2.2 pc = some (.iaload, 1, a, b, w)) (ho : 200 ≤ o ∧ o < 205) (h0 : 0 ≤ x) (h1 : x < h o 100000) (k : fz_R d M (pc + 1) ls (fz_i (h o x.toNat) :: st) h Q) : fz_R d M pc ls (fz_i x :: fz_r o :: st) h Q := by
  intro E p l e R s m args below meth c cells slots Qf C hend H locs lsc hW hs hl hh
  have hx1 : -2147483648 ≤ x ∧ x < 2147483648 := fz_h1 hs
  have hT := C.2.2.2.2.2.2.2.2.2.2.2.2.1 o ho.1 ho.2
  have ht := hW.2.2.2.2 o ho.1
  show W p l e R s m args below meth c H locs cells slots Qf (F0 m pc lsc (.int (Int32.ofInt x) :: .ref (fz_ad E o) :: st.map (fz_cv (fz_ad E))))
  refine va_ti C.1 C.2.1 hT hW.2.2.1 (fz_in h0 (by rw [← ht]; omega) hx1.2) (v := .int (Int32.ofInt (h o x.toNat))) (by rw [fz_ix h0 hx1.2, ht]) (fz_dec hM hc) ?_
  refine k E p l e R s m args below meth c cells slots Qf C hend H locs lsc hW (fz_n2 (show fz_nv (fz_i _) from fz_nh_i hW.2.2.2.1 ?_) hs) hl hh
  intro h2
  have := fz_sh_lt (o := o) (q := fz_sh o) rfl (by rw [h2]; decide)
  have := fz_N_200
  omega
theorem fz_tlen {o : Nat} (hM : fz_okM M = true) (hc : fz_at M.2.2.2.2 pc = some (.arraylength, 1, a, b, w)) (ho : 200 ≤ o ∧ o < 205) (h0 : 0 ≤ h o 100000) (k : fz_R d M (pc + 1) ls (fz_i (h o 100000) :: st) h Q) : fz_R d M pc ls (fz_r o :: st) h Q := by
  intro E p l e R s m args below meth c cells slots Qf C hend H locs lsc hW hs hl hh
  have hT := C.2.2.2.2.2.2.2.2.2.2.2.2.1 o ho.1 ho.2
  have ht := hW.2.2.2.2 o ho.1
  show W p l e R s m args below meth c H locs cells slots Qf (F0 m pc lsc (.ref (fz_ad E o) :: st.map (fz_cv (fz_ad E))))
  refine va_tlen C.1 C.2.1 hT hW.2.2.1 (v := Int32.ofInt (h o 100000)) ?_ (fz_dec hM hc) ?_
  · rw [← ht]
    show Int32.ofInt ((h o 100000).toNat : Int) = _
    rw [Int.toNat_of_nonneg h0]
  refine k E p l e R s m args below meth c cells slots Qf C hend H locs lsc hW (fz_n1 (show fz_nv (fz_i _) from fz_nh_i hW.2.2.2.1 ?_) hs) hl hh
  intro h2
  have := fz_sh_lt (o := o) (q := fz_sh o) rfl (by rw [h2]; decide)
  have := fz_N_200
  omega
theorem fz_gets {sx id idx : Nat} (hM : fz_okM M = true) (hc : fz_at M.2.2.2.2 pc = some (.getstatic idx, 3, id, sx, w)) (k : fz_R d M (pc + 3) ls (fz_r id :: st) h Q) : fz_R d M pc ls st h Q := by
  intro E p l e R s m args below meth c cells slots Qf C hend H locs lsc hW hs hl hh
  have hq := List.all_eq_true.mp hM _ (fz_at_mem hc)
  unfold fz_okI at hq
  rw [Bool.and_eq_true] at hq
  have hq2 := hq.2
  dsimp only at hq2
  cases hcl : fz_nth fz_sts sx with
  | none => rw [hcl] at hq2; cases hq2
  | some z =>
    obtain ⟨Cn, nn, dd, i0⟩ := z
    rw [hcl] at hq2
    simp only [Bool.and_eq_true, decide_eq_true_eq] at hq2
    have hm : (Cn, nn, dd, i0) ∈ fz_sts := by
      rw [fz_nth_eq] at hcl
      exact List.mem_of_getElem? hcl
    have hZ := C.2.2.2.2.2.2.2.2.2.2.2.2.2 _ hm
    have hts := C.2.2.2.2.2.1
    refine va_gets (v := .ref (fz_ad E i0)) C.1 C.2.1 hZ hW.2.2.1 C.2.2.2.2.1 (hts _ (fz_isF_spec hq2.2)) (fun _ h9 => h9) (fz_dec hM hc) ?_
    rw [← hq2.1]
    exact k E p l e R s m args below meth c cells slots Qf C hend H locs lsc hW (fz_n0 (show fz_nv (fz_r id) from trivial) hs) hl hh
theorem fz_ldc {idx : Nat} {v : Int32} {x : Int} (hM : fz_okM M = true) (hc : fz_at M.2.2.2.2 pc = some (.ldc idx, 2, a, b, w)) (hv : fz_wa a = some (.constant M.1.cls idx v)) (hx : v.toInt = x) (k : fz_R d M (pc + 2) ls (fz_i x :: st) h Q) : fz_R d M pc ls st h Q := by
  intro E p l e R s m args below meth c cells slots Qf C hend H locs lsc hW hs hl hh
  subst hx
  have hts := C.2.2.2.2.2.1
  refine lv_ldc C.1 C.2.1 C.2.2.2.2.1 (hts _ (fz_has hv rfl)) (fz_dec hM hc) ?_
  have kk := k E p l e R s m args below meth c cells slots Qf C hend H locs lsc hW (fz_n0 (show fz_nv (fz_i _) from fz_b32 v) hs) hl hh
  simp only [List.map_cons, fz_cv, fz_r32] at kk
  exact kk
theorem fz_ldcw {idx : Nat} {v : Int32} {x : Int} (hM : fz_okM M = true) (hc : fz_at M.2.2.2.2 pc = some (.ldc_w idx, 3, a, b, w)) (hv : fz_wa a = some (.constant M.1.cls idx v)) (hx : v.toInt = x) (k : fz_R d M (pc + 3) ls (fz_i x :: st) h Q) : fz_R d M pc ls st h Q := by
  intro E p l e R s m args below meth c cells slots Qf C hend H locs lsc hW hs hl hh
  subst hx
  have hts := C.2.2.2.2.2.1
  refine lv_ldcw C.1 C.2.1 C.2.2.2.2.1 (hts _ (fz_has hv rfl)) (fz_dec hM hc) ?_
  have kk := k E p l e R s m args below meth c cells slots Qf C hend H locs lsc hW (fz_n0 (show fz_nv (fz_i _) from fz_b32 v) hs) hl hh
  simp only [List.map_cons, fz_cv, fz_r32] at kk
  exact kk
theorem fz_ldc2 {idx : Nat} {v : Int64} {x : Int} (hM : fz_okM M = true) (hc : fz_at M.2.2.2.2 pc = some (.ldc2_w idx, 3, a, b, w)) (hv : fz_wa a = some (.constantLong M.1.cls idx v)) (hx : v.toInt = x) (k : fz_R d M (pc + 3) ls (fz_l x :: st) h Q) : fz_R d M pc ls st h Q := by
  intro E p l e R s m args below meth c cells slots Qf C hend H locs lsc hW hs hl hh
  subst hx
  have hts := C.2.2.2.2.2.1
  refine lv_ldc2 C.1 C.2.1 C.2.2.2.2.1 (hts _ (fz_has hv rfl)) (fz_dec hM hc) ?_
  have kk := k E p l e R s m args below meth c cells slots Qf C hend H locs lsc hW (fz_n0 (show fz_nv (fz_l _) from fz_b64 v) hs) hl hh
  simp only [List.map_cons, fz_cv, fz_r64] at kk
  exact kk
/-- ends -/
theorem fz_iret {x : Int} (hM : fz_okM M = true) (hc : fz_at M.2.2.2.2 pc = some (.ireturn, 1, a, b, w)) (hr : M.2.2.2.1 = some .int) (k : -2147483648 ≤ x ∧ x < 2147483648 → Q h (some (fz_i x))) : fz_R d M pc ls [fz_i x] h Q := by
  intro E p l e R s m args below meth c cells slots Qf C hend H locs lsc hW hs hl hh
  have hx1 : -2147483648 ≤ x ∧ x < 2147483648 := fz_h1 hs
  exact hend h (some (fz_i x)) pc lsc H locs (k hx1) (by rw [hr]; exact hx1) (fz_dec hM hc) hW
theorem fz_zret {x : Int} (hM : fz_okM M = true) (hc : fz_at M.2.2.2.2 pc = some (.ireturn, 1, a, b, w)) (hr : M.2.2.2.1 = some .boolean) (hx : x = 0 ∨ x = 1) (k : Q h (some (fz_i x))) : fz_R d M pc ls [fz_i x] h Q := by
  intro E p l e R s m args below meth c cells slots Qf C hend H locs lsc hW hs hl hh
  exact hend h (some (fz_i x)) pc lsc H locs k (by rw [hr]; exact hx) (fz_dec hM hc) hW
theorem fz_lret {x : Int} (hM : fz_okM M = true) (hc : fz_at M.2.2.2.2 pc = some (.lreturn, 1, a, b, w)) (hr : M.2.2.2.1 = some .long) (k : -9223372036854775808 ≤ x ∧ x < 9223372036854775808 → Q h (some (fz_l x))) : fz_R d M pc ls [fz_l x] h Q := by
  intro E p l e R s m args below meth c cells slots Qf C hend H locs lsc hW hs hl hh
  have hx1 : -9223372036854775808 ≤ x ∧ x < 9223372036854775808 := fz_h1 hs
  exact hend h (some (fz_l x)) pc lsc H locs (k hx1) (by rw [hr]; exact hx1) (fz_dec hM hc) hW
theorem fz_vret (hM : fz_okM M = true) (hc : fz_at M.2.2.2.2 pc = some (.return_, 1, a, b, w)) (hr : M.2.2.2.1 = none) (k : Q h none) : fz_R d M pc ls [] h Q := by
  intro E p l e R s m args below meth c cells slots Qf C hend H locs lsc hW hs hl hh
  exact hend h none pc lsc H locs k (by rw [hr]; trivial) (fz_dec hM hc) hW
end FZ
