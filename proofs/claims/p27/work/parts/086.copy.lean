/-! ===== System.arraycopy ===== -/
theorem fz_nfw : nativeFrameWords "java/lang/System" "arraycopy" 5 ≤ 40 := by decide +kernel
theorem fz_cp_ne {h : fz_H} {a i b j n : Nat} {q : Nat} (hq : q ≠ b) : fz_cp h a i b j n q = h q := by
  funext k
  simp [fz_cp, hq]
section FZ
variable {d : Nat} {M : fz_M} {pc a b w : Nat} {ls : List (Nat × fz_V)} {st : List fz_V} {h : fz_H} {Q : fz_H → Option fz_V → Prop}
theorem fz_acs : Cond.static arraycopyName ∈ fz_tb := fz_has (n := 3047) rfl rfl
theorem fz_acn : Cond.native arraycopyName ∈ fz_tb := fz_has (n := 3048) rfl rfl
theorem fz_aci : Cond.initialized "java/lang/System" ∈ fz_tb := fz_has (n := 1015) rfl rfl
theorem fz_copyi {o1 o2 z1 z2 n1 n2 : Nat} {sp dp n : Int} {idx : Nat} (hM : fz_okM M = true) (hc : fz_at M.2.2.2.2 pc = some (.invokestatic idx, 3, a, b, w)) (hb2 : fz_nth fz_ms b = some arraycopyName) (h1 : fz_sh o1 = (1, z1, n1)) (h2 : fz_sh o2 = (1, z2, n2)) (hsp : 0 ≤ sp) (hdp : 0 ≤ dp) (hn : 0 ≤ n) (hb1 : sp + n ≤ n1) (hbb : dp + n ≤ n2) (hd : 1 ≤ d) (hcap : (st.map fz_cat).sum ≤ 8)
    (k : fz_R d M (pc + 3) ls st (fz_cp h o1 sp.toNat o2 dp.toNat n.toNat) Q) : fz_R d M pc ls (fz_i n :: fz_i dp :: fz_r o2 :: fz_i sp :: fz_r o1 :: st) h Q := by
  intro E p l e R s m args below meth c cells slots Qf C hend H locs lsc hW hs hl hh
  have hq := List.all_eq_true.mp hM _ (fz_at_mem hc)
  unfold fz_okI at hq
  rw [Bool.and_eq_true] at hq
  have hq2 := hq.2
  dsimp only at hq2
  rw [hb2] at hq2
  have hml := fz_isM_spec hq2
  have hts := C.2.2.2.2.2.1
  have hK := C.2.2.2.2.2.2.2.2.2.1
  have hn1 : -2147483648 ≤ n ∧ n < 2147483648 := fz_h1 hs
  have hd1 : -2147483648 ≤ dp ∧ dp < 2147483648 := fz_h2 hs
  have hs1 : -2147483648 ≤ sp ∧ sp < 2147483648 := fz_h1 (fz_tl (fz_tl (fz_tl hs)))
  have hf := C.2.2.2.2.2.2.2.1
  have hlo := C.2.2.2.2.2.2.2.2.1
  have hlt1 : o1 < fz_N := fz_sh_lt h1 (show (1 : Nat) ≠ 9 by decide)
  have hlt2 : o2 < fz_N := fz_sh_lt h2 (show (1 : Nat) ≠ 9 by decide)
  have hat1 := fz_ws_at E h hlt1
  have hat2 := fz_ws_at E h hlt2
  rw [fz_ce_i h1] at hat1
  rw [fz_ce_i h2] at hat2
  have en := fz_ix hn hn1.2
  have ed := fz_ix hdp hd1.2
  have es := fz_ix hsp hs1.2
  have neg : ∀ {x : Int}, 0 ≤ x → (-2147483648 ≤ x ∧ x < 2147483648) → ¬ Int32.ofInt x < 0 := fun {x} h0 hx z => by
    have := (fz_lt hx fz_z0).mp z
    omega
  have hw9 := fz_nfw
  show W p l e R s m args below meth c H locs cells slots Qf (F0 m pc lsc (.int (Int32.ofInt n) :: .int (Int32.ofInt dp) :: .ref (fz_ad E o2) :: .int (Int32.ofInt sp) :: .ref (fz_ad E o1) :: st.map (fz_cv (fz_ad E))))
  refine va_copyi C.1 C.2.1 (C.2.2.2.1.trans hh.1.symm) C.2.2.2.2.1 (hts _ hml) (hts _ fz_acn) (hts _ fz_acs) (hts _ fz_aci) hK hW.1 hW.2.1 hW.2.2.1 o1 o2 0 0 hat1 hat2 rfl rfl rfl (neg hsp hs1) (neg hdp hd1) (neg hn hn1) (by rw [es, en]; omega) (by rw [ed, en]; omega) (fun _ _ => rfl) (by omega) (by rw [fz_capsum]; omega) (fz_dec hM hc) (fun H1 locs1 hP hD hS => ?_)
  have hws : (fz_ws E h).set o2 (fz_ad E o2, .inl (E.2.2.1, n2, .inl (va_cpy (fun j => Int32.ofInt (h o1 j)) (fun j => Int32.ofInt (h o2 j)) (Int32.ofInt sp).toNatClampNeg (Int32.ofInt dp).toNatClampNeg (Int32.ofInt n).toNatClampNeg))) = fz_ws E (fz_cp h o1 sp.toNat o2 dp.toNat n.toNat) := by
    rw [fz_ws_up (h := h) (h' := fz_cp h o1 sp.toNat o2 dp.toNat n.toNat) (c := o2) (fun i hi => fz_cp_ne hi), fz_ce_i h2, en, ed, es]
    congr 6
    funext j
    simp only [va_cpy, fz_cp, true_and]
    split
    · rfl
    · rfl
  rw [hws] at hP hD
  refine k E p l e R s m args below meth c cells slots Qf C hend H1 locs1 lsc ⟨hP, hD, hS, fun c j => ?_, fun id hid => ?_⟩ (fz_tl (fz_tl (fz_tl (fz_tl (fz_tl hs))))) hl hh
  · unfold fz_cp
    split
    · next e =>
      have := fz_nh_i (o := o1) (j := sp.toNat + (j - dp.toNat)) hW.2.2.2.1 (by rw [h1]; show (1 : Nat) ≠ 2; decide)
      unfold fz_okx
      rw [e.1, h2, if_neg (show ¬ (1 : Nat) = 2 by decide)]
      exact this
    · exact hW.2.2.2.1 c j
  · rw [fz_cp_ne (by have := fz_N_200; omega)]
    exact hW.2.2.2.2 id hid
theorem fz_copyl {o1 o2 z1 z2 n1 n2 : Nat} {sp dp n : Int} {idx : Nat} (hM : fz_okM M = true) (hc : fz_at M.2.2.2.2 pc = some (.invokestatic idx, 3, a, b, w)) (hb2 : fz_nth fz_ms b = some arraycopyName) (h1 : fz_sh o1 = (2, z1, n1)) (h2 : fz_sh o2 = (2, z2, n2)) (hsp : 0 ≤ sp) (hdp : 0 ≤ dp) (hn : 0 ≤ n) (hb1 : sp + n ≤ n1) (hbb : dp + n ≤ n2) (hd : 1 ≤ d) (hcap : (st.map fz_cat).sum ≤ 8)
    (k : fz_R d M (pc + 3) ls st (fz_cp h o1 sp.toNat o2 dp.toNat n.toNat) Q) : fz_R d M pc ls (fz_i n :: fz_i dp :: fz_r o2 :: fz_i sp :: fz_r o1 :: st) h Q := by
  intro E p l e R s m args below meth c cells slots Qf C hend H locs lsc hW hs hl hh
  have hq := List.all_eq_true.mp hM _ (fz_at_mem hc)
  unfold fz_okI at hq
  rw [Bool.and_eq_true] at hq
  have hq2 := hq.2
  dsimp only at hq2
  rw [hb2] at hq2
  have hml := fz_isM_spec hq2
  have hts := C.2.2.2.2.2.1
  have hK := C.2.2.2.2.2.2.2.2.2.1
  have hn1 : -2147483648 ≤ n ∧ n < 2147483648 := fz_h1 hs
  have hd1 : -2147483648 ≤ dp ∧ dp < 2147483648 := fz_h2 hs
  have hs1 : -2147483648 ≤ sp ∧ sp < 2147483648 := fz_h1 (fz_tl (fz_tl (fz_tl hs)))
  have hf := C.2.2.2.2.2.2.2.1
  have hlo := C.2.2.2.2.2.2.2.2.1
  have hlt1 : o1 < fz_N := fz_sh_lt h1 (show (2 : Nat) ≠ 9 by decide)
  have hlt2 : o2 < fz_N := fz_sh_lt h2 (show (2 : Nat) ≠ 9 by decide)
  have hat1 := fz_ws_at E h hlt1
  have hat2 := fz_ws_at E h hlt2
  rw [fz_ce_l h1] at hat1
  rw [fz_ce_l h2] at hat2
  have en := fz_ix hn hn1.2
  have ed := fz_ix hdp hd1.2
  have es := fz_ix hsp hs1.2
  have neg : ∀ {x : Int}, 0 ≤ x → (-2147483648 ≤ x ∧ x < 2147483648) → ¬ Int32.ofInt x < 0 := fun {x} h0 hx z => by
    have := (fz_lt hx fz_z0).mp z
    omega
  have hw9 := fz_nfw
  show W p l e R s m args below meth c H locs cells slots Qf (F0 m pc lsc (.int (Int32.ofInt n) :: .int (Int32.ofInt dp) :: .ref (fz_ad E o2) :: .int (Int32.ofInt sp) :: .ref (fz_ad E o1) :: st.map (fz_cv (fz_ad E))))
  refine va_copyl C.1 C.2.1 (C.2.2.2.1.trans hh.1.symm) C.2.2.2.2.1 (hts _ hml) (hts _ fz_acn) (hts _ fz_acs) (hts _ fz_aci) hK hW.1 hW.2.1 hW.2.2.1 o1 o2 1 1 hat1 hat2 rfl rfl rfl (neg hsp hs1) (neg hdp hd1) (neg hn hn1) (by rw [es, en]; omega) (by rw [ed, en]; omega) (fun _ _ => rfl) (by omega) (by rw [fz_capsum]; omega) (fz_dec hM hc) (fun H1 locs1 hP hD hS => ?_)
  have hws : (fz_ws E h).set o2 (fz_ad E o2, .inl (E.2.2.2.1, n2, .inr (.inl (va_cpy (fun j => Int64.ofInt (h o1 j)) (fun j => Int64.ofInt (h o2 j)) (Int32.ofInt sp).toNatClampNeg (Int32.ofInt dp).toNatClampNeg (Int32.ofInt n).toNatClampNeg)))) = fz_ws E (fz_cp h o1 sp.toNat o2 dp.toNat n.toNat) := by
    rw [fz_ws_up (h := h) (h' := fz_cp h o1 sp.toNat o2 dp.toNat n.toNat) (c := o2) (fun i hi => fz_cp_ne hi), fz_ce_l h2, en, ed, es]
    congr 7
    funext j
    simp only [va_cpy, fz_cp, true_and]
    split
    · rfl
    · rfl
  rw [hws] at hP hD
  refine k E p l e R s m args below meth c cells slots Qf C hend H1 locs1 lsc ⟨hP, hD, hS, fun c j => ?_, fun id hid => ?_⟩ (fz_tl (fz_tl (fz_tl (fz_tl (fz_tl hs))))) hl hh
  · unfold fz_cp
    split
    · next e =>
      have := fz_nh_l (o := o1) (j := sp.toNat + (j - dp.toNat)) hW.2.2.2.1 (by rw [h1])
      unfold fz_okx
      rw [e.1, h2, if_pos rfl]
      exact this
    · exact hW.2.2.2.1 c j
  · rw [fz_cp_ne (by have := fz_N_200; omega)]
    exact hW.2.2.2.2 id hid
end FZ
