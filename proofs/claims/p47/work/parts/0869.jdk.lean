/-! ===== texts: the walks ===== -/
def mtJ5_init_d00df : fz_M := (yJ5_init_d00df, prog_14_method_2_code, 2, none, [(0, .aload_n 0, 1, 0, 0, 0), (1, .invokespecial 3, 3, 0, 0, 0), (4, .getstatic 18, 3, 0, 0, 0), (7, .ifCond .eq 18, 3, 0, 0, 0), (10, .aload_n 0, 1, 0, 0, 0), (11, .iload_n 1, 1, 0, 0, 0), (12, .newarray .byte, 2, 0, 0, 0), (14, .putfield 15, 3, 0, 0, 0), (17, .aload_n 0, 1, 0, 0, 0), (18, .iconst 0, 1, 0, 0, 0), (19, .putfield 22, 3, 0, 0, 0), (22, .goto 16, 3, 0, 0, 0), (25, .aload_n 0, 1, 0, 0, 0), (26, .iload_n 1, 1, 0, 0, 0), (27, .invokestatic 26, 3, 0, 0, 0), (30, .putfield 15, 3, 0, 0, 0), (33, .aload_n 0, 1, 0, 0, 0), (34, .iconst 1, 1, 0, 0, 0), (35, .putfield 22, 3, 0, 0, 0), (38, .return_, 1, 0, 0, 0)])
set_option maxRecDepth 100000 in
theorem ktJ5_init_d00df : fz_okK mtJ5_init_d00df = true := fz_okK_in (by decide +kernel)
set_option maxHeartbeats 4000000 in
set_option maxRecDepth 100000 in
theorem tt_asbInit (D : st_D) (X : st_Xt) (b : Nat) : st_R D ([], X.2) 2 1 16 mtJ5_init_d00df 0 (lv_args 0 [.ref b, .int (Int32.ofInt (16))]) [] [(b, .inr (1, [.null, .int (Int32.ofInt (0)), .int (Int32.ofInt (0)), .int (Int32.ofInt (0))]))] 0 0 (fun ws v => v = none ∧ ∃ (q : Nat) (f : Nat → Int32), sb_Fit f ∧ ws = [(b, .inr (1, [.ref q, .int (Int32.ofInt (0)), .int (Int32.ofInt (0)), .int (Int32.ofInt (0))])), (q, .inl (D.2.2.2, 16, .inl f))]) := by
  show st_R D ([], X.2) 2 1 16 mtJ5_init_d00df 0 [(0, .ref b), (1, .int (Int32.ofInt (16)))] [] _ 0 0 _
  refine st_aload_n 0 ktJ5_init_d00df rfl rfl ?_
  refine st_obj ktJ5_init_d00df rfl (st_has (n := 4230) rfl rfl) (Nat.le_of_ble_eq_true rfl) (by decide) ?_
  refine st_compact (st_has (n := 4231) rfl rfl) ktJ5_init_d00df rfl ?_
  refine st_if_eq (tgt := 25) ⟨by omega, by omega⟩ ktJ5_init_d00df rfl (by decide) (fun c1 => False.elim (by omega)) (fun c1 => ?_)
  refine st_aload_n 0 ktJ5_init_d00df rfl rfl ?_
  refine st_iload_n 1 ktJ5_init_d00df rfl rfl ?_
  refine st_newB (N := (16 : Int).toNat) ktJ5_init_d00df rfl (by omega) rfl (by omega) (by omega) (fun q2 => ?_)
  refine st_ws (ws' := [(b, .inr (1, [.null, .int (Int32.ofInt (0)), .int (Int32.ofInt (0)), .int (Int32.ofInt (0))])), (q2, .inl (D.2.2.2, (16 : Int).toNat, .inl (fun _ => 0)))]) rfl ?_
  refine st_put (ci := 1) (q0 := 0) (k := 0) (ty := tyJ4 0) ktJ5_init_d00df rfl rfl rfl (by decide) (st_has (n := 5000) rfl rfl) (Or.inl rfl) (tyJ4_ok 0 (by decide)) rfl rfl (Nat.le_of_ble_eq_true rfl) ?_
  refine st_ws (ws' := [(b, .inr (1, [.ref q2, .int (Int32.ofInt (0)), .int (Int32.ofInt (0)), .int (Int32.ofInt (0))])), (q2, .inl (D.2.2.2, (16 : Int).toNat, .inl (fun _ => 0)))]) rfl ?_
  refine st_aload_n 0 ktJ5_init_d00df rfl rfl ?_
  refine st_iconst ktJ5_init_d00df rfl ?_
  refine st_put (ci := 1) (q0 := 0) (k := 1) (ty := tyJ4 1) ktJ5_init_d00df rfl rfl rfl (by decide) (st_has (n := 5001) rfl rfl) (Or.inl rfl) (tyJ4_ok 1 (by decide)) rfl (by decide) (Nat.le_of_ble_eq_true rfl) ?_
  refine st_ws (ws' := [(b, .inr (1, [.ref q2, .int (Int32.ofInt (0)), .int (Int32.ofInt (0)), .int (Int32.ofInt (0))])), (q2, .inl (D.2.2.2, (16 : Int).toNat, .inl (fun _ => 0)))]) rfl ?_
  refine st_goto (tgt := 38) ktJ5_init_d00df rfl (by decide) ?_
  exact st_ret ktJ5_init_d00df rfl rfl (by omega) (by omega) ⟨rfl, _, _, sb_fit0, rfl⟩
def mtJ4_init_da8c8 : fz_M := (yJ4_init_da8c8, prog_20_method_1_code, 1, none, [(0, .aload_n 0, 1, 0, 0, 0), (1, .bipush 16, 2, 0, 0, 0), (3, .invokespecial 1, 3, 0, 0, 0), (6, .return_, 1, 0, 0, 0)])
set_option maxRecDepth 100000 in
theorem ktJ4_init_da8c8 : fz_okK mtJ4_init_da8c8 = true := fz_okK_in (by decide +kernel)
set_option maxHeartbeats 4000000 in
set_option maxRecDepth 100000 in
theorem tt_sbInit (D : st_D) (X : st_Xt) (b : Nat) : st_R D ([], X.2) 3 1 16 mtJ4_init_da8c8 0 (lv_args 0 [.ref b]) [] [(b, .inr (1, [.null, .int (Int32.ofInt (0)), .int (Int32.ofInt (0)), .int (Int32.ofInt (0))]))] 0 0 (fun ws v => v = none ∧ ∃ (q : Nat) (f : Nat → Int32), sb_Fit f ∧ ws = [(b, .inr (1, [.ref q, .int (Int32.ofInt (0)), .int (Int32.ofInt (0)), .int (Int32.ofInt (0))])), (q, .inl (D.2.2.2, 16, .inl f))]) := by
  show st_R D ([], X.2) 3 1 16 mtJ4_init_da8c8 0 [(0, .ref b)] [] _ 0 0 _
  refine st_aload_n 0 ktJ4_init_da8c8 rfl rfl ?_
  refine st_bipush ⟨by decide, by decide⟩ ktJ4_init_da8c8 rfl ?_
  refine st_callI (x := b) (X' := ([], X.2)) (d' := 2) (NC' := 1) (NS' := 16) (M' := mtJ5_init_d00df) (n := 1) (As := [.int (Int32.ofInt (16))]) (st := []) (wc := [(b, .inr (1, [.null, .int (Int32.ofInt (0)), .int (Int32.ofInt (0)), .int (Int32.ofInt (0))]))]) (wr := []) [0] [] ktJ4_init_da8c8 rfl (st_has (n := 4227) rfl rfl) (st_has (n := 4229) rfl rfl) (st_has (n := 1017) rfl rfl) (st_has (n := 4228) rfl rfl) (by decide +kernel) rfl rfl rfl rfl (Nat.le_of_ble_eq_true rfl) (Nat.le_of_ble_eq_true rfl) (by decide) (by omega) (by omega) rfl rfl (by decide) (by decide) (by decide) ⟨rfl, fun q hq => by cases hq⟩ (tt_asbInit D X b) (fun ws1 v hq => ?_)
  obtain ⟨rfl, q1, f2, hf2, rfl⟩ := hq
  refine st_st (st' := []) rfl ?_
  refine st_ws (ws' := [(b, .inr (1, [.ref q1, .int (Int32.ofInt (0)), .int (Int32.ofInt (0)), .int (Int32.ofInt (0))])), (q1, .inl (D.2.2.2, 16, .inl f2))]) rfl ?_
  exact st_ret ktJ4_init_da8c8 rfl rfl (by omega) (by omega) ⟨rfl, _, _, hf2, rfl⟩
def mtJ5_isLatin1_aae02 : fz_M := (yJ5_isLatin1_aae02, prog_14_method_68_code, 1, (some .boolean), [(0, .getstatic 18, 3, 0, 0, 0), (3, .ifCond .eq 14, 3, 0, 0, 0), (6, .aload_n 0, 1, 0, 0, 0), (7, .getfield 22, 3, 0, 0, 0), (10, .ifCond .ne 7, 3, 0, 0, 0), (13, .iconst 1, 1, 0, 0, 0), (14, .goto 4, 3, 0, 0, 0), (17, .iconst 0, 1, 0, 0, 0), (18, .ireturn, 1, 0, 0, 0)])
set_option maxRecDepth 100000 in
theorem ktJ5_isLatin1_aae02 : fz_okK mtJ5_isLatin1_aae02 = true := fz_okK_in (by decide +kernel)
set_option maxHeartbeats 4000000 in
set_option maxRecDepth 100000 in
theorem tt_asbLatin (D : st_D) (X : st_Xt) (b q : Nat) (c : Int) : st_R D ([], X.2) 1 0 0 mtJ5_isLatin1_aae02 0 (lv_args 0 [.ref b]) [] [(b, .inr (1, [.ref q, .int (Int32.ofInt (0)), .int (Int32.ofInt (0)), .int (Int32.ofInt (c))]))] 0 0 (fun ws v => v = some (.int (Int32.ofInt (1))) ∧ ws = [(b, .inr (1, [.ref q, .int (Int32.ofInt (0)), .int (Int32.ofInt (0)), .int (Int32.ofInt (c))]))]) := by
  show st_R D ([], X.2) 1 0 0 mtJ5_isLatin1_aae02 0 [(0, .ref b)] [] _ 0 0 _
  refine st_compact (st_has (n := 4231) rfl rfl) ktJ5_isLatin1_aae02 rfl ?_
  refine st_if_eq (tgt := 17) ⟨by omega, by omega⟩ ktJ5_isLatin1_aae02 rfl (by decide) (fun c1 => False.elim (by omega)) (fun c1 => ?_)
  refine st_aload_n 0 ktJ5_isLatin1_aae02 rfl rfl ?_
  refine st_get (ci := 1) (q0 := 0) (k := 1) (v := .int (Int32.ofInt (0))) ktJ5_isLatin1_aae02 rfl rfl rfl (by decide) (st_has (n := 5001) rfl rfl) rfl ?_
  refine st_if_ne (tgt := 17) ⟨by omega, by omega⟩ ktJ5_isLatin1_aae02 rfl (by decide) (fun c2 => False.elim (by omega)) (fun c2 => ?_)
  refine st_iconst ktJ5_isLatin1_aae02 rfl ?_
  refine st_goto (tgt := 18) ktJ5_isLatin1_aae02 rfl (by decide) ?_
  exact st_ireturn (ty := .boolean) ktJ5_isLatin1_aae02 rfl rfl (st_nr_boolean (by omega)) (by omega) (by omega) ⟨rfl, rfl⟩
def mtJ0_isLatin1_aae02 : fz_M := (yJ0_isLatin1_aae02, prog_19_method_154_code, 1, (some .boolean), [(0, .getstatic 38, 3, 0, 0, 0), (3, .ifCond .eq 14, 3, 0, 0, 0), (6, .aload_n 0, 1, 0, 0, 0), (7, .getfield 15, 3, 0, 0, 0), (10, .ifCond .ne 7, 3, 0, 0, 0), (13, .iconst 1, 1, 0, 0, 0), (14, .goto 4, 3, 0, 0, 0), (17, .iconst 0, 1, 0, 0, 0), (18, .ireturn, 1, 0, 0, 0)])
set_option maxRecDepth 100000 in
theorem ktJ0_isLatin1_aae02 : fz_okK mtJ0_isLatin1_aae02 = true := fz_okK_in (by decide +kernel)
set_option maxHeartbeats 4000000 in
set_option maxRecDepth 100000 in
theorem tt_strLatin (D : st_D) (X : st_Xt) (r q n : Nat) : st_R D ([(r, q, n)], X.2) 1 0 0 mtJ0_isLatin1_aae02 0 (lv_args 0 [.ref r]) [] [] 0 0 (fun ws v => v = some (.int (Int32.ofInt (1))) ∧ ws = []) := by
  show st_R D ([(r, q, n)], X.2) 1 0 0 mtJ0_isLatin1_aae02 0 [(0, .ref r)] [] _ 0 0 _
  refine st_compact (st_has (n := 5093) rfl rfl) ktJ0_isLatin1_aae02 rfl ?_
  refine st_if_eq (tgt := 17) ⟨by omega, by omega⟩ ktJ0_isLatin1_aae02 rfl (by decide) (fun c1 => False.elim (by omega)) (fun c1 => ?_)
  refine st_aload_n 0 ktJ0_isLatin1_aae02 rfl rfl ?_
  refine st_scoder (q := q) (n := n) (by simp) (st_has (n := 5222) rfl rfl) ktJ0_isLatin1_aae02 rfl ?_
  refine st_if_ne (tgt := 17) ⟨by omega, by omega⟩ ktJ0_isLatin1_aae02 rfl (by decide) (fun c2 => False.elim (by omega)) (fun c2 => ?_)
  refine st_iconst ktJ0_isLatin1_aae02 rfl ?_
  refine st_goto (tgt := 18) ktJ0_isLatin1_aae02 rfl (by decide) ?_
  exact st_ireturn (ty := .boolean) ktJ0_isLatin1_aae02 rfl rfl (st_nr_boolean (by omega)) (by omega) (by omega) ⟨rfl, rfl⟩
def mtJ0_coder_7d493 : fz_M := (yJ0_coder_7d493, prog_19_method_152_code, 1, (some .byte), [(0, .getstatic 38, 3, 0, 0, 0), (3, .ifCond .eq 10, 3, 0, 0, 0), (6, .aload_n 0, 1, 0, 0, 0), (7, .getfield 15, 3, 0, 0, 0), (10, .goto 4, 3, 0, 0, 0), (13, .iconst 1, 1, 0, 0, 0), (14, .ireturn, 1, 0, 0, 0)])
set_option maxRecDepth 100000 in
theorem ktJ0_coder_7d493 : fz_okK mtJ0_coder_7d493 = true := fz_okK_in (by decide +kernel)
set_option maxHeartbeats 4000000 in
set_option maxRecDepth 100000 in
theorem tt_strCoder (D : st_D) (X : st_Xt) (r q n : Nat) : st_R D ([(r, q, n)], X.2) 1 0 0 mtJ0_coder_7d493 0 (lv_args 0 [.ref r]) [] [] 0 0 (fun ws v => v = some (.int (Int32.ofInt (0))) ∧ ws = []) := by
  show st_R D ([(r, q, n)], X.2) 1 0 0 mtJ0_coder_7d493 0 [(0, .ref r)] [] _ 0 0 _
  refine st_compact (st_has (n := 5093) rfl rfl) ktJ0_coder_7d493 rfl ?_
  refine st_if_eq (tgt := 13) ⟨by omega, by omega⟩ ktJ0_coder_7d493 rfl (by decide) (fun c1 => False.elim (by omega)) (fun c1 => ?_)
  refine st_aload_n 0 ktJ0_coder_7d493 rfl rfl ?_
  refine st_scoder (q := q) (n := n) (by simp) (st_has (n := 5222) rfl rfl) ktJ0_coder_7d493 rfl ?_
  refine st_goto (tgt := 14) ktJ0_coder_7d493 rfl (by decide) ?_
  exact st_ireturn (ty := .byte) ktJ0_coder_7d493 rfl rfl (st_nr_byte (by omega)) (by omega) (by omega) ⟨rfl, rfl⟩
def mtJ0_length_8abf5 : fz_M := (yJ0_length_8abf5, prog_19_method_54_code, 1, (some .int), [(0, .aload_n 0, 1, 0, 0, 0), (1, .getfield 9, 3, 0, 0, 0), (4, .arraylength, 1, 0, 0, 0), (5, .aload_n 0, 1, 0, 0, 0), (6, .invokevirtual 335, 3, 0, 0, 0), (9, .ishr, 1, 0, 0, 0), (10, .ireturn, 1, 0, 0, 0)])
set_option maxRecDepth 100000 in
theorem ktJ0_length_8abf5 : fz_okK mtJ0_length_8abf5 = true := fz_okK_in (by decide +kernel)
set_option maxHeartbeats 4000000 in
set_option maxRecDepth 100000 in
theorem tt_strLen (D : st_D) (X : st_Xt) (r q n : Nat) : st_R D ([(r, q, n)], X.2) 2 0 0 mtJ0_length_8abf5 0 (lv_args 0 [.ref r]) [] [] 0 0 (fun ws v => v = some (.int (Int32.ofInt ((n : Int)))) ∧ ws = []) := by
  show st_R D ([(r, q, n)], X.2) 2 0 0 mtJ0_length_8abf5 0 [(0, .ref r)] [] _ 0 0 _
  refine st_aload_n 0 ktJ0_length_8abf5 rfl rfl ?_
  refine st_sval (q := q) (n := n) (by simp) (st_has (n := 5221) rfl rfl) ktJ0_length_8abf5 rfl ?_
  refine st_slen (r := r) (q := q) (n := n) (by simp) ktJ0_length_8abf5 rfl (fun h1 => ?_)
  refine st_aload_n 0 ktJ0_length_8abf5 rfl rfl ?_
  refine st_callV (x := r) (Cn := "java/lang/String") (X' := ([(r, q, n)], X.2)) (d' := 1) (NC' := 0) (NS' := 0) (M' := mtJ0_coder_7d493) (n := 0) (As := []) (st := [.int (Int32.ofInt ((n : Int)))]) (wc := []) (wr := []) [] [] ktJ0_length_8abf5 rfl ⟨(st_has (n := 5089) rfl rfl), (st_has (n := 5090) rfl rfl), (st_has (n := 1019) rfl rfl), Or.inl ⟨rfl, (st_has (n := 5091) rfl rfl)⟩⟩ (st_has (n := 5092) rfl rfl) (by decide +kernel) (Or.inr ⟨rfl, q, n, by simp⟩) rfl rfl (Nat.le_of_ble_eq_true rfl) (Nat.le_of_ble_eq_true rfl) (by decide) (by omega) (by omega) rfl rfl (by decide) (by decide) (by decide) ⟨rfl, fun q hq => (by simp only [List.mem_cons, List.not_mem_nil, or_false] at hq; subst hq; exact Or.inl (by simp))⟩ (tt_strCoder D X r q (n)) (fun ws1 v hq => ?_)
  obtain ⟨rfl, rfl⟩ := hq
  refine st_st (st' := [.int (Int32.ofInt (0)), .int (Int32.ofInt ((n : Int)))]) rfl ?_
  refine st_ws (ws' := []) rfl ?_
  refine st_ishr0 ktJ0_length_8abf5 rfl ?_
  exact st_ireturn (ty := .int) ktJ0_length_8abf5 rfl rfl rfl (by omega) (by omega) ⟨rfl, rfl⟩
def mtJ3_checkIndex_8e157 : fz_M := (yJ3_checkIndex_8e157, prog_26_method_11_code, 3, (some .int), [(0, .iload_n 0, 1, 0, 0, 0), (1, .ifCond .lt 8, 3, 0, 0, 0), (4, .iload_n 0, 1, 0, 0, 0), (5, .iload_n 1, 1, 0, 0, 0), (6, .if_icmp .lt 10, 3, 0, 0, 0), (9, .aload_n 2, 1, 0, 0, 0), (10, .iload_n 0, 1, 0, 0, 0), (11, .iload_n 1, 1, 0, 0, 0), (12, .invokestatic 95, 3, 0, 0, 0), (15, .athrow, 1, 0, 0, 0), (16, .iload_n 0, 1, 0, 0, 0), (17, .ireturn, 1, 0, 0, 0)])
set_option maxRecDepth 100000 in
theorem ktJ3_checkIndex_8e157 : fz_okK mtJ3_checkIndex_8e157 = true := fz_okK_in (by decide +kernel)
set_option maxHeartbeats 4000000 in
set_option maxRecDepth 100000 in
theorem tt_pre (D : st_D) (X : st_Xt) (i : Int) (n fm : Nat) (h : 0 ≤ i ∧ i < n) (hn : n < 100000) : st_R D ([], X.2) 1 0 0 mtJ3_checkIndex_8e157 0 (lv_args 0 [.int (Int32.ofInt (i)), .int (Int32.ofInt ((n : Int))), .ref fm]) [] [] 0 0 (fun ws v => v = some (.int (Int32.ofInt (i))) ∧ ws = []) := by
  show st_R D ([], X.2) 1 0 0 mtJ3_checkIndex_8e157 0 [(0, .int (Int32.ofInt (i))), (1, .int (Int32.ofInt ((n : Int)))), (2, .ref fm)] [] _ 0 0 _
  refine st_iload_n 0 ktJ3_checkIndex_8e157 rfl rfl ?_
  refine st_if_lt (tgt := 9) ⟨by omega, by omega⟩ ktJ3_checkIndex_8e157 rfl (by decide) (fun c1 => False.elim (by omega)) (fun c1 => ?_)
  refine st_iload_n 0 ktJ3_checkIndex_8e157 rfl rfl ?_
  refine st_iload_n 1 ktJ3_checkIndex_8e157 rfl rfl ?_
  refine st_icmp_lt (tgt := 16) ⟨by omega, by omega⟩ ⟨by omega, by omega⟩ ktJ3_checkIndex_8e157 rfl (by decide) (fun c2 => ?_) (fun c2 => False.elim (by omega))
  refine st_iload_n 0 ktJ3_checkIndex_8e157 rfl rfl ?_
  exact st_ireturn (ty := .int) ktJ3_checkIndex_8e157 rfl rfl rfl (by omega) (by omega) ⟨rfl, rfl⟩
set_option maxHeartbeats 4000000 in
set_option maxRecDepth 100000 in
theorem tt_preN (D : st_D) (X : st_Xt) (i : Int) (n : Nat) (h : 0 ≤ i ∧ i < n) (hn : n < 100000) : st_R D ([], X.2) 1 0 0 mtJ3_checkIndex_8e157 0 (lv_args 0 [.int (Int32.ofInt (i)), .int (Int32.ofInt ((n : Int))), .null]) [] [] 0 0 (fun ws v => v = some (.int (Int32.ofInt (i))) ∧ ws = []) := by
  show st_R D ([], X.2) 1 0 0 mtJ3_checkIndex_8e157 0 [(0, .int (Int32.ofInt (i))), (1, .int (Int32.ofInt ((n : Int)))), (2, .null)] [] _ 0 0 _
  refine st_iload_n 0 ktJ3_checkIndex_8e157 rfl rfl ?_
  refine st_if_lt (tgt := 9) ⟨by omega, by omega⟩ ktJ3_checkIndex_8e157 rfl (by decide) (fun c1 => False.elim (by omega)) (fun c1 => ?_)
  refine st_iload_n 0 ktJ3_checkIndex_8e157 rfl rfl ?_
  refine st_iload_n 1 ktJ3_checkIndex_8e157 rfl rfl ?_
  refine st_icmp_lt (tgt := 16) ⟨by omega, by omega⟩ ⟨by omega, by omega⟩ ktJ3_checkIndex_8e157 rfl (by decide) (fun c2 => ?_) (fun c2 => False.elim (by omega))
  refine st_iload_n 0 ktJ3_checkIndex_8e157 rfl rfl ?_
  exact st_ireturn (ty := .int) ktJ3_checkIndex_8e157 rfl rfl rfl (by omega) (by omega) ⟨rfl, rfl⟩
def mtJ0_checkIndex_df160 : fz_M := (yJ0_checkIndex_df160, prog_19_method_155_code, 2, none, [(0, .iload_n 0, 1, 0, 0, 0), (1, .iload_n 1, 1, 0, 0, 0), (2, .getstatic 1053, 3, 0, 0, 0), (5, .invokestatic 1059, 3, 0, 0, 0), (8, .pop, 1, 0, 0, 0), (9, .return_, 1, 0, 0, 0)])
set_option maxRecDepth 100000 in
theorem ktJ0_checkIndex_df160 : fz_okK mtJ0_checkIndex_df160 = true := fz_okK_in (by decide +kernel)
set_option maxHeartbeats 4000000 in
set_option maxRecDepth 100000 in
theorem tt_chk (D : st_D) (X : st_Xt) (i : Int) (n : Nat) (h : 0 ≤ i ∧ i < n) (hn : n < 100000) : st_R D ([], X.2) 2 0 0 mtJ0_checkIndex_df160 0 (lv_args 0 [.int (Int32.ofInt (i)), .int (Int32.ofInt ((n : Int)))]) [] [] 0 0 (fun ws v => v = none ∧ ws = []) := by
  show st_R D ([], X.2) 2 0 0 mtJ0_checkIndex_df160 0 [(0, .int (Int32.ofInt (i))), (1, .int (Int32.ofInt ((n : Int))))] [] _ 0 0 _
  refine st_iload_n 0 ktJ0_checkIndex_df160 rfl rfl ?_
  refine st_iload_n 1 ktJ0_checkIndex_df160 rfl rfl ?_
  refine st_formatter (st_has (n := 5071) rfl rfl) ktJ0_checkIndex_df160 rfl (fun v1 hv1 => ?_)
  rcases hv1 with rfl | ⟨q1, rfl⟩
  · refine st_callS (X' := ([], X.2)) (d' := 1) (NC' := 0) (NS' := 0) (M' := mtJ3_checkIndex_8e157) (n := 3) (As := [.int (Int32.ofInt (i)), .int (Int32.ofInt ((n : Int))), .null]) (st := []) (wc := []) (wr := []) [] [] ktJ0_checkIndex_df160 rfl (st_has (n := 5149) rfl rfl) (st_has (n := 5151) rfl rfl) (st_has (n := 1022) rfl rfl) (st_has (n := 5150) rfl rfl) (by decide +kernel) rfl rfl (Nat.le_of_ble_eq_true rfl) (Nat.le_of_ble_eq_true rfl) (by decide) (by omega) (by omega) rfl rfl (by decide) (by decide) (by decide) ⟨rfl, fun q hq => by cases hq⟩ (tt_preN D X (i) (n) (by omega) (by omega)) (fun ws1 v hq => ?_)
    obtain ⟨rfl, rfl⟩ := hq
    refine st_st (st' := [.int (Int32.ofInt (i))]) rfl ?_
    refine st_ws (ws' := []) rfl ?_
    refine st_pop rfl ktJ0_checkIndex_df160 rfl ?_
    exact st_ret ktJ0_checkIndex_df160 rfl rfl (by omega) (by omega) ⟨rfl, rfl⟩
  · refine st_callS (X' := ([], X.2)) (d' := 1) (NC' := 0) (NS' := 0) (M' := mtJ3_checkIndex_8e157) (n := 3) (As := [.int (Int32.ofInt (i)), .int (Int32.ofInt ((n : Int))), .ref q1]) (st := []) (wc := []) (wr := []) [] [] ktJ0_checkIndex_df160 rfl (st_has (n := 5149) rfl rfl) (st_has (n := 5151) rfl rfl) (st_has (n := 1022) rfl rfl) (st_has (n := 5150) rfl rfl) (by decide +kernel) rfl rfl (Nat.le_of_ble_eq_true rfl) (Nat.le_of_ble_eq_true rfl) (by decide) (by omega) (by omega) rfl rfl (by decide) (by decide) (by decide) ⟨rfl, fun q hq => by cases hq⟩ (tt_pre D X (i) (n) q1 (by omega) (by omega)) (fun ws1 v hq => ?_)
    obtain ⟨rfl, rfl⟩ := hq
    refine st_st (st' := [.int (Int32.ofInt (i))]) rfl ?_
    refine st_ws (ws' := []) rfl ?_
    refine st_pop rfl ktJ0_checkIndex_df160 rfl ?_
    exact st_ret ktJ0_checkIndex_df160 rfl rfl (by omega) (by omega) ⟨rfl, rfl⟩
def mtJ1_charAt_3b067 : fz_M := (yJ1_charAt_3b067, prog_21_method_2_code, 2, (some .char), [(0, .iload_n 1, 1, 0, 0, 0), (1, .aload_n 0, 1, 0, 0, 0), (2, .arraylength, 1, 0, 0, 0), (3, .invokestatic 9, 3, 0, 0, 0), (6, .aload_n 0, 1, 0, 0, 0), (7, .iload_n 1, 1, 0, 0, 0), (8, .baload, 1, 0, 0, 0), (9, .sipush 255, 3, 0, 0, 0), (12, .iand, 1, 0, 0, 0), (13, .i2c, 1, 0, 0, 0), (14, .ireturn, 1, 0, 0, 0)])
set_option maxRecDepth 100000 in
theorem ktJ1_charAt_3b067 : fz_okK mtJ1_charAt_3b067 = true := fz_okK_in (by decide +kernel)
set_option maxHeartbeats 4000000 in
set_option maxRecDepth 100000 in
theorem tt_l1At (D : st_D) (X : st_Xt) (r q n : Nat) (i : Int) (h : 0 ≤ i ∧ i < n) : st_R D ([(r, q, n)], X.2) 3 0 0 mtJ1_charAt_3b067 0 (lv_args 0 [.ref q, .int (Int32.ofInt (i))]) [] [] 0 0 (fun ws v => ∃ z : Int, (0 ≤ z ∧ z ≤ 255) ∧ v = some (.int (Int32.ofInt (z))) ∧ ws = []) := by
  show st_R D ([(r, q, n)], X.2) 3 0 0 mtJ1_charAt_3b067 0 [(0, .ref q), (1, .int (Int32.ofInt (i)))] [] _ 0 0 _
  refine st_iload_n 1 ktJ1_charAt_3b067 rfl rfl ?_
  refine st_aload_n 0 ktJ1_charAt_3b067 rfl rfl ?_
  refine st_slen (r := r) (q := q) (n := n) (by simp) ktJ1_charAt_3b067 rfl (fun h1 => ?_)
  refine st_callS (X' := ([], X.2)) (d' := 2) (NC' := 0) (NS' := 0) (M' := mtJ0_checkIndex_df160) (n := 2) (As := [.int (Int32.ofInt (i)), .int (Int32.ofInt ((n : Int)))]) (st := []) (wc := []) (wr := []) [] [] ktJ1_charAt_3b067 rfl (st_has (n := 5146) rfl rfl) (st_has (n := 5148) rfl rfl) (st_has (n := 1019) rfl rfl) (st_has (n := 5147) rfl rfl) (by decide +kernel) rfl rfl (Nat.le_of_ble_eq_true rfl) (Nat.le_of_ble_eq_true rfl) (by decide) (by omega) (by omega) rfl rfl (by decide) (by decide) (by decide) ⟨rfl, fun q hq => by cases hq⟩ (tt_chk D X (i) (n) (by omega) (by omega)) (fun ws1 v hq => ?_)
  obtain ⟨rfl, rfl⟩ := hq
  refine st_st (st' := []) rfl ?_
  refine st_ws (ws' := []) rfl ?_
  refine st_aload_n 0 ktJ1_charAt_3b067 rfl rfl ?_
  refine st_iload_n 1 ktJ1_charAt_3b067 rfl rfl ?_
  refine st_sbald (r := r) (n := n) (by simp) (by omega) ktJ1_charAt_3b067 rfl (fun z2 => ?_)
  refine st_sipush ⟨by decide, by decide⟩ ktJ1_charAt_3b067 rfl ?_
  refine st_iand ktJ1_charAt_3b067 rfl (fun z3 ez3 => ?_)
  have hz3 : 0 ≤ z3 ∧ z3 ≤ 255 := by rw [ez3]; exact st_and_m (by decide) (by decide)
  refine st_i2c (by omega) ktJ1_charAt_3b067 rfl ?_
  exact st_ireturn (ty := .char) ktJ1_charAt_3b067 rfl rfl (st_nr_char (by omega)) (by omega) (by omega) ⟨z3, hz3, rfl, rfl⟩
def mtJ0_charAt_5068e : fz_M := (yJ0_charAt_5068e, prog_19_method_56_code, 2, (some .char), [(0, .aload_n 0, 1, 0, 0, 0), (1, .invokevirtual 492, 3, 0, 0, 0), (4, .ifCond .eq 12, 3, 0, 0, 0), (7, .aload_n 0, 1, 0, 0, 0), (8, .getfield 9, 3, 0, 0, 0), (11, .iload_n 1, 1, 0, 0, 0), (12, .invokestatic 495, 3, 0, 0, 0), (15, .ireturn, 1, 0, 0, 0), (16, .aload_n 0, 1, 0, 0, 0), (17, .getfield 9, 3, 0, 0, 0), (20, .iload_n 1, 1, 0, 0, 0), (21, .invokestatic 498, 3, 0, 0, 0), (24, .ireturn, 1, 0, 0, 0)])
set_option maxRecDepth 100000 in
theorem ktJ0_charAt_5068e : fz_okK mtJ0_charAt_5068e = true := fz_okK_in (by decide +kernel)
set_option maxHeartbeats 4000000 in
set_option maxRecDepth 100000 in
theorem tt_strAt (D : st_D) (X : st_Xt) (r q n : Nat) (i : Int) (h : 0 ≤ i ∧ i < n) : st_R D ([(r, q, n)], X.2) 4 0 0 mtJ0_charAt_5068e 0 (lv_args 0 [.ref r, .int (Int32.ofInt (i))]) [] [] 0 0 (fun ws v => ∃ z : Int, (0 ≤ z ∧ z ≤ 255) ∧ v = some (.int (Int32.ofInt (z))) ∧ ws = []) := by
  show st_R D ([(r, q, n)], X.2) 4 0 0 mtJ0_charAt_5068e 0 [(0, .ref r), (1, .int (Int32.ofInt (i)))] [] _ 0 0 _
  refine st_aload_n 0 ktJ0_charAt_5068e rfl rfl ?_
  refine st_callV (x := r) (Cn := "java/lang/String") (X' := ([(r, q, n)], X.2)) (d' := 1) (NC' := 0) (NS' := 0) (M' := mtJ0_isLatin1_aae02) (n := 0) (As := []) (st := []) (wc := []) (wr := []) [] [] ktJ0_charAt_5068e rfl ⟨(st_has (n := 5139) rfl rfl), (st_has (n := 5140) rfl rfl), (st_has (n := 1019) rfl rfl), Or.inl ⟨rfl, (st_has (n := 5141) rfl rfl)⟩⟩ (st_has (n := 5142) rfl rfl) (by decide +kernel) (Or.inr ⟨rfl, q, n, by simp⟩) rfl rfl (Nat.le_of_ble_eq_true rfl) (Nat.le_of_ble_eq_true rfl) (by decide) (by omega) (by omega) rfl rfl (by decide) (by decide) (by decide) ⟨rfl, fun q hq => (by simp only [List.mem_cons, List.not_mem_nil, or_false] at hq; subst hq; exact Or.inl (by simp))⟩ (tt_strLatin D X r q (n)) (fun ws1 v hq => ?_)
  obtain ⟨rfl, rfl⟩ := hq
  refine st_st (st' := [.int (Int32.ofInt (1))]) rfl ?_
  refine st_ws (ws' := []) rfl ?_
  refine st_if_eq (tgt := 16) ⟨by omega, by omega⟩ ktJ0_charAt_5068e rfl (by decide) (fun c1 => False.elim (by omega)) (fun c1 => ?_)
  refine st_aload_n 0 ktJ0_charAt_5068e rfl rfl ?_
  refine st_sval (q := q) (n := n) (by simp) (st_has (n := 5221) rfl rfl) ktJ0_charAt_5068e rfl ?_
  refine st_iload_n 1 ktJ0_charAt_5068e rfl rfl ?_
  refine st_callS (X' := ([(r, q, n)], X.2)) (d' := 3) (NC' := 0) (NS' := 0) (M' := mtJ1_charAt_3b067) (n := 2) (As := [.ref q, .int (Int32.ofInt (i))]) (st := []) (wc := []) (wr := []) [] [] ktJ0_charAt_5068e rfl (st_has (n := 5143) rfl rfl) (st_has (n := 5145) rfl rfl) (st_has (n := 1023) rfl rfl) (st_has (n := 5144) rfl rfl) (by decide +kernel) rfl rfl (Nat.le_of_ble_eq_true rfl) (Nat.le_of_ble_eq_true rfl) (by decide) (by omega) (by omega) rfl rfl (by decide) (by decide) (by decide) ⟨rfl, fun q hq => (by simp only [List.mem_cons, List.not_mem_nil, or_false] at hq; subst hq; exact Or.inl (by simp))⟩ (tt_l1At D X r q (n) (i) (by omega)) (fun ws1 v hq => ?_)
  obtain ⟨z2, hz2, rfl, rfl⟩ := hq
  refine st_st (st' := [.int (Int32.ofInt (z2))]) rfl ?_
  refine st_ws (ws' := []) rfl ?_
  exact st_ireturn (ty := .char) ktJ0_charAt_5068e rfl rfl (st_nr_char (by omega)) (by omega) (by omega) ⟨z2, hz2, rfl, rfl⟩
def mtJ8_newLength_cabcc : fz_M := (yJ8_newLength_cabcc, prog_25_method_27_code, 4, (some .int), [(0, .iload_n 0, 1, 0, 0, 0), (1, .iload_n 1, 1, 0, 0, 0), (2, .iload_n 2, 1, 0, 0, 0), (3, .invokestatic 194, 3, 0, 0, 0), (6, .iadd, 1, 0, 0, 0), (7, .istore_n 3, 1, 0, 0, 0), (8, .iconst 0, 1, 0, 0, 0), (9, .iload_n 3, 1, 0, 0, 0), (10, .if_icmp .ge 11, 3, 0, 0, 0), (13, .iload_n 3, 1, 0, 0, 0), (14, .ldc 200, 2, 0, 0, 0), (16, .if_icmp .gt 5, 3, 0, 0, 0), (19, .iload_n 3, 1, 0, 0, 0), (20, .ireturn, 1, 0, 0, 0), (21, .iload_n 0, 1, 0, 0, 0), (22, .iload_n 1, 1, 0, 0, 0), (23, .invokestatic 201, 3, 0, 0, 0), (26, .ireturn, 1, 0, 0, 0)])
set_option maxRecDepth 100000 in
theorem ktJ8_newLength_cabcc : fz_okK mtJ8_newLength_cabcc = true := fz_okK_in (by decide +kernel)
set_option maxHeartbeats 4000000 in
set_option maxRecDepth 100000 in
theorem tt_newLen (D : st_D) (X : st_Xt) (o g p : Int) (h : 0 ≤ o ∧ o ≤ 1000 ∧ 0 < g ∧ g ≤ 1000 ∧ 0 < p ∧ p ≤ 1002) : st_R D ([], X.2) 1 0 0 mtJ8_newLength_cabcc 0 (lv_args 0 [.int (Int32.ofInt (o)), .int (Int32.ofInt (g)), .int (Int32.ofInt (p))]) [] [] 0 0 (fun ws v => v = some (.int (Int32.ofInt ((o + max g p)))) ∧ ws = []) := by
  show st_R D ([], X.2) 1 0 0 mtJ8_newLength_cabcc 0 [(0, .int (Int32.ofInt (o))), (1, .int (Int32.ofInt (g))), (2, .int (Int32.ofInt (p)))] [] _ 0 0 _
  refine st_iload_n 0 ktJ8_newLength_cabcc rfl rfl ?_
  refine st_iload_n 1 ktJ8_newLength_cabcc rfl rfl ?_
  refine st_iload_n 2 ktJ8_newLength_cabcc rfl rfl ?_
  refine st_mmax ⟨by omega, by omega⟩ ⟨by omega, by omega⟩ (st_has (n := 5036) rfl rfl) ktJ8_newLength_cabcc rfl (by decide) (Nat.le_of_ble_eq_true rfl) (by omega) (by omega) (fun z1 hz1 => ?_)
  refine st_iadd (z := (o + z1)) (fz_w_id (by omega) (by omega)) ktJ8_newLength_cabcc rfl ?_
  refine st_istore_n (ls' := [(3, .int (Int32.ofInt ((o + z1)))), (0, .int (Int32.ofInt (o))), (1, .int (Int32.ofInt (g))), (2, .int (Int32.ofInt (p)))]) ktJ8_newLength_cabcc rfl (by decide) rfl ?_
  refine st_iconst ktJ8_newLength_cabcc rfl ?_
  refine st_iload_n 0 ktJ8_newLength_cabcc rfl rfl ?_
  refine st_icmp_ge (tgt := 21) ⟨by omega, by omega⟩ ⟨by omega, by omega⟩ ktJ8_newLength_cabcc rfl (by decide) (fun c2 => False.elim (by omega)) (fun c2 => ?_)
  refine st_iload_n 0 ktJ8_newLength_cabcc rfl rfl ?_
  refine st_ldc (v := 2147483639) (st_has (n := 5037) rfl rfl) ktJ8_newLength_cabcc rfl ?_
  refine st_icmp_gt (tgt := 21) ⟨by omega, by omega⟩ ⟨by omega, by omega⟩ ktJ8_newLength_cabcc rfl (by decide) (fun c3 => False.elim (by omega)) (fun c3 => ?_)
  refine st_iload_n 0 ktJ8_newLength_cabcc rfl rfl ?_
  exact st_ireturn (ty := .int) ktJ8_newLength_cabcc rfl rfl rfl (by omega) (by omega) ⟨by rw [hz1], rfl⟩
def mtJ5_newCapacity_0f7a4 : fz_M := (yJ5_newCapacity_0f7a4, prog_14_method_10_code, 6, (some .int), [(0, .aload_n 0, 1, 0, 0, 0), (1, .getfield 15, 3, 0, 0, 0), (4, .arraylength, 1, 0, 0, 0), (5, .istore_n 2, 1, 0, 0, 0), (6, .iload_n 1, 1, 0, 0, 0), (7, .aload_n 0, 1, 0, 0, 0), (8, .getfield 22, 3, 0, 0, 0), (11, .ishl, 1, 0, 0, 0), (12, .istore_n 3, 1, 0, 0, 0), (13, .iload_n 3, 1, 0, 0, 0), (14, .iload_n 2, 1, 0, 0, 0), (15, .isub, 1, 0, 0, 0), (16, .istore 4, 2, 0, 0, 0), (18, .iload_n 2, 1, 0, 0, 0), (19, .iload 4, 2, 0, 0, 0), (21, .iload_n 2, 1, 0, 0, 0), (22, .iconst 2, 1, 0, 0, 0), (23, .aload_n 0, 1, 0, 0, 0), (24, .getfield 22, 3, 0, 0, 0), (27, .ishl, 1, 0, 0, 0), (28, .iadd, 1, 0, 0, 0), (29, .invokestatic 114, 3, 0, 0, 0), (32, .istore 5, 2, 0, 0, 0), (34, .iload 5, 2, 0, 0, 0), (36, .ldc 39, 2, 0, 0, 0), (38, .if_icmp .ne 13, 3, 0, 0, 0), (41, .new 120, 3, 0, 0, 0), (44, .dup, 1, 0, 0, 0), (45, .ldc 122, 2, 0, 0, 0), (47, .invokespecial 124, 3, 0, 0, 0), (50, .athrow, 1, 0, 0, 0), (51, .iload 5, 2, 0, 0, 0), (53, .aload_n 0, 1, 0, 0, 0), (54, .getfield 22, 3, 0, 0, 0), (57, .ishr, 1, 0, 0, 0), (58, .ireturn, 1, 0, 0, 0)])
set_option maxRecDepth 100000 in
theorem ktJ5_newCapacity_0f7a4 : fz_okK mtJ5_newCapacity_0f7a4 = true := fz_okK_in (by decide +kernel)
set_option maxHeartbeats 4000000 in
set_option maxRecDepth 100000 in
theorem tt_newCap (D : st_D) (X : st_Xt) (b q n : Nat) (c m : Int) (f : Nat → Int32) (h : (n : Int) < m ∧ m ≤ 1000) : st_R D ([], X.2) 2 0 0 mtJ5_newCapacity_0f7a4 0 (lv_args 0 [.ref b, .int (Int32.ofInt (m))]) [] [(b, .inr (1, [.ref q, .int (Int32.ofInt (0)), .int (Int32.ofInt (0)), .int (Int32.ofInt (c))])), (q, .inl (D.2.2.2, n, .inl f))] 0 0 (fun ws v => (∃ w : Int, (m ≤ w ∧ w ≤ 2002) ∧ v = some (.int (Int32.ofInt (w)))) ∧ ws = [(b, .inr (1, [.ref q, .int (Int32.ofInt (0)), .int (Int32.ofInt (0)), .int (Int32.ofInt (c))])), (q, .inl (D.2.2.2, n, .inl f))]) := by
  show st_R D ([], X.2) 2 0 0 mtJ5_newCapacity_0f7a4 0 [(0, .ref b), (1, .int (Int32.ofInt (m)))] [] _ 0 0 _
  refine st_aload_n 0 ktJ5_newCapacity_0f7a4 rfl rfl ?_
  refine st_get (ci := 1) (q0 := 0) (k := 0) (v := .ref q) ktJ5_newCapacity_0f7a4 rfl rfl rfl (by decide) (st_has (n := 5000) rfl rfl) rfl ?_
  refine st_alen (q0 := 1) ktJ5_newCapacity_0f7a4 rfl rfl ?_
  refine st_istore_n (ls' := [(2, .int (Int32.ofInt ((n : Int)))), (0, .ref b), (1, .int (Int32.ofInt (m)))]) ktJ5_newCapacity_0f7a4 rfl (by decide) rfl ?_
  refine st_iload_n 2 ktJ5_newCapacity_0f7a4 rfl rfl ?_
  refine st_aload_n 1 ktJ5_newCapacity_0f7a4 rfl rfl ?_
  refine st_get (ci := 1) (q0 := 0) (k := 1) (v := .int (Int32.ofInt (0))) ktJ5_newCapacity_0f7a4 rfl rfl rfl (by decide) (st_has (n := 5001) rfl rfl) rfl ?_
  refine st_ishl0 ktJ5_newCapacity_0f7a4 rfl ?_
  refine st_istore_n (ls' := [(3, .int (Int32.ofInt (m))), (2, .int (Int32.ofInt ((n : Int)))), (0, .ref b), (1, .int (Int32.ofInt (m)))]) ktJ5_newCapacity_0f7a4 rfl (by decide) rfl ?_
  refine st_iload_n 0 ktJ5_newCapacity_0f7a4 rfl rfl ?_
  refine st_iload_n 1 ktJ5_newCapacity_0f7a4 rfl rfl ?_
  refine st_isub (z := (m - (n : Int))) (fz_w_id (by omega) (by omega)) ktJ5_newCapacity_0f7a4 rfl ?_
  refine st_istore (ls' := [(4, .int (Int32.ofInt ((m - (n : Int))))), (3, .int (Int32.ofInt (m))), (2, .int (Int32.ofInt ((n : Int)))), (0, .ref b), (1, .int (Int32.ofInt (m)))]) ktJ5_newCapacity_0f7a4 rfl (by decide) rfl ?_
  refine st_iload_n 2 ktJ5_newCapacity_0f7a4 rfl rfl ?_
  refine st_iload 0 ktJ5_newCapacity_0f7a4 rfl rfl ?_
  refine st_iload_n 2 ktJ5_newCapacity_0f7a4 rfl rfl ?_
  refine st_iconst ktJ5_newCapacity_0f7a4 rfl ?_
  refine st_aload_n 3 ktJ5_newCapacity_0f7a4 rfl rfl ?_
  refine st_get (ci := 1) (q0 := 0) (k := 1) (v := .int (Int32.ofInt (0))) ktJ5_newCapacity_0f7a4 rfl rfl rfl (by decide) (st_has (n := 5001) rfl rfl) rfl ?_
  refine st_ishl0 ktJ5_newCapacity_0f7a4 rfl ?_
  refine st_iadd (z := ((n : Int) + 2)) (fz_w_id (by omega) (by omega)) ktJ5_newCapacity_0f7a4 rfl ?_
  refine st_callS (X' := ([], X.2)) (d' := 1) (NC' := 0) (NS' := 0) (M' := mtJ8_newLength_cabcc) (n := 3) (As := [.int (Int32.ofInt ((n : Int))), .int (Int32.ofInt ((m - (n : Int)))), .int (Int32.ofInt (((n : Int) + 2)))]) (st := []) (wc := []) (wr := [(b, .inr (1, [.ref q, .int (Int32.ofInt (0)), .int (Int32.ofInt (0)), .int (Int32.ofInt (c))])), (q, .inl (D.2.2.2, n, .inl f))]) [] [0, 1] ktJ5_newCapacity_0f7a4 rfl (st_has (n := 5033) rfl rfl) (st_has (n := 5035) rfl rfl) (st_has (n := 1021) rfl rfl) (st_has (n := 5034) rfl rfl) (by decide +kernel) rfl rfl (Nat.le_of_ble_eq_true rfl) (Nat.le_of_ble_eq_true rfl) (by decide) (by omega) (by omega) rfl rfl (by decide) (by decide) (by decide) ⟨rfl, fun q hq => by cases hq⟩ (tt_newLen D X ((n : Int)) ((m - (n : Int))) (((n : Int) + 2)) (by omega)) (fun ws1 v hq => ?_)
  obtain ⟨rfl, rfl⟩ := hq
  refine st_st (st' := [.int (Int32.ofInt (((n : Int) + max (m - (n : Int)) ((n : Int) + 2))))]) rfl ?_
  refine st_ws (ws' := [(b, .inr (1, [.ref q, .int (Int32.ofInt (0)), .int (Int32.ofInt (0)), .int (Int32.ofInt (c))])), (q, .inl (D.2.2.2, n, .inl f))]) rfl ?_
  refine st_istore (ls' := [(5, .int (Int32.ofInt (((n : Int) + max (m - (n : Int)) ((n : Int) + 2))))), (4, .int (Int32.ofInt ((m - (n : Int))))), (3, .int (Int32.ofInt (m))), (2, .int (Int32.ofInt ((n : Int)))), (0, .ref b), (1, .int (Int32.ofInt (m)))]) ktJ5_newCapacity_0f7a4 rfl (by decide) rfl ?_
  refine st_iload 0 ktJ5_newCapacity_0f7a4 rfl rfl ?_
  refine st_ldc (v := 2147483647) (st_has (n := 5041) rfl rfl) ktJ5_newCapacity_0f7a4 rfl ?_
  refine st_icmp_ne (tgt := 51) ⟨by omega, by omega⟩ ⟨by omega, by omega⟩ ktJ5_newCapacity_0f7a4 rfl (by decide) (fun c1 => ?_) (fun c1 => False.elim (by omega))
  refine st_iload 0 ktJ5_newCapacity_0f7a4 rfl rfl ?_
  refine st_aload_n 4 ktJ5_newCapacity_0f7a4 rfl rfl ?_
  refine st_get (ci := 1) (q0 := 0) (k := 1) (v := .int (Int32.ofInt (0))) ktJ5_newCapacity_0f7a4 rfl rfl rfl (by decide) (st_has (n := 5001) rfl rfl) rfl ?_
  refine st_ishr0 ktJ5_newCapacity_0f7a4 rfl ?_
  exact st_ireturn (ty := .int) ktJ5_newCapacity_0f7a4 rfl rfl rfl (by omega) (by omega) ⟨⟨_, ⟨by omega, by omega⟩, rfl⟩, rfl⟩
def mtJ7_copyOf_9075b : fz_M := (yJ7_copyOf_9075b, prog_24_method_121_code, 3, (some (.array .byte)), [(0, .iload_n 1, 1, 0, 0, 0), (1, .aload_n 0, 1, 0, 0, 0), (2, .arraylength, 1, 0, 0, 0), (3, .if_icmp .ne 11, 3, 0, 0, 0), (6, .aload_n 0, 1, 0, 0, 0), (7, .invokevirtual 310, 3, 0, 0, 0), (10, .checkcast 311, 3, 0, 0, 0), (13, .areturn, 1, 0, 0, 0), (14, .iload_n 1, 1, 0, 0, 0), (15, .newarray .byte, 2, 0, 0, 0), (17, .astore_n 2, 1, 0, 0, 0), (18, .aload_n 0, 1, 0, 0, 0), (19, .iconst 0, 1, 0, 0, 0), (20, .aload_n 2, 1, 0, 0, 0), (21, .iconst 0, 1, 0, 0, 0), (22, .aload_n 0, 1, 0, 0, 0), (23, .arraylength, 1, 0, 0, 0), (24, .iload_n 1, 1, 0, 0, 0), (25, .invokestatic 304, 3, 0, 0, 0), (28, .invokestatic 150, 3, 0, 0, 0), (31, .aload_n 2, 1, 0, 0, 0), (32, .areturn, 1, 0, 0, 0)])
set_option maxRecDepth 100000 in
theorem ktJ7_copyOf_9075b : fz_okK mtJ7_copyOf_9075b = true := fz_okK_in (by decide +kernel)
set_option maxHeartbeats 4000000 in
set_option maxRecDepth 100000 in
theorem tt_copyOf (D : st_D) (X : st_Xt) (q n : Nat) (f : Nat → Int32) (m : Int) (hf : sb_Fit f) (h : (n : Int) < m ∧ m ≤ 2002) : st_R D ([], X.2) 2 1 2002 mtJ7_copyOf_9075b 0 (lv_args 0 [.ref q, .int (Int32.ofInt (m))]) [] [(q, .inl (D.2.2.2, n, .inl f))] 0 0 (fun ws v => ∃ (q2 : Nat) (f2 : Nat → Int32), sb_Fit f2 ∧ v = some (.ref q2) ∧ ws = [(q, .inl (D.2.2.2, n, .inl f)), (q2, .inl (D.2.2.2, m.toNat, .inl f2))]) := by
  show st_R D ([], X.2) 2 1 2002 mtJ7_copyOf_9075b 0 [(0, .ref q), (1, .int (Int32.ofInt (m)))] [] _ 0 0 _
  refine st_iload_n 1 ktJ7_copyOf_9075b rfl rfl ?_
  refine st_aload_n 0 ktJ7_copyOf_9075b rfl rfl ?_
  refine st_alen (q0 := 0) ktJ7_copyOf_9075b rfl rfl ?_
  refine st_icmp_ne (tgt := 14) ⟨by omega, by omega⟩ ⟨by omega, by omega⟩ ktJ7_copyOf_9075b rfl (by decide) (fun c1 => ?_) (fun c1 => False.elim (by omega))
  refine st_iload_n 1 ktJ7_copyOf_9075b rfl rfl ?_
  refine st_newB (N := (m : Int).toNat) ktJ7_copyOf_9075b rfl (by omega) rfl (by omega) (by omega) (fun q2 => ?_)
  refine st_ws (ws' := [(q, .inl (D.2.2.2, n, .inl f)), (q2, .inl (D.2.2.2, (m : Int).toNat, .inl (fun _ => 0)))]) rfl ?_
  refine st_astore_n (ls' := [(2, .ref q2), (0, .ref q), (1, .int (Int32.ofInt (m)))]) ktJ7_copyOf_9075b rfl (by decide) rfl ?_
  refine st_aload_n 1 ktJ7_copyOf_9075b rfl rfl ?_
  refine st_iconst ktJ7_copyOf_9075b rfl ?_
  refine st_aload_n 0 ktJ7_copyOf_9075b rfl rfl ?_
  refine st_iconst ktJ7_copyOf_9075b rfl ?_
  refine st_aload_n 1 ktJ7_copyOf_9075b rfl rfl ?_
  refine st_alen (q0 := 0) ktJ7_copyOf_9075b rfl rfl ?_
  refine st_iload_n 2 ktJ7_copyOf_9075b rfl rfl ?_
  refine st_mmin ⟨by omega, by omega⟩ ⟨by omega, by omega⟩ (st_has (n := 5052) rfl rfl) ktJ7_copyOf_9075b rfl (by decide) (Nat.le_of_ble_eq_true rfl) (by omega) (by omega) (fun z3 hz3 => ?_)
  refine st_acW (q0 := 0) (q1 := 1) ktJ7_copyOf_9075b rfl (st_has (n := 5053) rfl rfl) rfl rfl hf sb_fit0 (by omega) (by omega) (by omega) (by omega) (by omega) ⟨by omega, by omega, by omega⟩ (by decide) (Nat.le_of_ble_eq_true rfl) (fun f4 hf4 => ?_)
  refine st_ws (ws' := [(q, .inl (D.2.2.2, n, .inl f)), (q2, .inl (D.2.2.2, (m : Int).toNat, .inl f4))]) rfl ?_
  refine st_aload_n 0 ktJ7_copyOf_9075b rfl rfl ?_
  exact st_areturn (ty := (.array .byte)) ktJ7_copyOf_9075b rfl rfl (Or.inr ⟨_, rfl⟩) (by omega) (by omega) ⟨_, _, hf4, rfl, rfl⟩
def mtJ5_ensureCapacityInternal_d00df : fz_M := (yJ5_ensureCapacityInternal_d00df, prog_14_method_9_code, 3, none, [(0, .aload_n 0, 1, 0, 0, 0), (1, .getfield 15, 3, 0, 0, 0), (4, .arraylength, 1, 0, 0, 0), (5, .aload_n 0, 1, 0, 0, 0), (6, .getfield 22, 3, 0, 0, 0), (9, .ishr, 1, 0, 0, 0), (10, .istore_n 2, 1, 0, 0, 0), (11, .iload_n 1, 1, 0, 0, 0), (12, .iload_n 2, 1, 0, 0, 0), (13, .isub, 1, 0, 0, 0), (14, .ifCond .le 24, 3, 0, 0, 0), (17, .aload_n 0, 1, 0, 0, 0), (18, .aload_n 0, 1, 0, 0, 0), (19, .getfield 15, 3, 0, 0, 0), (22, .aload_n 0, 1, 0, 0, 0), (23, .iload_n 1, 1, 0, 0, 0), (24, .invokevirtual 104, 3, 0, 0, 0), (27, .aload_n 0, 1, 0, 0, 0), (28, .getfield 22, 3, 0, 0, 0), (31, .ishl, 1, 0, 0, 0), (32, .invokestatic 108, 3, 0, 0, 0), (35, .putfield 15, 3, 0, 0, 0), (38, .return_, 1, 0, 0, 0)])
set_option maxRecDepth 100000 in
theorem ktJ5_ensureCapacityInternal_d00df : fz_okK mtJ5_ensureCapacityInternal_d00df = true := fz_okK_in (by decide +kernel)
set_option maxHeartbeats 4000000 in
set_option maxRecDepth 100000 in
theorem tt_ensure (D : st_D) (X : st_Xt) (b q n : Nat) (c m : Int) (f : Nat → Int32) (hf : sb_Fit f) (h : c ≤ n ∧ n ≤ 2002 ∧ 0 ≤ m ∧ m ≤ 1000) : st_R D ([], X.2) 3 1 2002 mtJ5_ensureCapacityInternal_d00df 0 (lv_args 0 [.ref b, .int (Int32.ofInt (m))]) [] [(b, .inr (1, [.ref q, .int (Int32.ofInt (0)), .int (Int32.ofInt (0)), .int (Int32.ofInt (c))])), (q, .inl (D.2.2.2, n, .inl f))] 0 0 (fun ws v => ∃ (q2 n2 : Nat) (f2 : Nat → Int32), sb_Fit f2 ∧ ((m ≤ n2 ∧ n2 ≤ 2002) ∧ c ≤ n2) ∧ v = none ∧ ws = [(b, .inr (1, [.ref q2, .int (Int32.ofInt (0)), .int (Int32.ofInt (0)), .int (Int32.ofInt (c))])), (q2, .inl (D.2.2.2, n2, .inl f2))]) := by
  show st_R D ([], X.2) 3 1 2002 mtJ5_ensureCapacityInternal_d00df 0 [(0, .ref b), (1, .int (Int32.ofInt (m)))] [] _ 0 0 _
  refine st_aload_n 0 ktJ5_ensureCapacityInternal_d00df rfl rfl ?_
  refine st_get (ci := 1) (q0 := 0) (k := 0) (v := .ref q) ktJ5_ensureCapacityInternal_d00df rfl rfl rfl (by decide) (st_has (n := 5000) rfl rfl) rfl ?_
  refine st_alen (q0 := 1) ktJ5_ensureCapacityInternal_d00df rfl rfl ?_
  refine st_aload_n 0 ktJ5_ensureCapacityInternal_d00df rfl rfl ?_
  refine st_get (ci := 1) (q0 := 0) (k := 1) (v := .int (Int32.ofInt (0))) ktJ5_ensureCapacityInternal_d00df rfl rfl rfl (by decide) (st_has (n := 5001) rfl rfl) rfl ?_
  refine st_ishr0 ktJ5_ensureCapacityInternal_d00df rfl ?_
  refine st_istore_n (ls' := [(2, .int (Int32.ofInt ((n : Int)))), (0, .ref b), (1, .int (Int32.ofInt (m)))]) ktJ5_ensureCapacityInternal_d00df rfl (by decide) rfl ?_
  refine st_iload_n 2 ktJ5_ensureCapacityInternal_d00df rfl rfl ?_
  refine st_iload_n 0 ktJ5_ensureCapacityInternal_d00df rfl rfl ?_
  refine st_isub (z := (m - (n : Int))) (fz_w_id (by omega) (by omega)) ktJ5_ensureCapacityInternal_d00df rfl ?_
  refine st_if_le (tgt := 38) ⟨by omega, by omega⟩ ktJ5_ensureCapacityInternal_d00df rfl (by decide) (fun c1 => ?_) (fun c1 => ?_)
  · exact st_ret ktJ5_ensureCapacityInternal_d00df rfl rfl (by omega) (by omega) ⟨_, _, _, hf, ⟨⟨by omega, by omega⟩, by omega⟩, rfl, rfl⟩
  · refine st_aload_n 1 ktJ5_ensureCapacityInternal_d00df rfl rfl ?_
    refine st_aload_n 1 ktJ5_ensureCapacityInternal_d00df rfl rfl ?_
    refine st_get (ci := 1) (q0 := 0) (k := 0) (v := .ref q) ktJ5_ensureCapacityInternal_d00df rfl rfl rfl (by decide) (st_has (n := 5000) rfl rfl) rfl ?_
    refine st_aload_n 1 ktJ5_ensureCapacityInternal_d00df rfl rfl ?_
    refine st_iload_n 2 ktJ5_ensureCapacityInternal_d00df rfl rfl ?_
    refine st_callV (x := b) (Cn := "java/lang/StringBuilder") (X' := ([], X.2)) (d' := 2) (NC' := 0) (NS' := 0) (M' := mtJ5_newCapacity_0f7a4) (n := 1) (As := [.int (Int32.ofInt (m))]) (st := [.ref q, .ref b]) (wc := [(b, .inr (1, [.ref q, .int (Int32.ofInt (0)), .int (Int32.ofInt (0)), .int (Int32.ofInt (c))])), (q, .inl (D.2.2.2, n, .inl f))]) (wr := []) [0, 1] [] ktJ5_ensureCapacityInternal_d00df rfl ⟨(st_has (n := 5029) rfl rfl), (st_has (n := 5031) rfl rfl), (st_has (n := 1017) rfl rfl), Or.inr ⟨(st_has (n := 6056) rfl rfl), st_hasS 1 rfl⟩⟩ (st_has (n := 5032) rfl rfl) (by decide +kernel) (Or.inl ⟨0, 1, _, _, _, rfl, rfl⟩) rfl rfl (Nat.le_of_ble_eq_true rfl) (Nat.le_of_ble_eq_true rfl) (by decide) (by omega) (by omega) rfl rfl (by decide) (by decide) (by decide) ⟨rfl, fun q hq => by cases hq⟩ (tt_newCap D X b q (n) (c) (m) f (by omega)) (fun ws1 v hq => ?_)
    obtain ⟨⟨w2, hw2, rfl⟩, rfl⟩ := hq
    refine st_st (st' := [.int (Int32.ofInt (w2)), .ref q, .ref b]) rfl ?_
    refine st_ws (ws' := [(b, .inr (1, [.ref q, .int (Int32.ofInt (0)), .int (Int32.ofInt (0)), .int (Int32.ofInt (c))])), (q, .inl (D.2.2.2, n, .inl f))]) rfl ?_
    refine st_aload_n 1 ktJ5_ensureCapacityInternal_d00df rfl rfl ?_
    refine st_get (ci := 1) (q0 := 0) (k := 1) (v := .int (Int32.ofInt (0))) ktJ5_ensureCapacityInternal_d00df rfl rfl rfl (by decide) (st_has (n := 5001) rfl rfl) rfl ?_
    refine st_ishl0 ktJ5_ensureCapacityInternal_d00df rfl ?_
    refine st_callS (X' := ([], X.2)) (d' := 2) (NC' := 1) (NS' := 2002) (M' := mtJ7_copyOf_9075b) (n := 2) (As := [.ref q, .int (Int32.ofInt (w2))]) (st := [.ref b]) (wc := [(q, .inl (D.2.2.2, n, .inl f))]) (wr := [(b, .inr (1, [.ref q, .int (Int32.ofInt (0)), .int (Int32.ofInt (0)), .int (Int32.ofInt (c))]))]) [1] [0] ktJ5_ensureCapacityInternal_d00df rfl (st_has (n := 5042) rfl rfl) (st_has (n := 5044) rfl rfl) (st_has (n := 1013) rfl rfl) (st_has (n := 5043) rfl rfl) (by decide +kernel) rfl rfl (Nat.le_of_ble_eq_true rfl) (Nat.le_of_ble_eq_true rfl) (by decide) (by omega) (by omega) rfl rfl (by decide) (by decide) (by decide) ⟨rfl, fun q hq => by cases hq⟩ (tt_copyOf D X q (n) f (w2) hf (by omega)) (fun ws1 v hq => ?_)
    obtain ⟨q3, f4, hf4, rfl, rfl⟩ := hq
    refine st_st (st' := [.ref q3, .ref b]) rfl ?_
    refine st_ws (ws' := [(b, .inr (1, [.ref q, .int (Int32.ofInt (0)), .int (Int32.ofInt (0)), .int (Int32.ofInt (c))])), (q, .inl (D.2.2.2, n, .inl f)), (q3, .inl (D.2.2.2, (w2).toNat, .inl f4))]) rfl ?_
    refine st_put (ci := 1) (q0 := 0) (k := 0) (ty := tyJ4 0) ktJ5_ensureCapacityInternal_d00df rfl rfl rfl (by decide) (st_has (n := 5000) rfl rfl) (Or.inl rfl) (tyJ4_ok 0 (by decide)) rfl rfl (Nat.le_of_ble_eq_true rfl) ?_
    refine st_ws (ws' := [(b, .inr (1, [.ref q3, .int (Int32.ofInt (0)), .int (Int32.ofInt (0)), .int (Int32.ofInt (c))])), (q, .inl (D.2.2.2, n, .inl f)), (q3, .inl (D.2.2.2, (w2).toNat, .inl f4))]) rfl ?_
    refine st_sub (ws' := [(b, .inr (1, [.ref q3, .int (Int32.ofInt (0)), .int (Int32.ofInt (0)), .int (Int32.ofInt (c))])), (q3, .inl (D.2.2.2, (w2).toNat, .inl f4))]) [0, 2] rfl (by decide) ?_
    exact st_ret ktJ5_ensureCapacityInternal_d00df rfl rfl (by omega) (by omega) ⟨_, _, _, hf4, ⟨⟨by omega, by omega⟩, by omega⟩, rfl, rfl⟩
def mtJ5_inflateIfNeededFor_a7421 : fz_M := (yJ5_inflateIfNeededFor_a7421, prog_14_method_71_code, 2, none, [(0, .getstatic 18, 3, 0, 0, 0), (3, .ifCond .eq 18, 3, 0, 0, 0), (6, .aload_n 0, 1, 0, 0, 0), (7, .getfield 22, 3, 0, 0, 0), (10, .aload_n 1, 1, 0, 0, 0), (11, .invokevirtual 40, 3, 0, 0, 0), (14, .if_icmp .eq 7, 3, 0, 0, 0), (17, .aload_n 0, 1, 0, 0, 0), (18, .invokevirtual 195, 3, 0, 0, 0), (21, .return_, 1, 0, 0, 0)])
set_option maxRecDepth 100000 in
theorem ktJ5_inflateIfNeededFor_a7421 : fz_okK mtJ5_inflateIfNeededFor_a7421 = true := fz_okK_in (by decide +kernel)
set_option maxHeartbeats 4000000 in
set_option maxRecDepth 100000 in
theorem tt_infl (D : st_D) (X : st_Xt) (b q : Nat) (c : Int) (r u k : Nat) : st_R D ([(r, u, k)], X.2) 2 0 0 mtJ5_inflateIfNeededFor_a7421 0 (lv_args 0 [.ref b, .ref r]) [] [(b, .inr (1, [.ref q, .int (Int32.ofInt (0)), .int (Int32.ofInt (0)), .int (Int32.ofInt (c))]))] 0 0 (fun ws v => v = none ∧ ws = [(b, .inr (1, [.ref q, .int (Int32.ofInt (0)), .int (Int32.ofInt (0)), .int (Int32.ofInt (c))]))]) := by
  show st_R D ([(r, u, k)], X.2) 2 0 0 mtJ5_inflateIfNeededFor_a7421 0 [(0, .ref b), (1, .ref r)] [] _ 0 0 _
  refine st_compact (st_has (n := 4231) rfl rfl) ktJ5_inflateIfNeededFor_a7421 rfl ?_
  refine st_if_eq (tgt := 21) ⟨by omega, by omega⟩ ktJ5_inflateIfNeededFor_a7421 rfl (by decide) (fun c1 => False.elim (by omega)) (fun c1 => ?_)
  refine st_aload_n 0 ktJ5_inflateIfNeededFor_a7421 rfl rfl ?_
  refine st_get (ci := 1) (q0 := 0) (k := 1) (v := .int (Int32.ofInt (0))) ktJ5_inflateIfNeededFor_a7421 rfl rfl rfl (by decide) (st_has (n := 5001) rfl rfl) rfl ?_
  refine st_aload_n 1 ktJ5_inflateIfNeededFor_a7421 rfl rfl ?_
  refine st_callV (x := r) (Cn := "java/lang/String") (X' := ([(r, u, k)], X.2)) (d' := 1) (NC' := 0) (NS' := 0) (M' := mtJ0_coder_7d493) (n := 0) (As := []) (st := [.int (Int32.ofInt (0))]) (wc := []) (wr := [(b, .inr (1, [.ref q, .int (Int32.ofInt (0)), .int (Int32.ofInt (0)), .int (Int32.ofInt (c))]))]) [] [0] ktJ5_inflateIfNeededFor_a7421 rfl ⟨(st_has (n := 5102) rfl rfl), (st_has (n := 5090) rfl rfl), (st_has (n := 1019) rfl rfl), Or.inl ⟨rfl, (st_has (n := 5091) rfl rfl)⟩⟩ (st_has (n := 5092) rfl rfl) (by decide +kernel) (Or.inr ⟨rfl, u, k, by simp⟩) rfl rfl (Nat.le_of_ble_eq_true rfl) (Nat.le_of_ble_eq_true rfl) (by decide) (by omega) (by omega) rfl rfl (by decide) (by decide) (by decide) ⟨rfl, fun q hq => (by simp only [List.mem_cons, List.not_mem_nil, or_false] at hq; subst hq; exact Or.inl (by simp))⟩ (tt_strCoder D X r u (k)) (fun ws1 v hq => ?_)
  obtain ⟨rfl, rfl⟩ := hq
  refine st_st (st' := [.int (Int32.ofInt (0)), .int (Int32.ofInt (0))]) rfl ?_
  refine st_ws (ws' := [(b, .inr (1, [.ref q, .int (Int32.ofInt (0)), .int (Int32.ofInt (0)), .int (Int32.ofInt (c))]))]) rfl ?_
  refine st_icmp_eq (tgt := 21) ⟨by omega, by omega⟩ ⟨by omega, by omega⟩ ktJ5_inflateIfNeededFor_a7421 rfl (by decide) (fun c2 => ?_) (fun c2 => False.elim (by omega))
  exact st_ret ktJ5_inflateIfNeededFor_a7421 rfl rfl (by omega) (by omega) ⟨rfl, rfl⟩
def mtJ0_getBytes_840e7 : fz_M := (yJ0_getBytes_840e7, prog_19_method_147_code, 4, none, [(0, .aload_n 0, 1, 0, 0, 0), (1, .invokevirtual 335, 3, 0, 0, 0), (4, .iload_n 3, 1, 0, 0, 0), (5, .if_icmp .ne 23, 3, 0, 0, 0), (8, .aload_n 0, 1, 0, 0, 0), (9, .getfield 9, 3, 0, 0, 0), (12, .iconst 0, 1, 0, 0, 0), (13, .aload_n 1, 1, 0, 0, 0), (14, .iload_n 2, 1, 0, 0, 0), (15, .iload_n 3, 1, 0, 0, 0), (16, .ishl, 1, 0, 0, 0), (17, .aload_n 0, 1, 0, 0, 0), (18, .getfield 9, 3, 0, 0, 0), (21, .arraylength, 1, 0, 0, 0), (22, .invokestatic 212, 3, 0, 0, 0), (25, .goto 18, 3, 0, 0, 0), (28, .aload_n 0, 1, 0, 0, 0), (29, .getfield 9, 3, 0, 0, 0), (32, .iconst 0, 1, 0, 0, 0), (33, .aload_n 1, 1, 0, 0, 0), (34, .iload_n 2, 1, 0, 0, 0), (35, .aload_n 0, 1, 0, 0, 0), (36, .getfield 9, 3, 0, 0, 0), (39, .arraylength, 1, 0, 0, 0), (40, .invokestatic 106, 3, 0, 0, 0), (43, .return_, 1, 0, 0, 0)])
set_option maxRecDepth 100000 in
theorem ktJ0_getBytes_840e7 : fz_okK mtJ0_getBytes_840e7 = true := fz_okK_in (by decide +kernel)
set_option maxHeartbeats 4000000 in
set_option maxRecDepth 100000 in
theorem tt_getB (D : st_D) (X : st_Xt) (r u k q n : Nat) (i : Int) (f : Nat → Int32) (hf : sb_Fit f) (h : 0 ≤ i ∧ i + k ≤ n ∧ n ≤ 2002) : st_R D ([(r, u, k)], X.2) 2 0 0 mtJ0_getBytes_840e7 0 (lv_args 0 [.ref r, .ref q, .int (Int32.ofInt (i)), .int (Int32.ofInt (0))]) [] [(q, .inl (D.2.2.2, n, .inl f))] 0 0 (fun ws v => ∃ f2 : Nat → Int32, sb_Fit f2 ∧ v = none ∧ ws = [(q, .inl (D.2.2.2, n, .inl f2))]) := by
  show st_R D ([(r, u, k)], X.2) 2 0 0 mtJ0_getBytes_840e7 0 [(0, .ref r), (1, .ref q), (2, .int (Int32.ofInt (i))), (3, .int (Int32.ofInt (0)))] [] _ 0 0 _
  refine st_aload_n 0 ktJ0_getBytes_840e7 rfl rfl ?_
  refine st_callV (x := r) (Cn := "java/lang/String") (X' := ([(r, u, k)], X.2)) (d' := 1) (NC' := 0) (NS' := 0) (M' := mtJ0_coder_7d493) (n := 0) (As := []) (st := []) (wc := []) (wr := [(q, .inl (D.2.2.2, n, .inl f))]) [] [0] ktJ0_getBytes_840e7 rfl ⟨(st_has (n := 5089) rfl rfl), (st_has (n := 5090) rfl rfl), (st_has (n := 1019) rfl rfl), Or.inl ⟨rfl, (st_has (n := 5091) rfl rfl)⟩⟩ (st_has (n := 5092) rfl rfl) (by decide +kernel) (Or.inr ⟨rfl, u, k, by simp⟩) rfl rfl (Nat.le_of_ble_eq_true rfl) (Nat.le_of_ble_eq_true rfl) (by decide) (by omega) (by omega) rfl rfl (by decide) (by decide) (by decide) ⟨rfl, fun q hq => (by simp only [List.mem_cons, List.not_mem_nil, or_false] at hq; subst hq; exact Or.inl (by simp))⟩ (tt_strCoder D X r u (k)) (fun ws1 v hq => ?_)
  obtain ⟨rfl, rfl⟩ := hq
  refine st_st (st' := [.int (Int32.ofInt (0))]) rfl ?_
  refine st_ws (ws' := [(q, .inl (D.2.2.2, n, .inl f))]) rfl ?_
  refine st_iload_n 3 ktJ0_getBytes_840e7 rfl rfl ?_
  refine st_icmp_ne (tgt := 28) ⟨by omega, by omega⟩ ⟨by omega, by omega⟩ ktJ0_getBytes_840e7 rfl (by decide) (fun c1 => False.elim (by omega)) (fun c1 => ?_)
  refine st_aload_n 0 ktJ0_getBytes_840e7 rfl rfl ?_
  refine st_sval (q := u) (n := k) (by simp) (st_has (n := 5221) rfl rfl) ktJ0_getBytes_840e7 rfl ?_
  refine st_iconst ktJ0_getBytes_840e7 rfl ?_
  refine st_aload_n 1 ktJ0_getBytes_840e7 rfl rfl ?_
  refine st_iload_n 2 ktJ0_getBytes_840e7 rfl rfl ?_
  refine st_iload_n 3 ktJ0_getBytes_840e7 rfl rfl ?_
  refine st_ishl0 ktJ0_getBytes_840e7 rfl ?_
  refine st_aload_n 0 ktJ0_getBytes_840e7 rfl rfl ?_
  refine st_sval (q := u) (n := k) (by simp) (st_has (n := 5221) rfl rfl) ktJ0_getBytes_840e7 rfl ?_
  refine st_slen (r := r) (q := u) (n := k) (by simp) ktJ0_getBytes_840e7 rfl (fun h2 => ?_)
  refine st_acS (r := r) (n0 := k) (q1 := 0) ktJ0_getBytes_840e7 rfl (st_has (n := 5126) rfl rfl) (by simp) rfl hf (by omega) (by omega) (by omega) (by omega) (by omega) ⟨by omega, by omega, by omega⟩ (by decide) (Nat.le_of_ble_eq_true rfl) (fun f3 hf3 => ?_)
  refine st_ws (ws' := [(q, .inl (D.2.2.2, n, .inl f3))]) rfl ?_
  refine st_goto (tgt := 43) ktJ0_getBytes_840e7 rfl (by decide) ?_
  exact st_ret ktJ0_getBytes_840e7 rfl rfl (by omega) (by omega) ⟨_, hf3, rfl, rfl⟩
def mtJ5_putStringAt_47b60 : fz_M := (yJ5_putStringAt_47b60, prog_14_method_73_code, 3, none, [(0, .aload_n 0, 1, 0, 0, 0), (1, .aload_n 2, 1, 0, 0, 0), (2, .invokevirtual 397, 3, 0, 0, 0), (5, .aload_n 2, 1, 0, 0, 0), (6, .aload_n 0, 1, 0, 0, 0), (7, .getfield 15, 3, 0, 0, 0), (10, .iload_n 1, 1, 0, 0, 0), (11, .aload_n 0, 1, 0, 0, 0), (12, .getfield 22, 3, 0, 0, 0), (15, .invokevirtual 399, 3, 0, 0, 0), (18, .return_, 1, 0, 0, 0)])
set_option maxRecDepth 100000 in
theorem ktJ5_putStringAt_47b60 : fz_okK mtJ5_putStringAt_47b60 = true := fz_okK_in (by decide +kernel)
set_option maxHeartbeats 4000000 in
set_option maxRecDepth 100000 in
theorem tt_putS (D : st_D) (X : st_Xt) (b q n : Nat) (c i : Int) (r u k : Nat) (f : Nat → Int32) (hf : sb_Fit f) (h : 0 ≤ i ∧ i + k ≤ n ∧ n ≤ 2002) : st_R D ([(r, u, k)], X.2) 3 0 0 mtJ5_putStringAt_47b60 0 (lv_args 0 [.ref b, .int (Int32.ofInt (i)), .ref r]) [] [(b, .inr (1, [.ref q, .int (Int32.ofInt (0)), .int (Int32.ofInt (0)), .int (Int32.ofInt (c))])), (q, .inl (D.2.2.2, n, .inl f))] 0 0 (fun ws v => ∃ f2 : Nat → Int32, sb_Fit f2 ∧ v = none ∧ ws = [(b, .inr (1, [.ref q, .int (Int32.ofInt (0)), .int (Int32.ofInt (0)), .int (Int32.ofInt (c))])), (q, .inl (D.2.2.2, n, .inl f2))]) := by
  show st_R D ([(r, u, k)], X.2) 3 0 0 mtJ5_putStringAt_47b60 0 [(0, .ref b), (1, .int (Int32.ofInt (i))), (2, .ref r)] [] _ 0 0 _
  refine st_aload_n 0 ktJ5_putStringAt_47b60 rfl rfl ?_
  refine st_aload_n 2 ktJ5_putStringAt_47b60 rfl rfl ?_
  refine st_callV (x := b) (Cn := "java/lang/StringBuilder") (X' := ([(r, u, k)], X.2)) (d' := 2) (NC' := 0) (NS' := 0) (M' := mtJ5_inflateIfNeededFor_a7421) (n := 1) (As := [.ref r]) (st := []) (wc := [(b, .inr (1, [.ref q, .int (Int32.ofInt (0)), .int (Int32.ofInt (0)), .int (Int32.ofInt (c))]))]) (wr := [(q, .inl (D.2.2.2, n, .inl f))]) [0] [1] ktJ5_putStringAt_47b60 rfl ⟨(st_has (n := 5098) rfl rfl), (st_has (n := 5100) rfl rfl), (st_has (n := 1017) rfl rfl), Or.inr ⟨(st_has (n := 6058) rfl rfl), st_hasS 3 rfl⟩⟩ (st_has (n := 5101) rfl rfl) (by decide +kernel) (Or.inl ⟨0, 1, _, _, _, rfl, rfl⟩) rfl rfl (Nat.le_of_ble_eq_true rfl) (Nat.le_of_ble_eq_true rfl) (by decide) (by omega) (by omega) rfl rfl (by decide) (by decide) (by decide) ⟨rfl, fun q hq => (by simp only [List.mem_cons, List.not_mem_nil, or_false] at hq; subst hq; exact Or.inl (by simp))⟩ (tt_infl D X b q (c) r u (k)) (fun ws1 v hq => ?_)
  obtain ⟨rfl, rfl⟩ := hq
  refine st_st (st' := []) rfl ?_
  refine st_ws (ws' := [(q, .inl (D.2.2.2, n, .inl f)), (b, .inr (1, [.ref q, .int (Int32.ofInt (0)), .int (Int32.ofInt (0)), .int (Int32.ofInt (c))]))]) rfl ?_
  refine st_aload_n 2 ktJ5_putStringAt_47b60 rfl rfl ?_
  refine st_aload_n 0 ktJ5_putStringAt_47b60 rfl rfl ?_
  refine st_get (ci := 1) (q0 := 1) (k := 0) (v := .ref q) ktJ5_putStringAt_47b60 rfl rfl rfl (by decide) (st_has (n := 5000) rfl rfl) rfl ?_
  refine st_iload_n 1 ktJ5_putStringAt_47b60 rfl rfl ?_
  refine st_aload_n 0 ktJ5_putStringAt_47b60 rfl rfl ?_
  refine st_get (ci := 1) (q0 := 1) (k := 1) (v := .int (Int32.ofInt (0))) ktJ5_putStringAt_47b60 rfl rfl rfl (by decide) (st_has (n := 5001) rfl rfl) rfl ?_
  refine st_callV (x := r) (Cn := "java/lang/String") (X' := ([(r, u, k)], X.2)) (d' := 2) (NC' := 0) (NS' := 0) (M' := mtJ0_getBytes_840e7) (n := 3) (As := [.ref q, .int (Int32.ofInt (i)), .int (Int32.ofInt (0))]) (st := []) (wc := [(q, .inl (D.2.2.2, n, .inl f))]) (wr := [(b, .inr (1, [.ref q, .int (Int32.ofInt (0)), .int (Int32.ofInt (0)), .int (Int32.ofInt (c))]))]) [0] [1] ktJ5_putStringAt_47b60 rfl ⟨(st_has (n := 5122) rfl rfl), (st_has (n := 5123) rfl rfl), (st_has (n := 1019) rfl rfl), Or.inl ⟨rfl, (st_has (n := 5124) rfl rfl)⟩⟩ (st_has (n := 5125) rfl rfl) (by decide +kernel) (Or.inr ⟨rfl, u, k, by simp⟩) rfl rfl (Nat.le_of_ble_eq_true rfl) (Nat.le_of_ble_eq_true rfl) (by decide) (by omega) (by omega) rfl rfl (by decide) (by decide) (by decide) ⟨rfl, fun q hq => (by simp only [List.mem_cons, List.not_mem_nil, or_false] at hq; subst hq; exact Or.inl (by simp))⟩ (tt_getB D X r u (k) q (n) (i) f hf (by omega)) (fun ws1 v hq => ?_)
  obtain ⟨f1, hf1, rfl, rfl⟩ := hq
  refine st_st (st' := []) rfl ?_
  refine st_ws (ws' := [(b, .inr (1, [.ref q, .int (Int32.ofInt (0)), .int (Int32.ofInt (0)), .int (Int32.ofInt (c))])), (q, .inl (D.2.2.2, n, .inl f1))]) rfl ?_
  exact st_ret ktJ5_putStringAt_47b60 rfl rfl (by omega) (by omega) ⟨_, hf1, rfl, rfl⟩
def mtJ5_append_cf1ce : fz_M := (yJ5_append_cf1ce, prog_14_method_22_code, 3, (some (.object "java/lang/AbstractStringBuilder")), [(0, .aload_n 1, 1, 0, 0, 0), (1, .ifnonnull 8, 3, 0, 0, 0), (4, .aload_n 0, 1, 0, 0, 0), (5, .invokevirtual 204, 3, 0, 0, 0), (8, .areturn, 1, 0, 0, 0), (9, .aload_n 1, 1, 0, 0, 0), (10, .invokevirtual 32, 3, 0, 0, 0), (13, .istore_n 2, 1, 0, 0, 0), (14, .aload_n 0, 1, 0, 0, 0), (15, .aload_n 0, 1, 0, 0, 0), (16, .getfield 79, 3, 0, 0, 0), (19, .iload_n 2, 1, 0, 0, 0), (20, .iadd, 1, 0, 0, 0), (21, .invokevirtual 100, 3, 0, 0, 0), (24, .aload_n 0, 1, 0, 0, 0), (25, .aload_n 0, 1, 0, 0, 0), (26, .getfield 79, 3, 0, 0, 0), (29, .aload_n 1, 1, 0, 0, 0), (30, .invokevirtual 208, 3, 0, 0, 0), (33, .aload_n 0, 1, 0, 0, 0), (34, .dup, 1, 0, 0, 0), (35, .getfield 79, 3, 0, 0, 0), (38, .iload_n 2, 1, 0, 0, 0), (39, .iadd, 1, 0, 0, 0), (40, .putfield 79, 3, 0, 0, 0), (43, .aload_n 0, 1, 0, 0, 0), (44, .areturn, 1, 0, 0, 0)])
set_option maxRecDepth 100000 in
theorem ktJ5_append_cf1ce : fz_okK mtJ5_append_cf1ce = true := fz_okK_in (by decide +kernel)
set_option maxHeartbeats 4000000 in
set_option maxRecDepth 100000 in
theorem tt_app4S (D : st_D) (X : st_Xt) (b q n : Nat) (c : Int) (r u k : Nat) (f : Nat → Int32) (hk : k ≤ 1000) (hf : sb_Fit f) (h : 0 ≤ c ∧ c ≤ n ∧ n ≤ 2002 ∧ c + k ≤ 1000) : st_R D ([(r, u, k)], X.2) 4 1 2002 mtJ5_append_cf1ce 0 (lv_args 0 [.ref b, .ref r]) [] [(b, .inr (1, [.ref q, .int (Int32.ofInt (0)), .int (Int32.ofInt (0)), .int (Int32.ofInt (c))])), (q, .inl (D.2.2.2, n, .inl f))] 0 0 (fun ws v => ∃ (q2 n2 : Nat) (f2 : Nat → Int32), sb_Fit f2 ∧ ((c + (k : Int)) ≤ n2 ∧ n2 ≤ 2002) ∧ v = some (.ref b) ∧ ws = [(b, .inr (1, [.ref q2, .int (Int32.ofInt (0)), .int (Int32.ofInt (0)), .int (Int32.ofInt ((c + (k : Int))))])), (q2, .inl (D.2.2.2, n2, .inl f2))]) := by
  show st_R D ([(r, u, k)], X.2) 4 1 2002 mtJ5_append_cf1ce 0 [(0, .ref b), (1, .ref r)] [] _ 0 0 _
  refine st_aload_n 1 ktJ5_append_cf1ce rfl rfl ?_
  refine st_ifnonnull (tgt := 9) ktJ5_append_cf1ce rfl (by decide) ?_
  refine st_aload_n 1 ktJ5_append_cf1ce rfl rfl ?_
  refine st_callV (x := r) (Cn := "java/lang/String") (X' := ([(r, u, k)], X.2)) (d' := 2) (NC' := 0) (NS' := 0) (M' := mtJ0_length_8abf5) (n := 0) (As := []) (st := []) (wc := []) (wr := [(b, .inr (1, [.ref q, .int (Int32.ofInt (0)), .int (Int32.ofInt (0)), .int (Int32.ofInt (c))])), (q, .inl (D.2.2.2, n, .inl f))]) [] [0, 1] ktJ5_append_cf1ce rfl ⟨(st_has (n := 5085) rfl rfl), (st_has (n := 5086) rfl rfl), (st_has (n := 1019) rfl rfl), Or.inl ⟨rfl, (st_has (n := 5087) rfl rfl)⟩⟩ (st_has (n := 5088) rfl rfl) (by decide +kernel) (Or.inr ⟨rfl, u, k, by simp⟩) rfl rfl (Nat.le_of_ble_eq_true rfl) (Nat.le_of_ble_eq_true rfl) (by decide) (by omega) (by omega) rfl rfl (by decide) (by decide) (by decide) ⟨rfl, fun q hq => (by simp only [List.mem_cons, List.not_mem_nil, or_false] at hq; subst hq; exact Or.inl (by simp))⟩ (tt_strLen D X r u (k)) (fun ws1 v hq => ?_)
  obtain ⟨rfl, rfl⟩ := hq
  refine st_st (st' := [.int (Int32.ofInt ((k : Int)))]) rfl ?_
  refine st_ws (ws' := [(b, .inr (1, [.ref q, .int (Int32.ofInt (0)), .int (Int32.ofInt (0)), .int (Int32.ofInt (c))])), (q, .inl (D.2.2.2, n, .inl f))]) rfl ?_
  refine st_istore_n (ls' := [(2, .int (Int32.ofInt ((k : Int)))), (0, .ref b), (1, .ref r)]) ktJ5_append_cf1ce rfl (by decide) rfl ?_
  refine st_aload_n 1 ktJ5_append_cf1ce rfl rfl ?_
  refine st_aload_n 1 ktJ5_append_cf1ce rfl rfl ?_
  refine st_get (ci := 1) (q0 := 0) (k := 3) (v := .int (Int32.ofInt (c))) ktJ5_append_cf1ce rfl rfl rfl (by decide) (st_has (n := 5003) rfl rfl) rfl ?_
  refine st_iload_n 0 ktJ5_append_cf1ce rfl rfl ?_
  refine st_iadd (z := (c + (k : Int))) (fz_w_id (by omega) (by omega)) ktJ5_append_cf1ce rfl ?_
  refine st_callV (x := b) (Cn := "java/lang/StringBuilder") (X' := ([], X.2)) (d' := 3) (NC' := 1) (NS' := 2002) (M' := mtJ5_ensureCapacityInternal_d00df) (n := 1) (As := [.int (Int32.ofInt ((c + (k : Int))))]) (st := []) (wc := [(b, .inr (1, [.ref q, .int (Int32.ofInt (0)), .int (Int32.ofInt (0)), .int (Int32.ofInt (c))])), (q, .inl (D.2.2.2, n, .inl f))]) (wr := []) [0, 1] [] ktJ5_append_cf1ce rfl ⟨(st_has (n := 5025) rfl rfl), (st_has (n := 5027) rfl rfl), (st_has (n := 1017) rfl rfl), Or.inr ⟨(st_has (n := 6055) rfl rfl), st_hasS 0 rfl⟩⟩ (st_has (n := 5028) rfl rfl) (by decide +kernel) (Or.inl ⟨0, 1, _, _, _, rfl, rfl⟩) rfl rfl (Nat.le_of_ble_eq_true rfl) (Nat.le_of_ble_eq_true rfl) (by decide) (by omega) (by omega) rfl rfl (by decide) (by decide) (by decide) ⟨rfl, fun q hq => by cases hq⟩ (tt_ensure D X b q (n) (c) ((c + (k : Int))) f hf (by omega)) (fun ws1 v hq => ?_)
  obtain ⟨q1, n2, f3, hf3, hn2, rfl, rfl⟩ := hq
  refine st_st (st' := []) rfl ?_
  refine st_ws (ws' := [(b, .inr (1, [.ref q1, .int (Int32.ofInt (0)), .int (Int32.ofInt (0)), .int (Int32.ofInt (c))])), (q1, .inl (D.2.2.2, n2, .inl f3))]) rfl ?_
  refine st_aload_n 1 ktJ5_append_cf1ce rfl rfl ?_
  refine st_aload_n 1 ktJ5_append_cf1ce rfl rfl ?_
  refine st_get (ci := 1) (q0 := 0) (k := 3) (v := .int (Int32.ofInt (c))) ktJ5_append_cf1ce rfl rfl rfl (by decide) (st_has (n := 5003) rfl rfl) rfl ?_
  refine st_aload_n 2 ktJ5_append_cf1ce rfl rfl ?_
  refine st_callV (x := b) (Cn := "java/lang/StringBuilder") (X' := ([(r, u, k)], X.2)) (d' := 3) (NC' := 0) (NS' := 0) (M' := mtJ5_putStringAt_47b60) (n := 2) (As := [.int (Int32.ofInt (c)), .ref r]) (st := []) (wc := [(b, .inr (1, [.ref q1, .int (Int32.ofInt (0)), .int (Int32.ofInt (0)), .int (Int32.ofInt (c))])), (q1, .inl (D.2.2.2, n2, .inl f3))]) (wr := []) [0, 1] [] ktJ5_append_cf1ce rfl ⟨(st_has (n := 5094) rfl rfl), (st_has (n := 5096) rfl rfl), (st_has (n := 1017) rfl rfl), Or.inr ⟨(st_has (n := 6057) rfl rfl), st_hasS 2 rfl⟩⟩ (st_has (n := 5097) rfl rfl) (by decide +kernel) (Or.inl ⟨0, 1, _, _, _, rfl, rfl⟩) rfl rfl (Nat.le_of_ble_eq_true rfl) (Nat.le_of_ble_eq_true rfl) (by decide) (by omega) (by omega) rfl rfl (by decide) (by decide) (by decide) ⟨rfl, fun q hq => (by simp only [List.mem_cons, List.not_mem_nil, or_false] at hq; subst hq; exact Or.inl (by simp))⟩ (tt_putS D X b q1 (n2) (c) (c) r u (k) f3 hf3 (by omega)) (fun ws1 v hq => ?_)
  obtain ⟨f4, hf4, rfl, rfl⟩ := hq
  refine st_st (st' := []) rfl ?_
  refine st_ws (ws' := [(b, .inr (1, [.ref q1, .int (Int32.ofInt (0)), .int (Int32.ofInt (0)), .int (Int32.ofInt (c))])), (q1, .inl (D.2.2.2, n2, .inl f4))]) rfl ?_
  refine st_aload_n 1 ktJ5_append_cf1ce rfl rfl ?_
  refine st_dup rfl ktJ5_append_cf1ce rfl ?_
  refine st_get (ci := 1) (q0 := 0) (k := 3) (v := .int (Int32.ofInt (c))) ktJ5_append_cf1ce rfl rfl rfl (by decide) (st_has (n := 5003) rfl rfl) rfl ?_
  refine st_iload_n 0 ktJ5_append_cf1ce rfl rfl ?_
  refine st_iadd (z := (c + (k : Int))) (fz_w_id (by omega) (by omega)) ktJ5_append_cf1ce rfl ?_
  refine st_put (ci := 1) (q0 := 0) (k := 3) (ty := tyJ4 3) ktJ5_append_cf1ce rfl rfl rfl (by decide) (st_has (n := 5003) rfl rfl) (Or.inl rfl) (tyJ4_ok 3 (by decide)) rfl rfl (Nat.le_of_ble_eq_true rfl) ?_
  refine st_ws (ws' := [(b, .inr (1, [.ref q1, .int (Int32.ofInt (0)), .int (Int32.ofInt (0)), .int (Int32.ofInt ((c + (k : Int))))])), (q1, .inl (D.2.2.2, n2, .inl f4))]) rfl ?_
  refine st_aload_n 1 ktJ5_append_cf1ce rfl rfl ?_
  exact st_areturn (ty := (.object "java/lang/AbstractStringBuilder")) ktJ5_append_cf1ce rfl rfl (Or.inl ⟨_, rfl⟩) (by omega) (by omega) ⟨_, _, _, hf4, ⟨by omega, by omega⟩, rfl, rfl⟩
def mtJ4_append_15ec4 : fz_M := (yJ4_append_15ec4, prog_20_method_7_code, 2, (some (.object "java/lang/StringBuilder")), [(0, .aload_n 0, 1, 0, 0, 0), (1, .aload_n 1, 1, 0, 0, 0), (2, .invokespecial 29, 3, 0, 0, 0), (5, .pop, 1, 0, 0, 0), (6, .aload_n 0, 1, 0, 0, 0), (7, .areturn, 1, 0, 0, 0)])
set_option maxRecDepth 100000 in
theorem ktJ4_append_15ec4 : fz_okK mtJ4_append_15ec4 = true := fz_okK_in (by decide +kernel)
set_option maxHeartbeats 4000000 in
set_option maxRecDepth 100000 in
theorem tt_app5S (D : st_D) (X : st_Xt) (b q n : Nat) (c : Int) (r u k : Nat) (f : Nat → Int32) (hk : k ≤ 1000) (hf : sb_Fit f) (h : 0 ≤ c ∧ c ≤ n ∧ n ≤ 2002 ∧ c + k ≤ 1000) : st_R D ([(r, u, k)], X.2) 5 1 2002 mtJ4_append_15ec4 0 (lv_args 0 [.ref b, .ref r]) [] [(b, .inr (1, [.ref q, .int (Int32.ofInt (0)), .int (Int32.ofInt (0)), .int (Int32.ofInt (c))])), (q, .inl (D.2.2.2, n, .inl f))] 0 0 (fun ws v => ∃ (q2 n2 : Nat) (f2 : Nat → Int32), sb_Fit f2 ∧ ((c + (k : Int)) ≤ n2 ∧ n2 ≤ 2002) ∧ v = some (.ref b) ∧ ws = [(b, .inr (1, [.ref q2, .int (Int32.ofInt (0)), .int (Int32.ofInt (0)), .int (Int32.ofInt ((c + (k : Int))))])), (q2, .inl (D.2.2.2, n2, .inl f2))]) := by
  show st_R D ([(r, u, k)], X.2) 5 1 2002 mtJ4_append_15ec4 0 [(0, .ref b), (1, .ref r)] [] _ 0 0 _
  refine st_aload_n 0 ktJ4_append_15ec4 rfl rfl ?_
  refine st_aload_n 1 ktJ4_append_15ec4 rfl rfl ?_
  refine st_callSU (x := b) (ci := 1) (q0 := 0) (X' := ([(r, u, k)], X.2)) (d' := 4) (NC' := 1) (NS' := 2002) (M' := mtJ5_append_cf1ce) (n := 1) (As := [.ref r]) (st := []) (wc := [(b, .inr (1, [.ref q, .int (Int32.ofInt (0)), .int (Int32.ofInt (0)), .int (Int32.ofInt (c))])), (q, .inl (D.2.2.2, n, .inl f))]) (wr := []) [0, 1] [] ktJ4_append_15ec4 rfl (st_has (n := 5018) rfl rfl) (st_has (n := 6053) rfl rfl) (st_has (n := 5012) rfl rfl) (st_has (n := 5019) rfl rfl) (st_has (n := 1017) rfl rfl) (st_has (n := 5020) rfl rfl) (by decide +kernel) (by decide) rfl rfl rfl rfl (Nat.le_of_ble_eq_true rfl) (Nat.le_of_ble_eq_true rfl) (by decide) (by omega) (by omega) rfl rfl (by decide) (by decide) (by decide) ⟨rfl, fun q hq => (by simp only [List.mem_cons, List.not_mem_nil, or_false] at hq; subst hq; exact Or.inl (by simp))⟩ (tt_app4S D X b q (n) (c) r u (k) f (by omega) hf (by omega)) (fun ws1 v hq => ?_)
  obtain ⟨q1, n2, f3, hf3, hn2, rfl, rfl⟩ := hq
  refine st_st (st' := [.ref b]) rfl ?_
  refine st_ws (ws' := [(b, .inr (1, [.ref q1, .int (Int32.ofInt (0)), .int (Int32.ofInt (0)), .int (Int32.ofInt ((c + (k : Int))))])), (q1, .inl (D.2.2.2, n2, .inl f3))]) rfl ?_
  refine st_pop rfl ktJ4_append_15ec4 rfl ?_
  refine st_aload_n 0 ktJ4_append_15ec4 rfl rfl ?_
  exact st_areturn (ty := (.object "java/lang/StringBuilder")) ktJ4_append_15ec4 rfl rfl (Or.inl ⟨_, rfl⟩) (by omega) (by omega) ⟨_, _, _, hf3, ⟨by omega, by omega⟩, rfl, rfl⟩
def mtJ1_canEncode_fc78d : fz_M := (yJ1_canEncode_fc78d, prog_21_method_3_code, 1, (some .boolean), [(0, .iload_n 0, 1, 0, 0, 0), (1, .sipush 255, 3, 0, 0, 0), (4, .if_icmp .gt 7, 3, 0, 0, 0), (7, .iconst 1, 1, 0, 0, 0), (8, .goto 4, 3, 0, 0, 0), (11, .iconst 0, 1, 0, 0, 0), (12, .ireturn, 1, 0, 0, 0)])
set_option maxRecDepth 100000 in
theorem ktJ1_canEncode_fc78d : fz_okK mtJ1_canEncode_fc78d = true := fz_okK_in (by decide +kernel)
set_option maxHeartbeats 4000000 in
set_option maxRecDepth 100000 in
theorem tt_can (D : st_D) (X : st_Xt) (x : Int) (h : 0 ≤ x ∧ x ≤ 255) : st_R D ([], X.2) 1 0 0 mtJ1_canEncode_fc78d 0 (lv_args 0 [.int (Int32.ofInt (x))]) [] [] 0 0 (fun ws v => v = some (.int (Int32.ofInt (1))) ∧ ws = []) := by
  show st_R D ([], X.2) 1 0 0 mtJ1_canEncode_fc78d 0 [(0, .int (Int32.ofInt (x)))] [] _ 0 0 _
  refine st_iload_n 0 ktJ1_canEncode_fc78d rfl rfl ?_
  refine st_sipush ⟨by decide, by decide⟩ ktJ1_canEncode_fc78d rfl ?_
  refine st_icmp_gt (tgt := 11) ⟨by omega, by omega⟩ ⟨by omega, by omega⟩ ktJ1_canEncode_fc78d rfl (by decide) (fun c1 => False.elim (by omega)) (fun c1 => ?_)
  refine st_iconst ktJ1_canEncode_fc78d rfl ?_
  refine st_goto (tgt := 12) ktJ1_canEncode_fc78d rfl (by decide) ?_
  exact st_ireturn (ty := .boolean) ktJ1_canEncode_fc78d rfl rfl (st_nr_boolean (by omega)) (by omega) (by omega) ⟨rfl, rfl⟩
def mtJ5_append_3fe6f : fz_M := (yJ5_append_3fe6f, prog_14_method_31_code, 2, (some (.object "java/lang/AbstractStringBuilder")), [(0, .aload_n 0, 1, 0, 0, 0), (1, .aload_n 0, 1, 0, 0, 0), (2, .getfield 79, 3, 0, 0, 0), (5, .iconst 1, 1, 0, 0, 0), (6, .iadd, 1, 0, 0, 0), (7, .invokevirtual 100, 3, 0, 0, 0), (10, .aload_n 0, 1, 0, 0, 0), (11, .invokevirtual 83, 3, 0, 0, 0), (14, .ifCond .eq 31, 3, 0, 0, 0), (17, .iload_n 1, 1, 0, 0, 0), (18, .invokestatic 191, 3, 0, 0, 0), (21, .ifCond .eq 24, 3, 0, 0, 0), (24, .aload_n 0, 1, 0, 0, 0), (25, .getfield 15, 3, 0, 0, 0), (28, .aload_n 0, 1, 0, 0, 0), (29, .dup, 1, 0, 0, 0), (30, .getfield 79, 3, 0, 0, 0), (33, .dup_x1, 1, 0, 0, 0), (34, .iconst 1, 1, 0, 0, 0), (35, .iadd, 1, 0, 0, 0), (36, .putfield 79, 3, 0, 0, 0), (39, .iload_n 1, 1, 0, 0, 0), (40, .i2b, 1, 0, 0, 0), (41, .bastore, 1, 0, 0, 0), (42, .goto 33, 3, 0, 0, 0), (45, .aload_n 0, 1, 0, 0, 0), (46, .invokevirtual 83, 3, 0, 0, 0), (49, .ifCond .eq 7, 3, 0, 0, 0), (52, .aload_n 0, 1, 0, 0, 0), (53, .invokevirtual 195, 3, 0, 0, 0), (56, .aload_n 0, 1, 0, 0, 0), (57, .getfield 15, 3, 0, 0, 0), (60, .aload_n 0, 1, 0, 0, 0), (61, .dup, 1, 0, 0, 0), (62, .getfield 79, 3, 0, 0, 0), (65, .dup_x1, 1, 0, 0, 0), (66, .iconst 1, 1, 0, 0, 0), (67, .iadd, 1, 0, 0, 0), (68, .putfield 79, 3, 0, 0, 0), (71, .iload_n 1, 1, 0, 0, 0), (72, .invokestatic 197, 3, 0, 0, 0), (75, .aload_n 0, 1, 0, 0, 0), (76, .areturn, 1, 0, 0, 0)])
set_option maxRecDepth 100000 in
theorem ktJ5_append_3fe6f : fz_okK mtJ5_append_3fe6f = true := fz_okK_in (by decide +kernel)
set_option maxHeartbeats 4000000 in
set_option maxRecDepth 100000 in
theorem tt_app4C (D : st_D) (X : st_Xt) (b q n : Nat) (c x : Int) (f : Nat → Int32) (hx : 0 ≤ x ∧ x ≤ 255) (hf : sb_Fit f) (h : 0 ≤ c ∧ c ≤ n ∧ n ≤ 2002 ∧ c + 1 ≤ 1000) : st_R D ([], X.2) 4 1 2002 mtJ5_append_3fe6f 0 (lv_args 0 [.ref b, .int (Int32.ofInt (x))]) [] [(b, .inr (1, [.ref q, .int (Int32.ofInt (0)), .int (Int32.ofInt (0)), .int (Int32.ofInt (c))])), (q, .inl (D.2.2.2, n, .inl f))] 0 0 (fun ws v => ∃ (q2 n2 : Nat) (f2 : Nat → Int32), sb_Fit f2 ∧ ((c + 1) ≤ n2 ∧ n2 ≤ 2002) ∧ v = some (.ref b) ∧ ws = [(b, .inr (1, [.ref q2, .int (Int32.ofInt (0)), .int (Int32.ofInt (0)), .int (Int32.ofInt ((c + 1)))])), (q2, .inl (D.2.2.2, n2, .inl f2))]) := by
  show st_R D ([], X.2) 4 1 2002 mtJ5_append_3fe6f 0 [(0, .ref b), (1, .int (Int32.ofInt (x)))] [] _ 0 0 _
  refine st_aload_n 0 ktJ5_append_3fe6f rfl rfl ?_
  refine st_aload_n 0 ktJ5_append_3fe6f rfl rfl ?_
  refine st_get (ci := 1) (q0 := 0) (k := 3) (v := .int (Int32.ofInt (c))) ktJ5_append_3fe6f rfl rfl rfl (by decide) (st_has (n := 5003) rfl rfl) rfl ?_
  refine st_iconst ktJ5_append_3fe6f rfl ?_
  refine st_iadd (z := (c + 1)) (fz_w_id (by omega) (by omega)) ktJ5_append_3fe6f rfl ?_
  refine st_callV (x := b) (Cn := "java/lang/StringBuilder") (X' := ([], X.2)) (d' := 3) (NC' := 1) (NS' := 2002) (M' := mtJ5_ensureCapacityInternal_d00df) (n := 1) (As := [.int (Int32.ofInt ((c + 1)))]) (st := []) (wc := [(b, .inr (1, [.ref q, .int (Int32.ofInt (0)), .int (Int32.ofInt (0)), .int (Int32.ofInt (c))])), (q, .inl (D.2.2.2, n, .inl f))]) (wr := []) [0, 1] [] ktJ5_append_3fe6f rfl ⟨(st_has (n := 5025) rfl rfl), (st_has (n := 5027) rfl rfl), (st_has (n := 1017) rfl rfl), Or.inr ⟨(st_has (n := 6055) rfl rfl), st_hasS 0 rfl⟩⟩ (st_has (n := 5028) rfl rfl) (by decide +kernel) (Or.inl ⟨0, 1, _, _, _, rfl, rfl⟩) rfl rfl (Nat.le_of_ble_eq_true rfl) (Nat.le_of_ble_eq_true rfl) (by decide) (by omega) (by omega) rfl rfl (by decide) (by decide) (by decide) ⟨rfl, fun q hq => by cases hq⟩ (tt_ensure D X b q (n) (c) ((c + 1)) f hf (by omega)) (fun ws1 v hq => ?_)
  obtain ⟨q1, n2, f3, hf3, hn2, rfl, rfl⟩ := hq
  refine st_st (st' := []) rfl ?_
  refine st_ws (ws' := [(b, .inr (1, [.ref q1, .int (Int32.ofInt (0)), .int (Int32.ofInt (0)), .int (Int32.ofInt (c))])), (q1, .inl (D.2.2.2, n2, .inl f3))]) rfl ?_
  refine st_aload_n 0 ktJ5_append_3fe6f rfl rfl ?_
  refine st_callV (x := b) (Cn := "java/lang/StringBuilder") (X' := ([], X.2)) (d' := 1) (NC' := 0) (NS' := 0) (M' := mtJ5_isLatin1_aae02) (n := 0) (As := []) (st := []) (wc := [(b, .inr (1, [.ref q1, .int (Int32.ofInt (0)), .int (Int32.ofInt (0)), .int (Int32.ofInt (c))]))]) (wr := [(q1, .inl (D.2.2.2, n2, .inl f3))]) [0] [1] ktJ5_append_3fe6f rfl ⟨(st_has (n := 5054) rfl rfl), (st_has (n := 5055) rfl rfl), (st_has (n := 1017) rfl rfl), Or.inr ⟨(st_has (n := 5056) rfl rfl), (st_has (n := 5057) rfl rfl)⟩⟩ (st_has (n := 5058) rfl rfl) (by decide +kernel) (Or.inl ⟨0, 1, _, _, _, rfl, rfl⟩) rfl rfl (Nat.le_of_ble_eq_true rfl) (Nat.le_of_ble_eq_true rfl) (by decide) (by omega) (by omega) rfl rfl (by decide) (by decide) (by decide) ⟨rfl, fun q hq => by cases hq⟩ (tt_asbLatin D X b q1 (c)) (fun ws1 v hq => ?_)
  obtain ⟨rfl, rfl⟩ := hq
  refine st_st (st' := [.int (Int32.ofInt (1))]) rfl ?_
  refine st_ws (ws' := [(q1, .inl (D.2.2.2, n2, .inl f3)), (b, .inr (1, [.ref q1, .int (Int32.ofInt (0)), .int (Int32.ofInt (0)), .int (Int32.ofInt (c))]))]) rfl ?_
  refine st_if_eq (tgt := 45) ⟨by omega, by omega⟩ ktJ5_append_3fe6f rfl (by decide) (fun c4 => False.elim (by omega)) (fun c4 => ?_)
  refine st_iload_n 1 ktJ5_append_3fe6f rfl rfl ?_
  refine st_callS (X' := ([], X.2)) (d' := 1) (NC' := 0) (NS' := 0) (M' := mtJ1_canEncode_fc78d) (n := 1) (As := [.int (Int32.ofInt (x))]) (st := []) (wc := []) (wr := [(q1, .inl (D.2.2.2, n2, .inl f3)), (b, .inr (1, [.ref q1, .int (Int32.ofInt (0)), .int (Int32.ofInt (0)), .int (Int32.ofInt (c))]))]) [] [0, 1] ktJ5_append_3fe6f rfl (st_has (n := 5169) rfl rfl) (st_has (n := 5171) rfl rfl) (st_has (n := 1023) rfl rfl) (st_has (n := 5170) rfl rfl) (by decide +kernel) rfl rfl (Nat.le_of_ble_eq_true rfl) (Nat.le_of_ble_eq_true rfl) (by decide) (by omega) (by omega) rfl rfl (by decide) (by decide) (by decide) ⟨rfl, fun q hq => by cases hq⟩ (tt_can D X (x) (by omega)) (fun ws1 v hq => ?_)
  obtain ⟨rfl, rfl⟩ := hq
  refine st_st (st' := [.int (Int32.ofInt (1))]) rfl ?_
  refine st_ws (ws' := [(q1, .inl (D.2.2.2, n2, .inl f3)), (b, .inr (1, [.ref q1, .int (Int32.ofInt (0)), .int (Int32.ofInt (0)), .int (Int32.ofInt (c))]))]) rfl ?_
  refine st_if_eq (tgt := 45) ⟨by omega, by omega⟩ ktJ5_append_3fe6f rfl (by decide) (fun c5 => False.elim (by omega)) (fun c5 => ?_)
  refine st_aload_n 0 ktJ5_append_3fe6f rfl rfl ?_
  refine st_get (ci := 1) (q0 := 1) (k := 0) (v := .ref q1) ktJ5_append_3fe6f rfl rfl rfl (by decide) (st_has (n := 5000) rfl rfl) rfl ?_
  refine st_aload_n 0 ktJ5_append_3fe6f rfl rfl ?_
  refine st_dup rfl ktJ5_append_3fe6f rfl ?_
  refine st_get (ci := 1) (q0 := 1) (k := 3) (v := .int (Int32.ofInt (c))) ktJ5_append_3fe6f rfl rfl rfl (by decide) (st_has (n := 5003) rfl rfl) rfl ?_
  refine st_dup_x1 rfl rfl ktJ5_append_3fe6f rfl ?_
  refine st_iconst ktJ5_append_3fe6f rfl ?_
  refine st_iadd (z := (c + 1)) (fz_w_id (by omega) (by omega)) ktJ5_append_3fe6f rfl ?_
  refine st_put (ci := 1) (q0 := 1) (k := 3) (ty := tyJ4 3) ktJ5_append_3fe6f rfl rfl rfl (by decide) (st_has (n := 5003) rfl rfl) (Or.inl rfl) (tyJ4_ok 3 (by decide)) rfl rfl (Nat.le_of_ble_eq_true rfl) ?_
  refine st_ws (ws' := [(q1, .inl (D.2.2.2, n2, .inl f3)), (b, .inr (1, [.ref q1, .int (Int32.ofInt (0)), .int (Int32.ofInt (0)), .int (Int32.ofInt ((c + 1)))]))]) rfl ?_
  refine st_iload_n 1 ktJ5_append_3fe6f rfl rfl ?_
  refine st_i2b ktJ5_append_3fe6f rfl ?_
  refine st_bast (q0 := 0) ktJ5_append_3fe6f rfl rfl (by omega) (by omega) hf3 (fun f6 hf6 => ?_)
  refine st_ws (ws' := [(q1, .inl (D.2.2.2, n2, .inl f6)), (b, .inr (1, [.ref q1, .int (Int32.ofInt (0)), .int (Int32.ofInt (0)), .int (Int32.ofInt ((c + 1)))]))]) rfl ?_
  refine st_goto (tgt := 75) ktJ5_append_3fe6f rfl (by decide) ?_
  refine st_aload_n 0 ktJ5_append_3fe6f rfl rfl ?_
  refine st_sub (ws' := [(b, .inr (1, [.ref q1, .int (Int32.ofInt (0)), .int (Int32.ofInt (0)), .int (Int32.ofInt ((c + 1)))])), (q1, .inl (D.2.2.2, n2, .inl f6))]) [1, 0] rfl (by decide) ?_
  exact st_areturn (ty := (.object "java/lang/AbstractStringBuilder")) ktJ5_append_3fe6f rfl rfl (Or.inl ⟨_, rfl⟩) (by omega) (by omega) ⟨_, _, _, hf6, ⟨by omega, by omega⟩, rfl, rfl⟩
def mtJ4_append_cf468 : fz_M := (yJ4_append_cf468, prog_20_method_14_code, 2, (some (.object "java/lang/StringBuilder")), [(0, .aload_n 0, 1, 0, 0, 0), (1, .iload_n 1, 1, 0, 0, 0), (2, .invokespecial 50, 3, 0, 0, 0), (5, .pop, 1, 0, 0, 0), (6, .aload_n 0, 1, 0, 0, 0), (7, .areturn, 1, 0, 0, 0)])
set_option maxRecDepth 100000 in
theorem ktJ4_append_cf468 : fz_okK mtJ4_append_cf468 = true := fz_okK_in (by decide +kernel)
set_option maxHeartbeats 4000000 in
set_option maxRecDepth 100000 in
theorem tt_app5C (D : st_D) (X : st_Xt) (b q n : Nat) (c x : Int) (f : Nat → Int32) (hx : 0 ≤ x ∧ x ≤ 255) (hf : sb_Fit f) (h : 0 ≤ c ∧ c ≤ n ∧ n ≤ 2002 ∧ c + 1 ≤ 1000) : st_R D ([], X.2) 5 1 2002 mtJ4_append_cf468 0 (lv_args 0 [.ref b, .int (Int32.ofInt (x))]) [] [(b, .inr (1, [.ref q, .int (Int32.ofInt (0)), .int (Int32.ofInt (0)), .int (Int32.ofInt (c))])), (q, .inl (D.2.2.2, n, .inl f))] 0 0 (fun ws v => ∃ (q2 n2 : Nat) (f2 : Nat → Int32), sb_Fit f2 ∧ ((c + 1) ≤ n2 ∧ n2 ≤ 2002) ∧ v = some (.ref b) ∧ ws = [(b, .inr (1, [.ref q2, .int (Int32.ofInt (0)), .int (Int32.ofInt (0)), .int (Int32.ofInt ((c + 1)))])), (q2, .inl (D.2.2.2, n2, .inl f2))]) := by
  show st_R D ([], X.2) 5 1 2002 mtJ4_append_cf468 0 [(0, .ref b), (1, .int (Int32.ofInt (x)))] [] _ 0 0 _
  refine st_aload_n 0 ktJ4_append_cf468 rfl rfl ?_
  refine st_iload_n 1 ktJ4_append_cf468 rfl rfl ?_
  refine st_callSU (x := b) (ci := 1) (q0 := 0) (X' := ([], X.2)) (d' := 4) (NC' := 1) (NS' := 2002) (M' := mtJ5_append_3fe6f) (n := 1) (As := [.int (Int32.ofInt (x))]) (st := []) (wc := [(b, .inr (1, [.ref q, .int (Int32.ofInt (0)), .int (Int32.ofInt (0)), .int (Int32.ofInt (c))])), (q, .inl (D.2.2.2, n, .inl f))]) (wr := []) [0, 1] [] ktJ4_append_cf468 rfl (st_has (n := 5166) rfl rfl) (st_has (n := 6060) rfl rfl) (st_has (n := 5012) rfl rfl) (st_has (n := 5167) rfl rfl) (st_has (n := 1017) rfl rfl) (st_has (n := 5168) rfl rfl) (by decide +kernel) (by decide) rfl rfl rfl rfl (Nat.le_of_ble_eq_true rfl) (Nat.le_of_ble_eq_true rfl) (by decide) (by omega) (by omega) rfl rfl (by decide) (by decide) (by decide) ⟨rfl, fun q hq => by cases hq⟩ (tt_app4C D X b q (n) (c) (x) f (by omega) hf (by omega)) (fun ws1 v hq => ?_)
  obtain ⟨q1, n2, f3, hf3, hn2, rfl, rfl⟩ := hq
  refine st_st (st' := [.ref b]) rfl ?_
  refine st_ws (ws' := [(b, .inr (1, [.ref q1, .int (Int32.ofInt (0)), .int (Int32.ofInt (0)), .int (Int32.ofInt ((c + 1)))])), (q1, .inl (D.2.2.2, n2, .inl f3))]) rfl ?_
  refine st_pop rfl ktJ4_append_cf468 rfl ?_
  refine st_aload_n 0 ktJ4_append_cf468 rfl rfl ?_
  exact st_areturn (ty := (.object "java/lang/StringBuilder")) ktJ4_append_cf468 rfl rfl (Or.inl ⟨_, rfl⟩) (by omega) (by omega) ⟨_, _, _, hf3, ⟨by omega, by omega⟩, rfl, rfl⟩
def mtJ6_stringSize_0f7a4 : fz_M := (yJ6_stringSize_0f7a4, prog_16_method_13_code, 4, (some .int), [(0, .iconst 1, 1, 0, 0, 0), (1, .istore_n 1, 1, 0, 0, 0), (2, .iload_n 0, 1, 0, 0, 0), (3, .ifCond .lt 8, 3, 0, 0, 0), (6, .iconst 0, 1, 0, 0, 0), (7, .istore_n 1, 1, 0, 0, 0), (8, .iload_n 0, 1, 0, 0, 0), (9, .ineg, 1, 0, 0, 0), (10, .istore_n 0, 1, 0, 0, 0), (11, .bipush (-10), 2, 0, 0, 0), (13, .istore_n 2, 1, 0, 0, 0), (14, .iconst 1, 1, 0, 0, 0), (15, .istore_n 3, 1, 0, 0, 0), (16, .iload_n 3, 1, 0, 0, 0), (17, .bipush 10, 2, 0, 0, 0), (19, .if_icmp .ge 23, 3, 0, 0, 0), (22, .iload_n 0, 1, 0, 0, 0), (23, .iload_n 2, 1, 0, 0, 0), (24, .if_icmp .le 7, 3, 0, 0, 0), (27, .iload_n 3, 1, 0, 0, 0), (28, .iload_n 1, 1, 0, 0, 0), (29, .iadd, 1, 0, 0, 0), (30, .ireturn, 1, 0, 0, 0), (31, .bipush 10, 2, 0, 0, 0), (33, .iload_n 2, 1, 0, 0, 0), (34, .imul, 1, 0, 0, 0), (35, .istore_n 2, 1, 0, 0, 0), (36, .iinc 3 1, 3, 0, 0, 0), (39, .goto (-23), 3, 0, 0, 0), (42, .bipush 10, 2, 0, 0, 0), (44, .iload_n 1, 1, 0, 0, 0), (45, .iadd, 1, 0, 0, 0), (46, .ireturn, 1, 0, 0, 0)])
set_option maxRecDepth 100000 in
theorem ktJ6_stringSize_0f7a4 : fz_okK mtJ6_stringSize_0f7a4 = true := fz_okK_in (by decide +kernel)
set_option maxHeartbeats 4000000 in
set_option maxRecDepth 100000 in
theorem tt_size (D : st_D) (X : st_Xt) (x : Int) (h : 0 ≤ x ∧ x < 30) : st_R D ([], X.2) 1 0 0 mtJ6_stringSize_0f7a4 0 (lv_args 0 [.int (Int32.ofInt (x))]) [] [] 0 0 (fun ws v => ∃ z : Int, (1 ≤ z ∧ z ≤ 2 ∧ (10 ≤ x → z = 2)) ∧ v = some (.int (Int32.ofInt (z))) ∧ ws = []) := by
  show st_R D ([], X.2) 1 0 0 mtJ6_stringSize_0f7a4 0 [(0, .int (Int32.ofInt (x)))] [] _ 0 0 _
  refine st_iconst ktJ6_stringSize_0f7a4 rfl ?_
  refine st_istore_n (ls' := [(1, .int (Int32.ofInt (1))), (0, .int (Int32.ofInt (x)))]) ktJ6_stringSize_0f7a4 rfl (by decide) rfl ?_
  refine st_iload_n 1 ktJ6_stringSize_0f7a4 rfl rfl ?_
  refine st_if_lt (tgt := 11) ⟨by omega, by omega⟩ ktJ6_stringSize_0f7a4 rfl (by decide) (fun c1 => False.elim (by omega)) (fun c1 => ?_)
  refine st_iconst ktJ6_stringSize_0f7a4 rfl ?_
  refine st_istore_n (ls' := [(1, .int (Int32.ofInt (0))), (0, .int (Int32.ofInt (x)))]) ktJ6_stringSize_0f7a4 rfl (by decide) rfl ?_
  refine st_iload_n 1 ktJ6_stringSize_0f7a4 rfl rfl ?_
  refine st_ineg (z := (- x)) (fz_w_id (by omega) (by omega)) ktJ6_stringSize_0f7a4 rfl ?_
  refine st_istore_n (ls' := [(0, .int (Int32.ofInt ((- x)))), (1, .int (Int32.ofInt (0)))]) ktJ6_stringSize_0f7a4 rfl (by decide) rfl ?_
  refine st_bipush ⟨by decide, by decide⟩ ktJ6_stringSize_0f7a4 rfl ?_
  refine st_istore_n (ls' := [(2, .int (Int32.ofInt ((-10)))), (0, .int (Int32.ofInt ((- x)))), (1, .int (Int32.ofInt (0)))]) ktJ6_stringSize_0f7a4 rfl (by decide) rfl ?_
  refine st_iconst ktJ6_stringSize_0f7a4 rfl ?_
  refine st_istore_n (ls' := [(3, .int (Int32.ofInt (1))), (2, .int (Int32.ofInt ((-10)))), (0, .int (Int32.ofInt ((- x)))), (1, .int (Int32.ofInt (0)))]) ktJ6_stringSize_0f7a4 rfl (by decide) rfl ?_
  refine st_iload_n 0 ktJ6_stringSize_0f7a4 rfl rfl ?_
  refine st_bipush ⟨by decide, by decide⟩ ktJ6_stringSize_0f7a4 rfl ?_
  refine st_icmp_ge (tgt := 42) ⟨by omega, by omega⟩ ⟨by omega, by omega⟩ ktJ6_stringSize_0f7a4 rfl (by decide) (fun c2 => False.elim (by omega)) (fun c2 => ?_)
  refine st_iload_n 2 ktJ6_stringSize_0f7a4 rfl rfl ?_
  refine st_iload_n 1 ktJ6_stringSize_0f7a4 rfl rfl ?_
  refine st_icmp_le (tgt := 31) ⟨by omega, by omega⟩ ⟨by omega, by omega⟩ ktJ6_stringSize_0f7a4 rfl (by decide) (fun c3 => ?_) (fun c3 => ?_)
  · refine st_bipush ⟨by decide, by decide⟩ ktJ6_stringSize_0f7a4 rfl ?_
    refine st_iload_n 1 ktJ6_stringSize_0f7a4 rfl rfl ?_
    refine st_imul (z := (10 * (-10))) (fz_w_id (by omega) (by omega)) ktJ6_stringSize_0f7a4 rfl ?_
    refine st_istore_n (ls' := [(2, .int (Int32.ofInt ((10 * (-10))))), (3, .int (Int32.ofInt (1))), (0, .int (Int32.ofInt ((- x)))), (1, .int (Int32.ofInt (0)))]) ktJ6_stringSize_0f7a4 rfl (by decide) rfl ?_
    refine st_iinc (k := 1) (z := (1 + 1)) (ls' := [(3, .int (Int32.ofInt ((1 + 1)))), (2, .int (Int32.ofInt ((10 * (-10))))), (0, .int (Int32.ofInt ((- x)))), (1, .int (Int32.ofInt (0)))]) (fz_w_id (by omega) (by omega)) ktJ6_stringSize_0f7a4 rfl rfl (by decide) rfl ?_
    refine st_goto (tgt := 16) ktJ6_stringSize_0f7a4 rfl (by decide) ?_
    refine st_iload_n 0 ktJ6_stringSize_0f7a4 rfl rfl ?_
    refine st_bipush ⟨by decide, by decide⟩ ktJ6_stringSize_0f7a4 rfl ?_
    refine st_icmp_ge (tgt := 42) ⟨by omega, by omega⟩ ⟨by omega, by omega⟩ ktJ6_stringSize_0f7a4 rfl (by decide) (fun c4 => False.elim (by omega)) (fun c4 => ?_)
    refine st_iload_n 2 ktJ6_stringSize_0f7a4 rfl rfl ?_
    refine st_iload_n 1 ktJ6_stringSize_0f7a4 rfl rfl ?_
    refine st_icmp_le (tgt := 31) ⟨by omega, by omega⟩ ⟨by omega, by omega⟩ ktJ6_stringSize_0f7a4 rfl (by decide) (fun c5 => False.elim (by omega)) (fun c5 => ?_)
    refine st_iload_n 0 ktJ6_stringSize_0f7a4 rfl rfl ?_
    refine st_iload_n 3 ktJ6_stringSize_0f7a4 rfl rfl ?_
    refine st_iadd (z := ((1 + 1) + 0)) (fz_w_id (by omega) (by omega)) ktJ6_stringSize_0f7a4 rfl ?_
    exact st_ireturn (ty := .int) ktJ6_stringSize_0f7a4 rfl rfl rfl (by omega) (by omega) ⟨_, ⟨by omega, by omega, fun _ => by omega⟩, rfl, rfl⟩
  · refine st_iload_n 0 ktJ6_stringSize_0f7a4 rfl rfl ?_
    refine st_iload_n 3 ktJ6_stringSize_0f7a4 rfl rfl ?_
    refine st_iadd (z := (1 + 0)) (fz_w_id (by omega) (by omega)) ktJ6_stringSize_0f7a4 rfl ?_
    exact st_ireturn (ty := .int) ktJ6_stringSize_0f7a4 rfl rfl rfl (by omega) (by omega) ⟨_, ⟨by omega, by omega, fun _ => by omega⟩, rfl, rfl⟩
def mtJ6_getChars_ba4f3 : fz_M := (yJ6_getChars_ba4f3, prog_16_method_12_code, 7, (some .int), [(0, .iload_n 1, 1, 0, 0, 0), (1, .istore 5, 2, 0, 0, 0), (3, .iload_n 0, 1, 0, 0, 0), (4, .ifCond .ge 7, 3, 0, 0, 0), (7, .iconst 1, 1, 0, 0, 0), (8, .goto 4, 3, 0, 0, 0), (11, .iconst 0, 1, 0, 0, 0), (12, .istore 6, 2, 0, 0, 0), (14, .iload 6, 2, 0, 0, 0), (16, .ifCond .ne 6, 3, 0, 0, 0), (19, .iload_n 0, 1, 0, 0, 0), (20, .ineg, 1, 0, 0, 0), (21, .istore_n 0, 1, 0, 0, 0), (22, .iload_n 0, 1, 0, 0, 0), (23, .bipush (-100), 2, 0, 0, 0), (25, .if_icmp .gt 47, 3, 0, 0, 0), (28, .iload_n 0, 1, 0, 0, 0), (29, .bipush 100, 2, 0, 0, 0), (31, .idiv, 1, 0, 0, 0), (32, .istore_n 3, 1, 0, 0, 0), (33, .iload_n 3, 1, 0, 0, 0), (34, .bipush 100, 2, 0, 0, 0), (36, .imul, 1, 0, 0, 0), (37, .iload_n 0, 1, 0, 0, 0), (38, .isub, 1, 0, 0, 0), (39, .istore 4, 2, 0, 0, 0), (41, .iload_n 3, 1, 0, 0, 0), (42, .istore_n 0, 1, 0, 0, 0), (43, .aload_n 2, 1, 0, 0, 0), (44, .iinc 5 (-1), 3, 0, 0, 0), (47, .iload 5, 2, 0, 0, 0), (49, .getstatic 83, 3, 0, 0, 0), (52, .iload 4, 2, 0, 0, 0), (54, .baload, 1, 0, 0, 0), (55, .bastore, 1, 0, 0, 0), (56, .aload_n 2, 1, 0, 0, 0), (57, .iinc 5 (-1), 3, 0, 0, 0), (60, .iload 5, 2, 0, 0, 0), (62, .getstatic 87, 3, 0, 0, 0), (65, .iload 4, 2, 0, 0, 0), (67, .baload, 1, 0, 0, 0), (68, .bastore, 1, 0, 0, 0), (69, .goto (-47), 3, 0, 0, 0), (72, .aload_n 2, 1, 0, 0, 0), (73, .iinc 5 (-1), 3, 0, 0, 0), (76, .iload 5, 2, 0, 0, 0), (78, .getstatic 83, 3, 0, 0, 0), (81, .iload_n 0, 1, 0, 0, 0), (82, .ineg, 1, 0, 0, 0), (83, .baload, 1, 0, 0, 0), (84, .bastore, 1, 0, 0, 0), (85, .iload_n 0, 1, 0, 0, 0), (86, .bipush (-9), 2, 0, 0, 0), (88, .if_icmp .ge 16, 3, 0, 0, 0), (91, .aload_n 2, 1, 0, 0, 0), (92, .iinc 5 (-1), 3, 0, 0, 0), (95, .iload 5, 2, 0, 0, 0), (97, .getstatic 87, 3, 0, 0, 0), (100, .iload_n 0, 1, 0, 0, 0), (101, .ineg, 1, 0, 0, 0), (102, .baload, 1, 0, 0, 0), (103, .bastore, 1, 0, 0, 0), (104, .iload 6, 2, 0, 0, 0), (106, .ifCond .eq 12, 3, 0, 0, 0), (109, .aload_n 2, 1, 0, 0, 0), (110, .iinc 5 (-1), 3, 0, 0, 0), (113, .iload 5, 2, 0, 0, 0), (115, .bipush 45, 2, 0, 0, 0), (117, .bastore, 1, 0, 0, 0), (118, .iload 5, 2, 0, 0, 0), (120, .ireturn, 1, 0, 0, 0)])
set_option maxRecDepth 100000 in
theorem ktJ6_getChars_ba4f3 : fz_okK mtJ6_getChars_ba4f3 = true := fz_okK_in (by decide +kernel)
set_option maxHeartbeats 4000000 in
set_option maxRecDepth 100000 in
theorem tt_gc (D : st_D) (X : st_Xt) (x i : Int) (q n : Nat) (f : Nat → Int32) (hf : sb_Fit f) (h : 0 ≤ x ∧ x < 30 ∧ 1 ≤ i ∧ (10 ≤ x → 2 ≤ i) ∧ i ≤ n ∧ n ≤ 2002) : st_R D ([], X.2) 1 0 0 mtJ6_getChars_ba4f3 0 (lv_args 0 [.int (Int32.ofInt (x)), .int (Int32.ofInt (i)), .ref q]) [] [(q, .inl (D.2.2.2, n, .inl f))] 0 0 (fun ws v => ∃ (z : Int) (f2 : Nat → Int32), sb_Fit f2 ∧ v = some (.int (Int32.ofInt (z))) ∧ ws = [(q, .inl (D.2.2.2, n, .inl f2))]) := by
  show st_R D ([], X.2) 1 0 0 mtJ6_getChars_ba4f3 0 [(0, .int (Int32.ofInt (x))), (1, .int (Int32.ofInt (i))), (2, .ref q)] [] _ 0 0 _
  refine st_iload_n 1 ktJ6_getChars_ba4f3 rfl rfl ?_
  refine st_istore (ls' := [(5, .int (Int32.ofInt (i))), (0, .int (Int32.ofInt (x))), (1, .int (Int32.ofInt (i))), (2, .ref q)]) ktJ6_getChars_ba4f3 rfl (by decide) rfl ?_
  refine st_iload_n 1 ktJ6_getChars_ba4f3 rfl rfl ?_
  refine st_if_ge (tgt := 11) ⟨by omega, by omega⟩ ktJ6_getChars_ba4f3 rfl (by decide) (fun c1 => ?_) (fun c1 => False.elim (by omega))
  refine st_iconst ktJ6_getChars_ba4f3 rfl ?_
  refine st_istore (ls' := [(6, .int (Int32.ofInt (0))), (5, .int (Int32.ofInt (i))), (0, .int (Int32.ofInt (x))), (1, .int (Int32.ofInt (i))), (2, .ref q)]) ktJ6_getChars_ba4f3 rfl (by decide) rfl ?_
  refine st_iload 0 ktJ6_getChars_ba4f3 rfl rfl ?_
  refine st_if_ne (tgt := 22) ⟨by omega, by omega⟩ ktJ6_getChars_ba4f3 rfl (by decide) (fun c2 => False.elim (by omega)) (fun c2 => ?_)
  refine st_iload_n 2 ktJ6_getChars_ba4f3 rfl rfl ?_
  refine st_ineg (z := (- x)) (fz_w_id (by omega) (by omega)) ktJ6_getChars_ba4f3 rfl ?_
  refine st_istore_n (ls' := [(0, .int (Int32.ofInt ((- x)))), (6, .int (Int32.ofInt (0))), (5, .int (Int32.ofInt (i))), (1, .int (Int32.ofInt (i))), (2, .ref q)]) ktJ6_getChars_ba4f3 rfl (by decide) rfl ?_
  refine st_iload_n 0 ktJ6_getChars_ba4f3 rfl rfl ?_
  refine st_bipush ⟨by decide, by decide⟩ ktJ6_getChars_ba4f3 rfl ?_
  refine st_icmp_gt (tgt := 72) ⟨by omega, by omega⟩ ⟨by omega, by omega⟩ ktJ6_getChars_ba4f3 rfl (by decide) (fun c3 => ?_) (fun c3 => False.elim (by omega))
  refine st_aload_n 4 ktJ6_getChars_ba4f3 rfl rfl ?_
  refine st_iinc (k := 2) (z := (i + (-1))) (ls' := [(5, .int (Int32.ofInt ((i + (-1))))), (0, .int (Int32.ofInt ((- x)))), (6, .int (Int32.ofInt (0))), (1, .int (Int32.ofInt (i))), (2, .ref q)]) (fz_w_id (by omega) (by omega)) ktJ6_getChars_ba4f3 rfl rfl (by decide) rfl ?_
  refine st_iload 0 ktJ6_getChars_ba4f3 rfl rfl ?_
  refine st_getY (n := "DigitOnes") (q := X.2.2.1.1) (Or.inl ⟨rfl, rfl⟩) (st_has (n := 6005) rfl rfl) ktJ6_getChars_ba4f3 rfl ?_
  refine st_iload_n 1 ktJ6_getChars_ba4f3 rfl rfl ?_
  refine st_ineg (z := (- (- x))) (fz_w_id (by omega) (by omega)) ktJ6_getChars_ba4f3 rfl ?_
  refine st_baldY (Or.inl rfl) (by omega) ktJ6_getChars_ba4f3 rfl (fun z4 fz4 => ?_)
  refine st_bast (q0 := 0) ktJ6_getChars_ba4f3 rfl rfl (by omega) (by omega) hf (fun f5 hf5 => ?_)
  refine st_ws (ws' := [(q, .inl (D.2.2.2, n, .inl f5))]) rfl ?_
  refine st_iload_n 1 ktJ6_getChars_ba4f3 rfl rfl ?_
  refine st_bipush ⟨by decide, by decide⟩ ktJ6_getChars_ba4f3 rfl ?_
  refine st_icmp_ge (tgt := 104) ⟨by omega, by omega⟩ ⟨by omega, by omega⟩ ktJ6_getChars_ba4f3 rfl (by decide) (fun c6 => ?_) (fun c6 => ?_)
  · refine st_iload 2 ktJ6_getChars_ba4f3 rfl rfl ?_
    refine st_if_eq (tgt := 118) ⟨by omega, by omega⟩ ktJ6_getChars_ba4f3 rfl (by decide) (fun c7 => ?_) (fun c7 => False.elim (by omega))
    refine st_iload 0 ktJ6_getChars_ba4f3 rfl rfl ?_
    exact st_ireturn (ty := .int) ktJ6_getChars_ba4f3 rfl rfl rfl (by omega) (by omega) ⟨_, _, hf5, rfl, rfl⟩
  · refine st_aload_n 4 ktJ6_getChars_ba4f3 rfl rfl ?_
    refine st_iinc (k := 0) (z := ((i + (-1)) + (-1))) (ls' := [(5, .int (Int32.ofInt (((i + (-1)) + (-1))))), (0, .int (Int32.ofInt ((- x)))), (6, .int (Int32.ofInt (0))), (1, .int (Int32.ofInt (i))), (2, .ref q)]) (fz_w_id (by omega) (by omega)) ktJ6_getChars_ba4f3 rfl rfl (by decide) rfl ?_
    refine st_iload 0 ktJ6_getChars_ba4f3 rfl rfl ?_
    refine st_getY (n := "DigitTens") (q := X.2.2.1.2) (Or.inr ⟨rfl, rfl⟩) (st_has (n := 6007) rfl rfl) ktJ6_getChars_ba4f3 rfl ?_
    refine st_iload_n 1 ktJ6_getChars_ba4f3 rfl rfl ?_
    refine st_ineg (z := (- (- x))) (fz_w_id (by omega) (by omega)) ktJ6_getChars_ba4f3 rfl ?_
    refine st_baldY (Or.inr rfl) (by omega) ktJ6_getChars_ba4f3 rfl (fun z8 fz8 => ?_)
    refine st_bast (q0 := 0) ktJ6_getChars_ba4f3 rfl rfl (by omega) (by omega) hf5 (fun f9 hf9 => ?_)
    refine st_ws (ws' := [(q, .inl (D.2.2.2, n, .inl f9))]) rfl ?_
    refine st_iload 2 ktJ6_getChars_ba4f3 rfl rfl ?_
    refine st_if_eq (tgt := 118) ⟨by omega, by omega⟩ ktJ6_getChars_ba4f3 rfl (by decide) (fun c10 => ?_) (fun c10 => False.elim (by omega))
    refine st_iload 0 ktJ6_getChars_ba4f3 rfl rfl ?_
    exact st_ireturn (ty := .int) ktJ6_getChars_ba4f3 rfl rfl rfl (by omega) (by omega) ⟨_, _, hf9, rfl, rfl⟩
def mtJ5_append_c97b9 : fz_M := (yJ5_append_c97b9, prog_14_method_32_code, 4, (some (.object "java/lang/AbstractStringBuilder")), [(0, .aload_n 0, 1, 0, 0, 0), (1, .getfield 79, 3, 0, 0, 0), (4, .istore_n 2, 1, 0, 0, 0), (5, .iload_n 2, 1, 0, 0, 0), (6, .iload_n 1, 1, 0, 0, 0), (7, .invokestatic 245, 3, 0, 0, 0), (10, .iadd, 1, 0, 0, 0), (11, .istore_n 3, 1, 0, 0, 0), (12, .aload_n 0, 1, 0, 0, 0), (13, .iload_n 3, 1, 0, 0, 0), (14, .invokevirtual 100, 3, 0, 0, 0), (17, .aload_n 0, 1, 0, 0, 0), (18, .invokevirtual 83, 3, 0, 0, 0), (21, .ifCond .eq 16, 3, 0, 0, 0), (24, .iload_n 1, 1, 0, 0, 0), (25, .iload_n 3, 1, 0, 0, 0), (26, .aload_n 0, 1, 0, 0, 0), (27, .getfield 15, 3, 0, 0, 0), (30, .invokestatic 248, 3, 0, 0, 0), (33, .pop, 1, 0, 0, 0), (34, .goto 14, 3, 0, 0, 0), (37, .iload_n 1, 1, 0, 0, 0), (38, .iload_n 2, 1, 0, 0, 0), (39, .iload_n 3, 1, 0, 0, 0), (40, .aload_n 0, 1, 0, 0, 0), (41, .getfield 15, 3, 0, 0, 0), (44, .invokestatic 251, 3, 0, 0, 0), (47, .pop, 1, 0, 0, 0), (48, .aload_n 0, 1, 0, 0, 0), (49, .iload_n 3, 1, 0, 0, 0), (50, .putfield 79, 3, 0, 0, 0), (53, .aload_n 0, 1, 0, 0, 0), (54, .areturn, 1, 0, 0, 0)])
set_option maxRecDepth 100000 in
theorem ktJ5_append_c97b9 : fz_okK mtJ5_append_c97b9 = true := fz_okK_in (by decide +kernel)
set_option maxHeartbeats 4000000 in
set_option maxRecDepth 100000 in
theorem tt_app4I (D : st_D) (X : st_Xt) (b q n : Nat) (c x : Int) (f : Nat → Int32) (hx : 0 ≤ x ∧ x < 30) (hf : sb_Fit f) (h : 0 ≤ c ∧ c ≤ n ∧ n ≤ 2002 ∧ c + 2 ≤ 1000) : st_R D ([], X.2) 4 1 2002 mtJ5_append_c97b9 0 (lv_args 0 [.ref b, .int (Int32.ofInt (x))]) [] [(b, .inr (1, [.ref q, .int (Int32.ofInt (0)), .int (Int32.ofInt (0)), .int (Int32.ofInt (c))])), (q, .inl (D.2.2.2, n, .inl f))] 0 0 (fun ws v => ∃ (q2 n2 : Nat) (c2 : Int) (f2 : Nat → Int32), sb_Fit f2 ∧ (c2 ≤ n2 ∧ n2 ≤ 2002 ∧ c ≤ c2 ∧ c2 ≤ c + 2) ∧ v = some (.ref b) ∧ ws = [(b, .inr (1, [.ref q2, .int (Int32.ofInt (0)), .int (Int32.ofInt (0)), .int (Int32.ofInt (c2))])), (q2, .inl (D.2.2.2, n2, .inl f2))]) := by
  show st_R D ([], X.2) 4 1 2002 mtJ5_append_c97b9 0 [(0, .ref b), (1, .int (Int32.ofInt (x)))] [] _ 0 0 _
  refine st_aload_n 0 ktJ5_append_c97b9 rfl rfl ?_
  refine st_get (ci := 1) (q0 := 0) (k := 3) (v := .int (Int32.ofInt (c))) ktJ5_append_c97b9 rfl rfl rfl (by decide) (st_has (n := 5003) rfl rfl) rfl ?_
  refine st_istore_n (ls' := [(2, .int (Int32.ofInt (c))), (0, .ref b), (1, .int (Int32.ofInt (x)))]) ktJ5_append_c97b9 rfl (by decide) rfl ?_
  refine st_iload_n 0 ktJ5_append_c97b9 rfl rfl ?_
  refine st_iload_n 2 ktJ5_append_c97b9 rfl rfl ?_
  refine st_callS (X' := ([], X.2)) (d' := 1) (NC' := 0) (NS' := 0) (M' := mtJ6_stringSize_0f7a4) (n := 1) (As := [.int (Int32.ofInt (x))]) (st := [.int (Int32.ofInt (c))]) (wc := []) (wr := [(b, .inr (1, [.ref q, .int (Int32.ofInt (0)), .int (Int32.ofInt (0)), .int (Int32.ofInt (c))])), (q, .inl (D.2.2.2, n, .inl f))]) [] [0, 1] ktJ5_append_c97b9 rfl (st_has (n := 5239) rfl rfl) (st_has (n := 6001) rfl rfl) (st_has (n := 1016) rfl rfl) (st_has (n := 6000) rfl rfl) (by decide +kernel) rfl rfl (Nat.le_of_ble_eq_true rfl) (Nat.le_of_ble_eq_true rfl) (by decide) (by omega) (by omega) rfl rfl (by decide) (by decide) (by decide) ⟨rfl, fun q hq => by cases hq⟩ (tt_size D X (x) (by omega)) (fun ws1 v hq => ?_)
  obtain ⟨z1, hz1, rfl, rfl⟩ := hq
  refine st_st (st' := [.int (Int32.ofInt (z1)), .int (Int32.ofInt (c))]) rfl ?_
  refine st_ws (ws' := [(b, .inr (1, [.ref q, .int (Int32.ofInt (0)), .int (Int32.ofInt (0)), .int (Int32.ofInt (c))])), (q, .inl (D.2.2.2, n, .inl f))]) rfl ?_
  refine st_iadd (z := (c + z1)) (fz_w_id (by omega) (by omega)) ktJ5_append_c97b9 rfl ?_
  refine st_istore_n (ls' := [(3, .int (Int32.ofInt ((c + z1)))), (2, .int (Int32.ofInt (c))), (0, .ref b), (1, .int (Int32.ofInt (x)))]) ktJ5_append_c97b9 rfl (by decide) rfl ?_
  refine st_aload_n 2 ktJ5_append_c97b9 rfl rfl ?_
  refine st_iload_n 0 ktJ5_append_c97b9 rfl rfl ?_
  refine st_callV (x := b) (Cn := "java/lang/StringBuilder") (X' := ([], X.2)) (d' := 3) (NC' := 1) (NS' := 2002) (M' := mtJ5_ensureCapacityInternal_d00df) (n := 1) (As := [.int (Int32.ofInt ((c + z1)))]) (st := []) (wc := [(b, .inr (1, [.ref q, .int (Int32.ofInt (0)), .int (Int32.ofInt (0)), .int (Int32.ofInt (c))])), (q, .inl (D.2.2.2, n, .inl f))]) (wr := []) [0, 1] [] ktJ5_append_c97b9 rfl ⟨(st_has (n := 5025) rfl rfl), (st_has (n := 5027) rfl rfl), (st_has (n := 1017) rfl rfl), Or.inr ⟨(st_has (n := 6055) rfl rfl), st_hasS 0 rfl⟩⟩ (st_has (n := 5028) rfl rfl) (by decide +kernel) (Or.inl ⟨0, 1, _, _, _, rfl, rfl⟩) rfl rfl (Nat.le_of_ble_eq_true rfl) (Nat.le_of_ble_eq_true rfl) (by decide) (by omega) (by omega) rfl rfl (by decide) (by decide) (by decide) ⟨rfl, fun q hq => by cases hq⟩ (tt_ensure D X b q (n) (c) ((c + z1)) f hf (by omega)) (fun ws1 v hq => ?_)
  obtain ⟨q2, n3, f4, hf4, hn3, rfl, rfl⟩ := hq
  refine st_st (st' := []) rfl ?_
  refine st_ws (ws' := [(b, .inr (1, [.ref q2, .int (Int32.ofInt (0)), .int (Int32.ofInt (0)), .int (Int32.ofInt (c))])), (q2, .inl (D.2.2.2, n3, .inl f4))]) rfl ?_
  refine st_aload_n 2 ktJ5_append_c97b9 rfl rfl ?_
  refine st_callV (x := b) (Cn := "java/lang/StringBuilder") (X' := ([], X.2)) (d' := 1) (NC' := 0) (NS' := 0) (M' := mtJ5_isLatin1_aae02) (n := 0) (As := []) (st := []) (wc := [(b, .inr (1, [.ref q2, .int (Int32.ofInt (0)), .int (Int32.ofInt (0)), .int (Int32.ofInt (c))]))]) (wr := [(q2, .inl (D.2.2.2, n3, .inl f4))]) [0] [1] ktJ5_append_c97b9 rfl ⟨(st_has (n := 5054) rfl rfl), (st_has (n := 5055) rfl rfl), (st_has (n := 1017) rfl rfl), Or.inr ⟨(st_has (n := 5056) rfl rfl), (st_has (n := 5057) rfl rfl)⟩⟩ (st_has (n := 5058) rfl rfl) (by decide +kernel) (Or.inl ⟨0, 1, _, _, _, rfl, rfl⟩) rfl rfl (Nat.le_of_ble_eq_true rfl) (Nat.le_of_ble_eq_true rfl) (by decide) (by omega) (by omega) rfl rfl (by decide) (by decide) (by decide) ⟨rfl, fun q hq => by cases hq⟩ (tt_asbLatin D X b q2 (c)) (fun ws1 v hq => ?_)
  obtain ⟨rfl, rfl⟩ := hq
  refine st_st (st' := [.int (Int32.ofInt (1))]) rfl ?_
  refine st_ws (ws' := [(q2, .inl (D.2.2.2, n3, .inl f4)), (b, .inr (1, [.ref q2, .int (Int32.ofInt (0)), .int (Int32.ofInt (0)), .int (Int32.ofInt (c))]))]) rfl ?_
  refine st_if_eq (tgt := 37) ⟨by omega, by omega⟩ ktJ5_append_c97b9 rfl (by decide) (fun c5 => False.elim (by omega)) (fun c5 => ?_)
  refine st_iload_n 3 ktJ5_append_c97b9 rfl rfl ?_
  refine st_iload_n 0 ktJ5_append_c97b9 rfl rfl ?_
  refine st_aload_n 2 ktJ5_append_c97b9 rfl rfl ?_
  refine st_get (ci := 1) (q0 := 1) (k := 0) (v := .ref q2) ktJ5_append_c97b9 rfl rfl rfl (by decide) (st_has (n := 5000) rfl rfl) rfl ?_
  refine st_callS (X' := ([], X.2)) (d' := 1) (NC' := 0) (NS' := 0) (M' := mtJ6_getChars_ba4f3) (n := 3) (As := [.int (Int32.ofInt (x)), .int (Int32.ofInt ((c + z1))), .ref q2]) (st := []) (wc := [(q2, .inl (D.2.2.2, n3, .inl f4))]) (wr := [(b, .inr (1, [.ref q2, .int (Int32.ofInt (0)), .int (Int32.ofInt (0)), .int (Int32.ofInt (c))]))]) [0] [1] ktJ5_append_c97b9 rfl (st_has (n := 6002) rfl rfl) (st_has (n := 6004) rfl rfl) (st_has (n := 1016) rfl rfl) (st_has (n := 6003) rfl rfl) (by decide +kernel) rfl rfl (Nat.le_of_ble_eq_true rfl) (Nat.le_of_ble_eq_true rfl) (by decide) (by omega) (by omega) rfl rfl (by decide) (by decide) (by decide) ⟨rfl, fun q hq => by cases hq⟩ (tt_gc D X (x) ((c + z1)) q2 (n3) f4 hf4 (by omega)) (fun ws1 v hq => ?_)
  obtain ⟨z6, f7, hf7, rfl, rfl⟩ := hq
  refine st_st (st' := [.int (Int32.ofInt (z6))]) rfl ?_
  refine st_ws (ws' := [(b, .inr (1, [.ref q2, .int (Int32.ofInt (0)), .int (Int32.ofInt (0)), .int (Int32.ofInt (c))])), (q2, .inl (D.2.2.2, n3, .inl f7))]) rfl ?_
  refine st_pop rfl ktJ5_append_c97b9 rfl ?_
  refine st_goto (tgt := 48) ktJ5_append_c97b9 rfl (by decide) ?_
  refine st_aload_n 2 ktJ5_append_c97b9 rfl rfl ?_
  refine st_iload_n 0 ktJ5_append_c97b9 rfl rfl ?_
  refine st_put (ci := 1) (q0 := 0) (k := 3) (ty := tyJ4 3) ktJ5_append_c97b9 rfl rfl rfl (by decide) (st_has (n := 5003) rfl rfl) (Or.inl rfl) (tyJ4_ok 3 (by decide)) rfl rfl (Nat.le_of_ble_eq_true rfl) ?_
  refine st_ws (ws' := [(b, .inr (1, [.ref q2, .int (Int32.ofInt (0)), .int (Int32.ofInt (0)), .int (Int32.ofInt ((c + z1)))])), (q2, .inl (D.2.2.2, n3, .inl f7))]) rfl ?_
  refine st_aload_n 2 ktJ5_append_c97b9 rfl rfl ?_
  exact st_areturn (ty := (.object "java/lang/AbstractStringBuilder")) ktJ5_append_c97b9 rfl rfl (Or.inl ⟨_, rfl⟩) (by omega) (by omega) ⟨_, _, _, _, hf7, ⟨by omega, by omega, by omega, by omega⟩, rfl, rfl⟩
def mtJ4_append_bf812 : fz_M := (yJ4_append_bf812, prog_20_method_15_code, 2, (some (.object "java/lang/StringBuilder")), [(0, .aload_n 0, 1, 0, 0, 0), (1, .iload_n 1, 1, 0, 0, 0), (2, .invokespecial 53, 3, 0, 0, 0), (5, .pop, 1, 0, 0, 0), (6, .aload_n 0, 1, 0, 0, 0), (7, .areturn, 1, 0, 0, 0)])
set_option maxRecDepth 100000 in
theorem ktJ4_append_bf812 : fz_okK mtJ4_append_bf812 = true := fz_okK_in (by decide +kernel)
set_option maxHeartbeats 4000000 in
set_option maxRecDepth 100000 in
theorem tt_app5I (D : st_D) (X : st_Xt) (b q n : Nat) (c x : Int) (f : Nat → Int32) (hx : 0 ≤ x ∧ x < 30) (hf : sb_Fit f) (h : 0 ≤ c ∧ c ≤ n ∧ n ≤ 2002 ∧ c + 2 ≤ 1000) : st_R D ([], X.2) 5 1 2002 mtJ4_append_bf812 0 (lv_args 0 [.ref b, .int (Int32.ofInt (x))]) [] [(b, .inr (1, [.ref q, .int (Int32.ofInt (0)), .int (Int32.ofInt (0)), .int (Int32.ofInt (c))])), (q, .inl (D.2.2.2, n, .inl f))] 0 0 (fun ws v => ∃ (q2 n2 : Nat) (c2 : Int) (f2 : Nat → Int32), sb_Fit f2 ∧ (c2 ≤ n2 ∧ n2 ≤ 2002 ∧ c ≤ c2 ∧ c2 ≤ c + 2) ∧ v = some (.ref b) ∧ ws = [(b, .inr (1, [.ref q2, .int (Int32.ofInt (0)), .int (Int32.ofInt (0)), .int (Int32.ofInt (c2))])), (q2, .inl (D.2.2.2, n2, .inl f2))]) := by
  show st_R D ([], X.2) 5 1 2002 mtJ4_append_bf812 0 [(0, .ref b), (1, .int (Int32.ofInt (x)))] [] _ 0 0 _
  refine st_aload_n 0 ktJ4_append_bf812 rfl rfl ?_
  refine st_iload_n 1 ktJ4_append_bf812 rfl rfl ?_
  refine st_callSU (x := b) (ci := 1) (q0 := 0) (X' := ([], X.2)) (d' := 4) (NC' := 1) (NS' := 2002) (M' := mtJ5_append_c97b9) (n := 1) (As := [.int (Int32.ofInt (x))]) (st := []) (wc := [(b, .inr (1, [.ref q, .int (Int32.ofInt (0)), .int (Int32.ofInt (0)), .int (Int32.ofInt (c))])), (q, .inl (D.2.2.2, n, .inl f))]) (wr := []) [0, 1] [] ktJ4_append_bf812 rfl (st_has (n := 5236) rfl rfl) (st_has (n := 6061) rfl rfl) (st_has (n := 5012) rfl rfl) (st_has (n := 5237) rfl rfl) (st_has (n := 1017) rfl rfl) (st_has (n := 5238) rfl rfl) (by decide +kernel) (by decide) rfl rfl rfl rfl (Nat.le_of_ble_eq_true rfl) (Nat.le_of_ble_eq_true rfl) (by decide) (by omega) (by omega) rfl rfl (by decide) (by decide) (by decide) ⟨rfl, fun q hq => by cases hq⟩ (tt_app4I D X b q (n) (c) (x) f (by omega) hf (by omega)) (fun ws1 v hq => ?_)
  obtain ⟨q1, n2, c4, f3, hf3, hn2, rfl, rfl⟩ := hq
  refine st_st (st' := [.ref b]) rfl ?_
  refine st_ws (ws' := [(b, .inr (1, [.ref q1, .int (Int32.ofInt (0)), .int (Int32.ofInt (0)), .int (Int32.ofInt (c4))])), (q1, .inl (D.2.2.2, n2, .inl f3))]) rfl ?_
  refine st_pop rfl ktJ4_append_bf812 rfl ?_
  refine st_aload_n 0 ktJ4_append_bf812 rfl rfl ?_
  exact st_areturn (ty := (.object "java/lang/StringBuilder")) ktJ4_append_bf812 rfl rfl (Or.inl ⟨_, rfl⟩) (by omega) (by omega) ⟨_, _, _, _, hf3, ⟨by omega, by omega, by omega, by omega⟩, rfl, rfl⟩
def mtJ5_getValue_6d5f1 : fz_M := (yJ5_getValue_6d5f1, prog_14_method_64_code, 1, (some (.array .byte)), [(0, .aload_n 0, 1, 0, 0, 0), (1, .getfield 15, 3, 0, 0, 0), (4, .areturn, 1, 0, 0, 0)])
set_option maxRecDepth 100000 in
theorem ktJ5_getValue_6d5f1 : fz_okK mtJ5_getValue_6d5f1 = true := fz_okK_in (by decide +kernel)
set_option maxHeartbeats 4000000 in
set_option maxRecDepth 100000 in
theorem tt_getV (D : st_D) (X : st_Xt) (b q : Nat) (c : Int) : st_R D ([], X.2) 1 0 0 mtJ5_getValue_6d5f1 0 (lv_args 0 [.ref b]) [] [(b, .inr (1, [.ref q, .int (Int32.ofInt (0)), .int (Int32.ofInt (0)), .int (Int32.ofInt (c))]))] 0 0 (fun ws v => v = some (.ref q) ∧ ws = [(b, .inr (1, [.ref q, .int (Int32.ofInt (0)), .int (Int32.ofInt (0)), .int (Int32.ofInt (c))]))]) := by
  show st_R D ([], X.2) 1 0 0 mtJ5_getValue_6d5f1 0 [(0, .ref b)] [] _ 0 0 _
  refine st_aload_n 0 ktJ5_getValue_6d5f1 rfl rfl ?_
  refine st_get (ci := 1) (q0 := 0) (k := 0) (v := .ref q) ktJ5_getValue_6d5f1 rfl rfl rfl (by decide) (st_has (n := 5000) rfl rfl) rfl ?_
  exact st_areturn (ty := (.array .byte)) ktJ5_getValue_6d5f1 rfl rfl (Or.inr ⟨_, rfl⟩) (by omega) (by omega) ⟨rfl, rfl⟩
def mtJ5_length_8abf5 : fz_M := (yJ5_length_8abf5, prog_14_method_6_code, 1, (some .int), [(0, .aload_n 0, 1, 0, 0, 0), (1, .getfield 79, 3, 0, 0, 0), (4, .ireturn, 1, 0, 0, 0)])
set_option maxRecDepth 100000 in
theorem ktJ5_length_8abf5 : fz_okK mtJ5_length_8abf5 = true := fz_okK_in (by decide +kernel)
set_option maxHeartbeats 4000000 in
set_option maxRecDepth 100000 in
theorem tt_asbLen (D : st_D) (X : st_Xt) (b q : Nat) (c : Int) : st_R D ([], X.2) 1 0 0 mtJ5_length_8abf5 0 (lv_args 0 [.ref b]) [] [(b, .inr (1, [.ref q, .int (Int32.ofInt (0)), .int (Int32.ofInt (0)), .int (Int32.ofInt (c))]))] 0 0 (fun ws v => v = some (.int (Int32.ofInt (c))) ∧ ws = [(b, .inr (1, [.ref q, .int (Int32.ofInt (0)), .int (Int32.ofInt (0)), .int (Int32.ofInt (c))]))]) := by
  show st_R D ([], X.2) 1 0 0 mtJ5_length_8abf5 0 [(0, .ref b)] [] _ 0 0 _
  refine st_aload_n 0 ktJ5_length_8abf5 rfl rfl ?_
  refine st_get (ci := 1) (q0 := 0) (k := 3) (v := .int (Int32.ofInt (c))) ktJ5_length_8abf5 rfl rfl rfl (by decide) (st_has (n := 5003) rfl rfl) rfl ?_
  exact st_ireturn (ty := .int) ktJ5_length_8abf5 rfl rfl rfl (by omega) (by omega) ⟨rfl, rfl⟩
def mtJ4_length_8abf5 : fz_M := (yJ4_length_8abf5, prog_20_method_93_code, 1, (some .int), [(0, .aload_n 0, 1, 0, 0, 0), (1, .invokespecial 343, 3, 0, 0, 0), (4, .ireturn, 1, 0, 0, 0)])
set_option maxRecDepth 100000 in
theorem ktJ4_length_8abf5 : fz_okK mtJ4_length_8abf5 = true := fz_okK_in (by decide +kernel)
set_option maxHeartbeats 4000000 in
set_option maxRecDepth 100000 in
theorem tt_sbLen (D : st_D) (X : st_Xt) (b q : Nat) (c : Int) : st_R D ([], X.2) 2 0 0 mtJ4_length_8abf5 0 (lv_args 0 [.ref b]) [] [(b, .inr (1, [.ref q, .int (Int32.ofInt (0)), .int (Int32.ofInt (0)), .int (Int32.ofInt (c))]))] 0 0 (fun ws v => v = some (.int (Int32.ofInt (c))) ∧ ws = [(b, .inr (1, [.ref q, .int (Int32.ofInt (0)), .int (Int32.ofInt (0)), .int (Int32.ofInt (c))]))]) := by
  show st_R D ([], X.2) 2 0 0 mtJ4_length_8abf5 0 [(0, .ref b)] [] _ 0 0 _
  refine st_aload_n 0 ktJ4_length_8abf5 rfl rfl ?_
  refine st_callSU (x := b) (ci := 1) (q0 := 0) (X' := ([], X.2)) (d' := 1) (NC' := 0) (NS' := 0) (M' := mtJ5_length_8abf5) (n := 0) (As := []) (st := []) (wc := [(b, .inr (1, [.ref q, .int (Int32.ofInt (0)), .int (Int32.ofInt (0)), .int (Int32.ofInt (c))]))]) (wr := []) [0] [] ktJ4_length_8abf5 rfl (st_has (n := 5199) rfl rfl) (st_has (n := 5195) rfl rfl) (st_has (n := 5012) rfl rfl) (st_has (n := 5194) rfl rfl) (st_has (n := 1017) rfl rfl) (st_has (n := 5200) rfl rfl) (by decide +kernel) (by decide) rfl rfl rfl rfl (Nat.le_of_ble_eq_true rfl) (Nat.le_of_ble_eq_true rfl) (by decide) (by omega) (by omega) rfl rfl (by decide) (by decide) (by decide) ⟨rfl, fun q hq => by cases hq⟩ (tt_asbLen D X b q (c)) (fun ws1 v hq => ?_)
  obtain ⟨rfl, rfl⟩ := hq
  refine st_st (st' := [.int (Int32.ofInt (c))]) rfl ?_
  refine st_ws (ws' := [(b, .inr (1, [.ref q, .int (Int32.ofInt (0)), .int (Int32.ofInt (0)), .int (Int32.ofInt (c))]))]) rfl ?_
  exact st_ireturn (ty := .int) ktJ4_length_8abf5 rfl rfl rfl (by omega) (by omega) ⟨rfl, rfl⟩
def mtJ7_checkLength_df160 : fz_M := (yJ7_checkLength_df160, prog_24_method_131_code, 2, none, [(0, .iload_n 1, 1, 0, 0, 0), (1, .iload_n 0, 1, 0, 0, 0), (2, .if_icmp .ge 35, 3, 0, 0, 0), (5, .new 43, 3, 0, 0, 0), (8, .dup, 1, 0, 0, 0), (9, .new 45, 3, 0, 0, 0), (12, .dup, 1, 0, 0, 0), (13, .invokespecial 47, 3, 0, 0, 0), (16, .iload_n 0, 1, 0, 0, 0), (17, .invokevirtual 54, 3, 0, 0, 0), (20, .ldc_w 337, 3, 0, 0, 0), (23, .invokevirtual 50, 3, 0, 0, 0), (26, .iload_n 1, 1, 0, 0, 0), (27, .invokevirtual 54, 3, 0, 0, 0), (30, .invokevirtual 61, 3, 0, 0, 0), (33, .invokespecial 65, 3, 0, 0, 0), (36, .athrow, 1, 0, 0, 0), (37, .return_, 1, 0, 0, 0)])
set_option maxRecDepth 100000 in
theorem ktJ7_checkLength_df160 : fz_okK mtJ7_checkLength_df160 = true := fz_okK_in (by decide +kernel)
set_option maxHeartbeats 4000000 in
set_option maxRecDepth 100000 in
theorem tt_ckl (D : st_D) (X : st_Xt) (x y : Int) (h : 0 ≤ x ∧ x ≤ y ∧ y ≤ 2002) : st_R D ([], X.2) 1 0 0 mtJ7_checkLength_df160 0 (lv_args 0 [.int (Int32.ofInt (x)), .int (Int32.ofInt (y))]) [] [] 0 0 (fun ws v => v = none ∧ ws = []) := by
  show st_R D ([], X.2) 1 0 0 mtJ7_checkLength_df160 0 [(0, .int (Int32.ofInt (x))), (1, .int (Int32.ofInt (y)))] [] _ 0 0 _
  refine st_iload_n 1 ktJ7_checkLength_df160 rfl rfl ?_
  refine st_iload_n 0 ktJ7_checkLength_df160 rfl rfl ?_
  refine st_icmp_ge (tgt := 37) ⟨by omega, by omega⟩ ⟨by omega, by omega⟩ ktJ7_checkLength_df160 rfl (by decide) (fun c1 => ?_) (fun c1 => False.elim (by omega))
  exact st_ret ktJ7_checkLength_df160 rfl rfl (by omega) (by omega) ⟨rfl, rfl⟩
def mtJ7_copyOfRangeByte_39247 : fz_M := (yJ7_copyOfRangeByte_39247, prog_24_method_133_code, 5, (some (.array .byte)), [(0, .iload_n 1, 1, 0, 0, 0), (1, .iload_n 2, 1, 0, 0, 0), (2, .invokestatic 343, 3, 0, 0, 0), (5, .iload_n 2, 1, 0, 0, 0), (6, .iload_n 1, 1, 0, 0, 0), (7, .isub, 1, 0, 0, 0), (8, .istore_n 3, 1, 0, 0, 0), (9, .iload_n 3, 1, 0, 0, 0), (10, .newarray .byte, 2, 0, 0, 0), (12, .astore 4, 2, 0, 0, 0), (14, .aload_n 0, 1, 0, 0, 0), (15, .iload_n 1, 1, 0, 0, 0), (16, .aload 4, 2, 0, 0, 0), (18, .iconst 0, 1, 0, 0, 0), (19, .aload_n 0, 1, 0, 0, 0), (20, .arraylength, 1, 0, 0, 0), (21, .iload_n 1, 1, 0, 0, 0), (22, .isub, 1, 0, 0, 0), (23, .iload_n 3, 1, 0, 0, 0), (24, .invokestatic 304, 3, 0, 0, 0), (27, .invokestatic 150, 3, 0, 0, 0), (30, .aload 4, 2, 0, 0, 0), (32, .areturn, 1, 0, 0, 0)])
set_option maxRecDepth 100000 in
theorem ktJ7_copyOfRangeByte_39247 : fz_okK mtJ7_copyOfRangeByte_39247 = true := fz_okK_in (by decide +kernel)
set_option maxHeartbeats 4000000 in
set_option maxRecDepth 100000 in
theorem tt_corB (D : st_D) (X : st_Xt) (q n : Nat) (m : Int) (f : Nat → Int32) (hf : sb_Fit f) (h : 0 ≤ m ∧ m ≤ n ∧ n ≤ 2002) : st_R D ([], X.2) 2 1 2002 mtJ7_copyOfRangeByte_39247 0 (lv_args 0 [.ref q, .int (Int32.ofInt (0)), .int (Int32.ofInt (m))]) [] [(q, .inl (D.2.2.2, n, .inl f))] 0 0 (fun ws v => ∃ (q2 n2 : Nat) (f2 : Nat → Int32), sb_Fit f2 ∧ (n2 : Int) = m ∧ v = some (.ref q2) ∧ ws = [(q, .inl (D.2.2.2, n, .inl f)), (q2, .inl (D.2.2.2, n2, .inl f2))]) := by
  show st_R D ([], X.2) 2 1 2002 mtJ7_copyOfRangeByte_39247 0 [(0, .ref q), (1, .int (Int32.ofInt (0))), (2, .int (Int32.ofInt (m)))] [] _ 0 0 _
  refine st_iload_n 1 ktJ7_copyOfRangeByte_39247 rfl rfl ?_
  refine st_iload_n 2 ktJ7_copyOfRangeByte_39247 rfl rfl ?_
  refine st_callS (X' := ([], X.2)) (d' := 1) (NC' := 0) (NS' := 0) (M' := mtJ7_checkLength_df160) (n := 2) (As := [.int (Int32.ofInt (0)), .int (Int32.ofInt (m))]) (st := []) (wc := []) (wr := [(q, .inl (D.2.2.2, n, .inl f))]) [] [0] ktJ7_copyOfRangeByte_39247 rfl (st_has (n := 5208) rfl rfl) (st_has (n := 5210) rfl rfl) (st_has (n := 1013) rfl rfl) (st_has (n := 5209) rfl rfl) (by decide +kernel) rfl rfl (Nat.le_of_ble_eq_true rfl) (Nat.le_of_ble_eq_true rfl) (by decide) (by omega) (by omega) rfl rfl (by decide) (by decide) (by decide) ⟨rfl, fun q hq => by cases hq⟩ (tt_ckl D X (0) (m) (by omega)) (fun ws1 v hq => ?_)
  obtain ⟨rfl, rfl⟩ := hq
  refine st_st (st' := []) rfl ?_
  refine st_ws (ws' := [(q, .inl (D.2.2.2, n, .inl f))]) rfl ?_
  refine st_iload_n 2 ktJ7_copyOfRangeByte_39247 rfl rfl ?_
  refine st_iload_n 1 ktJ7_copyOfRangeByte_39247 rfl rfl ?_
  refine st_isub (z := (m - 0)) (fz_w_id (by omega) (by omega)) ktJ7_copyOfRangeByte_39247 rfl ?_
  refine st_istore_n (ls' := [(3, .int (Int32.ofInt ((m - 0)))), (0, .ref q), (1, .int (Int32.ofInt (0))), (2, .int (Int32.ofInt (m)))]) ktJ7_copyOfRangeByte_39247 rfl (by decide) rfl ?_
  refine st_iload_n 0 ktJ7_copyOfRangeByte_39247 rfl rfl ?_
  refine st_newB (N := ((m - 0) : Int).toNat) ktJ7_copyOfRangeByte_39247 rfl (by omega) rfl (by omega) (by omega) (fun q1 => ?_)
  refine st_ws (ws' := [(q, .inl (D.2.2.2, n, .inl f)), (q1, .inl (D.2.2.2, ((m - 0) : Int).toNat, .inl (fun _ => 0)))]) rfl ?_
  refine st_astore (ls' := [(4, .ref q1), (3, .int (Int32.ofInt ((m - 0)))), (0, .ref q), (1, .int (Int32.ofInt (0))), (2, .int (Int32.ofInt (m)))]) ktJ7_copyOfRangeByte_39247 rfl (by decide) rfl ?_
  refine st_aload_n 2 ktJ7_copyOfRangeByte_39247 rfl rfl ?_
  refine st_iload_n 3 ktJ7_copyOfRangeByte_39247 rfl rfl ?_
  refine st_aload 0 ktJ7_copyOfRangeByte_39247 rfl rfl ?_
  refine st_iconst ktJ7_copyOfRangeByte_39247 rfl ?_
  refine st_aload_n 2 ktJ7_copyOfRangeByte_39247 rfl rfl ?_
  refine st_alen (q0 := 0) ktJ7_copyOfRangeByte_39247 rfl rfl ?_
  refine st_iload_n 3 ktJ7_copyOfRangeByte_39247 rfl rfl ?_
  refine st_isub (z := ((n : Int) - 0)) (fz_w_id (by omega) (by omega)) ktJ7_copyOfRangeByte_39247 rfl ?_
  refine st_iload_n 1 ktJ7_copyOfRangeByte_39247 rfl rfl ?_
  refine st_mmin ⟨by omega, by omega⟩ ⟨by omega, by omega⟩ (st_has (n := 5052) rfl rfl) ktJ7_copyOfRangeByte_39247 rfl (by decide) (Nat.le_of_ble_eq_true rfl) (by omega) (by omega) (fun z2 hz2 => ?_)
  refine st_acW (q0 := 0) (q1 := 1) ktJ7_copyOfRangeByte_39247 rfl (st_has (n := 5053) rfl rfl) rfl rfl hf sb_fit0 (by omega) (by omega) (by omega) (by omega) (by omega) ⟨by omega, by omega, by omega⟩ (by decide) (Nat.le_of_ble_eq_true rfl) (fun f3 hf3 => ?_)
  refine st_ws (ws' := [(q, .inl (D.2.2.2, n, .inl f)), (q1, .inl (D.2.2.2, ((m - 0) : Int).toNat, .inl f3))]) rfl ?_
  refine st_aload 0 ktJ7_copyOfRangeByte_39247 rfl rfl ?_
  exact st_areturn (ty := (.array .byte)) ktJ7_copyOfRangeByte_39247 rfl rfl (Or.inr ⟨_, rfl⟩) (by omega) (by omega) ⟨_, _, _, hf3, by omega, rfl, rfl⟩
def mtJ7_copyOfRange_39247 : fz_M := (yJ7_copyOfRange_39247, prog_24_method_132_code, 3, (some (.array .byte)), [(0, .iload_n 1, 1, 0, 0, 0), (1, .ifCond .ne 9, 3, 0, 0, 0), (4, .iload_n 2, 1, 0, 0, 0), (5, .aload_n 0, 1, 0, 0, 0), (6, .arraylength, 1, 0, 0, 0), (7, .if_icmp .eq 10, 3, 0, 0, 0), (10, .aload_n 0, 1, 0, 0, 0), (11, .iload_n 1, 1, 0, 0, 0), (12, .iload_n 2, 1, 0, 0, 0), (13, .invokestatic 339, 3, 0, 0, 0), (16, .areturn, 1, 0, 0, 0), (17, .aload_n 0, 1, 0, 0, 0), (18, .invokevirtual 310, 3, 0, 0, 0), (21, .checkcast 311, 3, 0, 0, 0), (24, .areturn, 1, 0, 0, 0)])
set_option maxRecDepth 100000 in
theorem ktJ7_copyOfRange_39247 : fz_okK mtJ7_copyOfRange_39247 = true := fz_okK_in (by decide +kernel)
set_option maxHeartbeats 4000000 in
set_option maxRecDepth 100000 in
theorem tt_cor (D : st_D) (X : st_Xt) (q n : Nat) (m : Int) (f : Nat → Int32) (hf : sb_Fit f) (h : 0 ≤ m ∧ m ≤ n ∧ n ≤ 2002) : st_R D ([], X.2) 3 1 2002 mtJ7_copyOfRange_39247 0 (lv_args 0 [.ref q, .int (Int32.ofInt (0)), .int (Int32.ofInt (m))]) [] [(q, .inl (D.2.2.2, n, .inl f))] 0 0 (fun ws v => ∃ (q2 n2 : Nat) (f2 : Nat → Int32), sb_Fit f2 ∧ (n2 : Int) = m ∧ v = some (.ref q2) ∧ ws = [(q, .inl (D.2.2.2, n, .inl f)), (q2, .inl (D.2.2.2, n2, .inl f2))]) := by
  show st_R D ([], X.2) 3 1 2002 mtJ7_copyOfRange_39247 0 [(0, .ref q), (1, .int (Int32.ofInt (0))), (2, .int (Int32.ofInt (m)))] [] _ 0 0 _
  refine st_iload_n 1 ktJ7_copyOfRange_39247 rfl rfl ?_
  refine st_if_ne (tgt := 10) ⟨by omega, by omega⟩ ktJ7_copyOfRange_39247 rfl (by decide) (fun c1 => False.elim (by omega)) (fun c1 => ?_)
  refine st_iload_n 2 ktJ7_copyOfRange_39247 rfl rfl ?_
  refine st_aload_n 0 ktJ7_copyOfRange_39247 rfl rfl ?_
  refine st_alen (q0 := 0) ktJ7_copyOfRange_39247 rfl rfl ?_
  refine st_icmp_eq (tgt := 17) ⟨by omega, by omega⟩ ⟨by omega, by omega⟩ ktJ7_copyOfRange_39247 rfl (by decide) (fun c2 => ?_) (fun c2 => ?_)
  · refine st_aload_n 0 ktJ7_copyOfRange_39247 rfl rfl ?_
    refine st_clone (q0 := 0) ktJ7_copyOfRange_39247 rfl (st_has (n := 5045) rfl rfl) rfl hf (by decide) (Nat.le_of_ble_eq_true rfl) (by omega) (by omega) (fun q3 => ?_)
    refine st_ws (ws' := [(q, .inl (D.2.2.2, n, .inl f)), (q3, .inl (D.2.2.2, n, .inl f))]) rfl ?_
    refine st_castB (q0 := 1) ktJ7_copyOfRange_39247 rfl (st_has (n := 5051) rfl rfl) rfl ?_
    exact st_areturn (ty := (.array .byte)) ktJ7_copyOfRange_39247 rfl rfl (Or.inr ⟨_, rfl⟩) (by omega) (by omega) ⟨_, _, _, hf, by omega, rfl, rfl⟩
  · refine st_aload_n 0 ktJ7_copyOfRange_39247 rfl rfl ?_
    refine st_iload_n 1 ktJ7_copyOfRange_39247 rfl rfl ?_
    refine st_iload_n 2 ktJ7_copyOfRange_39247 rfl rfl ?_
    refine st_callS (X' := ([], X.2)) (d' := 2) (NC' := 1) (NS' := 2002) (M' := mtJ7_copyOfRangeByte_39247) (n := 3) (As := [.ref q, .int (Int32.ofInt (0)), .int (Int32.ofInt (m))]) (st := []) (wc := [(q, .inl (D.2.2.2, n, .inl f))]) (wr := []) [0] [] ktJ7_copyOfRange_39247 rfl (st_has (n := 5205) rfl rfl) (st_has (n := 5207) rfl rfl) (st_has (n := 1013) rfl rfl) (st_has (n := 5206) rfl rfl) (by decide +kernel) rfl rfl (Nat.le_of_ble_eq_true rfl) (Nat.le_of_ble_eq_true rfl) (by decide) (by omega) (by omega) rfl rfl (by decide) (by decide) (by decide) ⟨rfl, fun q hq => by cases hq⟩ (tt_corB D X q (n) (m) f hf (by omega)) (fun ws1 v hq => ?_)
    obtain ⟨q4, n5, f6, hf6, hn5, rfl, rfl⟩ := hq
    refine st_st (st' := [.ref q4]) rfl ?_
    refine st_ws (ws' := [(q, .inl (D.2.2.2, n, .inl f)), (q4, .inl (D.2.2.2, n5, .inl f6))]) rfl ?_
    exact st_areturn (ty := (.array .byte)) ktJ7_copyOfRange_39247 rfl rfl (Or.inr ⟨_, rfl⟩) (by omega) (by omega) ⟨_, _, _, hf6, by omega, rfl, rfl⟩
def mtJ0_init_db425 : fz_M := (yJ0_init_db425, prog_19_method_150_code, 5, none, [(0, .aload_n 0, 1, 0, 0, 0), (1, .invokespecial 1, 3, 0, 0, 0), (4, .aload_n 1, 1, 0, 0, 0), (5, .invokevirtual 552, 3, 0, 0, 0), (8, .astore_n 3, 1, 0, 0, 0), (9, .aload_n 1, 1, 0, 0, 0), (10, .invokevirtual 549, 3, 0, 0, 0), (13, .istore 4, 2, 0, 0, 0), (15, .aload_n 1, 1, 0, 0, 0), (16, .invokevirtual 1047, 3, 0, 0, 0), (19, .ifCond .eq 22, 3, 0, 0, 0), (22, .aload_n 0, 1, 0, 0, 0), (23, .iconst 0, 1, 0, 0, 0), (24, .putfield 15, 3, 0, 0, 0), (27, .aload_n 0, 1, 0, 0, 0), (28, .aload_n 3, 1, 0, 0, 0), (29, .iconst 0, 1, 0, 0, 0), (30, .iload 4, 2, 0, 0, 0), (32, .invokestatic 54, 3, 0, 0, 0), (35, .putfield 9, 3, 0, 0, 0), (38, .goto 59, 3, 0, 0, 0), (41, .getstatic 38, 3, 0, 0, 0), (44, .ifCond .eq 35, 3, 0, 0, 0), (47, .aload_n 1, 1, 0, 0, 0), (48, .getfield 1048, 3, 0, 0, 0), (51, .ifCond .eq 28, 3, 0, 0, 0), (54, .aload_n 0, 1, 0, 0, 0), (55, .aload_n 3, 1, 0, 0, 0), (56, .iconst 0, 1, 0, 0, 0), (57, .iload 4, 2, 0, 0, 0), (59, .invokestatic 1051, 3, 0, 0, 0), (62, .putfield 9, 3, 0, 0, 0), (65, .aload_n 0, 1, 0, 0, 0), (66, .aload_n 0, 1, 0, 0, 0), (67, .getfield 9, 3, 0, 0, 0), (70, .iload 4, 2, 0, 0, 0), (72, .invokestatic 47, 3, 0, 0, 0), (75, .putfield 15, 3, 0, 0, 0), (78, .return_, 1, 0, 0, 0), (79, .aload_n 0, 1, 0, 0, 0), (80, .iconst 1, 1, 0, 0, 0), (81, .putfield 15, 3, 0, 0, 0), (84, .aload_n 0, 1, 0, 0, 0), (85, .aload_n 3, 1, 0, 0, 0), (86, .iconst 0, 1, 0, 0, 0), (87, .iload 4, 2, 0, 0, 0), (89, .iconst 1, 1, 0, 0, 0), (90, .ishl, 1, 0, 0, 0), (91, .invokestatic 54, 3, 0, 0, 0), (94, .putfield 9, 3, 0, 0, 0), (97, .return_, 1, 0, 0, 0)])
set_option maxRecDepth 100000 in
theorem ktJ0_init_db425 : fz_okK mtJ0_init_db425 = true := fz_okK_in (by decide +kernel)
set_option maxHeartbeats 4000000 in
set_option maxRecDepth 100000 in
theorem tt_str2 (D : st_D) (X : st_Xt) (r b q n : Nat) (c : Int) (f : Nat → Int32) (hf : sb_Fit f) (h : 0 ≤ c ∧ c ≤ n ∧ n ≤ 2002) : st_R D ([], X.2) 4 1 2002 mtJ0_init_db425 0 (lv_args 0 [.ref r, .ref b, .null]) [] [(r, .inr (0, [.null, .int (Int32.ofInt (0)), .int (Int32.ofInt (0)), .int (Int32.ofInt (0))])), (b, .inr (1, [.ref q, .int (Int32.ofInt (0)), .int (Int32.ofInt (0)), .int (Int32.ofInt (c))])), (q, .inl (D.2.2.2, n, .inl f))] 0 0 (fun ws v => ∃ (u k : Nat) (g : Nat → Int32), sb_Fit g ∧ (k : Int) = c ∧ v = none ∧ ws = [(r, .inr (0, [.ref u, .int (Int32.ofInt (0)), .int (Int32.ofInt (0)), .int (Int32.ofInt (0))])), (u, .inl (D.2.2.2, k, .inl g)), (b, .inr (1, [.ref q, .int (Int32.ofInt (0)), .int (Int32.ofInt (0)), .int (Int32.ofInt (c))])), (q, .inl (D.2.2.2, n, .inl f))]) := by
  show st_R D ([], X.2) 4 1 2002 mtJ0_init_db425 0 [(0, .ref r), (1, .ref b), (2, .null)] [] _ 0 0 _
  refine st_aload_n 0 ktJ0_init_db425 rfl rfl ?_
  refine st_obj ktJ0_init_db425 rfl (st_has (n := 5187) rfl rfl) (Nat.le_of_ble_eq_true rfl) (by decide) ?_
  refine st_aload_n 1 ktJ0_init_db425 rfl rfl ?_
  refine st_callV (x := b) (Cn := "java/lang/StringBuilder") (X' := ([], X.2)) (d' := 1) (NC' := 0) (NS' := 0) (M' := mtJ5_getValue_6d5f1) (n := 0) (As := []) (st := []) (wc := [(b, .inr (1, [.ref q, .int (Int32.ofInt (0)), .int (Int32.ofInt (0)), .int (Int32.ofInt (c))]))]) (wr := [(r, .inr (0, [.null, .int (Int32.ofInt (0)), .int (Int32.ofInt (0)), .int (Int32.ofInt (0))])), (q, .inl (D.2.2.2, n, .inl f))]) [1] [0, 2] ktJ0_init_db425 rfl ⟨(st_has (n := 5188) rfl rfl), (st_has (n := 5189) rfl rfl), (st_has (n := 1017) rfl rfl), Or.inr ⟨(st_has (n := 5190) rfl rfl), (st_has (n := 5191) rfl rfl)⟩⟩ (st_has (n := 5192) rfl rfl) (by decide +kernel) (Or.inl ⟨1, 1, _, _, _, rfl, rfl⟩) rfl rfl (Nat.le_of_ble_eq_true rfl) (Nat.le_of_ble_eq_true rfl) (by decide) (by omega) (by omega) rfl rfl (by decide) (by decide) (by decide) ⟨rfl, fun q hq => by cases hq⟩ (tt_getV D X b q (c)) (fun ws1 v hq => ?_)
  obtain ⟨rfl, rfl⟩ := hq
  refine st_st (st' := [.ref q]) rfl ?_
  refine st_ws (ws' := [(r, .inr (0, [.null, .int (Int32.ofInt (0)), .int (Int32.ofInt (0)), .int (Int32.ofInt (0))])), (q, .inl (D.2.2.2, n, .inl f)), (b, .inr (1, [.ref q, .int (Int32.ofInt (0)), .int (Int32.ofInt (0)), .int (Int32.ofInt (c))]))]) rfl ?_
  refine st_astore_n (ls' := [(3, .ref q), (0, .ref r), (1, .ref b), (2, .null)]) ktJ0_init_db425 rfl (by decide) rfl ?_
  refine st_aload_n 2 ktJ0_init_db425 rfl rfl ?_
  refine st_callO (Mx := mtJ5_length_8abf5) (x := b) (Cn := "java/lang/StringBuilder") (X' := ([], X.2)) (d' := 2) (NC' := 0) (NS' := 0) (M' := mtJ4_length_8abf5) (n := 0) (As := []) (st := []) (wc := [(b, .inr (1, [.ref q, .int (Int32.ofInt (0)), .int (Int32.ofInt (0)), .int (Int32.ofInt (c))]))]) (wr := [(r, .inr (0, [.null, .int (Int32.ofInt (0)), .int (Int32.ofInt (0)), .int (Int32.ofInt (0))])), (q, .inl (D.2.2.2, n, .inl f))]) [2] [0, 1] ktJ0_init_db425 rfl (st_has (n := 5193) rfl rfl) (st_has (n := 5195) rfl rfl) (st_has (n := 5194) rfl rfl) (st_has (n := 5196) rfl rfl) (st_has (n := 5197) rfl rfl) (st_has (n := 1018) rfl rfl) (st_has (n := 5200) rfl rfl) (by decide +kernel) (st_has (n := 5198) rfl rfl) (by decide +kernel) (Or.inl ⟨2, 1, _, _, _, rfl, rfl⟩) rfl rfl (Nat.le_of_ble_eq_true rfl) (Nat.le_of_ble_eq_true rfl) (by decide) (by omega) (by omega) rfl rfl (by decide) (by decide) (by decide) ⟨rfl, fun q hq => by cases hq⟩ (tt_sbLen D X b q (c)) (fun ws1 v hq => ?_)
  obtain ⟨rfl, rfl⟩ := hq
  refine st_st (st' := [.int (Int32.ofInt (c))]) rfl ?_
  refine st_ws (ws' := [(r, .inr (0, [.null, .int (Int32.ofInt (0)), .int (Int32.ofInt (0)), .int (Int32.ofInt (0))])), (q, .inl (D.2.2.2, n, .inl f)), (b, .inr (1, [.ref q, .int (Int32.ofInt (0)), .int (Int32.ofInt (0)), .int (Int32.ofInt (c))]))]) rfl ?_
  refine st_istore (ls' := [(4, .int (Int32.ofInt (c))), (3, .ref q), (0, .ref r), (1, .ref b), (2, .null)]) ktJ0_init_db425 rfl (by decide) rfl ?_
  refine st_aload_n 3 ktJ0_init_db425 rfl rfl ?_
  refine st_callV (x := b) (Cn := "java/lang/StringBuilder") (X' := ([], X.2)) (d' := 1) (NC' := 0) (NS' := 0) (M' := mtJ5_isLatin1_aae02) (n := 0) (As := []) (st := []) (wc := [(b, .inr (1, [.ref q, .int (Int32.ofInt (0)), .int (Int32.ofInt (0)), .int (Int32.ofInt (c))]))]) (wr := [(r, .inr (0, [.null, .int (Int32.ofInt (0)), .int (Int32.ofInt (0)), .int (Int32.ofInt (0))])), (q, .inl (D.2.2.2, n, .inl f))]) [2] [0, 1] ktJ0_init_db425 rfl ⟨(st_has (n := 5201) rfl rfl), (st_has (n := 5055) rfl rfl), (st_has (n := 1017) rfl rfl), Or.inr ⟨(st_has (n := 5056) rfl rfl), (st_has (n := 5057) rfl rfl)⟩⟩ (st_has (n := 5058) rfl rfl) (by decide +kernel) (Or.inl ⟨2, 1, _, _, _, rfl, rfl⟩) rfl rfl (Nat.le_of_ble_eq_true rfl) (Nat.le_of_ble_eq_true rfl) (by decide) (by omega) (by omega) rfl rfl (by decide) (by decide) (by decide) ⟨rfl, fun q hq => by cases hq⟩ (tt_asbLatin D X b q (c)) (fun ws1 v hq => ?_)
  obtain ⟨rfl, rfl⟩ := hq
  refine st_st (st' := [.int (Int32.ofInt (1))]) rfl ?_
  refine st_ws (ws' := [(r, .inr (0, [.null, .int (Int32.ofInt (0)), .int (Int32.ofInt (0)), .int (Int32.ofInt (0))])), (q, .inl (D.2.2.2, n, .inl f)), (b, .inr (1, [.ref q, .int (Int32.ofInt (0)), .int (Int32.ofInt (0)), .int (Int32.ofInt (c))]))]) rfl ?_
  refine st_if_eq (tgt := 41) ⟨by omega, by omega⟩ ktJ0_init_db425 rfl (by decide) (fun c1 => False.elim (by omega)) (fun c1 => ?_)
  refine st_aload_n 2 ktJ0_init_db425 rfl rfl ?_
  refine st_iconst ktJ0_init_db425 rfl ?_
  refine st_put (ci := 0) (q0 := 0) (k := 1) (ty := tyJ0 1) ktJ0_init_db425 rfl rfl rfl (by decide) (st_has (n := 5222) rfl rfl) (Or.inr ⟨rfl, rfl, rfl⟩) (tyJ0_ok 1 (by decide)) rfl (by decide) (Nat.le_of_ble_eq_true rfl) ?_
  refine st_ws (ws' := [(r, .inr (0, [.null, .int (Int32.ofInt (0)), .int (Int32.ofInt (0)), .int (Int32.ofInt (0))])), (q, .inl (D.2.2.2, n, .inl f)), (b, .inr (1, [.ref q, .int (Int32.ofInt (0)), .int (Int32.ofInt (0)), .int (Int32.ofInt (c))]))]) rfl ?_
  refine st_aload_n 2 ktJ0_init_db425 rfl rfl ?_
  refine st_aload_n 1 ktJ0_init_db425 rfl rfl ?_
  refine st_iconst ktJ0_init_db425 rfl ?_
  refine st_iload 0 ktJ0_init_db425 rfl rfl ?_
  refine st_callS (X' := ([], X.2)) (d' := 3) (NC' := 1) (NS' := 2002) (M' := mtJ7_copyOfRange_39247) (n := 3) (As := [.ref q, .int (Int32.ofInt (0)), .int (Int32.ofInt (c))]) (st := [.ref r]) (wc := [(q, .inl (D.2.2.2, n, .inl f))]) (wr := [(r, .inr (0, [.null, .int (Int32.ofInt (0)), .int (Int32.ofInt (0)), .int (Int32.ofInt (0))])), (b, .inr (1, [.ref q, .int (Int32.ofInt (0)), .int (Int32.ofInt (0)), .int (Int32.ofInt (c))]))]) [1] [0, 2] ktJ0_init_db425 rfl (st_has (n := 5202) rfl rfl) (st_has (n := 5204) rfl rfl) (st_has (n := 1013) rfl rfl) (st_has (n := 5203) rfl rfl) (by decide +kernel) rfl rfl (Nat.le_of_ble_eq_true rfl) (Nat.le_of_ble_eq_true rfl) (by decide) (by omega) (by omega) rfl rfl (by decide) (by decide) (by decide) ⟨rfl, fun q hq => by cases hq⟩ (tt_cor D X q (n) (c) f hf (by omega)) (fun ws1 v hq => ?_)
  obtain ⟨q2, n3, f4, hf4, hn3, rfl, rfl⟩ := hq
  refine st_st (st' := [.ref q2, .ref r]) rfl ?_
  refine st_ws (ws' := [(r, .inr (0, [.null, .int (Int32.ofInt (0)), .int (Int32.ofInt (0)), .int (Int32.ofInt (0))])), (b, .inr (1, [.ref q, .int (Int32.ofInt (0)), .int (Int32.ofInt (0)), .int (Int32.ofInt (c))])), (q, .inl (D.2.2.2, n, .inl f)), (q2, .inl (D.2.2.2, n3, .inl f4))]) rfl ?_
  refine st_put (ci := 0) (q0 := 0) (k := 0) (ty := tyJ0 0) ktJ0_init_db425 rfl rfl rfl (by decide) (st_has (n := 5221) rfl rfl) (Or.inr ⟨rfl, rfl, rfl⟩) (tyJ0_ok 0 (by decide)) rfl rfl (Nat.le_of_ble_eq_true rfl) ?_
  refine st_ws (ws' := [(r, .inr (0, [.ref q2, .int (Int32.ofInt (0)), .int (Int32.ofInt (0)), .int (Int32.ofInt (0))])), (b, .inr (1, [.ref q, .int (Int32.ofInt (0)), .int (Int32.ofInt (0)), .int (Int32.ofInt (c))])), (q, .inl (D.2.2.2, n, .inl f)), (q2, .inl (D.2.2.2, n3, .inl f4))]) rfl ?_
  refine st_goto (tgt := 97) ktJ0_init_db425 rfl (by decide) ?_
  refine st_sub (ws' := [(r, .inr (0, [.ref q2, .int (Int32.ofInt (0)), .int (Int32.ofInt (0)), .int (Int32.ofInt (0))])), (q2, .inl (D.2.2.2, n3, .inl f4)), (b, .inr (1, [.ref q, .int (Int32.ofInt (0)), .int (Int32.ofInt (0)), .int (Int32.ofInt (c))])), (q, .inl (D.2.2.2, n, .inl f))]) [0, 3, 1, 2] rfl (by decide) ?_
  exact st_ret ktJ0_init_db425 rfl rfl (by omega) (by omega) ⟨_, _, _, hf4, by omega, rfl, rfl⟩
def mtJ0_init_81219 : fz_M := (yJ0_init_81219, prog_19_method_53_code, 2, none, [(0, .aload_n 0, 1, 0, 0, 0), (1, .aload_n 1, 1, 0, 0, 0), (2, .aconst_null, 1, 0, 0, 0), (3, .invokespecial 489, 3, 0, 0, 0), (6, .return_, 1, 0, 0, 0)])
set_option maxRecDepth 100000 in
theorem ktJ0_init_81219 : fz_okK mtJ0_init_81219 = true := fz_okK_in (by decide +kernel)
set_option maxHeartbeats 4000000 in
set_option maxRecDepth 100000 in
theorem tt_str1 (D : st_D) (X : st_Xt) (r b q n : Nat) (c : Int) (f : Nat → Int32) (hf : sb_Fit f) (h : 0 ≤ c ∧ c ≤ n ∧ n ≤ 2002) : st_R D ([], X.2) 5 1 2002 mtJ0_init_81219 0 (lv_args 0 [.ref r, .ref b]) [] [(r, .inr (0, [.null, .int (Int32.ofInt (0)), .int (Int32.ofInt (0)), .int (Int32.ofInt (0))])), (b, .inr (1, [.ref q, .int (Int32.ofInt (0)), .int (Int32.ofInt (0)), .int (Int32.ofInt (c))])), (q, .inl (D.2.2.2, n, .inl f))] 0 0 (fun ws v => ∃ (u k : Nat) (g : Nat → Int32), sb_Fit g ∧ (k : Int) = c ∧ v = none ∧ ws = [(r, .inr (0, [.ref u, .int (Int32.ofInt (0)), .int (Int32.ofInt (0)), .int (Int32.ofInt (0))])), (u, .inl (D.2.2.2, k, .inl g)), (b, .inr (1, [.ref q, .int (Int32.ofInt (0)), .int (Int32.ofInt (0)), .int (Int32.ofInt (c))])), (q, .inl (D.2.2.2, n, .inl f))]) := by
  show st_R D ([], X.2) 5 1 2002 mtJ0_init_81219 0 [(0, .ref r), (1, .ref b)] [] _ 0 0 _
  refine st_aload_n 0 ktJ0_init_81219 rfl rfl ?_
  refine st_aload_n 1 ktJ0_init_81219 rfl rfl ?_
  refine st_null ktJ0_init_81219 rfl ?_
  refine st_callI (x := r) (X' := ([], X.2)) (d' := 4) (NC' := 1) (NS' := 2002) (M' := mtJ0_init_db425) (n := 2) (As := [.ref b, .null]) (st := []) (wc := [(r, .inr (0, [.null, .int (Int32.ofInt (0)), .int (Int32.ofInt (0)), .int (Int32.ofInt (0))])), (b, .inr (1, [.ref q, .int (Int32.ofInt (0)), .int (Int32.ofInt (0)), .int (Int32.ofInt (c))])), (q, .inl (D.2.2.2, n, .inl f))]) (wr := []) [0, 1, 2] [] ktJ0_init_81219 rfl (st_has (n := 5184) rfl rfl) (st_has (n := 5186) rfl rfl) (st_has (n := 1019) rfl rfl) (st_has (n := 5185) rfl rfl) (by decide +kernel) rfl rfl rfl rfl (Nat.le_of_ble_eq_true rfl) (Nat.le_of_ble_eq_true rfl) (by decide) (by omega) (by omega) rfl rfl (by decide) (by decide) (by decide) ⟨rfl, fun q hq => by cases hq⟩ (tt_str2 D X r b q (n) (c) f hf (by omega)) (fun ws1 v hq => ?_)
  obtain ⟨u1, k2, g3, hg3, hk2, rfl, rfl⟩ := hq
  refine st_st (st' := []) rfl ?_
  refine st_ws (ws' := [(r, .inr (0, [.ref u1, .int (Int32.ofInt (0)), .int (Int32.ofInt (0)), .int (Int32.ofInt (0))])), (u1, .inl (D.2.2.2, k2, .inl g3)), (b, .inr (1, [.ref q, .int (Int32.ofInt (0)), .int (Int32.ofInt (0)), .int (Int32.ofInt (c))])), (q, .inl (D.2.2.2, n, .inl f))]) rfl ?_
  exact st_ret ktJ0_init_81219 rfl rfl (by omega) (by omega) ⟨_, _, _, hg3, by omega, rfl, rfl⟩
def mtJ4_toString_0e30d : fz_M := (yJ4_toString_0e30d, prog_20_method_42_code, 1, (some (.object "java/lang/String")), [(0, .new 18, 3, 0, 0, 0), (3, .dup, 1, 0, 0, 0), (4, .aload_n 0, 1, 0, 0, 0), (5, .invokespecial 137, 3, 0, 0, 0), (8, .areturn, 1, 0, 0, 0)])
set_option maxRecDepth 100000 in
theorem ktJ4_toString_0e30d : fz_okK mtJ4_toString_0e30d = true := fz_okK_in (by decide +kernel)
set_option maxHeartbeats 4000000 in
set_option maxRecDepth 100000 in
theorem tt_toS (D : st_D) (X : st_Xt) (b q n : Nat) (c : Int) (f : Nat → Int32) (hf : sb_Fit f) (h : 0 ≤ c ∧ c ≤ n ∧ n ≤ 2002) : st_R D ([], X.2) 6 2 2006 mtJ4_toString_0e30d 0 (lv_args 0 [.ref b]) [] [(b, .inr (1, [.ref q, .int (Int32.ofInt (0)), .int (Int32.ofInt (0)), .int (Int32.ofInt (c))])), (q, .inl (D.2.2.2, n, .inl f))] 0 0 (fun ws v => ∃ (r u k : Nat) (g : Nat → Int32), sb_Fit g ∧ (k : Int) = c ∧ v = some (.ref r) ∧ ws = [(r, .inr (0, [.ref u, .int (Int32.ofInt (0)), .int (Int32.ofInt (0)), .int (Int32.ofInt (0))])), (u, .inl (D.2.2.2, k, .inl g))]) := by
  show st_R D ([], X.2) 6 2 2006 mtJ4_toString_0e30d 0 [(0, .ref b)] [] _ 0 0 _
  refine st_new (ci := 0) tyJ0 [.null, .int (Int32.ofInt (0)), .int (Int32.ofInt (0)), .int (Int32.ofInt (0))] ktJ4_toString_0e30d rfl rfl tyJ0_ok (st_has (n := 5179) rfl rfl) (st_has (n := 5180) rfl rfl) (st_has (n := 1019) rfl rfl) rfl (by omega) (by omega) (fun q1 => ?_)
  refine st_ws (ws' := [(b, .inr (1, [.ref q, .int (Int32.ofInt (0)), .int (Int32.ofInt (0)), .int (Int32.ofInt (c))])), (q, .inl (D.2.2.2, n, .inl f)), (q1, .inr (0, [.null, .int (Int32.ofInt (0)), .int (Int32.ofInt (0)), .int (Int32.ofInt (0))]))]) rfl ?_
  refine st_dup rfl ktJ4_toString_0e30d rfl ?_
  refine st_aload_n 0 ktJ4_toString_0e30d rfl rfl ?_
  refine st_callI (x := q1) (X' := ([], X.2)) (d' := 5) (NC' := 1) (NS' := 2002) (M' := mtJ0_init_81219) (n := 1) (As := [.ref b]) (st := [.ref q1]) (wc := [(q1, .inr (0, [.null, .int (Int32.ofInt (0)), .int (Int32.ofInt (0)), .int (Int32.ofInt (0))])), (b, .inr (1, [.ref q, .int (Int32.ofInt (0)), .int (Int32.ofInt (0)), .int (Int32.ofInt (c))])), (q, .inl (D.2.2.2, n, .inl f))]) (wr := []) [2, 0, 1] [] ktJ4_toString_0e30d rfl (st_has (n := 5181) rfl rfl) (st_has (n := 5183) rfl rfl) (st_has (n := 1019) rfl rfl) (st_has (n := 5182) rfl rfl) (by decide +kernel) rfl rfl rfl rfl (Nat.le_of_ble_eq_true rfl) (Nat.le_of_ble_eq_true rfl) (by decide) (by omega) (by omega) rfl rfl (by decide) (by decide) (by decide) ⟨rfl, fun q hq => by cases hq⟩ (tt_str1 D X q1 b q (n) (c) f hf (by omega)) (fun ws1 v hq => ?_)
  obtain ⟨u2, k3, g4, hg4, hk3, rfl, rfl⟩ := hq
  refine st_st (st' := [.ref q1]) rfl ?_
  refine st_ws (ws' := [(q1, .inr (0, [.ref u2, .int (Int32.ofInt (0)), .int (Int32.ofInt (0)), .int (Int32.ofInt (0))])), (u2, .inl (D.2.2.2, k3, .inl g4)), (b, .inr (1, [.ref q, .int (Int32.ofInt (0)), .int (Int32.ofInt (0)), .int (Int32.ofInt (c))])), (q, .inl (D.2.2.2, n, .inl f))]) rfl ?_
  refine st_sub (ws' := [(q1, .inr (0, [.ref u2, .int (Int32.ofInt (0)), .int (Int32.ofInt (0)), .int (Int32.ofInt (0))])), (u2, .inl (D.2.2.2, k3, .inl g4))]) [0, 1] rfl (by decide) ?_
  exact st_areturn (ty := (.object "java/lang/String")) ktJ4_toString_0e30d rfl rfl (Or.inl ⟨_, rfl⟩) (by omega) (by omega) ⟨_, _, _, _, hg4, by omega, rfl, rfl⟩
