/-! ===== the law's beginning ===== -/
def mtL0 : fz_M := (yL_law, code, 16, (some .boolean), [(0, .new 85, 3, 0, 0, 0), (3, .dup, 1, 0, 0, 0), (4, .invokespecial 152, 3, 0, 0, 0), (7, .invokevirtual 153, 3, 0, 0, 0), (10, .bipush (-5), 2, 0, 0, 0), (12, .if_icmp .ne 80, 3, 0, 0, 0), (15, .new 85, 3, 0, 0, 0), (18, .dup, 1, 0, 0, 0), (19, .invokespecial 152, 3, 0, 0, 0), (22, .invokevirtual 156, 3, 0, 0, 0), (25, .ifCond .ne 67, 3, 0, 0, 0), (28, .new 85, 3, 0, 0, 0), (31, .dup, 1, 0, 0, 0), (32, .invokespecial 152, 3, 0, 0, 0), (35, .iconst 0, 1, 0, 0, 0), (36, .iconst 1, 1, 0, 0, 0), (37, .invokevirtual 159, 3, 0, 0, 0), (40, .iconst (-1), 1, 0, 0, 0), (41, .if_icmp .ne 51, 3, 0, 0, 0), (44, .new 85, 3, 0, 0, 0), (47, .dup, 1, 0, 0, 0), (48, .invokespecial 152, 3, 0, 0, 0), (51, .iconst 0, 1, 0, 0, 0), (52, .iconst 0, 1, 0, 0, 0), (53, .invokevirtual 162, 3, 0, 0, 0), (56, .iconst (-1), 1, 0, 0, 0), (57, .if_icmp .ne 35, 3, 0, 0, 0), (60, .new 85, 3, 0, 0, 0), (63, .dup, 1, 0, 0, 0), (64, .invokespecial 152, 3, 0, 0, 0), (67, .iconst 0, 1, 0, 0, 0), (68, .iconst 0, 1, 0, 0, 0), (69, .iconst 0, 1, 0, 0, 0), (70, .invokevirtual 131, 3, 0, 0, 0), (73, .ifCond .ne 19, 3, 0, 0, 0), (76, .new 85, 3, 0, 0, 0), (79, .dup, 1, 0, 0, 0), (80, .invokespecial 152, 3, 0, 0, 0), (83, .iconst 0, 1, 0, 0, 0), (84, .iconst 0, 1, 0, 0, 0), (85, .iconst 0, 1, 0, 0, 0), (86, .invokevirtual 134, 3, 0, 0, 0), (89, .ifCond .eq 5, 3, 0, 0, 0), (92, .iconst 0, 1, 0, 0, 0), (93, .ireturn, 1, 0, 0, 0), (94, .new 85, 3, 0, 0, 0), (97, .dup, 1, 0, 0, 0), (98, .invokespecial 152, 3, 0, 0, 0), (101, .astore_n 1, 1, 0, 0, 0), (102, .bipush 40, 2, 0, 0, 0), (104, .newarray .int, 2, 0, 0, 0), (106, .astore_n 2, 1, 0, 0, 0), (107, .aload_n 1, 1, 0, 0, 0), (108, .aload_n 0, 1, 0, 0, 0), (109, .aload_n 2, 1, 0, 0, 0), (110, .aload_n 0, 1, 0, 0, 0), (111, .bipush 24, 2, 0, 0, 0), (113, .invokestatic 165, 3, 0, 0, 0)])
set_option maxRecDepth 100000 in
theorem ktL0 : fz_okK mtL0 = true := fz_okK_in (by decide +kernel)
def mtX10_back : fz_M := (yX10_back, prog_1_method_33_code, 1, (some .int), [(0, .aload_n 0, 1, 0, 0, 0), (1, .getfield 65, 3, 0, 0, 0), (4, .getfield 331, 3, 0, 0, 0), (7, .ifCond .ne 6, 3, 0, 0, 0), (10, .bipush (-5), 2, 0, 0, 0), (12, .ireturn, 1, 0, 0, 0), (13, .aload_n 0, 1, 0, 0, 0), (14, .getfield 65, 3, 0, 0, 0), (17, .invokevirtual 335, 3, 0, 0, 0), (20, .aload_n 0, 1, 0, 0, 0), (21, .getfield 65, 3, 0, 0, 0), (24, .getfield 310, 3, 0, 0, 0), (27, .ireturn, 1, 0, 0, 0)])
set_option maxRecDepth 100000 in
theorem ktX10_back : fz_okK mtX10_back = true := fz_okK_in (by decide +kernel)
set_option maxHeartbeats 4000000 in
set_option maxRecDepth 100000 in
theorem sn_back (D : st_D) (X : st_Xt) (qf : Nat → Nat) : st_R D X 1 0 0 mtX10_back 0 (lv_args 0 [.ref (qf 0)]) [] [((qf 0), .inr (12, [.ref (qf 1), .ref (qf 9), .ref (qf 15), .ref (qf 20), .ref (qf 27), .ref (qf 33), .ref (qf 35), .ref (qf 40), .ref (qf 44), .ref (qf 47)])), ((qf 40), .inr (3, [.ref (qf 41), .int (Int32.ofInt 0), .int (Int32.ofInt 0), .int (Int32.ofInt 0), .int (Int32.ofInt 0), .int (Int32.ofInt 0), .int (Int32.ofInt 0), .ref (qf 42), .ref (qf 43)]))] 0 0 (fun _ v => v = some (.int (Int32.ofInt (-5)))) := by
  show st_R D X 1 0 0 mtX10_back 0 [(0, .ref (qf 0))] [] _ 0 0 _
  refine st_aload_n 0 ktX10_back rfl rfl ?_
  refine st_get (ci := 12) (q0 := 0) (k := 7) (v := .ref (qf 40)) ktX10_back rfl rfl rfl (by decide) (fz_has (n := 2117) rfl rfl) rfl ?_
  refine st_get (ci := 3) (q0 := 1) (k := 6) (v := .int (Int32.ofInt 0)) ktX10_back rfl rfl rfl (by decide) (fz_has (n := 2042) rfl rfl) rfl ?_
  refine st_if_ne (tgt := 13) ⟨by decide, by decide⟩ ktX10_back rfl (by decide) (fun c => absurd rfl c) (fun _ => ?_)
  refine st_bipush ⟨by decide, by decide⟩ ktX10_back rfl ?_
  exact st_ireturn (ty := .int) ktX10_back rfl rfl rfl (Nat.le_refl _) (Nat.le_refl _) rfl
set_option maxHeartbeats 4000000 in
set_option maxRecDepth 100000 in
theorem sn_law (D : st_D) (X : st_Xt) (ca cv : Nat → Nat) (sc : Nat → Int) (t1 t2 : Nat) (hX1 : X.1 = kss ca cv) (hX2 : X.2.1 = kl ca) (hXs : sn_X X sc t1 t2) (hsc : ∀ j, -2147483648 ≤ sc j ∧ sc j ≤ 2147483647) (hL : 0 ≤ sc 100000 ∧ sc 100000 ≤ 3072) : st_R D X 60 1000 600000 mtL0 0 [(0, .ref X.2.2.2.1)] [] [] 0 0 (fun _ v => v = some (.int (Int32.ofInt 1))) := by
  have hsv : (((ca 0, cv 0) : Nat × Nat).1, ((ca 0, cv 0) : Nat × Nat).2, 0) ∈ X.1 := by rw [hX1]; simp [kss]
  have hsv15 : (((ca 15, cv 15) : Nat × Nat).1, ((ca 15, cv 15) : Nat × Nat).2, 20) ∈ X.1 := by rw [hX1]; simp [kss]
  refine sn_new ktL0 rfl rfl rfl (fz_has (n := 1024) rfl rfl) (fz_has (n := 1026) rfl rfl) (Nat.le_of_ble_eq_true rfl) (Nat.le_of_ble_eq_true rfl) (Nat.le_of_ble_eq_true rfl) (fun qa => ?_)
  refine st_ws (ws' := sn_ob D.2.1 D.2.2.1 qa) rfl ?_
  refine st_callV (x := qa 0) (Cn := RX10) (X' := X) (d' := 1) (NC' := 0) (NS' := 0) (M' := mtX10_back) (n := 0) (As := []) (st := []) (wc := [((qa 0), .inr (12, [.ref (qa 1), .ref (qa 9), .ref (qa 15), .ref (qa 20), .ref (qa 27), .ref (qa 33), .ref (qa 35), .ref (qa 40), .ref (qa 44), .ref (qa 47)])), ((qa 40), .inr (3, [.ref (qa 41), .int (Int32.ofInt 0), .int (Int32.ofInt 0), .int (Int32.ofInt 0), .int (Int32.ofInt 0), .int (Int32.ofInt 0), .int (Int32.ofInt 0), .ref (qa 42), .ref (qa 43)]))]) (wr := [((qa 36), .inl (D.2.1, 40, .inl (fun _ => Int32.ofInt 0)))]) [0, 40] [36] ktL0 rfl ⟨(fz_has (n := 4150) rfl rfl), (fz_has (n := 4151) rfl rfl), (fz_has (n := 1001) rfl rfl), Or.inl ⟨rfl, (fz_has (n := 4152) rfl rfl)⟩⟩ (fz_has (n := 4153) rfl rfl) (by decide +kernel) (Or.inl ⟨0, 12, _, _, _, rfl, rfl⟩) rfl rfl (Nat.le_of_ble_eq_true rfl) (Nat.le_of_ble_eq_true rfl) (Nat.le_of_ble_eq_true rfl) (Nat.le_of_ble_eq_true rfl) (Nat.le_of_ble_eq_true rfl) rfl rfl (by decide) (by decide) (by decide) ⟨rfl, fun q hq => Or.inl hq⟩ (sn_back D X qa) (fun ws1 v hq => ?_)
  subst hq
  refine st_st (st' := [.int (Int32.ofInt (-5))]) rfl ?_
  refine st_sub (ws' := [((qa 36), .inl (D.2.1, 40, .inl (fun _ => Int32.ofInt 0)))]) [0] rfl (by decide) ?_
  refine st_bipush ⟨by decide, by decide⟩ ktL0 rfl ?_
  refine st_icmp_ne (tgt := 92) ⟨by decide, by decide⟩ ⟨by decide, by decide⟩ ktL0 rfl (by decide) (fun c => absurd rfl c) (fun _ => ?_)
  refine sn_new ktL0 rfl rfl rfl (fz_has (n := 1024) rfl rfl) (fz_has (n := 1026) rfl rfl) (Nat.le_of_ble_eq_true rfl) (Nat.le_of_ble_eq_true rfl) (Nat.le_of_ble_eq_true rfl) (fun qb => ?_)
  refine sn_ask (d' := 2) (M' := mX10_image) (n := 0) (As := []) (sc := sc) (t1 := t1) (t2 := t2) (nn := 0) (sv := (ca 0, cv 0)) hsc (by decide) hXs hsv ktL0 rfl (fz_has (n := 4141) rfl rfl) vX10_image rfl rfl rfl (Nat.le_of_ble_eq_true rfl) (Nat.le_of_ble_eq_true rfl) (fun _ z => by cases z) (Nat.le_of_ble_eq_true rfl) (Nat.le_of_ble_eq_true rfl) (sX10_image _ (sn_h_I hsc (fun j => ⟨(fz_b32 _).1, by have := (fz_b32 (Int32.ofInt 0)).2; omega⟩) (by decide)) sn_h_RT) (fun fqb hqb rqb qqb => ?_)
  obtain ⟨-, -, -, r, rfl, -, g1, -, -⟩ := qqb
  have eqb : r = 0 := g1
  subst eqb
  refine st_st (st' := [.int (Int32.ofInt 0)]) rfl ?_
  refine st_if_ne (tgt := 92) ⟨by decide, by decide⟩ ktL0 rfl (by decide) (fun c => absurd rfl c) (fun _ => ?_)
  refine sn_new ktL0 rfl rfl rfl (fz_has (n := 1024) rfl rfl) (fz_has (n := 1026) rfl rfl) (Nat.le_of_ble_eq_true rfl) (Nat.le_of_ble_eq_true rfl) (Nat.le_of_ble_eq_true rfl) (fun qc => ?_)
  refine st_iconst ktL0 rfl ?_
  refine st_iconst ktL0 rfl ?_
  refine sn_ask (d' := 2) (M' := mX10_does) (n := 2) (As := [fz_i 0, fz_i 1]) (sc := sc) (t1 := t1) (t2 := t2) (nn := 0) (sv := (ca 0, cv 0)) hsc (by decide) hXs hsv ktL0 rfl (fz_has (n := 4133) rfl rfl) vX10_does rfl rfl rfl (Nat.le_of_ble_eq_true rfl) (Nat.le_of_ble_eq_true rfl) (List.forall_mem_cons.mpr ⟨sn_nv ⟨by decide, by decide⟩, (List.forall_mem_cons.mpr ⟨sn_nv ⟨by decide, by decide⟩, (fun _ z => by cases z)⟩)⟩) (Nat.le_of_ble_eq_true rfl) (Nat.le_of_ble_eq_true rfl) (sX10_does _ (sn_h_I hsc (fun j => ⟨(fz_b32 _).1, by have := (fz_b32 (fqb j)).2; omega⟩) (by decide)) 0 1) (fun fqc hqc rqc qqc => ?_)
  obtain ⟨-, -, r, rfl, -, g1, -, -, -⟩ := qqc
  have eqc : r = (-1) := by
    rcases g1 with ⟨z, -⟩ | ⟨z, -⟩ | ⟨-, z, -⟩
    · exact absurd (show (0 : Int) < 0 from z.2.2.2.2.2) (by decide)
    · exact absurd (show (0 : Int) < 0 from z.2.2.2.2.2) (by decide)
    · exact z
  subst eqc
  refine st_st (st' := [.int (Int32.ofInt (-1))]) rfl ?_
  refine st_iconst ktL0 rfl ?_
  refine st_icmp_ne (tgt := 92) ⟨by decide, by decide⟩ ⟨by decide, by decide⟩ ktL0 rfl (by decide) (fun c => absurd rfl c) (fun _ => ?_)
  refine sn_new ktL0 rfl rfl rfl (fz_has (n := 1024) rfl rfl) (fz_has (n := 1026) rfl rfl) (Nat.le_of_ble_eq_true rfl) (Nat.le_of_ble_eq_true rfl) (Nat.le_of_ble_eq_true rfl) (fun qd => ?_)
  refine st_iconst ktL0 rfl ?_
  refine st_iconst ktL0 rfl ?_
  refine sn_ask (d' := 5) (M' := mX10_walk) (n := 2) (As := [fz_i 0, fz_i 0]) (sc := sc) (t1 := t1) (t2 := t2) (nn := 0) (sv := (ca 0, cv 0)) hsc (by decide) hXs hsv ktL0 rfl (fz_has (n := 4124) rfl rfl) vX10_walk rfl rfl rfl (Nat.le_of_ble_eq_true rfl) (Nat.le_of_ble_eq_true rfl) (List.forall_mem_cons.mpr ⟨sn_nv ⟨by decide, by decide⟩, (List.forall_mem_cons.mpr ⟨sn_nv ⟨by decide, by decide⟩, (fun _ z => by cases z)⟩)⟩) (Nat.le_of_ble_eq_true rfl) (Nat.le_of_ble_eq_true rfl) (sX10_walk _ (sn_h_I hsc (fun j => ⟨(fz_b32 _).1, by have := (fz_b32 (fqc j)).2; omega⟩) (by decide)) 0 0 sn_h_RT sn_h_RE) (fun fqd hqd rqd qqd => ?_)
  obtain ⟨-, -, -, -, r, rfl, -, g1, -, -, -⟩ := qqd
  have eqd : r = (-1) := sn_wk0 g1 rfl
  subst eqd
  refine st_st (st' := [.int (Int32.ofInt (-1))]) rfl ?_
  refine st_iconst ktL0 rfl ?_
  refine st_icmp_ne (tgt := 92) ⟨by decide, by decide⟩ ⟨by decide, by decide⟩ ktL0 rfl (by decide) (fun c => absurd rfl c) (fun _ => ?_)
  refine sn_new ktL0 rfl rfl rfl (fz_has (n := 1024) rfl rfl) (fz_has (n := 1026) rfl rfl) (Nat.le_of_ble_eq_true rfl) (Nat.le_of_ble_eq_true rfl) (Nat.le_of_ble_eq_true rfl) (fun qe => ?_)
  refine st_iconst ktL0 rfl ?_
  refine st_iconst ktL0 rfl ?_
  refine st_iconst ktL0 rfl ?_
  refine sn_ask (d' := 6) (M' := mX10_atHour) (n := 3) (As := [fz_i 0, fz_i 0, fz_i 0]) (sc := sc) (t1 := t1) (t2 := t2) (nn := 0) (sv := (ca 0, cv 0)) hsc (by decide) hXs hsv ktL0 rfl (fz_has (n := 3197) rfl rfl) vX10_atHour rfl rfl rfl (Nat.le_of_ble_eq_true rfl) (Nat.le_of_ble_eq_true rfl) (List.forall_mem_cons.mpr ⟨sn_nv ⟨by decide, by decide⟩, (List.forall_mem_cons.mpr ⟨sn_nv ⟨by decide, by decide⟩, (List.forall_mem_cons.mpr ⟨sn_nv ⟨by decide, by decide⟩, (fun _ z => by cases z)⟩)⟩)⟩) (Nat.le_of_ble_eq_true rfl) (Nat.le_of_ble_eq_true rfl) (sX10_atHour _ (sn_h_I hsc (fun j => ⟨(fz_b32 _).1, by have := (fz_b32 (fqd j)).2; omega⟩) (by decide)) 0 0 0) (fun fqe hqe rqe qqe => ?_)
  obtain ⟨-, -, r, rfl, -, g1⟩ := qqe
  have eqe : r = 0 := sn_ah0 g1 rfl
  subst eqe
  refine st_st (st' := [.int (Int32.ofInt 0)]) rfl ?_
  refine st_if_ne (tgt := 92) ⟨by decide, by decide⟩ ktL0 rfl (by decide) (fun c => absurd rfl c) (fun _ => ?_)
  refine sn_new ktL0 rfl rfl rfl (fz_has (n := 1024) rfl rfl) (fz_has (n := 1026) rfl rfl) (Nat.le_of_ble_eq_true rfl) (Nat.le_of_ble_eq_true rfl) (Nat.le_of_ble_eq_true rfl) (fun qg => ?_)
  refine st_iconst ktL0 rfl ?_
  refine st_iconst ktL0 rfl ?_
  refine st_iconst ktL0 rfl ?_
  refine sn_ask (d' := 5) (M' := mX10_free) (n := 3) (As := [fz_i 0, fz_i 0, fz_i 0]) (sc := sc) (t1 := t1) (t2 := t2) (nn := 0) (sv := (ca 0, cv 0)) hsc (by decide) hXs hsv ktL0 rfl (fz_has (n := 4025) rfl rfl) vX10_free rfl rfl rfl (Nat.le_of_ble_eq_true rfl) (Nat.le_of_ble_eq_true rfl) (List.forall_mem_cons.mpr ⟨sn_nv ⟨by decide, by decide⟩, (List.forall_mem_cons.mpr ⟨sn_nv ⟨by decide, by decide⟩, (List.forall_mem_cons.mpr ⟨sn_nv ⟨by decide, by decide⟩, (fun _ z => by cases z)⟩)⟩)⟩) (Nat.le_of_ble_eq_true rfl) (Nat.le_of_ble_eq_true rfl) (sX10_free _ (sn_h_I hsc (fun j => ⟨(fz_b32 _).1, by have := (fz_b32 (fqe j)).2; omega⟩) (by decide)) 0 0 0) (fun fqg hqg rqg qqg => ?_)
  obtain ⟨-, -, r, rfl, -, g1⟩ := qqg
  have eqg : r = 0 := sn_fr0 g1 rfl
  subst eqg
  refine st_st (st' := [.int (Int32.ofInt 0)]) rfl ?_
  refine st_if_eq (tgt := 94) ⟨by decide, by decide⟩ ktL0 rfl (by decide) (fun _ => ?_) (fun c => absurd rfl c)
  refine sn_new ktL0 rfl rfl rfl (fz_has (n := 1024) rfl rfl) (fz_has (n := 1026) rfl rfl) (Nat.le_of_ble_eq_true rfl) (Nat.le_of_ble_eq_true rfl) (Nat.le_of_ble_eq_true rfl) (fun qz => ?_)
  refine st_astore_n (ls' := [(1, .ref (qz 0)), (0, .ref X.2.2.2.1)]) ktL0 rfl (by decide) rfl ?_
  refine st_bipush ⟨by decide, by decide⟩ ktL0 rfl ?_
  refine sn_newI (N := 40) ktL0 rfl ⟨by decide, by decide⟩ rfl (Nat.le_of_ble_eq_true rfl) (Nat.le_of_ble_eq_true rfl) (fun qn => ?_)
  refine st_sub (ws' := sn_ob D.2.1 D.2.2.1 qz ++ [(qn, .inl (D.2.1, 40, .inl (fun _ => Int32.ofInt 0)))]) [1, 2, 3, 4, 5, 6, 7, 8, 9, 10, 11, 12, 13, 14, 15, 16, 17, 18, 19, 20, 21, 22, 23, 24, 25, 26, 27, 28, 29, 30, 31, 32, 33, 34, 35, 36, 37, 38, 39, 40, 41, 42, 43, 44, 45, 46, 47, 48, 49, 50, 51, 52, 53, 54] rfl (by decide) ?_
  refine st_astore_n (ls' := [(2, .ref qn), (1, .ref (qz 0)), (0, .ref X.2.2.2.1)]) ktL0 rfl (by decide) rfl ?_
  refine st_aload_n 1 ktL0 rfl rfl ?_
  refine st_aload_n 2 ktL0 rfl rfl ?_
  refine st_aload_n 0 ktL0 rfl rfl ?_
  refine st_aload_n 2 ktL0 rfl rfl ?_
  refine st_bipush ⟨by decide, by decide⟩ ktL0 rfl ?_
  refine st_callS (X' := (kss ca cv, X.2)) (d' := 9) (NC' := 500) (NS' := 500000) (M' := mtL_text) (n := 2) (As := [.ref X.2.2.2.1, .int (Int32.ofInt 24)]) (st := [.ref qn, .ref X.2.2.2.1, .ref (qz 0)]) (wc := []) (wr := sn_ob D.2.1 D.2.2.1 qz ++ [(qn, .inl (D.2.1, 40, .inl (fun _ => Int32.ofInt 0)))]) [] [0, 1, 2, 3, 4, 5, 6, 7, 8, 9, 10, 11, 12, 13, 14, 15, 16, 17, 18, 19, 20, 21, 22, 23, 24, 25, 26, 27, 28, 29, 30, 31, 32, 33, 34, 35, 36, 37, 38, 39, 40, 41, 42, 43, 44, 45, 46, 47, 48, 49, 50, 51, 52, 53] ktL0 rfl (fz_has (n := 4218) rfl rfl) (fz_has (n := 4220) rfl rfl) (fz_has (n := 1000) rfl rfl) (fz_has (n := 4219) rfl rfl) (by decide +kernel) rfl rfl (Nat.le_of_ble_eq_true rfl) (Nat.le_of_ble_eq_true rfl) (Nat.le_of_ble_eq_true rfl) (Nat.le_of_ble_eq_true rfl) (Nat.le_of_ble_eq_true rfl) rfl rfl (by decide) (by decide) (by decide) ⟨rfl, fun q hq => Or.inl (by rw [hX1]; exact hq)⟩ (tt_text D X ca cv hX2 24 ⟨by decide, by decide⟩ (by rw [hXs.1]; omega)) (fun ws1 v hq => ?_)
  have hz0 : ∀ j : Nat, (-2147483648 : Int) ≤ (fun _ => 0 : Nat → Int) j ∧ (fun _ => 0 : Nat → Int) j ≤ 2147483647 := fun _ => ⟨(show (-2147483648 : Int) ≤ 0 by decide), (show (0 : Int) ≤ 2147483647 by decide)⟩
  have hs4 : ∀ v ∈ [fz_r 205, fz_r 53, fz_r 200, fz_r 0], fz_nv v := List.forall_mem_cons.mpr ⟨trivial, List.forall_mem_cons.mpr ⟨trivial, List.forall_mem_cons.mpr ⟨trivial, List.forall_mem_cons.mpr ⟨trivial, fun _ z => by cases z⟩⟩⟩⟩
  have hs3 : ∀ q ∈ [(0, fz_r 200), (1, fz_r 0), (2, fz_r 53)], fz_nv q.2 := List.forall_mem_cons.mpr ⟨trivial, List.forall_mem_cons.mpr ⟨trivial, List.forall_mem_cons.mpr ⟨trivial, fun _ z => by cases z⟩⟩⟩
  rcases hq with ⟨i, rfl, hi, rfl⟩ | ⟨r, u, k, g, hg, hk, rfl, rfl⟩
  · refine st_st (st' := [.ref (ca i), .ref qn, .ref X.2.2.2.1, .ref (qz 0)]) rfl ?_
    refine st_ws (ws' := sn_ob D.2.1 D.2.2.1 qz ++ [(qn, .inl (D.2.1, 40, .inl (fun _ => Int32.ofInt 0)))]) rfl ?_
    rcases hi with rfl | rfl
    · refine sn_toF (X' := X) (E := sn_E D X qz qn (ca 0, cv 0) t1 t2 (sn_h sc (fun _ => 0) 0)) (h := sn_h sc (fun _ => 0) 0) (Mf := mL_law) (d2 := 48) (lf := [(0, fz_r 200), (1, fz_r 0), (2, fz_r 53)]) (sf := [fz_r 205, fz_r 53, fz_r 200, fz_r 0]) (Q2 := qL_law (sn_h sc (fun _ => 0) 0)) [0, 1, 2, 3, 4, 5, 6, 7, 8, 9, 10, 11, 12, 13, 14, 15, 16, 17, 18, 19, 20, 21, 22, 23, 24, 25, 26, 27, 28, 29, 30, 31, 32, 33, 34, 35, 36, 37, 38, 39, 40, 41, 42, 43, 44, 45, 46, 47, 48, 49, 50, 51, 52, 53] ⟨rfl, rfl, rfl⟩ rfl rfl ⟨rfl, rfl, rfl⟩ (by rw [← sn_ob_ws]; rfl) (by decide) ⟨rfl, fun q hq => Or.inl hq⟩ (sn_EX (X := X) hXs hsv) (sn_h_nh hsc hz0 (by decide)) (fun _ _ => rfl) rfl hs4 (fun _ z => lv_sub z [2, 1, 0] rfl) hs3 (Nat.le_of_ble_eq_true rfl) (Nat.le_of_ble_eq_true rfl) (Nat.le_of_ble_eq_true rfl) (sL_l116 (sn_h sc (fun _ => 0) 0) (sn_h sc (fun _ => 0) 0) (sn_h_I hsc hz0 (by decide)) fz_fr_rf sn_h_Xc sn_h_RE sn_h_RV sn_h_Z hL hL ⟨(by show (0 : Int) ≤ ((0 : Nat) : Int); omega), (by show ((0 : Nat) : Int) ≤ 120; omega)⟩ ⟨rfl, rfl, rfl, rfl, rfl⟩ ⟨rfl, rfl⟩ (fun _ _ => rfl)) (fun h' x q => ?_)
      obtain ⟨-, -, -, -, -, r, g1, g2⟩ := q
      cases g1
      exact congrArg (fun z => some (Value.int (Int32.ofInt z))) g2
    · refine sn_toF (X' := X) (E := sn_E D X qz qn (ca 15, cv 15) t1 t2 (sn_h sc (fun _ => 0) 20)) (h := sn_h sc (fun _ => 0) 20) (Mf := mL_law) (d2 := 48) (lf := [(0, fz_r 200), (1, fz_r 0), (2, fz_r 53)]) (sf := [fz_r 205, fz_r 53, fz_r 200, fz_r 0]) (Q2 := qL_law (sn_h sc (fun _ => 0) 20)) [0, 1, 2, 3, 4, 5, 6, 7, 8, 9, 10, 11, 12, 13, 14, 15, 16, 17, 18, 19, 20, 21, 22, 23, 24, 25, 26, 27, 28, 29, 30, 31, 32, 33, 34, 35, 36, 37, 38, 39, 40, 41, 42, 43, 44, 45, 46, 47, 48, 49, 50, 51, 52, 53] ⟨rfl, rfl, rfl⟩ rfl rfl ⟨rfl, rfl, rfl⟩ (by rw [← sn_ob_ws]; rfl) (by decide) ⟨rfl, fun q hq => Or.inl hq⟩ (sn_EX (X := X) hXs hsv15) (sn_h_nh hsc hz0 (by decide)) (fun _ _ => rfl) rfl hs4 (fun _ z => lv_sub z [2, 1, 0] rfl) hs3 (Nat.le_of_ble_eq_true rfl) (Nat.le_of_ble_eq_true rfl) (Nat.le_of_ble_eq_true rfl) (sL_l116 (sn_h sc (fun _ => 0) 20) (sn_h sc (fun _ => 0) 20) (sn_h_I hsc hz0 (by decide)) fz_fr_rf sn_h_Xc sn_h_RE sn_h_RV sn_h_Z hL hL ⟨(by show (0 : Int) ≤ ((20 : Nat) : Int); omega), (by show ((20 : Nat) : Int) ≤ 120; omega)⟩ ⟨rfl, rfl, rfl, rfl, rfl⟩ ⟨rfl, rfl⟩ (fun _ _ => rfl)) (fun h' x q => ?_)
      obtain ⟨-, -, -, -, -, r, g1, g2⟩ := q
      cases g1
      exact congrArg (fun z => some (Value.int (Int32.ofInt z))) g2
  · refine st_st (st' := [.ref r, .ref qn, .ref X.2.2.2.1, .ref (qz 0)]) rfl ?_
    refine st_ws (ws' := (sn_ob D.2.1 D.2.2.1 qz ++ [(qn, .inl (D.2.1, 40, .inl (fun _ => Int32.ofInt 0)))] ++ [(r, .inr (0, [.ref u, .int (Int32.ofInt 0), .int (Int32.ofInt 0), .int (Int32.ofInt 0)])), (u, .inl (D.2.2.2, k, .inl g))])) rfl ?_
    refine sn_toF (X' := ((r, u, k) :: X.1, X.2)) (E := sn_E D ((r, u, k) :: X.1, X.2) qz qn (r, u) t1 t2 (sn_h sc (fun _ => 0) k)) (h := sn_h sc (fun _ => 0) k) (Mf := mL_law) (d2 := 48) (lf := [(0, fz_r 200), (1, fz_r 0), (2, fz_r 53)]) (sf := [fz_r 205, fz_r 53, fz_r 200, fz_r 0]) (Q2 := qL_law (sn_h sc (fun _ => 0) k)) [0, 1, 2, 3, 4, 5, 6, 7, 8, 9, 10, 11, 12, 13, 14, 15, 16, 17, 18, 19, 20, 21, 22, 23, 24, 25, 26, 27, 28, 29, 30, 31, 32, 33, 34, 35, 36, 37, 38, 39, 40, 41, 42, 43, 44, 45, 46, 47, 48, 49, 50, 51, 52, 53] ⟨rfl, rfl, rfl⟩ rfl rfl ⟨rfl, rfl, rfl⟩ (by rw [← sn_ob_ws]; rfl) (by decide) ⟨rfl, fun q hq => (by
      rcases List.mem_cons.mp hq with rfl | hq
      · exact Or.inr ⟨54, 55, Int32.ofInt 0, Int32.ofInt 0, g, rfl, rfl, hg, by show k < 100000; omega, by decide, by decide⟩
      · exact Or.inl hq)⟩ (sn_EX (X := ((r, u, k) :: X.1, X.2)) hXs List.mem_cons_self) (sn_h_nh hsc hz0 (by omega)) (fun _ _ => rfl) rfl hs4 (fun _ z => lv_sub z [2, 1, 0] rfl) hs3 (Nat.le_of_ble_eq_true rfl) (Nat.le_of_ble_eq_true rfl) (Nat.le_of_ble_eq_true rfl) (sL_l116 (sn_h sc (fun _ => 0) k) (sn_h sc (fun _ => 0) k) (sn_h_I hsc hz0 (by omega)) fz_fr_rf sn_h_Xc sn_h_RE sn_h_RV sn_h_Z hL hL ⟨(by show (0 : Int) ≤ (k : Int); omega), (by show (k : Int) ≤ 120; omega)⟩ ⟨rfl, rfl, rfl, rfl, rfl⟩ ⟨rfl, rfl⟩ (fun _ _ => rfl)) (fun h' x q => ?_)
    obtain ⟨-, -, -, -, -, r, g1, g2⟩ := q
    cases g1
    exact congrArg (fun z => some (Value.int (Int32.ofInt z))) g2
