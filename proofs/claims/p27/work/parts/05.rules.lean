/-! ===== rules ===== -/
theorem fz_n0 {st : List fz_V} {r : fz_V} (hr : fz_nv r) (hs : ∀ q ∈ st, fz_nv q) : ∀ q ∈ r :: st, fz_nv q := fun q hq => (List.mem_cons.mp hq).elim (fun z => z ▸ hr) (hs q)
theorem fz_n1 {st : List fz_V} {u r : fz_V} (hr : fz_nv r) (hs : ∀ q ∈ u :: st, fz_nv q) : ∀ q ∈ r :: st, fz_nv q := fz_n0 hr (fun q hq => hs q (List.mem_cons_of_mem _ hq))
theorem fz_n2 {st : List fz_V} {u v r : fz_V} (hr : fz_nv r) (hs : ∀ q ∈ u :: v :: st, fz_nv q) : ∀ q ∈ r :: st, fz_nv q := fz_n1 hr (fun q hq => hs q (List.mem_cons_of_mem _ hq))
theorem fz_h1 {st : List fz_V} {u : fz_V} (hs : ∀ q ∈ u :: st, fz_nv q) : fz_nv u := hs _ List.mem_cons_self
theorem fz_h2 {st : List fz_V} {u v : fz_V} (hs : ∀ q ∈ u :: v :: st, fz_nv q) : fz_nv v := hs _ (List.mem_cons_of_mem _ List.mem_cons_self)
theorem fz_tl {st : List fz_V} {u : fz_V} (hs : ∀ q ∈ u :: st, fz_nv q) : ∀ q ∈ st, fz_nv q := fun q hq => hs q (List.mem_cons_of_mem _ hq)
theorem fz_e_i8 {n : Int} (h : -128 ≤ n ∧ n < 128) : (Int8.ofInt n).toInt32 = Int32.ofInt n := by
  apply Int32.toInt_inj.mp
  rw [Int8.toInt_toInt32, Int8.toInt_ofInt_of_le h.1 h.2, fz_t32 ⟨by omega, by omega⟩]
theorem fz_e_i16 {n : Int} (h : -32768 ≤ n ∧ n < 32768) : (Int16.ofInt n).toInt32 = Int32.ofInt n := by
  apply Int32.toInt_inj.mp
  rw [Int16.toInt_toInt32, Int16.toInt_ofInt_of_le h.1 h.2, fz_t32 ⟨by omega, by omega⟩]
theorem fz_e_0 : (0 : Int32) = Int32.ofInt 0 := rfl
section FZ
variable {d : Nat} {M : fz_M} {pc a b w : Nat} {ls : List (Nat × fz_V)} {st : List fz_V} {h : fz_H} {Q : fz_H → Option fz_V → Prop}
theorem fz_iconst {n : Int} (hn : -128 ≤ n ∧ n < 128) (hM : fz_okM M = true) (hc : fz_at M.2.2.2.2 pc = some (.iconst n, 1, a, b, w)) (k : fz_R d M (pc + 1) ls (fz_i n :: st) h Q) : fz_R d M pc ls st h Q :=
  fz_pure (fun hs => fz_n0 (show fz_nv (fz_i n) from ⟨by omega, by omega⟩) hs) (fun E p l e R s m args below meth c cells slots Qf H locs lsc hx hb hs kk => lv_iconst hx hb (fz_dec hM hc) rfl kk) k
theorem fz_bipush {n : Int} (hn : -128 ≤ n ∧ n < 128) (hM : fz_okM M = true) (hc : fz_at M.2.2.2.2 pc = some (.bipush n, 2, a, b, w)) (k : fz_R d M (pc + 2) ls (fz_i n :: st) h Q) : fz_R d M pc ls st h Q :=
  fz_pure (fun hs => fz_n0 (show fz_nv (fz_i n) from ⟨by omega, by omega⟩) hs) (fun E p l e R s m args below meth c cells slots Qf H locs lsc hx hb hs kk => lv_bipush hx hb (fz_dec hM hc) (fz_e_i8 hn) kk) k
theorem fz_sipush {n : Int} (hn : -32768 ≤ n ∧ n < 32768) (hM : fz_okM M = true) (hc : fz_at M.2.2.2.2 pc = some (.sipush n, 3, a, b, w)) (k : fz_R d M (pc + 3) ls (fz_i n :: st) h Q) : fz_R d M pc ls st h Q :=
  fz_pure (fun hs => fz_n0 (show fz_nv (fz_i n) from ⟨by omega, by omega⟩) hs) (fun E p l e R s m args below meth c cells slots Qf H locs lsc hx hb hs kk => lv_sipush hx hb (fz_dec hM hc) (fz_e_i16 hn) kk) k
theorem fz_lconst {n : Fin 2} {x : Int} (hn : -128 ≤ x ∧ x < 128) (hv : Int64.ofNat (n : Nat) = Int64.ofInt x) (hM : fz_okM M = true) (hc : fz_at M.2.2.2.2 pc = some (.lconst n, 1, a, b, w)) (k : fz_R d M (pc + 1) ls (fz_l x :: st) h Q) : fz_R d M pc ls st h Q :=
  fz_pure (fun hs => fz_n0 (show fz_nv (fz_l x) from ⟨by omega, by omega⟩) hs) (fun E p l e R s m args below meth c cells slots Qf H locs lsc hx hb hs kk => lv_lconst hx hb (fz_dec hM hc) hv kk) k
theorem fz_iadd {x y : Int} (hM : fz_okM M = true) (hc : fz_at M.2.2.2.2 pc = some (.iadd, 1, a, b, w)) (k : fz_R d M (pc + 1) ls (fz_i (fz_w (x + y)) :: st) h Q) : fz_R d M pc ls (fz_i y :: fz_i x :: st) h Q := by
  refine fz_pure (fun hs => fz_n2 (show fz_nv (fz_i _) from fz_w_b _) hs) (fun E p l e R s m args below meth c cells slots Qf H locs lsc hx hb hs kk => ?_) k
  show W p l e R s m args below meth c H locs cells slots Qf (F0 m pc lsc (.int (Int32.ofInt y) :: .int (Int32.ofInt x) :: st.map (fz_cv (fz_ad E))))
  have hy1 : -2147483648 ≤ y ∧ y < 2147483648 := fz_h1 hs
  have hx1 : -2147483648 ≤ x ∧ x < 2147483648 := fz_h2 hs
  refine lv_iadd hx hb (fz_dec hM hc) ?_
  rw [fz_e_add]
  exact kk
theorem fz_isub {x y : Int} (hM : fz_okM M = true) (hc : fz_at M.2.2.2.2 pc = some (.isub, 1, a, b, w)) (k : fz_R d M (pc + 1) ls (fz_i (fz_w (x - y)) :: st) h Q) : fz_R d M pc ls (fz_i y :: fz_i x :: st) h Q := by
  refine fz_pure (fun hs => fz_n2 (show fz_nv (fz_i _) from fz_w_b _) hs) (fun E p l e R s m args below meth c cells slots Qf H locs lsc hx hb hs kk => ?_) k
  show W p l e R s m args below meth c H locs cells slots Qf (F0 m pc lsc (.int (Int32.ofInt y) :: .int (Int32.ofInt x) :: st.map (fz_cv (fz_ad E))))
  have hy1 : -2147483648 ≤ y ∧ y < 2147483648 := fz_h1 hs
  have hx1 : -2147483648 ≤ x ∧ x < 2147483648 := fz_h2 hs
  refine lv_isub hx hb (fz_dec hM hc) ?_
  rw [fz_e_sub]
  exact kk
theorem fz_imul {x y : Int} (hM : fz_okM M = true) (hc : fz_at M.2.2.2.2 pc = some (.imul, 1, a, b, w)) (k : fz_R d M (pc + 1) ls (fz_i (fz_w (x * y)) :: st) h Q) : fz_R d M pc ls (fz_i y :: fz_i x :: st) h Q := by
  refine fz_pure (fun hs => fz_n2 (show fz_nv (fz_i _) from fz_w_b _) hs) (fun E p l e R s m args below meth c cells slots Qf H locs lsc hx hb hs kk => ?_) k
  show W p l e R s m args below meth c H locs cells slots Qf (F0 m pc lsc (.int (Int32.ofInt y) :: .int (Int32.ofInt x) :: st.map (fz_cv (fz_ad E))))
  have hy1 : -2147483648 ≤ y ∧ y < 2147483648 := fz_h1 hs
  have hx1 : -2147483648 ≤ x ∧ x < 2147483648 := fz_h2 hs
  refine lv_imul hx hb (fz_dec hM hc) ?_
  rw [fz_e_mul]
  exact kk
theorem fz_idiv {x y : Int} (hne : ¬ y = 0) (hM : fz_okM M = true) (hc : fz_at M.2.2.2.2 pc = some (.idiv, 1, a, b, w)) (k : fz_R d M (pc + 1) ls (fz_i (fz_w (Int.tdiv x y)) :: st) h Q) : fz_R d M pc ls (fz_i y :: fz_i x :: st) h Q := by
  refine fz_pure (fun hs => fz_n2 (show fz_nv (fz_i _) from fz_w_b _) hs) (fun E p l e R s m args below meth c cells slots Qf H locs lsc hx hb hs kk => ?_) k
  show W p l e R s m args below meth c H locs cells slots Qf (F0 m pc lsc (.int (Int32.ofInt y) :: .int (Int32.ofInt x) :: st.map (fz_cv (fz_ad E))))
  have hy1 : -2147483648 ≤ y ∧ y < 2147483648 := fz_h1 hs
  have hx1 : -2147483648 ≤ x ∧ x < 2147483648 := fz_h2 hs
  refine lv_idiv hx hb (fz_dec hM hc) (fun z => hne ((fz_eq hy1 ⟨by omega, by omega⟩).mp (z.trans fz_e_0))) ?_
  rw [fz_e_div hx1 hy1]
  exact kk
theorem fz_irem {x y : Int} (hne : ¬ y = 0) (hM : fz_okM M = true) (hc : fz_at M.2.2.2.2 pc = some (.irem, 1, a, b, w)) (k : fz_R d M (pc + 1) ls (fz_i (fz_w (Int.tmod x y)) :: st) h Q) : fz_R d M pc ls (fz_i y :: fz_i x :: st) h Q := by
  refine fz_pure (fun hs => fz_n2 (show fz_nv (fz_i _) from fz_w_b _) hs) (fun E p l e R s m args below meth c cells slots Qf H locs lsc hx hb hs kk => ?_) k
  show W p l e R s m args below meth c H locs cells slots Qf (F0 m pc lsc (.int (Int32.ofInt y) :: .int (Int32.ofInt x) :: st.map (fz_cv (fz_ad E))))
  have hy1 : -2147483648 ≤ y ∧ y < 2147483648 := fz_h1 hs
  have hx1 : -2147483648 ≤ x ∧ x < 2147483648 := fz_h2 hs
  refine lv_irem hx hb (fz_dec hM hc) (fun z => hne ((fz_eq hy1 ⟨by omega, by omega⟩).mp (z.trans fz_e_0))) ?_
  rw [fz_e_rem hx1 hy1]
  exact kk
theorem fz_iand {x y : Int} (hM : fz_okM M = true) (hc : fz_at M.2.2.2.2 pc = some (.iand, 1, a, b, w)) (k : fz_R d M (pc + 1) ls (fz_i (fz_and x y) :: st) h Q) : fz_R d M pc ls (fz_i y :: fz_i x :: st) h Q := by
  refine fz_pure (fun hs => fz_n2 (show fz_nv (fz_i _) from fz_b32 _) hs) (fun E p l e R s m args below meth c cells slots Qf H locs lsc hx hb hs kk => ?_) k
  show W p l e R s m args below meth c H locs cells slots Qf (F0 m pc lsc (.int (Int32.ofInt y) :: .int (Int32.ofInt x) :: st.map (fz_cv (fz_ad E))))
  have hy1 : -2147483648 ≤ y ∧ y < 2147483648 := fz_h1 hs
  have hx1 : -2147483648 ≤ x ∧ x < 2147483648 := fz_h2 hs
  refine lv_iand hx hb (fz_dec hM hc) ?_
  rw [show Int32.ofInt x &&& Int32.ofInt y = Int32.ofInt (fz_and x y) from (fz_r32 _).symm]
  exact kk
theorem fz_ior {x y : Int} (hM : fz_okM M = true) (hc : fz_at M.2.2.2.2 pc = some (.ior, 1, a, b, w)) (k : fz_R d M (pc + 1) ls (fz_i (fz_or x y) :: st) h Q) : fz_R d M pc ls (fz_i y :: fz_i x :: st) h Q := by
  refine fz_pure (fun hs => fz_n2 (show fz_nv (fz_i _) from fz_b32 _) hs) (fun E p l e R s m args below meth c cells slots Qf H locs lsc hx hb hs kk => ?_) k
  show W p l e R s m args below meth c H locs cells slots Qf (F0 m pc lsc (.int (Int32.ofInt y) :: .int (Int32.ofInt x) :: st.map (fz_cv (fz_ad E))))
  have hy1 : -2147483648 ≤ y ∧ y < 2147483648 := fz_h1 hs
  have hx1 : -2147483648 ≤ x ∧ x < 2147483648 := fz_h2 hs
  refine lv_ior hx hb (fz_dec hM hc) ?_
  rw [show Int32.ofInt x ||| Int32.ofInt y = Int32.ofInt (fz_or x y) from (fz_r32 _).symm]
  exact kk
theorem fz_ixor {x y : Int} (hM : fz_okM M = true) (hc : fz_at M.2.2.2.2 pc = some (.ixor, 1, a, b, w)) (k : fz_R d M (pc + 1) ls (fz_i (fz_xor x y) :: st) h Q) : fz_R d M pc ls (fz_i y :: fz_i x :: st) h Q := by
  refine fz_pure (fun hs => fz_n2 (show fz_nv (fz_i _) from fz_b32 _) hs) (fun E p l e R s m args below meth c cells slots Qf H locs lsc hx hb hs kk => ?_) k
  show W p l e R s m args below meth c H locs cells slots Qf (F0 m pc lsc (.int (Int32.ofInt y) :: .int (Int32.ofInt x) :: st.map (fz_cv (fz_ad E))))
  have hy1 : -2147483648 ≤ y ∧ y < 2147483648 := fz_h1 hs
  have hx1 : -2147483648 ≤ x ∧ x < 2147483648 := fz_h2 hs
  refine lv_ixor hx hb (fz_dec hM hc) ?_
  rw [show Int32.ofInt x ^^^ Int32.ofInt y = Int32.ofInt (fz_xor x y) from (fz_r32 _).symm]
  exact kk
theorem fz_ishl {x y : Int} (hM : fz_okM M = true) (hc : fz_at M.2.2.2.2 pc = some (.ishl, 1, a, b, w)) (k : fz_R d M (pc + 1) ls (fz_i (fz_shl x y) :: st) h Q) : fz_R d M pc ls (fz_i y :: fz_i x :: st) h Q := by
  refine fz_pure (fun hs => fz_n2 (show fz_nv (fz_i _) from fz_b32 _) hs) (fun E p l e R s m args below meth c cells slots Qf H locs lsc hx hb hs kk => ?_) k
  show W p l e R s m args below meth c H locs cells slots Qf (F0 m pc lsc (.int (Int32.ofInt y) :: .int (Int32.ofInt x) :: st.map (fz_cv (fz_ad E))))
  have hy1 : -2147483648 ≤ y ∧ y < 2147483648 := fz_h1 hs
  have hx1 : -2147483648 ≤ x ∧ x < 2147483648 := fz_h2 hs
  refine lv_ishl hx hb (fz_dec hM hc) ?_
  rw [show Int32.ofInt x <<< (Int32.ofInt y &&& 31) = Int32.ofInt (fz_shl x y) from (fz_r32 _).symm]
  exact kk
theorem fz_ishr {x y : Int} (hM : fz_okM M = true) (hc : fz_at M.2.2.2.2 pc = some (.ishr, 1, a, b, w)) (k : fz_R d M (pc + 1) ls (fz_i (fz_shr x y) :: st) h Q) : fz_R d M pc ls (fz_i y :: fz_i x :: st) h Q := by
  refine fz_pure (fun hs => fz_n2 (show fz_nv (fz_i _) from fz_b32 _) hs) (fun E p l e R s m args below meth c cells slots Qf H locs lsc hx hb hs kk => ?_) k
  show W p l e R s m args below meth c H locs cells slots Qf (F0 m pc lsc (.int (Int32.ofInt y) :: .int (Int32.ofInt x) :: st.map (fz_cv (fz_ad E))))
  have hy1 : -2147483648 ≤ y ∧ y < 2147483648 := fz_h1 hs
  have hx1 : -2147483648 ≤ x ∧ x < 2147483648 := fz_h2 hs
  refine lv_ishr hx hb (fz_dec hM hc) ?_
  rw [show Int32.ofInt x >>> (Int32.ofInt y &&& 31) = Int32.ofInt (fz_shr x y) from (fz_r32 _).symm]
  exact kk
theorem fz_iushr {x y : Int} (hM : fz_okM M = true) (hc : fz_at M.2.2.2.2 pc = some (.iushr, 1, a, b, w)) (k : fz_R d M (pc + 1) ls (fz_i (fz_ush x y) :: st) h Q) : fz_R d M pc ls (fz_i y :: fz_i x :: st) h Q := by
  refine fz_pure (fun hs => fz_n2 (show fz_nv (fz_i _) from fz_b32 _) hs) (fun E p l e R s m args below meth c cells slots Qf H locs lsc hx hb hs kk => ?_) k
  show W p l e R s m args below meth c H locs cells slots Qf (F0 m pc lsc (.int (Int32.ofInt y) :: .int (Int32.ofInt x) :: st.map (fz_cv (fz_ad E))))
  have hy1 : -2147483648 ≤ y ∧ y < 2147483648 := fz_h1 hs
  have hx1 : -2147483648 ≤ x ∧ x < 2147483648 := fz_h2 hs
  refine lv_iushr hx hb (fz_dec hM hc) rfl ?_
  rw [show ((Int32.ofInt x).toUInt32 >>> ((Int32.ofInt y).toUInt32 &&& Int32.toUInt32 31)).toInt32 = Int32.ofInt (fz_ush x y) from (fz_r32 _).symm]
  exact kk
theorem fz_ladd {x y : Int} (hM : fz_okM M = true) (hc : fz_at M.2.2.2.2 pc = some (.ladd, 1, a, b, w)) (k : fz_R d M (pc + 1) ls (fz_l (fz_wl (x + y)) :: st) h Q) : fz_R d M pc ls (fz_l y :: fz_l x :: st) h Q := by
  refine fz_pure (fun hs => fz_n2 (show fz_nv (fz_l _) from fz_wl_b _) hs) (fun E p l e R s m args below meth c cells slots Qf H locs lsc hx hb hs kk => ?_) k
  show W p l e R s m args below meth c H locs cells slots Qf (F0 m pc lsc (.long (Int64.ofInt y) :: .long (Int64.ofInt x) :: st.map (fz_cv (fz_ad E))))
  have hy1 : -9223372036854775808 ≤ y ∧ y < 9223372036854775808 := fz_h1 hs
  have hx1 : -9223372036854775808 ≤ x ∧ x < 9223372036854775808 := fz_h2 hs
  refine lv_ladd hx hb (fz_dec hM hc) ?_
  rw [fz_e_addl]
  exact kk
theorem fz_lmul {x y : Int} (hM : fz_okM M = true) (hc : fz_at M.2.2.2.2 pc = some (.lmul, 1, a, b, w)) (k : fz_R d M (pc + 1) ls (fz_l (fz_wl (x * y)) :: st) h Q) : fz_R d M pc ls (fz_l y :: fz_l x :: st) h Q := by
  refine fz_pure (fun hs => fz_n2 (show fz_nv (fz_l _) from fz_wl_b _) hs) (fun E p l e R s m args below meth c cells slots Qf H locs lsc hx hb hs kk => ?_) k
  show W p l e R s m args below meth c H locs cells slots Qf (F0 m pc lsc (.long (Int64.ofInt y) :: .long (Int64.ofInt x) :: st.map (fz_cv (fz_ad E))))
  have hy1 : -9223372036854775808 ≤ y ∧ y < 9223372036854775808 := fz_h1 hs
  have hx1 : -9223372036854775808 ≤ x ∧ x < 9223372036854775808 := fz_h2 hs
  refine lv_lmul hx hb (fz_dec hM hc) ?_
  rw [fz_e_mull]
  exact kk
theorem fz_ldiv {x y : Int} (hne : ¬ y = 0) (hM : fz_okM M = true) (hc : fz_at M.2.2.2.2 pc = some (.ldiv, 1, a, b, w)) (k : fz_R d M (pc + 1) ls (fz_l (fz_wl (Int.tdiv x y)) :: st) h Q) : fz_R d M pc ls (fz_l y :: fz_l x :: st) h Q := by
  refine fz_pure (fun hs => fz_n2 (show fz_nv (fz_l _) from fz_wl_b _) hs) (fun E p l e R s m args below meth c cells slots Qf H locs lsc hx hb hs kk => ?_) k
  show W p l e R s m args below meth c H locs cells slots Qf (F0 m pc lsc (.long (Int64.ofInt y) :: .long (Int64.ofInt x) :: st.map (fz_cv (fz_ad E))))
  have hy1 : -9223372036854775808 ≤ y ∧ y < 9223372036854775808 := fz_h1 hs
  have hx1 : -9223372036854775808 ≤ x ∧ x < 9223372036854775808 := fz_h2 hs
  refine lv_ldiv hx hb (fz_dec hM hc) (fun z => hne ((fz_eql hy1 ⟨by omega, by omega⟩).mp (z.trans (show (0 : Int64) = Int64.ofInt 0 from rfl)))) ?_
  rw [fz_e_divl hx1 hy1]
  exact kk
theorem fz_lrem {x y : Int} (hne : ¬ y = 0) (hM : fz_okM M = true) (hc : fz_at M.2.2.2.2 pc = some (.lrem, 1, a, b, w)) (k : fz_R d M (pc + 1) ls (fz_l (fz_wl (Int.tmod x y)) :: st) h Q) : fz_R d M pc ls (fz_l y :: fz_l x :: st) h Q := by
  refine fz_pure (fun hs => fz_n2 (show fz_nv (fz_l _) from fz_wl_b _) hs) (fun E p l e R s m args below meth c cells slots Qf H locs lsc hx hb hs kk => ?_) k
  show W p l e R s m args below meth c H locs cells slots Qf (F0 m pc lsc (.long (Int64.ofInt y) :: .long (Int64.ofInt x) :: st.map (fz_cv (fz_ad E))))
  have hy1 : -9223372036854775808 ≤ y ∧ y < 9223372036854775808 := fz_h1 hs
  have hx1 : -9223372036854775808 ≤ x ∧ x < 9223372036854775808 := fz_h2 hs
  refine lv_lrem hx hb (fz_dec hM hc) (fun z => hne ((fz_eql hy1 ⟨by omega, by omega⟩).mp (z.trans (show (0 : Int64) = Int64.ofInt 0 from rfl)))) ?_
  rw [fz_e_reml hx1 hy1]
  exact kk
theorem fz_land {x y : Int} (hM : fz_okM M = true) (hc : fz_at M.2.2.2.2 pc = some (.land, 1, a, b, w)) (k : fz_R d M (pc + 1) ls (fz_l (fz_andl x y) :: st) h Q) : fz_R d M pc ls (fz_l y :: fz_l x :: st) h Q := by
  refine fz_pure (fun hs => fz_n2 (show fz_nv (fz_l _) from fz_b64 _) hs) (fun E p l e R s m args below meth c cells slots Qf H locs lsc hx hb hs kk => ?_) k
  show W p l e R s m args below meth c H locs cells slots Qf (F0 m pc lsc (.long (Int64.ofInt y) :: .long (Int64.ofInt x) :: st.map (fz_cv (fz_ad E))))
  have hy1 : -9223372036854775808 ≤ y ∧ y < 9223372036854775808 := fz_h1 hs
  have hx1 : -9223372036854775808 ≤ x ∧ x < 9223372036854775808 := fz_h2 hs
  refine lv_land hx hb (fz_dec hM hc) ?_
  rw [show Int64.ofInt x &&& Int64.ofInt y = Int64.ofInt (fz_andl x y) from (fz_r64 _).symm]
  exact kk
theorem fz_lor {x y : Int} (hM : fz_okM M = true) (hc : fz_at M.2.2.2.2 pc = some (.lor, 1, a, b, w)) (k : fz_R d M (pc + 1) ls (fz_l (fz_orl x y) :: st) h Q) : fz_R d M pc ls (fz_l y :: fz_l x :: st) h Q := by
  refine fz_pure (fun hs => fz_n2 (show fz_nv (fz_l _) from fz_b64 _) hs) (fun E p l e R s m args below meth c cells slots Qf H locs lsc hx hb hs kk => ?_) k
  show W p l e R s m args below meth c H locs cells slots Qf (F0 m pc lsc (.long (Int64.ofInt y) :: .long (Int64.ofInt x) :: st.map (fz_cv (fz_ad E))))
  have hy1 : -9223372036854775808 ≤ y ∧ y < 9223372036854775808 := fz_h1 hs
  have hx1 : -9223372036854775808 ≤ x ∧ x < 9223372036854775808 := fz_h2 hs
  refine lv_lor hx hb (fz_dec hM hc) ?_
  rw [show Int64.ofInt x ||| Int64.ofInt y = Int64.ofInt (fz_orl x y) from (fz_r64 _).symm]
  exact kk
theorem fz_lshl {x y : Int} (hM : fz_okM M = true) (hc : fz_at M.2.2.2.2 pc = some (.lshl, 1, a, b, w)) (k : fz_R d M (pc + 1) ls (fz_l (fz_shll x y) :: st) h Q) : fz_R d M pc ls (fz_i y :: fz_l x :: st) h Q := by
  refine fz_pure (fun hs => fz_n2 (show fz_nv (fz_l _) from fz_b64 _) hs) (fun E p l e R s m args below meth c cells slots Qf H locs lsc hx hb hs kk => ?_) k
  show W p l e R s m args below meth c H locs cells slots Qf (F0 m pc lsc (.int (Int32.ofInt y) :: .long (Int64.ofInt x) :: st.map (fz_cv (fz_ad E))))
  refine lv_lshl hx hb (fz_dec hM hc) (v := Int64.ofInt (fz_shll x y)) (fz_r64 _).symm ?_
  exact kk
theorem fz_lcmp {x y : Int} (hM : fz_okM M = true) (hc : fz_at M.2.2.2.2 pc = some (.lcmp, 1, a, b, w)) (k : fz_R d M (pc + 1) ls (fz_i (fz_cmp x y) :: st) h Q) : fz_R d M pc ls (fz_l y :: fz_l x :: st) h Q := by
  refine fz_pure (fun hs => fz_n2 (show fz_nv (fz_i _) from by unfold fz_cmp; constructor <;> (split <;> (try split) <;> omega)) hs) (fun E p l e R s m args below meth c cells slots Qf H locs lsc hx hb hs kk => ?_) k
  show W p l e R s m args below meth c H locs cells slots Qf (F0 m pc lsc (.long (Int64.ofInt y) :: .long (Int64.ofInt x) :: st.map (fz_cv (fz_ad E))))
  refine W.lcmp hx hb (fz_dec hM hc) ?_
  rw [fz_e_cmp (fz_h2 hs : fz_nv (fz_l x)) (fz_h1 hs : fz_nv (fz_l y))]
  exact kk
theorem fz_ineg {x : Int} (hM : fz_okM M = true) (hc : fz_at M.2.2.2.2 pc = some (.ineg, 1, a, b, w)) (k : fz_R d M (pc + 1) ls (fz_i (fz_w (- x)) :: st) h Q) : fz_R d M pc ls (fz_i x :: st) h Q := by
  refine fz_pure (fun hs => fz_n1 (show fz_nv (fz_i _) from fz_w_b _) hs) (fun E p l e R s m args below meth c cells slots Qf H locs lsc hx hb hs kk => ?_) k
  show W p l e R s m args below meth c H locs cells slots Qf (F0 m pc lsc (.int (Int32.ofInt x) :: st.map (fz_cv (fz_ad E))))
  have hx1 : fz_nv (fz_i x) := fz_h1 hs
  refine lv_ineg hx hb (fz_dec hM hc) ?_
  rw [fz_e_neg]
  exact kk
theorem fz_i2l {x : Int} (hM : fz_okM M = true) (hc : fz_at M.2.2.2.2 pc = some (.i2l, 1, a, b, w)) (k : fz_R d M (pc + 1) ls (fz_l (x) :: st) h Q) : fz_R d M pc ls (fz_i x :: st) h Q := by
  refine fz_pure (fun hs => fz_n1 (show fz_nv (fz_l _) from (by have : -2147483648 ≤ x ∧ x < 2147483648 := fz_h1 hs; exact ⟨by omega, by omega⟩)) hs) (fun E p l e R s m args below meth c cells slots Qf H locs lsc hx hb hs kk => ?_) k
  show W p l e R s m args below meth c H locs cells slots Qf (F0 m pc lsc (.int (Int32.ofInt x) :: st.map (fz_cv (fz_ad E))))
  have hx1 : fz_nv (fz_i x) := fz_h1 hs
  exact lv_i2l hx hb (fz_dec hM hc) (fz_e_i2l hx1) kk
theorem fz_l2i {x : Int} (hM : fz_okM M = true) (hc : fz_at M.2.2.2.2 pc = some (.l2i, 1, a, b, w)) (k : fz_R d M (pc + 1) ls (fz_i (fz_w x) :: st) h Q) : fz_R d M pc ls (fz_l x :: st) h Q := by
  refine fz_pure (fun hs => fz_n1 (show fz_nv (fz_i _) from fz_w_b _) hs) (fun E p l e R s m args below meth c cells slots Qf H locs lsc hx hb hs kk => ?_) k
  show W p l e R s m args below meth c H locs cells slots Qf (F0 m pc lsc (.long (Int64.ofInt x) :: st.map (fz_cv (fz_ad E))))
  have hx1 : fz_nv (fz_l x) := fz_h1 hs
  exact lv_l2i hx hb (fz_dec hM hc) (fz_e_l2i x) kk
theorem fz_ci2b {x : Int} (hM : fz_okM M = true) (hc : fz_at M.2.2.2.2 pc = some (.i2b, 1, a, b, w)) (k : fz_R d M (pc + 1) ls (fz_i (fz_i2b x) :: st) h Q) : fz_R d M pc ls (fz_i x :: st) h Q := by
  refine fz_pure (fun hs => fz_n1 (show fz_nv (fz_i _) from (by have := fz_i2b_b x; exact ⟨by omega, by omega⟩)) hs) (fun E p l e R s m args below meth c cells slots Qf H locs lsc hx hb hs kk => ?_) k
  show W p l e R s m args below meth c H locs cells slots Qf (F0 m pc lsc (.int (Int32.ofInt x) :: st.map (fz_cv (fz_ad E))))
  have hx1 : fz_nv (fz_i x) := fz_h1 hs
  exact lv_i2b hx hb (fz_dec hM hc) (fz_e_i2b x) kk
theorem fz_ci2s {x : Int} (hM : fz_okM M = true) (hc : fz_at M.2.2.2.2 pc = some (.i2s, 1, a, b, w)) (k : fz_R d M (pc + 1) ls (fz_i (fz_i2s x) :: st) h Q) : fz_R d M pc ls (fz_i x :: st) h Q := by
  refine fz_pure (fun hs => fz_n1 (show fz_nv (fz_i _) from (by have := fz_i2s_b x; exact ⟨by omega, by omega⟩)) hs) (fun E p l e R s m args below meth c cells slots Qf H locs lsc hx hb hs kk => ?_) k
  show W p l e R s m args below meth c H locs cells slots Qf (F0 m pc lsc (.int (Int32.ofInt x) :: st.map (fz_cv (fz_ad E))))
  have hx1 : fz_nv (fz_i x) := fz_h1 hs
  exact lv_i2s hx hb (fz_dec hM hc) (fz_e_i2s x) kk
theorem fz_c1 {E : fz_E} {v : fz_V} (hv : fz_cat v = 1) : (fz_cv (fz_ad E) v).category = 1 := by rw [fz_cat_cv, hv]
theorem fz_dup {u : fz_V} (hu : fz_cat u = 1) (hM : fz_okM M = true) (hc : fz_at M.2.2.2.2 pc = some (.dup, 1, a, b, w)) (k : fz_R d M (pc + 1) ls (u :: u :: st) h Q) : fz_R d M pc ls (u :: st) h Q :=
  fz_pure (fun hs => fz_n0 (fz_h1 hs) hs) (fun E p l e R s m args below meth c cells slots Qf H locs lsc hx hb hs kk => lv_dup hx hb (fz_dec hM hc) (fz_c1 hu) kk) k
theorem fz_pop {u : fz_V} (hu : fz_cat u = 1) (hM : fz_okM M = true) (hc : fz_at M.2.2.2.2 pc = some (.pop, 1, a, b, w)) (k : fz_R d M (pc + 1) ls st h Q) : fz_R d M pc ls (u :: st) h Q :=
  fz_pure (fun hs => fz_tl hs) (fun E p l e R s m args below meth c cells slots Qf H locs lsc hx hb hs kk => lv_pop hx hb (fz_dec hM hc) (fz_c1 hu) kk) k
theorem fz_pop2 {x : Int} (hM : fz_okM M = true) (hc : fz_at M.2.2.2.2 pc = some (.pop2, 1, a, b, w)) (k : fz_R d M (pc + 1) ls st h Q) : fz_R d M pc ls (fz_l x :: st) h Q :=
  fz_pure (fun hs => fz_tl hs) (fun E p l e R s m args below meth c cells slots Qf H locs lsc hx hb hs kk => lv_pop2_2 hx hb (fz_dec hM hc) rfl kk) k
theorem fz_dup_x1 {u v : fz_V} (hu : fz_cat u = 1) (hv : fz_cat v = 1) (hM : fz_okM M = true) (hc : fz_at M.2.2.2.2 pc = some (.dup_x1, 1, a, b, w)) (k : fz_R d M (pc + 1) ls (u :: v :: u :: st) h Q) : fz_R d M pc ls (u :: v :: st) h Q :=
  fz_pure (fun hs => fz_n0 (fz_h1 hs) (fz_n0 (fz_h2 hs) (fz_n2 (fz_h1 hs) hs))) (fun E p l e R s m args below meth c cells slots Qf H locs lsc hx hb hs kk => lv_dup_x1 hx hb (fz_dec hM hc) (fz_c1 hu) (fz_c1 hv) kk) k
theorem fz_dup2 {u v : fz_V} (hu : fz_cat u = 1) (hv : fz_cat v = 1) (hM : fz_okM M = true) (hc : fz_at M.2.2.2.2 pc = some (.dup2, 1, a, b, w)) (k : fz_R d M (pc + 1) ls (u :: v :: u :: v :: st) h Q) : fz_R d M pc ls (u :: v :: st) h Q :=
  fz_pure (fun hs => fz_n0 (fz_h1 hs) (fz_n0 (fz_h2 hs) hs)) (fun E p l e R s m args below meth c cells slots Qf H locs lsc hx hb hs kk => lv_dup2_11 hx hb (fz_dec hM hc) (fz_c1 hu) (fz_c1 hv) kk) k
theorem fz_goto {off : Int} {tgt : Nat} (hM : fz_okM M = true) (hc : fz_at M.2.2.2.2 pc = some (.goto off, 3, a, b, w)) (ht : (pc : Int) + off = (tgt : Int)) (k : fz_R d M tgt ls st h Q) : fz_R d M pc ls st h Q :=
  fz_pure id (fun E p l e R s m args below meth c cells slots Qf H locs lsc hx hb hs kk => lv_goto hx hb (fz_dec hM hc) ht kk) k
theorem fz_br {c1 : Prop} {pc1 pc2 : Nat} {st' : List fz_V} (hn : (∀ v ∈ st, fz_nv v) → ∀ v ∈ st', fz_nv v)
    (hw : ∀ (E : fz_E) (p : Program) (l : Launch) (e : Env) (R : Room) (s : State) (m : MethodId) (args : Array Value) (below : List Frame) (meth : Method) (c : Code) (cells slots : Nat) (Qf : State → Prop) (H : Heap) (locs : List Loc) (lsc : Array Slot),
      p.tables.exec = Jvm.exec → c.code = M.2.1 → (∀ v ∈ st, fz_nv v) → (c1 → W p l e R s m args below meth c H locs cells slots Qf (F0 m pc1 lsc (st'.map (fz_cv (fz_ad E))))) → (¬ c1 → W p l e R s m args below meth c H locs cells slots Qf (F0 m pc2 lsc (st'.map (fz_cv (fz_ad E))))) → W p l e R s m args below meth c H locs cells slots Qf (F0 m pc lsc (st.map (fz_cv (fz_ad E)))))
    (k1 : c1 → fz_R d M pc1 ls st' h Q) (k2 : ¬ c1 → fz_R d M pc2 ls st' h Q) : fz_R d M pc ls st h Q := by
  intro E p l e R s m args below meth c cells slots Qf C hend H locs lsc hW hs hl hh
  exact hw E p l e R s m args below meth c cells slots Qf H locs lsc C.1 C.2.1 hs (fun z => k1 z E p l e R s m args below meth c cells slots Qf C hend H locs lsc hW (hn hs) hl hh) (fun z => k2 z E p l e R s m args below meth c cells slots Qf C hend H locs lsc hW (hn hs) hl hh)
theorem fz_z0 : -2147483648 ≤ (0 : Int) ∧ (0 : Int) < 2147483648 := ⟨by decide, by decide⟩
theorem fz_icmp_eq {x y : Int} {off : Int} {tgt : Nat} (hM : fz_okM M = true) (hc : fz_at M.2.2.2.2 pc = some (.if_icmp .eq off, 3, a, b, w)) (ht : (pc : Int) + off = (tgt : Int)) (k1 : x = y → fz_R d M tgt ls st h Q) (k2 : ¬ (x = y) → fz_R d M (pc + 3) ls st h Q) : fz_R d M pc ls (fz_i y :: fz_i x :: st) h Q := by
  refine fz_br (fun hs => fz_tl (fz_tl hs)) (fun E p l e R s m args below meth c cells slots Qf H locs lsc hx hb hs kk kk2 => ?_) k1 k2
  show W p l e R s m args below meth c H locs cells slots Qf (F0 m pc lsc (.int (Int32.ofInt y) :: .int (Int32.ofInt x) :: st.map (fz_cv (fz_ad E))))
  have hy1 : -2147483648 ≤ y ∧ y < 2147483648 := fz_h1 hs
  have hx1 : -2147483648 ≤ x ∧ x < 2147483648 := fz_h2 hs
  exact lv_icmp_eq hx hb (fz_dec hM hc) ht (fun z => kk ((fz_eq hx1 hy1).mp z)) (fun z => kk2 (fun q => z ((fz_eq hx1 hy1).mpr q)))
theorem fz_if_eq {x : Int} {off : Int} {tgt : Nat} (hM : fz_okM M = true) (hc : fz_at M.2.2.2.2 pc = some (.ifCond .eq off, 3, a, b, w)) (ht : (pc : Int) + off = (tgt : Int)) (k1 : x = 0 → fz_R d M tgt ls st h Q) (k2 : ¬ (x = 0) → fz_R d M (pc + 3) ls st h Q) : fz_R d M pc ls (fz_i x :: st) h Q := by
  refine fz_br (fun hs => fz_tl hs) (fun E p l e R s m args below meth c cells slots Qf H locs lsc hx hb hs kk kk2 => ?_) k1 k2
  show W p l e R s m args below meth c H locs cells slots Qf (F0 m pc lsc (.int (Int32.ofInt x) :: st.map (fz_cv (fz_ad E))))
  have hx1 : -2147483648 ≤ x ∧ x < 2147483648 := fz_h1 hs
  exact lv_if_eq hx hb (fz_dec hM hc) ht (fun z => kk ((fz_eq hx1 fz_z0).mp z)) (fun z => kk2 (fun q => z ((fz_eq hx1 fz_z0).mpr q)))
theorem fz_icmp_ne {x y : Int} {off : Int} {tgt : Nat} (hM : fz_okM M = true) (hc : fz_at M.2.2.2.2 pc = some (.if_icmp .ne off, 3, a, b, w)) (ht : (pc : Int) + off = (tgt : Int)) (k1 : ¬ x = y → fz_R d M tgt ls st h Q) (k2 : x = y → fz_R d M (pc + 3) ls st h Q) : fz_R d M pc ls (fz_i y :: fz_i x :: st) h Q := by
  refine fz_br (fun hs => fz_tl (fz_tl hs)) (fun E p l e R s m args below meth c cells slots Qf H locs lsc hx hb hs kk kk2 => ?_) k2 k1
  show W p l e R s m args below meth c H locs cells slots Qf (F0 m pc lsc (.int (Int32.ofInt y) :: .int (Int32.ofInt x) :: st.map (fz_cv (fz_ad E))))
  have hy1 : -2147483648 ≤ y ∧ y < 2147483648 := fz_h1 hs
  have hx1 : -2147483648 ≤ x ∧ x < 2147483648 := fz_h2 hs
  exact lv_icmp_ne hx hb (fz_dec hM hc) ht (fun z => kk2 (fun q => z ((fz_eq hx1 hy1).mpr q))) (fun z => kk ((fz_eq hx1 hy1).mp z))
theorem fz_if_ne {x : Int} {off : Int} {tgt : Nat} (hM : fz_okM M = true) (hc : fz_at M.2.2.2.2 pc = some (.ifCond .ne off, 3, a, b, w)) (ht : (pc : Int) + off = (tgt : Int)) (k1 : ¬ x = 0 → fz_R d M tgt ls st h Q) (k2 : x = 0 → fz_R d M (pc + 3) ls st h Q) : fz_R d M pc ls (fz_i x :: st) h Q := by
  refine fz_br (fun hs => fz_tl hs) (fun E p l e R s m args below meth c cells slots Qf H locs lsc hx hb hs kk kk2 => ?_) k2 k1
  show W p l e R s m args below meth c H locs cells slots Qf (F0 m pc lsc (.int (Int32.ofInt x) :: st.map (fz_cv (fz_ad E))))
  have hx1 : -2147483648 ≤ x ∧ x < 2147483648 := fz_h1 hs
  exact lv_if_ne hx hb (fz_dec hM hc) ht (fun z => kk2 (fun q => z ((fz_eq hx1 fz_z0).mpr q))) (fun z => kk ((fz_eq hx1 fz_z0).mp z))
theorem fz_icmp_lt {x y : Int} {off : Int} {tgt : Nat} (hM : fz_okM M = true) (hc : fz_at M.2.2.2.2 pc = some (.if_icmp .lt off, 3, a, b, w)) (ht : (pc : Int) + off = (tgt : Int)) (k1 : x < y → fz_R d M tgt ls st h Q) (k2 : ¬ (x < y) → fz_R d M (pc + 3) ls st h Q) : fz_R d M pc ls (fz_i y :: fz_i x :: st) h Q := by
  refine fz_br (fun hs => fz_tl (fz_tl hs)) (fun E p l e R s m args below meth c cells slots Qf H locs lsc hx hb hs kk kk2 => ?_) k1 k2
  show W p l e R s m args below meth c H locs cells slots Qf (F0 m pc lsc (.int (Int32.ofInt y) :: .int (Int32.ofInt x) :: st.map (fz_cv (fz_ad E))))
  have hy1 : -2147483648 ≤ y ∧ y < 2147483648 := fz_h1 hs
  have hx1 : -2147483648 ≤ x ∧ x < 2147483648 := fz_h2 hs
  exact lv_icmp_lt hx hb (fz_dec hM hc) ht (fun z => kk ((fz_lt hx1 hy1).mp z)) (fun z => kk2 (fun q => z ((fz_lt hx1 hy1).mpr q)))
theorem fz_if_lt {x : Int} {off : Int} {tgt : Nat} (hM : fz_okM M = true) (hc : fz_at M.2.2.2.2 pc = some (.ifCond .lt off, 3, a, b, w)) (ht : (pc : Int) + off = (tgt : Int)) (k1 : x < 0 → fz_R d M tgt ls st h Q) (k2 : ¬ (x < 0) → fz_R d M (pc + 3) ls st h Q) : fz_R d M pc ls (fz_i x :: st) h Q := by
  refine fz_br (fun hs => fz_tl hs) (fun E p l e R s m args below meth c cells slots Qf H locs lsc hx hb hs kk kk2 => ?_) k1 k2
  show W p l e R s m args below meth c H locs cells slots Qf (F0 m pc lsc (.int (Int32.ofInt x) :: st.map (fz_cv (fz_ad E))))
  have hx1 : -2147483648 ≤ x ∧ x < 2147483648 := fz_h1 hs
  exact lv_if_lt hx hb (fz_dec hM hc) ht (fun z => kk ((fz_lt hx1 fz_z0).mp z)) (fun z => kk2 (fun q => z ((fz_lt hx1 fz_z0).mpr q)))
theorem fz_icmp_ge {x y : Int} {off : Int} {tgt : Nat} (hM : fz_okM M = true) (hc : fz_at M.2.2.2.2 pc = some (.if_icmp .ge off, 3, a, b, w)) (ht : (pc : Int) + off = (tgt : Int)) (k1 : y ≤ x → fz_R d M tgt ls st h Q) (k2 : ¬ (y ≤ x) → fz_R d M (pc + 3) ls st h Q) : fz_R d M pc ls (fz_i y :: fz_i x :: st) h Q := by
  refine fz_br (fun hs => fz_tl (fz_tl hs)) (fun E p l e R s m args below meth c cells slots Qf H locs lsc hx hb hs kk kk2 => ?_) k1 k2
  show W p l e R s m args below meth c H locs cells slots Qf (F0 m pc lsc (.int (Int32.ofInt y) :: .int (Int32.ofInt x) :: st.map (fz_cv (fz_ad E))))
  have hy1 : -2147483648 ≤ y ∧ y < 2147483648 := fz_h1 hs
  have hx1 : -2147483648 ≤ x ∧ x < 2147483648 := fz_h2 hs
  exact lv_icmp_ge hx hb (fz_dec hM hc) ht (fun z => kk ((fz_le hy1 hx1).mp z)) (fun z => kk2 (fun q => z ((fz_le hy1 hx1).mpr q)))
theorem fz_if_ge {x : Int} {off : Int} {tgt : Nat} (hM : fz_okM M = true) (hc : fz_at M.2.2.2.2 pc = some (.ifCond .ge off, 3, a, b, w)) (ht : (pc : Int) + off = (tgt : Int)) (k1 : 0 ≤ x → fz_R d M tgt ls st h Q) (k2 : ¬ (0 ≤ x) → fz_R d M (pc + 3) ls st h Q) : fz_R d M pc ls (fz_i x :: st) h Q := by
  refine fz_br (fun hs => fz_tl hs) (fun E p l e R s m args below meth c cells slots Qf H locs lsc hx hb hs kk kk2 => ?_) k1 k2
  show W p l e R s m args below meth c H locs cells slots Qf (F0 m pc lsc (.int (Int32.ofInt x) :: st.map (fz_cv (fz_ad E))))
  have hx1 : -2147483648 ≤ x ∧ x < 2147483648 := fz_h1 hs
  exact lv_if_ge hx hb (fz_dec hM hc) ht (fun z => kk ((fz_le fz_z0 hx1).mp z)) (fun z => kk2 (fun q => z ((fz_le fz_z0 hx1).mpr q)))
theorem fz_icmp_gt {x y : Int} {off : Int} {tgt : Nat} (hM : fz_okM M = true) (hc : fz_at M.2.2.2.2 pc = some (.if_icmp .gt off, 3, a, b, w)) (ht : (pc : Int) + off = (tgt : Int)) (k1 : y < x → fz_R d M tgt ls st h Q) (k2 : ¬ (y < x) → fz_R d M (pc + 3) ls st h Q) : fz_R d M pc ls (fz_i y :: fz_i x :: st) h Q := by
  refine fz_br (fun hs => fz_tl (fz_tl hs)) (fun E p l e R s m args below meth c cells slots Qf H locs lsc hx hb hs kk kk2 => ?_) k1 k2
  show W p l e R s m args below meth c H locs cells slots Qf (F0 m pc lsc (.int (Int32.ofInt y) :: .int (Int32.ofInt x) :: st.map (fz_cv (fz_ad E))))
  have hy1 : -2147483648 ≤ y ∧ y < 2147483648 := fz_h1 hs
  have hx1 : -2147483648 ≤ x ∧ x < 2147483648 := fz_h2 hs
  exact lv_icmp_gt hx hb (fz_dec hM hc) ht (fun z => kk ((fz_lt hy1 hx1).mp z)) (fun z => kk2 (fun q => z ((fz_lt hy1 hx1).mpr q)))
theorem fz_if_gt {x : Int} {off : Int} {tgt : Nat} (hM : fz_okM M = true) (hc : fz_at M.2.2.2.2 pc = some (.ifCond .gt off, 3, a, b, w)) (ht : (pc : Int) + off = (tgt : Int)) (k1 : 0 < x → fz_R d M tgt ls st h Q) (k2 : ¬ (0 < x) → fz_R d M (pc + 3) ls st h Q) : fz_R d M pc ls (fz_i x :: st) h Q := by
  refine fz_br (fun hs => fz_tl hs) (fun E p l e R s m args below meth c cells slots Qf H locs lsc hx hb hs kk kk2 => ?_) k1 k2
  show W p l e R s m args below meth c H locs cells slots Qf (F0 m pc lsc (.int (Int32.ofInt x) :: st.map (fz_cv (fz_ad E))))
  have hx1 : -2147483648 ≤ x ∧ x < 2147483648 := fz_h1 hs
  exact lv_if_gt hx hb (fz_dec hM hc) ht (fun z => kk ((fz_lt fz_z0 hx1).mp z)) (fun z => kk2 (fun q => z ((fz_lt fz_z0 hx1).mpr q)))
theorem fz_icmp_le {x y : Int} {off : Int} {tgt : Nat} (hM : fz_okM M = true) (hc : fz_at M.2.2.2.2 pc = some (.if_icmp .le off, 3, a, b, w)) (ht : (pc : Int) + off = (tgt : Int)) (k1 : x ≤ y → fz_R d M tgt ls st h Q) (k2 : ¬ (x ≤ y) → fz_R d M (pc + 3) ls st h Q) : fz_R d M pc ls (fz_i y :: fz_i x :: st) h Q := by
  refine fz_br (fun hs => fz_tl (fz_tl hs)) (fun E p l e R s m args below meth c cells slots Qf H locs lsc hx hb hs kk kk2 => ?_) k1 k2
  show W p l e R s m args below meth c H locs cells slots Qf (F0 m pc lsc (.int (Int32.ofInt y) :: .int (Int32.ofInt x) :: st.map (fz_cv (fz_ad E))))
  have hy1 : -2147483648 ≤ y ∧ y < 2147483648 := fz_h1 hs
  have hx1 : -2147483648 ≤ x ∧ x < 2147483648 := fz_h2 hs
  exact lv_icmp_le hx hb (fz_dec hM hc) ht (fun z => kk ((fz_le hx1 hy1).mp z)) (fun z => kk2 (fun q => z ((fz_le hx1 hy1).mpr q)))
theorem fz_if_le {x : Int} {off : Int} {tgt : Nat} (hM : fz_okM M = true) (hc : fz_at M.2.2.2.2 pc = some (.ifCond .le off, 3, a, b, w)) (ht : (pc : Int) + off = (tgt : Int)) (k1 : x ≤ 0 → fz_R d M tgt ls st h Q) (k2 : ¬ (x ≤ 0) → fz_R d M (pc + 3) ls st h Q) : fz_R d M pc ls (fz_i x :: st) h Q := by
  refine fz_br (fun hs => fz_tl hs) (fun E p l e R s m args below meth c cells slots Qf H locs lsc hx hb hs kk kk2 => ?_) k1 k2
  show W p l e R s m args below meth c H locs cells slots Qf (F0 m pc lsc (.int (Int32.ofInt x) :: st.map (fz_cv (fz_ad E))))
  have hx1 : -2147483648 ≤ x ∧ x < 2147483648 := fz_h1 hs
  exact lv_if_le hx hb (fz_dec hM hc) ht (fun z => kk ((fz_le hx1 fz_z0).mp z)) (fun z => kk2 (fun q => z ((fz_le hx1 fz_z0).mpr q)))
theorem fz_tswO {x : Int} {dflt lo hi : Int} {offs : Array Int} {len : Nat} {tgt : Nat} (hM : fz_okM M = true) (hc : fz_at M.2.2.2.2 pc = some (.tableswitch dflt lo hi offs, len, a, b, w)) (hq : x < lo ∨ hi < x) (ht : (pc : Int) + dflt = (tgt : Int)) (k : fz_R d M tgt ls st h Q) : fz_R d M pc ls (fz_i x :: st) h Q := by
  refine fz_pure (fun hs => fz_tl hs) (fun E p l e R s m args below meth c cells slots Qf H locs lsc hx hb hs kk => ?_) k
  have hx1 : -2147483648 ≤ x ∧ x < 2147483648 := fz_h1 hs
  refine lv_tableOut (x := Int32.ofInt x) hx hb (fz_dec hM hc) ?_ ht kk
  rw [fz_t32 hx1]
  exact hq
theorem fz_tswI {x : Int} {dflt lo hi : Int} {offs : Array Int} {len : Nat} {off : Int} {tgt : Nat} (hM : fz_okM M = true) (hc : fz_at M.2.2.2.2 pc = some (.tableswitch dflt lo hi offs, len, a, b, w)) (h1 : ¬ x < lo) (h2 : ¬ hi < x) (ho : offs[(x - lo).toNat]? = some off) (ht : (pc : Int) + off = (tgt : Int)) (k : fz_R d M tgt ls st h Q) : fz_R d M pc ls (fz_i x :: st) h Q := by
  refine fz_pure (fun hs => fz_tl hs) (fun E p l e R s m args below meth c cells slots Qf H locs lsc hx hb hs kk => ?_) k
  have hx1 : -2147483648 ≤ x ∧ x < 2147483648 := fz_h1 hs
  have e1 := fz_t32 hx1
  exact lv_tableIn (x := Int32.ofInt x) hx hb (fz_dec hM hc) (by rw [e1]; exact h1) (by rw [e1]; exact h2) (by rw [e1]; exact ho) ht kk
theorem fz_lsw {x : Int} {dflt : Int} {ps : Array (Int × Int)} {len : Nat} {off : Int} {tgt : Nat} (hM : fz_okM M = true) (hc : fz_at M.2.2.2.2 pc = some (.lookupswitch dflt ps, len, a, b, w)) (hp : (ps.toList.zip (ps.toList.drop 1)).all (fun (a, next) => a.1 < next.1) = true) (ho : Op.lookupswitch.offset ps.toList dflt x = off) (ht : (pc : Int) + off = (tgt : Int)) (k : fz_R d M tgt ls st h Q) : fz_R d M pc ls (fz_i x :: st) h Q := by
  refine fz_pure (fun hs => fz_tl hs) (fun E p l e R s m args below meth c cells slots Qf H locs lsc hx hb hs kk => ?_) k
  have hx1 : -2147483648 ≤ x ∧ x < 2147483648 := fz_h1 hs
  have e1 := fz_t32 hx1
  exact lv_lookup (x := Int32.ofInt x) hx hb (fz_dec hM hc) hp (by rw [e1]; exact ho) ht kk
theorem fz_osw {x a o dd : Int} {r : List (Int × Int)} (h : ¬ x = a) : Op.lookupswitch.offset ((a, o) :: r) dd x = Op.lookupswitch.offset r dd x := by
  rw [Op.lookupswitch.offset_cons, if_neg]
  intro q
  exact h q.symm
theorem fz_osy {x a o dd : Int} {r : List (Int × Int)} (h : x = a) : Op.lookupswitch.offset ((a, o) :: r) dd x = o := by
  rw [Op.lookupswitch.offset_cons, if_pos]
  exact h.symm
end FZ
