/-! ===== making: a machine for constructors, over a world that grows ===== -/
def fz_isN : Cond → Bool
  | .methodLinkNest _ _ _ _ => true
  | _ => false
def fz_nw : List Cond := lw_tbl.filter fz_isN
theorem fz_has0 {n : Nat} {w : Cond} (h : fz_wa n = some w) : w ∈ lw_tbl := by
  unfold fz_wa at h
  rw [fz_nth_eq] at h
  have hm := List.mem_of_getElem? h
  show w ∈ k2_sels lw_privs ++ (tables_1_1 ++ (tables_1_2 ++ (tables_1_3 ++ (tables_1_4 ++ (tables_1_5 ++ (tables_1_6 ++ tables_1_7))))))
  simp only [List.mem_append]
  unfold fz_wl0 at hm
  split at hm
  · exact Or.inl hm
  · exact Or.inr (Or.inl hm)
  · exact Or.inr (Or.inr (Or.inl hm))
  · exact Or.inr (Or.inr (Or.inr (Or.inl hm)))
  · exact Or.inr (Or.inr (Or.inr (Or.inr (Or.inl hm))))
  · exact Or.inr (Or.inr (Or.inr (Or.inr (Or.inr (Or.inl hm)))))
  · exact Or.inr (Or.inr (Or.inr (Or.inr (Or.inr (Or.inr (Or.inl hm))))))
  · exact Or.inr (Or.inr (Or.inr (Or.inr (Or.inr (Or.inr (Or.inr hm))))))
  · cases hm
theorem fz_hasN {n : Nat} {w : Cond} (h : fz_wa n = some w) (hg : fz_isN w = true) : w ∈ fz_nw := List.mem_filter.mpr ⟨fz_has0 h, hg⟩
def fz_nN (s : State) : Prop := ∀ w ∈ fz_nw, va_Nw w s
theorem fz_nN_warm {s U : State} (hW : s.WarmedH U.vm) (h : fz_nN s) : fz_nN U := by
  intro w hw
  have h1 := h w hw
  have h2 := (List.mem_filter.mp hw).2
  unfold fz_isN at h2
  split at h2
  · exact va_Nw.warmM hW h1
  · cases h2
theorem fz_nN_vm {u U : State} (e : u.vm = U.vm) (h : fz_nN u) : fz_nN U := by
  intro w hw
  have h1 := h w hw
  have h2 := (List.mem_filter.mp hw).2
  unfold fz_isN at h2
  split at h2
  · exact va_Nw.same rfl e h1
  · cases h2
theorem fz_nN_of {A : Array Value} {s : State} (h : ∀ w ∈ lw_tbl, w.before A s = true) : fz_nN s := by
  intro w hw
  have h1 := h w (List.mem_filter.mp hw).1
  have h2 := (List.mem_filter.mp hw).2
  unfold fz_isN at h2
  split at h2
  · exact va_Nw.of rfl h1
  · cases h2
def fz_okK (M : fz_M) : Bool := M.2.2.2.2.all (fun q => decide (decode M.2.1 q.1 = .ok (q.2.1, q.2.2.1)))
theorem fz_okK_in {M : fz_M} (h1 : fd_wk M.2.1 (fd_n M.2.1) 0 M.2.2.2.2 = true) : fz_okK M = true := List.all_eq_true.mpr (fun q hq => decide_eq_true (fd_wk_ok _ _ 0 (fun z => by rw [fd_n_b1, Nat.zero_add]) h1 q hq))
theorem fz_dk {M : fz_M} (hM : fz_okK M = true) {pc : Nat} {v : Instr × Nat × Nat × Nat × Nat} (h : fz_at M.2.2.2.2 pc = some v) : decode M.2.1 pc = .ok (v.1, v.2.1) := by
  have h1 : decide (decode M.2.1 (pc, v).1 = .ok ((pc, v).2.1, (pc, v).2.2.1)) = true := List.all_eq_true.mp hM _ (fz_at_mem h)
  exact of_decide_eq_true h1
abbrev fz_BE : Type := va_G × ClassId × ClassId
def fz_Bx (D : fz_BE) (d NC NS : Nat) (M : fz_M) (p : Program) (R : Room) (s : State) (m : MethodId) (args : Array Value) (meth : Method) (c : Code) : Prop :=
  p.tables.exec = Jvm.exec ∧ c.code = M.2.1 ∧ meth.sig.returnType = M.2.2.2.1 ∧ c.maxLocals = M.2.2.1 ∧ s.vm.findClass M.1.cls = some m.cls ∧ (∀ w ∈ fz_tb, w.before args s = true) ∧ meth.locks = false ∧ (M.1.name = "<init>" → meth.name = "<init>") ∧ d ≤ R.frames ∧ d * 64 ≤ R.locals ∧ NC ≤ R.cells ∧ NS ≤ R.slots ∧ va_K D.1 vwCl [(D.2.1, .int), (D.2.2, .long)] s ∧ fz_nN s
/-- what holds of the world at the end; and, of the law alone, at its loop's head -/
abbrev fz_BQ : Type := (va_W → Prop) × (va_W → Array Slot → Prop)
abbrev fz_q (Q : va_W → Prop) : fz_BQ := (Q, fun _ _ => False)
/-- from here the constructor ends, with Q of its world; nc cells and ns slots have been made so far, NC and NS at the most -/
def fz_B (D : fz_BE) (d NC NS : Nat) (M : fz_M) (pc : Nat) (ls : List (Nat × Value)) (st : List Value) (ws : va_W) (nc ns : Nat) (Q : fz_BQ) : Prop :=
  ∀ (p : Program) (l : Launch) (e : Env) (R : Room) (s : State) (m : MethodId) (args : Array Value) (below : List Frame) (meth : Method) (c : Code) (Qf : State → Prop) (A : Nat → Prop) (H0 : Heap),
    fz_Bx D d NC NS M p R s m args meth c → (∀ q, H0.size ≤ q → A q) →
    (∀ (ws' : va_W) (pc' : Nat) (lsc : Array Slot) (H : Heap) (locs : List Loc), Q.1 ws' → decode M.2.1 pc' = .ok (.return_, 1) → va_P D.1 vwCl ws' H → va_D A ws' → va_S A H0 H locs → W p l e R s m args below meth c H locs NC NS Qf (F0 m pc' lsc [])) →
    (∀ (ws' : va_W) (lsc : Array Slot) (H : Heap) (locs : List Loc), Q.2 ws' lsc → va_P D.1 vwCl ws' H → va_D A ws' → va_S A H0 H locs → W p l e R s m args below meth c H locs NC NS Qf (F0 m 18 lsc [])) →
    ∀ (H : Heap) (locs : List Loc) (lsc : Array Slot), va_P D.1 vwCl ws H → va_D A ws → va_S A H0 H locs → lv_has lsc M.2.2.1 ls → W p l e R s m args below meth c H locs nc ns Qf (F0 m pc lsc st)
theorem fz_tI : (Cond.arrayClass FieldType.int) ∈ fz_tb := fz_has (n := 1067) rfl rfl
theorem fz_tJ : (Cond.arrayClass FieldType.long) ∈ fz_tb := fz_has (n := 1194) rfl rfl
theorem fz_tOi : (Cond.instanceMethod Lib.objectInit) ∈ fz_tb := fz_has (n := 1023) rfl rfl
theorem fz_tOc : (Cond.code Lib.objectInit ⟨#[0xb1]⟩ 1 none) ∈ fz_tb := fz_has (n := 1024) rfl rfl
section FB
variable {D : fz_BE} {d NC NS : Nat} {M : fz_M} {pc a b w : Nat} {ls ls' : List (Nat × Value)} {st : List Value} {ws ws' : va_W} {nc ns : Nat} {Q : fz_BQ}
theorem fz_bp {pc' : Nat} {st' : List Value}
    (hw : ∀ (p : Program) (l : Launch) (e : Env) (R : Room) (s : State) (m : MethodId) (args : Array Value) (below : List Frame) (meth : Method) (c : Code) (Qf : State → Prop) (H : Heap) (locs : List Loc) (lsc : Array Slot), p.tables.exec = Jvm.exec → c.code = M.2.1 → lv_has lsc M.2.2.1 ls → W p l e R s m args below meth c H locs nc ns Qf (F0 m pc' lsc st') → W p l e R s m args below meth c H locs nc ns Qf (F0 m pc lsc st))
    (k : fz_B D d NC NS M pc' ls st' ws nc ns Q) : fz_B D d NC NS M pc ls st ws nc ns Q := by
  intro p l e R s m args below meth c Qf A H0 C hA hend hx2 H locs lsc hP hD hS hl
  exact hw p l e R s m args below meth c Qf H locs lsc C.1 C.2.1 hl (k p l e R s m args below meth c Qf A H0 C hA hend hx2 H locs lsc hP hD hS hl)
theorem fz_b_ws (e : ws = ws') (k : fz_B D d NC NS M pc ls st ws' nc ns Q) : fz_B D d NC NS M pc ls st ws nc ns Q := by rw [e]; exact k
theorem fz_b_sz {nc' ns' : Nat} (e1 : nc = nc') (e2 : ns = ns') (k : fz_B D d NC NS M pc ls st ws nc' ns' Q) : fz_B D d NC NS M pc ls st ws nc ns Q := by rw [e1, e2]; exact k
theorem fz_b_aload_n {n : Fin 4} {x : Nat} (k : Nat) (hM : fz_okK M = true) (hc : fz_at M.2.2.2.2 pc = some (.aload_n n, 1, a, b, w)) (hv : ls[k]? = some ((n : Nat), .ref x)) (kk : fz_B D d NC NS M (pc + 1) ls (.ref x :: st) ws nc ns Q) : fz_B D d NC NS M pc ls st ws nc ns Q :=
  fz_bp (fun p l e R s m args below meth c Qf H locs lsc hx hb hl z => lv_aload_n hx hb (fz_dk hM hc) rfl (lv_at hl k hv) z) kk
theorem fz_b_iload_n {n : Fin 4} {x : Int32} (k : Nat) (hM : fz_okK M = true) (hc : fz_at M.2.2.2.2 pc = some (.iload_n n, 1, a, b, w)) (hv : ls[k]? = some ((n : Nat), .int x)) (kk : fz_B D d NC NS M (pc + 1) ls (.int x :: st) ws nc ns Q) : fz_B D d NC NS M pc ls st ws nc ns Q :=
  fz_bp (fun p l e R s m args below meth c Qf H locs lsc hx hb hl z => lv_iload_n hx hb (fz_dk hM hc) rfl (lv_at hl k hv) z) kk
theorem fz_b_iconst {n : Int} (hM : fz_okK M = true) (hc : fz_at M.2.2.2.2 pc = some (.iconst n, 1, a, b, w)) (kk : fz_B D d NC NS M (pc + 1) ls (.int (Int32.ofInt n) :: st) ws nc ns Q) : fz_B D d NC NS M pc ls st ws nc ns Q :=
  fz_bp (fun p l e R s m args below meth c Qf H locs lsc hx hb hl z => lv_iconst hx hb (fz_dk hM hc) rfl z) kk
theorem fz_b_bipush {n : Int} (hn : -128 ≤ n ∧ n < 128) (hM : fz_okK M = true) (hc : fz_at M.2.2.2.2 pc = some (.bipush n, 2, a, b, w)) (kk : fz_B D d NC NS M (pc + 2) ls (.int (Int32.ofInt n) :: st) ws nc ns Q) : fz_B D d NC NS M pc ls st ws nc ns Q :=
  fz_bp (fun p l e R s m args below meth c Qf H locs lsc hx hb hl z => lv_bipush hx hb (fz_dk hM hc) (fz_e_i8 hn) z) kk
theorem fz_b_sipush {n : Int} (hn : -32768 ≤ n ∧ n < 32768) (hM : fz_okK M = true) (hc : fz_at M.2.2.2.2 pc = some (.sipush n, 3, a, b, w)) (kk : fz_B D d NC NS M (pc + 3) ls (.int (Int32.ofInt n) :: st) ws nc ns Q) : fz_B D d NC NS M pc ls st ws nc ns Q :=
  fz_bp (fun p l e R s m args below meth c Qf H locs lsc hx hb hl z => lv_sipush hx hb (fz_dk hM hc) (fz_e_i16 hn) z) kk
theorem fz_b_dup {v : Value} (hv : v.category = 1) (hM : fz_okK M = true) (hc : fz_at M.2.2.2.2 pc = some (.dup, 1, a, b, w)) (kk : fz_B D d NC NS M (pc + 1) ls (v :: v :: st) ws nc ns Q) : fz_B D d NC NS M pc ls (v :: st) ws nc ns Q :=
  fz_bp (fun p l e R s m args below meth c Qf H locs lsc hx hb hl z => lv_dup hx hb (fz_dk hM hc) hv z) kk
theorem fz_b_goto {off : Int} {tgt : Nat} (hM : fz_okK M = true) (hc : fz_at M.2.2.2.2 pc = some (.goto off, 3, a, b, w)) (ht : (pc : Int) + off = (tgt : Int)) (kk : fz_B D d NC NS M tgt ls st ws nc ns Q) : fz_B D d NC NS M pc ls st ws nc ns Q :=
  fz_bp (fun p l e R s m args below meth c Qf H locs lsc hx hb hl z => lv_goto hx hb (fz_dk hM hc) ht z) kk
theorem fz_b_geT {x y : Int32} {off : Int} {tgt : Nat} (hM : fz_okK M = true) (hc : fz_at M.2.2.2.2 pc = some (.if_icmp .ge off, 3, a, b, w)) (ht : (pc : Int) + off = (tgt : Int)) (h : y ≤ x) (kk : fz_B D d NC NS M tgt ls st ws nc ns Q) : fz_B D d NC NS M pc ls (.int y :: .int x :: st) ws nc ns Q :=
  fz_bp (fun p l e R s m args below meth c Qf H locs lsc hx hb hl z => lv_icmp_ge hx hb (fz_dk hM hc) ht (fun _ => z) (fun q => absurd h q)) kk
theorem fz_b_geF {x y : Int32} {off : Int} {tgt : Nat} (hM : fz_okK M = true) (hc : fz_at M.2.2.2.2 pc = some (.if_icmp .ge off, 3, a, b, w)) (ht : (pc : Int) + off = (tgt : Int)) (h : ¬ y ≤ x) (kk : fz_B D d NC NS M (pc + 3) ls st ws nc ns Q) : fz_B D d NC NS M pc ls (.int y :: .int x :: st) ws nc ns Q :=
  fz_bp (fun p l e R s m args below meth c Qf H locs lsc hx hb hl z => lv_icmp_ge hx hb (fz_dk hM hc) ht (fun q => absurd q h) (fun _ => z)) kk
theorem fz_b_neT {x y : Int32} {off : Int} {tgt : Nat} (hM : fz_okK M = true) (hc : fz_at M.2.2.2.2 pc = some (.if_icmp .ne off, 3, a, b, w)) (ht : (pc : Int) + off = (tgt : Int)) (h : ¬ x = y) (kk : fz_B D d NC NS M tgt ls st ws nc ns Q) : fz_B D d NC NS M pc ls (.int y :: .int x :: st) ws nc ns Q :=
  fz_bp (fun p l e R s m args below meth c Qf H locs lsc hx hb hl z => lv_icmp_ne hx hb (fz_dk hM hc) ht (fun _ => z) (fun q => absurd q h)) kk
theorem fz_b_neF {x y : Int32} {off : Int} {tgt : Nat} (hM : fz_okK M = true) (hc : fz_at M.2.2.2.2 pc = some (.if_icmp .ne off, 3, a, b, w)) (ht : (pc : Int) + off = (tgt : Int)) (h : x = y) (kk : fz_B D d NC NS M (pc + 3) ls st ws nc ns Q) : fz_B D d NC NS M pc ls (.int y :: .int x :: st) ws nc ns Q :=
  fz_bp (fun p l e R s m args below meth c Qf H locs lsc hx hb hl z => lv_icmp_ne hx hb (fz_dk hM hc) ht (fun q => absurd h q) (fun _ => z)) kk
theorem fz_b_istore_n {n : Fin 4} {x : Int32} (hM : fz_okK M = true) (hc : fz_at M.2.2.2.2 pc = some (.istore_n n, 1, a, b, w)) (hn : (n : Nat) < M.2.2.1) (hl : ((n : Nat), Value.int x) :: ls.filter (fun q => !(q.1 == (n : Nat)) && !(q.1 + 1 == (n : Nat) && q.2.category == 2)) = ls') (kk : fz_B D d NC NS M (pc + 1) ls' st ws nc ns Q) : fz_B D d NC NS M pc ls (.int x :: st) ws nc ns Q := by
  intro p l e R s m args below meth c Qf A H0 C hA hend hx2 H locs lsc hP hD hS hh
  exact lv_istore_n C.1 C.2.1 (fz_dk hM hc) rfl hh hn hl (fun lsc2 h2 => kk p l e R s m args below meth c Qf A H0 C hA hend hx2 H locs lsc2 hP hD hS h2)
theorem fz_b_iinc {i k : Nat} {n : Int} {x v : Int32} (hM : fz_okK M = true) (hc : fz_at M.2.2.2.2 pc = some (.iinc i n, 3, a, b, w)) (hk : ls[k]? = some (i, .int x)) (hv : x + Int32.ofInt n = v) (hn : i < M.2.2.1) (hl : (i, Value.int v) :: ls.filter (fun q => !(q.1 == i) && !(q.1 + 1 == i && q.2.category == 2)) = ls') (kk : fz_B D d NC NS M (pc + 3) ls' st ws nc ns Q) : fz_B D d NC NS M pc ls st ws nc ns Q := by
  intro p l e R s m args below meth c Qf A H0 C hA hend hx2 H locs lsc hP hD hS hh
  exact lv_iinc C.1 C.2.1 (fz_dk hM hc) hh hk hv hn hl (fun lsc2 h2 => kk p l e R s m args below meth c Qf A H0 C hA hend hx2 H locs lsc2 hP hD hS h2)
theorem fz_b_obj {x idx : Nat} (hM : fz_okK M = true) (hc : fz_at M.2.2.2.2 pc = some (.invokespecial idx, 3, a, b, w)) (hlk : Cond.methodLink M.1.cls idx Lib.objectInit ∈ fz_tb) (hcap : (st.map fun v => v.category).sum ≤ 8) (hd : 1 ≤ d) (kk : fz_B D d NC NS M (pc + 3) ls st ws nc ns Q) : fz_B D d NC NS M pc ls (.ref x :: st) ws nc ns Q := by
  intro p l e R s m args below meth c Qf A H0 C hA hend hx2 H locs lsc hP hD hS hh
  have hts := C.2.2.2.2.2.1
  have r1 := C.2.2.2.2.2.2.2.2.1
  have r2 := C.2.2.2.2.2.2.2.2.2.1
  have hc8 := lv_room (m := m) (pc := pc) (ls := lsc) (rest := (.ref x :: st)) hcap
  exact W.objInit C.1 C.2.1 C.2.2.2.2.1 (hts _ hlk) (hts _ fz_tOi) (hts _ fz_tOc) rfl (by rw [C.2.2.2.1]; exact hh.1) rfl (fz_dk hM hc) (by omega) (by omega) (kk p l e R s m args below meth c Qf A H0 C hA hend hx2 H locs lsc hP hD hS hh)
theorem fz_b_new {ci idx N : Nat} {Cn : String} {T : u_T} (ty : Nat → FieldType) (fs : List Value) (hM : fz_okK M = true) (hc : fz_at M.2.2.2.2 pc = some (.new idx, 3, a, b, w)) (hcl : fz_nth vwCl ci = some (Cn, T, N)) (hty : ∀ k, k < N → parseFieldDescriptor (T k).2.2.1 = some (ty k))
    (h1 : Cond.classLink M.1.cls idx Cn ∈ fz_tb) (h2 : Cond.instantiable Cn N ∈ fz_tb) (h3 : Cond.initialized Cn ∈ fz_tb) (hfs : (List.range N).map (fun j => defaultValue (ty j)) = fs) (hn1 : nc + 1 ≤ NC) (hn2 : ns + N ≤ NS)
    (kk : ∀ q : Nat, fz_B D d NC NS M (pc + 3) ls (.ref q :: st) (ws ++ [(q, .inr (ci, fs))]) (nc + 1) (ns + N) Q) : fz_B D d NC NS M pc ls st ws nc ns Q := by
  intro p l e R s m args below meth c Qf A H0 C hA hend hx2 H locs lsc hP hD hS hh
  have hts := C.2.2.2.2.2.1
  have r3 := C.2.2.2.2.2.2.2.2.2.2.1
  have r4 := C.2.2.2.2.2.2.2.2.2.2.2.1
  have hK := C.2.2.2.2.2.2.2.2.2.2.2.2.1
  refine va_new (ci := ci) (fs := fs) (C := Cn) (T := T) (N := N) C.1 C.2.1 hts (fz_cl_in hcl) ty hty C.2.2.2.2.1 (hts _ h1) (hts _ h2) (hts _ h3) hK hP hD hS hA (by rw [← fz_nth_eq]; exact hcl) (fun j hj => ?_) (by omega) (by omega) (fz_dk hM hc) (fun q H1 hP1 hD1 hS1 => kk q p l e R s m args below meth c Qf A H0 C hA hend hx2 H1 locs lsc hP1 hD1 hS1 hh)
  rw [← hfs]
  unfold vp_V
  simp [List.getD, hj]
theorem fz_b_newI {n : Int} {N : Nat} (hM : fz_okK M = true) (hc : fz_at M.2.2.2.2 pc = some (.newarray .int, 2, a, b, w)) (hn : 0 ≤ n ∧ n < 100000) (hN : n.toNat = N) (hn1 : nc + 1 ≤ NC) (hn2 : ns + N ≤ NS)
    (kk : ∀ q : Nat, fz_B D d NC NS M (pc + 2) ls (.ref q :: st) (ws ++ [(q, .inl (D.2.1, N, .inl (fun _ => Int32.ofInt 0)))]) (nc + 1) (ns + N) Q) : fz_B D d NC NS M pc ls (.int (Int32.ofInt n) :: st) ws nc ns Q := by
  intro p l e R s m args below meth c Qf A H0 C hA hend hx2 H locs lsc hP hD hS hh
  have hts := C.2.2.2.2.2.1
  have r3 := C.2.2.2.2.2.2.2.2.2.2.1
  have r4 := C.2.2.2.2.2.2.2.2.2.2.2.1
  have hK := C.2.2.2.2.2.2.2.2.2.2.2.2.1
  have hx1 : -2147483648 ≤ n ∧ n < 2147483648 := ⟨by omega, by omega⟩
  refine va_newa (atype := .int) (a0 := (N, .inl (fun _ => Int32.ofInt 0))) (N' := N) (ty := .int) C.1 C.2.1 (hts _ fz_tI) rfl hK hP hD hS hA (fun cA => rfl) (fun z => by rw [Int32.lt_iff_toInt_lt, fz_t32 hx1] at z; exact absurd z (by show ¬ n < 0; omega)) (by rw [fz_ix hn.1 hx1.2]; exact hN) (by show N * 4 ≤ 536870912; omega) (by omega) (by omega) (fz_dk hM hc) (fun q cA H1 hK1 hP1 hD1 hS1 => ?_)
  have e1 : s.vm.findClass ("[" ++ FieldType.int.toString) = some cA := (hK1.2 2 (cA, .int) rfl).2
  have e2 : s.vm.findClass ("[" ++ FieldType.int.toString) = some D.2.1 := (hK.2 0 (D.2.1, .int) rfl).2
  have e3 : cA = D.2.1 := Option.some.inj (e1.symm.trans e2)
  subst e3
  exact kk q p l e R s m args below meth c Qf A H0 C hA hend hx2 H1 locs lsc hP1 hD1 hS1 hh
theorem fz_b_newJ {n : Int} {N : Nat} (hM : fz_okK M = true) (hc : fz_at M.2.2.2.2 pc = some (.newarray .long, 2, a, b, w)) (hn : 0 ≤ n ∧ n < 100000) (hN : n.toNat = N) (hn1 : nc + 1 ≤ NC) (hn2 : ns + N ≤ NS)
    (kk : ∀ q : Nat, fz_B D d NC NS M (pc + 2) ls (.ref q :: st) (ws ++ [(q, .inl (D.2.2, N, .inr (.inl (fun _ => Int64.ofInt 0))))]) (nc + 1) (ns + N) Q) : fz_B D d NC NS M pc ls (.int (Int32.ofInt n) :: st) ws nc ns Q := by
  intro p l e R s m args below meth c Qf A H0 C hA hend hx2 H locs lsc hP hD hS hh
  have hts := C.2.2.2.2.2.1
  have r3 := C.2.2.2.2.2.2.2.2.2.2.1
  have r4 := C.2.2.2.2.2.2.2.2.2.2.2.1
  have hK := C.2.2.2.2.2.2.2.2.2.2.2.2.1
  have hx1 : -2147483648 ≤ n ∧ n < 2147483648 := ⟨by omega, by omega⟩
  refine va_newa (atype := .long) (a0 := (N, .inr (.inl (fun _ => Int64.ofInt 0)))) (N' := N) (ty := .long) C.1 C.2.1 (hts _ fz_tJ) rfl hK hP hD hS hA (fun cA => rfl) (fun z => by rw [Int32.lt_iff_toInt_lt, fz_t32 hx1] at z; exact absurd z (by show ¬ n < 0; omega)) (by rw [fz_ix hn.1 hx1.2]; exact hN) (by show N * 8 ≤ 536870912; omega) (by omega) (by omega) (fz_dk hM hc) (fun q cA H1 hK1 hP1 hD1 hS1 => ?_)
  have e1 : s.vm.findClass ("[" ++ FieldType.long.toString) = some cA := (hK1.2 2 (cA, .long) rfl).2
  have e2 : s.vm.findClass ("[" ++ FieldType.long.toString) = some D.2.2 := (hK.2 1 (D.2.2, .long) rfl).2
  have e3 : cA = D.2.2 := Option.some.inj (e1.symm.trans e2)
  subst e3
  exact kk q p l e R s m args below meth c Qf A H0 C hA hend hx2 H1 locs lsc hP1 hD1 hS1 hh
theorem fz_b_put {x idx ci N q0 k : Nat} {Cn : String} {T : u_T} {v : Value} {fs : List Value} {ty : FieldType} (hM : fz_okK M = true) (hc : fz_at M.2.2.2.2 pc = some (.putfield idx, 3, a, b, w)) (hcl : fz_nth vwCl ci = some (Cn, T, N)) (he : ws[q0]? = some (x, .inr (ci, fs))) (hk : k < N) (hlk : Cond.fieldLink M.1.cls idx (T k).1 (T k).2.1 (T k).2.2.1 ∈ fz_tb) (hdc : (T k).1 = M.1.cls) (hi : M.1.name = "<init>") (hd : parseFieldDescriptor (T k).2.2.1 = some ty) (hn : narrow ty v = v) (hfit : fits ty v = true) (hl : k < fs.length)
    (kk : fz_B D d NC NS M (pc + 3) ls st (ws.set q0 (x, .inr (ci, fs.set k v))) nc ns Q) : fz_B D d NC NS M pc ls (v :: .ref x :: st) ws nc ns Q := by
  intro p l e R s m args below meth c Qf A H0 C hA hend hx2 H locs lsc hP hD hS hh
  have hts := C.2.2.2.2.2.1
  have hK := C.2.2.2.2.2.2.2.2.2.2.2.2.1
  obtain ⟨ty0, hty⟩ := fz_cl_ty hcl
  cases hfin : (T k).2.2.2 with
  | true => exact va_putF (D := D.1) (ci := ci) (v := v) (ty := ty) (C := Cn) (T := T) (N := N) C.1 C.2.1 hts (fz_cl_in hcl) ty0 hty (fz_cl_nm hcl) C.2.2.2.2.1 hK hP hD hS q0 he (by rw [← fz_nth_eq]; exact hcl) k hk (hts _ hlk) (fun _ h9 => h9) hfin (C.2.2.2.2.2.2.2.1 hi) hdc hd hn hfit hl (fz_dk hM hc) (fun H1 locs1 hP1 hD1 hS1 => kk p l e R s m args below meth c Qf A H0 C hA hend hx2 H1 locs1 lsc hP1 hD1 hS1 hh)
  | false => exact va_put (D := D.1) (ci := ci) (v := v) (ty := ty) (C := Cn) (T := T) (N := N) C.1 C.2.1 hts (fz_cl_in hcl) ty0 hty (fz_cl_nm hcl) C.2.2.2.2.1 hK hP hD hS q0 he (by rw [← fz_nth_eq]; exact hcl) k hk (hts _ hlk) (fun _ h9 => h9) hfin hd hn hfit hl (fz_dk hM hc) (fun H1 locs1 hP1 hD1 hS1 => kk p l e R s m args below meth c Qf A H0 C hA hend hx2 H1 locs1 lsc hP1 hD1 hS1 hh)
theorem fz_b_get {x idx ci N q0 k : Nat} {Cn : String} {T : u_T} {v : Value} {fs : List Value} (hM : fz_okK M = true) (hc : fz_at M.2.2.2.2 pc = some (.getfield idx, 3, a, b, w)) (hcl : fz_nth vwCl ci = some (Cn, T, N)) (he : ws[q0]? = some (x, .inr (ci, fs))) (hk : k < N) (hlk : Cond.fieldLink M.1.cls idx (T k).1 (T k).2.1 (T k).2.2.1 ∈ fz_tb) (hv : fs[k]? = some v)
    (kk : fz_B D d NC NS M (pc + 3) ls (v :: st) ws nc ns Q) : fz_B D d NC NS M pc ls (.ref x :: st) ws nc ns Q := by
  intro p l e R s m args below meth c Qf A H0 C hA hend hx2 H locs lsc hP hD hS hh
  have hts := C.2.2.2.2.2.1
  have hK := C.2.2.2.2.2.2.2.2.2.2.2.2.1
  exact va_get (D := D.1) (ci := ci) (v := v) (C := Cn) (T := T) (N := N) C.1 C.2.1 hts (fz_cl_in hcl) C.2.2.2.2.1 hK hP q0 he (by rw [← fz_nth_eq]; exact hcl) k hk (hts _ hlk) (fun _ h9 => h9) hv (fz_dk hM hc) (kk p l e R s m args below meth c Qf A H0 C hA hend hx2 H locs lsc hP hD hS hh)
theorem fz_b_iast {x q0 N : Nat} {i v : Int} {f : Nat → Int32} (hM : fz_okK M = true) (hc : fz_at M.2.2.2.2 pc = some (.iastore, 1, a, b, w)) (he : ws[q0]? = some (x, .inl (D.2.1, N, .inl f))) (hi : 0 ≤ i ∧ i < N) (hi2 : i < 100000)
    (kk : fz_B D d NC NS M (pc + 1) ls st (ws.set q0 (x, .inl (D.2.1, N, .inl (upd f i.toNat (Int32.ofInt v))))) nc ns Q) : fz_B D d NC NS M pc ls (.int (Int32.ofInt v) :: .int (Int32.ofInt i) :: .ref x :: st) ws nc ns Q := by
  intro p l e R s m args below meth c Qf A H0 C hA hend hx2 H locs lsc hP hD hS hh
  have hK := C.2.2.2.2.2.2.2.2.2.2.2.2.1
  refine va_iast C.1 C.2.1 hK hP hD hS q0 0 he rfl (fz_in hi.1 hi.2 (by omega)) (fz_dk hM hc) (fun H1 locs1 hP1 hD1 hS1 => ?_)
  rw [fz_ix hi.1 (by omega)] at hP1 hD1
  exact kk p l e R s m args below meth c Qf A H0 C hA hend hx2 H1 locs1 lsc hP1 hD1 hS1 hh
theorem fz_b_ret (hM : fz_okK M = true) (hc : fz_at M.2.2.2.2 pc = some (.return_, 1, a, b, w)) (h1 : nc ≤ NC) (h2 : ns ≤ NS) (hq : Q.1 ws) : fz_B D d NC NS M pc ls [] ws nc ns Q := by
  intro p l e R s m args below meth c Qf A H0 C hA hend hx2 H locs lsc hP hD hS hh
  exact W.widen h1 h2 (hend ws pc lsc H locs hq (fz_dk hM hc) hP hD hS)
end FB
theorem fz_b_x18 {D : fz_BE} {d NC NS : Nat} {M : fz_M} {ls : List (Nat × Value)} {ws : va_W} {nc ns : Nat} {Q : fz_BQ} (h1 : nc ≤ NC) (h2 : ns ≤ NS) (hq : ∀ lsc, lv_has lsc M.2.2.1 ls → Q.2 ws lsc) : fz_B D d NC NS M 18 ls [] ws nc ns Q := by
  intro p l e R s m args below meth c Qf A H0 C hA hend hx2 H locs lsc hP hD hS hh
  exact W.widen h1 h2 (hx2 ws lsc H locs (hq lsc hh) hP hD hS)
/-- a constructor's contract -/
def fz_Bp (D : fz_BE) (q : Nat) (e : va_E) (sz : Nat) (U : State) : Prop := U.heap.size = sz ∧ va_P D.1 vwCl [(q, e)] U.heap ∧ va_K D.1 vwCl [(D.2.1, .int), (D.2.2, .long)] U ∧ va_D (fun _ => True) [(q, e)] ∧ fz_nN U
def fz_rB (d NC NS : Nat) : Room := { frames := d, cells := NC, slots := NS, locals := d * 64 }
theorem fz_bmet {D : fz_BE} {d NC NS : Nat} {M : fz_M} {vs : List Value} {q : Nat} {e : va_E} {Q : va_W → Prop} (hpl : plainName M.1.cls = true) (hret : M.2.2.2.1 = none) (hnm : M.1.name = "<init>") (hL : (lg_sl (.ref q :: vs)).length ≤ M.2.2.1)
    (hB : fz_B D d NC NS M 0 (lv_args 0 (.ref q :: vs)) [] [(q, e)] 0 0 (fz_q Q)) (sz : Nat) (l : Launch) :
    Met l M.1 (fz_wd M) (fz_rB d NC NS) (va_Pc (.ref q :: vs) (fz_Bp D q e sz)) (va_Qv (fun ws1 : va_W => Q ws1) (fun ws1 t => va_P D.1 vwCl ws1 t.heap ∧ va_D (va_A [(q, e)] sz) ws1) (va_A [(q, e)] sz)) NC NS (va_A [(q, e)] sz) := by
  refine Met.ofW (cc := M.2.1) (maxL := M.2.2.1) (ret := M.2.2.2.1) hpl rfl ?_
  intro p e2 s m args below meth c s₁ B hml hpc
  obtain ⟨rfl, hsz, hP, hK, hD0, hN⟩ := hpc
  subst hsz
  have hts := atoms_spec (ws := fz_wd M) B.pre
  have hl := lv_entry (.ref q :: vs) (n := M.2.2.1) hL
  rw [lg_entry_eq]
  generalize (lg_sl (.ref q :: vs) ++ List.replicate (M.2.2.1 - (lg_sl (.ref q :: vs)).length) Slot.unset).toArray = lsc at hl ⊢
  have hlocks := B.notSynchronized
  have hin : M.1.name = "<init>" → meth.name = "<init>" := fun h => (name_of_methodNamed B.named B.method).1.trans h
  have hr : meth.sig.returnType = none := by rw [B.returns]; exact hret
  have C : fz_Bx D d NC NS M p (headSpec (fz_wd M) (fz_rB d NC NS)).room s m ((.ref q :: vs : List Value).toArray) meth c :=
    ⟨B.exec, B.bytes, B.returns, hml, findClass_of_methodNamed B.named, fun w hw => hts w (List.mem_cons_of_mem _ hw), hlocks, hin, Nat.le_refl _, Nat.le_refl _, Nat.le_refl _, Nat.le_refl _, hK, hN⟩
  refine hB p l e2 _ s m _ below meth c _ (va_A [(q, e)] s.heap.size) s.heap C (fun x h => Or.inr h) ?_ (fun _ _ _ _ z => z.elim) s.heap [] lsc hP hD0.self va_S.rf hl
  intro ws' pc' lsc' H locs hQ hdr hP' hD' hS'
  exact W.vret C.1 C.2.1 hr (fun t ht hW => ⟨⟨ws', rfl, hQ, by rw [ht]; exact hP', hD'⟩, hS'.F ht⟩) hS'.2.2 hdr
theorem fz_Bp_blind {D : fz_BE} {q sz : Nat} {e : va_E} {vs : List Value} : FrameBlind (va_Pc vs (fz_Bp D q e sz)) := by
  intro a U g mk hp
  obtain ⟨h1, h2, h3, h4, h5, h6⟩ := hp
  exact ⟨h1, h2, h3, va_K.moved (u := U) (U := U.calling g mk a) (Vm.Alike.refl U.vm) h4, h5, fz_nN_vm (u := U) (U := U.calling g mk a) rfl h6⟩
theorem fz_nd_range' : ∀ (n s : Nat), va_nd (List.range' s n) = true
  | 0, _ => rfl
  | n + 1, s => by
    show va_nd (s :: List.range' (s + 1) n) = true
    unfold va_nd
    rw [fz_nd_range' n (s + 1), Bool.and_true, decide_eq_true_eq]
    intro h
    have := (List.mem_range'_1.mp h).1
    omega
theorem fz_map_range (l : va_W) (r : va_W) : (List.range' 0 l.length).map (fun i => (l ++ r)[i]?) = l.map some := by
  apply List.ext_getElem?
  intro i
  simp only [List.getElem?_map]
  by_cases h : i < l.length
  · rw [List.getElem?_range' (by omega)]
    rw [Nat.zero_add, Nat.one_mul, Option.map_some, List.getElem?_append_left h, List.getElem?_eq_getElem h]
    rfl
  · have h1 : (List.range' 0 l.length)[i]? = none := by simp; omega
    have h2 : l[i]? = none := by simp; omega
    rw [h1, h2]
    rfl
section FB
variable {D : fz_BE} {d NC NS : Nat} {M : fz_M} {pc a b w : Nat} {ls ls' : List (Nat × Value)} {st : List Value} {ws ws' : va_W} {nc ns : Nat} {Q : fz_BQ}
/-- a constructor is called for the cell that was made last -/
theorem fz_b_call {d' NC' NS' : Nat} {M' : fz_M} {n idx q : Nat} {As S : List Value} {e : va_E} {Q' : va_W → Prop} {host : String} {nest : Bool} (hM : fz_okK M = true) (hc : fz_at M.2.2.2.2 pc = some (.invokespecial idx, 3, a, b, w))
    (hlk : if nest = true then Cond.methodLinkNest M.1.cls idx M'.1 host ∈ fz_nw else Cond.methodLink M.1.cls idx M'.1 ∈ fz_tb) (h1 : Cond.code M'.1 M'.2.1 M'.2.2.1 M'.2.2.2.1 ∈ fz_tb) (h2 : Cond.initialized M'.1.cls ∈ fz_tb) (h3 : Cond.instanceMethod M'.1 ∈ fz_tb)
    (hpl : (plainName M'.1.cls && decide (M'.1.cls ≠ "java/lang/invoke/MethodHandle") && decide (M'.1.cls ≠ "java/lang/invoke/VarHandle") && decide ((parseMethodDescriptor M'.1.desc).map (fun q => q.parameters.length) = some n) && decide (M'.2.2.1 ≤ 40)) = true) (hret : M'.2.2.2.1 = none) (hnm : M'.1.name = "<init>") (hn : As.length = n) (hS : S = As.reverse ++ .ref q :: st) (hcap : (st.map fun v => v.category).sum ≤ 8) (hL : (lg_sl (.ref q :: As)).length ≤ M'.2.2.1) (hd : d' + 1 ≤ d) (hw : ws' = ws ++ [(q, e)]) (hn1 : nc + NC' ≤ NC) (hn2 : ns + NS' ≤ NS)
    (hB : fz_B D d' NC' NS' M' 0 (lv_args 0 (.ref q :: As)) [] [(q, e)] 0 0 (fz_q Q')) (kk : ∀ ws1, Q' ws1 → fz_B D d NC NS M (pc + 3) ls st (ws ++ ws1) (nc + NC') (ns + NS') Q) : fz_B D d NC NS M pc ls S ws' nc ns Q := by
  subst hS hw
  simp only [Bool.and_eq_true, decide_eq_true_eq] at hpl
  intro p l e2 R s m args below meth c Qf A H0 C hA hend hx2 H locs lsc hP hD hSt hh
  have hts := C.2.2.2.2.2.1
  have r1 := C.2.2.2.2.2.2.2.2.1
  have r2 := C.2.2.2.2.2.2.2.2.2.1
  have r3 := C.2.2.2.2.2.2.2.2.2.2.1
  have r4 := C.2.2.2.2.2.2.2.2.2.2.2.1
  have hK := C.2.2.2.2.2.2.2.2.2.2.2.2.1
  have hN := C.2.2.2.2.2.2.2.2.2.2.2.2.2
  have hMet := fz_bmet (D := D) hpl.1.1.1.1 hret hnm hL hB H.size l
  have hat : (ws ++ [(q, e)])[ws.length]? = some (q, e) := by simp
  have hC1 : [ws.length].map (fun i => (ws ++ [(q, e)])[i]?) = [(q, e)].map some := by simp
  have hPc : va_P D.1 vwCl [(q, e)] H := hP.sub [ws.length] (by simp)
  have hDc : va_D A [(q, e)] := hD.sub [ws.length] (by simp [va_nd]) hC1
  have hFc := va_free (wc := [(q, e)]) hD hSt hA [ws.length] hC1
  have hgood : GoodIn fz_tb (fz_wd M') := by
    have := fz_good M' h1 [] (fun _ z => by cases z)
    exact this
  have hroom : (fz_rB d' NC' NS').frames + 1 ≤ R.frames ∧ 8 + (M'.2.2.1 + 11) + (fz_rB d' NC' NS').locals ≤ R.locals := by
    constructor
    · show d' + 1 ≤ R.frames; omega
    · show 8 + (M'.2.2.1 + 11) + d' * 64 ≤ R.locals
      omega
  have hpre : PreS s H (va_Pc (.ref q :: As) (fz_Bp D q e H.size)) (.ref q :: As) := ⟨fz_Bp_blind, fun U hU hWm => ⟨rfl, by rw [hU], by rw [hU]; exact hPc, va_K.moved hWm.alike hK, hDc.weaken (fun _ _ _ _ => trivial), fz_nN_warm hWm hN⟩⟩
  have hfix : CallFix p m c M.2.1 M.2.2.1 s args fz_tb M.1.cls := ⟨C.1, C.2.1, C.2.2.2.1, C.2.2.2.2.1, hts⟩
  have hwd : fz_wd M' = Cond.code M'.1 M'.2.1 M'.2.2.1 none :: fz_tb := by rw [← hret]
  have hrun : va_Run p l e2 R s m args below meth c H locs nc ns NC' NS' (F0 m pc lsc (As.reverse ++ .ref q :: st)) st (va_Qv (fun ws1 : va_W => Q' ws1) (fun ws1 t => va_P D.1 vwCl ws1 t.heap ∧ va_D (va_A [(q, e)] H.size) ws1) (va_A [(q, e)] H.size) (Value.ref q :: As).toArray) (va_A [(q, e)] H.size) := by
    cases nest with
    | true =>
      rw [if_pos rfl] at hlk
      exact va_runIN (host := host) hfix hMet ⟨va_cnB n hts hgood hwd rfl rfl (hN _ hlk) (hts _ h2) ⟨hpl.1.1.1.2, hpl.1.1.2, hpl.1.2⟩ hroom, hnm, hts _ h3⟩ hpre rfl hn hh.1 rfl (lv_room hcap) (fz_dk hM hc) ⟨by omega, by omega⟩
    | false =>
      rw [if_neg (by decide)] at hlk
      exact va_runI hfix hMet (cwI n hts hgood hwd rfl rfl (hts _ h2) (hts _ hlk) (hts _ h3) hnm ⟨hpl.1.1.1.2, hpl.1.1.2, hpl.1.2⟩ hroom) hpre rfl hn hh.1 rfl (lv_room hcap) (fz_dk hM hc) ⟨by omega, by omega⟩
  refine va_callv hrun hSt (fun x _ h => hFc x h) hFc (fun ws1 t H1 locs1 ht hvm hq hB1 hz1 hk1 hS1 => ?_)
  obtain ⟨hP1, hD1⟩ := hB1
  rw [ht] at hP1
  obtain ⟨hPj, hDj⟩ := va_join (wr := ws) (w1 := ws1) hP hD [ws.length] (List.range' 0 ws.length) hC1 (fz_map_range ws _) (fz_nd_range' _ _) (fun i hi z => by
    have h5 := (List.mem_range'_1.mp hi).2
    have h6 : i = ws.length := by simpa using z
    omega) hk1 hFc hP1 hD1
  exact kk ws1 hq p l e2 R s m args below meth c Qf A H0 C hA hend hx2 H1 locs1 lsc hPj hDj hS1 hh
end FB
