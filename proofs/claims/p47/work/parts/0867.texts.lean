/-! ===== texts: a machine for methods over a world that grows, beside strings that nobody writes ===== -/
abbrev st_tb : List Cond := fz_tb
theorem st_has {n : Nat} {w : Cond} (h : fz_wa n = some w) (hg : goodWord w = true) : w ∈ st_tb := fz_has h hg
theorem st_hasS (k : Nat) {q : String × String} (h : st_pm[k]? = some q) : Cond.selects "java/lang/StringBuilder" ⟨"java/lang/AbstractStringBuilder", q.1, q.2⟩ ⟨"java/lang/AbstractStringBuilder", q.1, q.2⟩ ∈ st_tb := List.mem_append_left _ (List.mem_map.mpr ⟨q, List.mem_of_getElem? h, rfl⟩)
theorem st_cl_in {ci N : Nat} {C : String} {T : u_T} (h : fz_nth vwCl ci = some (C, T, N)) : ∀ w ∈ u_ws C T N, w ∈ st_tb := fz_cl_in h
abbrev st_wd (M : fz_M) : List Cond := fz_wd M
theorem st_good (M : fz_M) (h : Cond.code M.1 M.2.1 M.2.2.1 M.2.2.2.1 ∈ st_tb) (ws : List Cond) (hw : ∀ w ∈ ws, w ∈ st_tb) : GoodIn st_tb (ws ++ st_wd M) := fz_good M h ws hw
abbrev st_D : Type := va_G × ClassId × ClassId × ClassId
abbrev st_ty (D : st_D) : List (ClassId × FieldType) := [(D.2.1, .int), (D.2.2.1, .long), (D.2.2.2, .byte)]
def st_Bx (D : st_D) (d NC NS : Nat) (M : fz_M) (p : Program) (R : Room) (s : State) (m : MethodId) (args : Array Value) (meth : Method) (c : Code) : Prop :=
  p.tables.exec = Jvm.exec ∧ c.code = M.2.1 ∧ meth.sig.returnType = M.2.2.2.1 ∧ c.maxLocals = M.2.2.1 ∧ s.vm.findClass M.1.cls = some m.cls ∧ (∀ w ∈ st_tb, w.before args s = true) ∧ meth.locks = false ∧ (M.1.name = "<init>" → meth.name = "<init>") ∧ d ≤ R.frames ∧ d * 64 ≤ R.locals ∧ NC ≤ R.cells ∧ NS ≤ R.slots ∧ va_K D.1 vwCl (st_ty D) s ∧ st_nN s
/-- how the method ends -/
def st_dr (M : fz_M) (pc : Nat) (v : Option Value) : Prop := match v with
  | none => M.2.2.2.1 = none ∧ decode M.2.1 pc = .ok (.return_, 1)
  | some (.int x) => decode M.2.1 pc = .ok (.ireturn, 1) ∧ ∃ ty, M.2.2.2.1 = some ty ∧ narrow ty (.int x) = .int x
  | some (.ref _) => decode M.2.1 pc = .ok (.areturn, 1) ∧ ∃ ty, M.2.2.2.1 = some ty ∧ ((∃ n, ty = .object n) ∨ ∃ t, ty = .array t)
  | _ => False
def st_R (D : st_D) (X : st_Xt) (d NC NS : Nat) (M : fz_M) (pc : Nat) (ls : List (Nat × Value)) (st : List Value) (ws : va_W) (nc ns : Nat) (Q : va_W → Option Value → Prop) : Prop :=
  ∀ (p : Program) (l : Launch) (e : Env) (R : Room) (s : State) (m : MethodId) (args : Array Value) (below : List Frame) (meth : Method) (c : Code) (Qf : State → Prop) (A : Nat → Prop),
    st_Bx D d NC NS M p R s m args meth c → (∀ q : Nat, s.heap.size ≤ q → A q) → st_ok X A s s.heap →
    (∀ (ws' : va_W) (v : Option Value) (pc' : Nat) (lsc : Array Slot) (H : Heap) (locs : List Loc), Q ws' v → st_dr M pc' v → va_P D.1 vwCl ws' H → va_D A ws' → va_S A s.heap H locs → W p l e R s m args below meth c H locs NC NS Qf (F0 m pc' lsc v.toList)) →
    ∀ (H : Heap) (locs : List Loc) (lsc : Array Slot), va_P D.1 vwCl ws H → va_D A ws → va_S A s.heap H locs → lv_has lsc M.2.2.1 ls → W p l e R s m args below meth c H locs nc ns Qf (F0 m pc lsc st)
theorem st_tI : (Cond.arrayClass FieldType.int) ∈ st_tb := st_has (n := 1074) rfl rfl
theorem st_tB : (Cond.arrayClass FieldType.byte) ∈ st_tb := st_has (n := 5013) rfl rfl
theorem st_ac1 : (Cond.native arraycopyName) ∈ st_tb := st_has (n := 3011) rfl rfl
theorem st_ac2 : (Cond.static arraycopyName) ∈ st_tb := st_has (n := 3010) rfl rfl
theorem st_ac3 : (Cond.initialized "java/lang/System") ∈ st_tb := st_has (n := 1012) rfl rfl
theorem st_nfw : nativeFrameWords "java/lang/System" "arraycopy" 5 ≤ 40 := by decide +kernel
theorem st_x1 : (Cond.static Lib.Math.max.name) ∈ st_tb := st_has (n := 3144) rfl rfl
theorem st_x2 : (Cond.code Lib.Math.max.name Lib.Math.max.code 2 (some .int)) ∈ st_tb := st_has (n := 3145) rfl rfl
theorem st_i1 : (Cond.static Lib.Math.min.name) ∈ st_tb := st_has (n := 2166) rfl rfl
theorem st_i2 : (Cond.code Lib.Math.min.name Lib.Math.min.code 2 (some .int)) ∈ st_tb := st_has (n := 2167) rfl rfl
theorem st_m0 : (Cond.initialized "java/lang/Math") ∈ st_tb := st_has (n := 1014) rfl rfl
theorem st_nr_int (x : Int32) : narrow .int (.int x) = .int x := rfl
theorem st_nr_boolean {x : Int} (h : x = 0 ∨ x = 1) : narrow .boolean (.int (Int32.ofInt x)) = .int (Int32.ofInt x) := by rcases h with rfl | rfl <;> decide
theorem st_nr_byte {x : Int} (h : x = 0) : narrow .byte (.int (Int32.ofInt x)) = .int (Int32.ofInt x) := by subst h; decide
theorem st_nr_char {x : Int} (h : 0 ≤ x ∧ x < 65536) : narrow .char (.int (Int32.ofInt x)) = .int (Int32.ofInt x) := by
  obtain ⟨n, rfl⟩ := Int.eq_ofNat_of_zero_le h.1
  exact (pk_charN (q := n) (by omega)).1
theorem st_and_m {x y : Int} (h0 : 0 ≤ y) (h1 : y < 2147483648) : 0 ≤ fz_and x y ∧ fz_and x y ≤ y := by
  obtain ⟨n, rfl⟩ := Int.eq_ofNat_of_zero_le h0
  have e : fz_and x (n : Int) = (BitVec.ofInt 32 x &&& BitVec.ofInt 32 (n : Int)).toInt := rfl
  have e2 : (BitVec.ofInt 32 x &&& BitVec.ofInt 32 (n : Int)).toNat ≤ n := by
    rw [BitVec.toNat_and]
    refine Nat.le_trans Nat.and_le_right ?_
    rw [BitVec.toNat_ofInt]
    omega
  rw [e, BitVec.toInt_eq_toNat_of_lt (by omega)]
  omega
theorem st_k1 : (Cond.sameMethod "[B" "java/lang/Object" "clone" "()Ljava/lang/Object;") ∈ st_tb := st_has (n := 5046) rfl rfl
theorem st_k2 : (Cond.native ⟨"java/lang/Object", "clone", "()Ljava/lang/Object;"⟩) ∈ st_tb := st_has (n := 5047) rfl rfl
theorem st_k3 : (Cond.instanceMethod ⟨"java/lang/Object", "clone", "()Ljava/lang/Object;"⟩) ∈ st_tb := st_has (n := 5048) rfl rfl
theorem st_k4 : (Cond.selects "[B" ⟨"[B", "clone", "()Ljava/lang/Object;"⟩ ⟨"java/lang/Object", "clone", "()Ljava/lang/Object;"⟩) ∈ st_tb := st_has (n := 5049) rfl rfl
theorem st_z0 : (-2147483648 : Int) ≤ 0 ∧ (0 : Int) < 2147483648 := ⟨by decide, by decide⟩
theorem st_nn {x : Int} (h0 : 0 ≤ x) (h1 : x < 2147483648) : ¬ Int32.ofInt x < 0 := by
  rw [Int32.lt_iff_toInt_lt, fz_t32 ⟨by omega, h1⟩]
  show ¬ x < 0
  omega
theorem st_fitN (x : Int32) : fits .byte (.int (vp_nar .byte x)) = true := pk_fb x
theorem st_e_i2c {x : Int} (h : 0 ≤ x ∧ x < 65536) : ((Int32.ofInt x).toUInt32 % 65536).toInt32 = Int32.ofInt x := by
  obtain ⟨n, rfl⟩ := Int.eq_ofNat_of_zero_le h.1
  have h9 := (pk_charN (q := n) (by omega)).1
  exact Value.int.inj h9
theorem st_fm {f : Nat → Option (Nat × va_E)} : ∀ {is : List Nat} {w : va_W}, is.map f = w.map some → is.filterMap f = w
  | [], [], _ => rfl
  | [], _ :: _, h => by cases h
  | _ :: _, [], h => by cases h
  | i :: is, x :: w, h => by
    simp only [List.map_cons, List.cons.injEq] at h
    rw [List.filterMap_cons_some h.1, st_fm h.2]
section ST
variable {D : st_D} {X : st_Xt} {d NC NS : Nat} {M : fz_M} {pc a b w : Nat} {ls ls' : List (Nat × Value)} {st st' : List Value} {ws ws' : va_W} {nc ns : Nat} {Q : va_W → Option Value → Prop}
theorem st_pure {pc' : Nat}
    (hw : ∀ (p : Program) (l : Launch) (e : Env) (R : Room) (s : State) (m : MethodId) (args : Array Value) (below : List Frame) (meth : Method) (c : Code) (Qf : State → Prop) (H : Heap) (locs : List Loc) (lsc : Array Slot), p.tables.exec = Jvm.exec → c.code = M.2.1 → lv_has lsc M.2.2.1 ls → W p l e R s m args below meth c H locs nc ns Qf (F0 m pc' lsc st') → W p l e R s m args below meth c H locs nc ns Qf (F0 m pc lsc st))
    (k : st_R D X d NC NS M pc' ls st' ws nc ns Q) : st_R D X d NC NS M pc ls st ws nc ns Q := by
  intro p l e R s m args below meth c Qf A C hA hX hend H locs lsc hP hD hS hl
  exact hw p l e R s m args below meth c Qf H locs lsc C.1 C.2.1 hl (k p l e R s m args below meth c Qf A C hA hX hend H locs lsc hP hD hS hl)
theorem st_br {pc1 pc2 : Nat} {c1 : Prop}
    (hw : ∀ (p : Program) (l : Launch) (e : Env) (R : Room) (s : State) (m : MethodId) (args : Array Value) (below : List Frame) (meth : Method) (c : Code) (Qf : State → Prop) (H : Heap) (locs : List Loc) (lsc : Array Slot), p.tables.exec = Jvm.exec → c.code = M.2.1 → (c1 → W p l e R s m args below meth c H locs nc ns Qf (F0 m pc1 lsc st')) → (¬ c1 → W p l e R s m args below meth c H locs nc ns Qf (F0 m pc2 lsc st')) → W p l e R s m args below meth c H locs nc ns Qf (F0 m pc lsc st))
    (k1 : c1 → st_R D X d NC NS M pc1 ls st' ws nc ns Q) (k2 : ¬ c1 → st_R D X d NC NS M pc2 ls st' ws nc ns Q) : st_R D X d NC NS M pc ls st ws nc ns Q := by
  intro p l e R s m args below meth c Qf A C hA hX hend H locs lsc hP hD hS hl
  exact hw p l e R s m args below meth c Qf H locs lsc C.1 C.2.1 (fun z => k1 z p l e R s m args below meth c Qf A C hA hX hend H locs lsc hP hD hS hl) (fun z => k2 z p l e R s m args below meth c Qf A C hA hX hend H locs lsc hP hD hS hl)
theorem st_ws (e : ws = ws') (k : st_R D X d NC NS M pc ls st ws' nc ns Q) : st_R D X d NC NS M pc ls st ws nc ns Q := by rw [e]; exact k
theorem st_st (e : st = st') (k : st_R D X d NC NS M pc ls st' ws nc ns Q) : st_R D X d NC NS M pc ls st ws nc ns Q := by rw [e]; exact k
theorem st_sz {nc' ns' : Nat} (e1 : nc ≤ nc') (e2 : ns ≤ ns') (k : st_R D X d NC NS M pc ls st ws nc' ns' Q) : st_R D X d NC NS M pc ls st ws nc ns Q := by
  intro p l e R s m args below meth c Qf A C hA hX hend H locs lsc hP hD hS hl
  exact W.widen e1 e2 (k p l e R s m args below meth c Qf A C hA hX hend H locs lsc hP hD hS hl)
theorem st_aload_n {n : Fin 4} {x : Nat} (k : Nat) (hM : fz_okK M = true) (hc : fz_at M.2.2.2.2 pc = some (.aload_n n, 1, a, b, w)) (hv : ls[k]? = some ((n : Nat), .ref x)) (kk : st_R D X d NC NS M (pc + 1) ls (.ref x :: st) ws nc ns Q) : st_R D X d NC NS M pc ls st ws nc ns Q :=
  st_pure (fun p l e R s m args below meth c Qf H locs lsc hx hb hl z => lv_aload_n hx hb (fz_dk hM hc) rfl (lv_at hl k hv) z) kk
theorem st_aload {i x : Nat} (k : Nat) (hM : fz_okK M = true) (hc : fz_at M.2.2.2.2 pc = some (.aload i, 2, a, b, w)) (hv : ls[k]? = some (i, .ref x)) (kk : st_R D X d NC NS M (pc + 2) ls (.ref x :: st) ws nc ns Q) : st_R D X d NC NS M pc ls st ws nc ns Q :=
  st_pure (fun p l e R s m args below meth c Qf H locs lsc hx hb hl z => lv_aload hx hb (fz_dk hM hc) (lv_at hl k hv) z) kk
theorem st_iload_n {n : Fin 4} {x : Int32} (k : Nat) (hM : fz_okK M = true) (hc : fz_at M.2.2.2.2 pc = some (.iload_n n, 1, a, b, w)) (hv : ls[k]? = some ((n : Nat), .int x)) (kk : st_R D X d NC NS M (pc + 1) ls (.int x :: st) ws nc ns Q) : st_R D X d NC NS M pc ls st ws nc ns Q :=
  st_pure (fun p l e R s m args below meth c Qf H locs lsc hx hb hl z => lv_iload_n hx hb (fz_dk hM hc) rfl (lv_at hl k hv) z) kk
theorem st_iload {i : Nat} {x : Int32} (k : Nat) (hM : fz_okK M = true) (hc : fz_at M.2.2.2.2 pc = some (.iload i, 2, a, b, w)) (hv : ls[k]? = some (i, .int x)) (kk : st_R D X d NC NS M (pc + 2) ls (.int x :: st) ws nc ns Q) : st_R D X d NC NS M pc ls st ws nc ns Q :=
  st_pure (fun p l e R s m args below meth c Qf H locs lsc hx hb hl z => lv_iload hx hb (fz_dk hM hc) (lv_at hl k hv) z) kk
theorem st_iconst {n : Int} (hM : fz_okK M = true) (hc : fz_at M.2.2.2.2 pc = some (.iconst n, 1, a, b, w)) (kk : st_R D X d NC NS M (pc + 1) ls (.int (Int32.ofInt n) :: st) ws nc ns Q) : st_R D X d NC NS M pc ls st ws nc ns Q :=
  st_pure (fun p l e R s m args below meth c Qf H locs lsc hx hb hl z => lv_iconst hx hb (fz_dk hM hc) rfl z) kk
theorem st_bipush {n : Int} (hn : -128 ≤ n ∧ n < 128) (hM : fz_okK M = true) (hc : fz_at M.2.2.2.2 pc = some (.bipush n, 2, a, b, w)) (kk : st_R D X d NC NS M (pc + 2) ls (.int (Int32.ofInt n) :: st) ws nc ns Q) : st_R D X d NC NS M pc ls st ws nc ns Q :=
  st_pure (fun p l e R s m args below meth c Qf H locs lsc hx hb hl z => lv_bipush hx hb (fz_dk hM hc) (fz_e_i8 hn) z) kk
theorem st_sipush {n : Int} (hn : -32768 ≤ n ∧ n < 32768) (hM : fz_okK M = true) (hc : fz_at M.2.2.2.2 pc = some (.sipush n, 3, a, b, w)) (kk : st_R D X d NC NS M (pc + 3) ls (.int (Int32.ofInt n) :: st) ws nc ns Q) : st_R D X d NC NS M pc ls st ws nc ns Q :=
  st_pure (fun p l e R s m args below meth c Qf H locs lsc hx hb hl z => lv_sipush hx hb (fz_dk hM hc) (fz_e_i16 hn) z) kk
theorem st_dup {v : Value} (hv : v.category = 1) (hM : fz_okK M = true) (hc : fz_at M.2.2.2.2 pc = some (.dup, 1, a, b, w)) (kk : st_R D X d NC NS M (pc + 1) ls (v :: v :: st) ws nc ns Q) : st_R D X d NC NS M pc ls (v :: st) ws nc ns Q :=
  st_pure (fun p l e R s m args below meth c Qf H locs lsc hx hb hl z => lv_dup hx hb (fz_dk hM hc) hv z) kk
theorem st_pop {v : Value} (hv : v.category = 1) (hM : fz_okK M = true) (hc : fz_at M.2.2.2.2 pc = some (.pop, 1, a, b, w)) (kk : st_R D X d NC NS M (pc + 1) ls st ws nc ns Q) : st_R D X d NC NS M pc ls (v :: st) ws nc ns Q :=
  st_pure (fun p l e R s m args below meth c Qf H locs lsc hx hb hl z => lv_pop hx hb (fz_dk hM hc) hv z) kk
theorem st_dup_x1 {v u : Value} (hv : v.category = 1) (hu : u.category = 1) (hM : fz_okK M = true) (hc : fz_at M.2.2.2.2 pc = some (.dup_x1, 1, a, b, w)) (kk : st_R D X d NC NS M (pc + 1) ls (v :: u :: v :: st) ws nc ns Q) : st_R D X d NC NS M pc ls (v :: u :: st) ws nc ns Q :=
  st_pure (fun p l e R s m args below meth c Qf H locs lsc hx hb hl z => lv_dup_x1 hx hb (fz_dk hM hc) hv hu z) kk
theorem st_goto {off : Int} {tgt : Nat} (hM : fz_okK M = true) (hc : fz_at M.2.2.2.2 pc = some (.goto off, 3, a, b, w)) (ht : (pc : Int) + off = (tgt : Int)) (kk : st_R D X d NC NS M tgt ls st ws nc ns Q) : st_R D X d NC NS M pc ls st ws nc ns Q :=
  st_pure (fun p l e R s m args below meth c Qf H locs lsc hx hb hl z => lv_goto hx hb (fz_dk hM hc) ht z) kk
theorem st_ifnonnull {x : Nat} {off : Int} {tgt : Nat} (hM : fz_okK M = true) (hc : fz_at M.2.2.2.2 pc = some (.ifnonnull off, 3, a, b, w)) (ht : (pc : Int) + off = (tgt : Int)) (kk : st_R D X d NC NS M tgt ls st ws nc ns Q) : st_R D X d NC NS M pc ls (.ref x :: st) ws nc ns Q :=
  st_pure (fun p l e R s m args below meth c Qf H locs lsc hx hb hl z => lv_ifnonnull hx hb (fz_dk hM hc) ht z) kk
theorem st_iadd {x y z : Int} (hz : fz_w (x + y) = z) (hM : fz_okK M = true) (hc : fz_at M.2.2.2.2 pc = some (.iadd, 1, a, b, w)) (kk : st_R D X d NC NS M (pc + 1) ls (.int (Int32.ofInt z) :: st) ws nc ns Q) : st_R D X d NC NS M pc ls (.int (Int32.ofInt y) :: .int (Int32.ofInt x) :: st) ws nc ns Q :=
  st_pure (fun p l e R s m args below meth c Qf H locs lsc hx hb hl q => lv_iadd hx hb (fz_dk hM hc) (by rw [fz_e_add, hz]; exact q)) kk
theorem st_isub {x y z : Int} (hz : fz_w (x - y) = z) (hM : fz_okK M = true) (hc : fz_at M.2.2.2.2 pc = some (.isub, 1, a, b, w)) (kk : st_R D X d NC NS M (pc + 1) ls (.int (Int32.ofInt z) :: st) ws nc ns Q) : st_R D X d NC NS M pc ls (.int (Int32.ofInt y) :: .int (Int32.ofInt x) :: st) ws nc ns Q :=
  st_pure (fun p l e R s m args below meth c Qf H locs lsc hx hb hl q => lv_isub hx hb (fz_dk hM hc) (by rw [fz_e_sub, hz]; exact q)) kk
theorem st_imul {x y z : Int} (hz : fz_w (x * y) = z) (hM : fz_okK M = true) (hc : fz_at M.2.2.2.2 pc = some (.imul, 1, a, b, w)) (kk : st_R D X d NC NS M (pc + 1) ls (.int (Int32.ofInt z) :: st) ws nc ns Q) : st_R D X d NC NS M pc ls (.int (Int32.ofInt y) :: .int (Int32.ofInt x) :: st) ws nc ns Q :=
  st_pure (fun p l e R s m args below meth c Qf H locs lsc hx hb hl q => lv_imul hx hb (fz_dk hM hc) (by rw [fz_e_mul, hz]; exact q)) kk
theorem st_ineg {x z : Int} (hz : fz_w (- x) = z) (hM : fz_okK M = true) (hc : fz_at M.2.2.2.2 pc = some (.ineg, 1, a, b, w)) (kk : st_R D X d NC NS M (pc + 1) ls (.int (Int32.ofInt z) :: st) ws nc ns Q) : st_R D X d NC NS M pc ls (.int (Int32.ofInt x) :: st) ws nc ns Q :=
  st_pure (fun p l e R s m args below meth c Qf H locs lsc hx hb hl q => lv_ineg hx hb (fz_dk hM hc) (by rw [fz_e_neg, hz]; exact q)) kk
theorem st_irem {x y z : Int} (hx1 : -2147483648 ≤ x ∧ x < 2147483648) (hy1 : -2147483648 ≤ y ∧ y < 2147483648) (hne : ¬ y = 0) (hz : fz_w (Int.tmod x y) = z) (hM : fz_okK M = true) (hc : fz_at M.2.2.2.2 pc = some (.irem, 1, a, b, w)) (kk : st_R D X d NC NS M (pc + 1) ls (.int (Int32.ofInt z) :: st) ws nc ns Q) : st_R D X d NC NS M pc ls (.int (Int32.ofInt y) :: .int (Int32.ofInt x) :: st) ws nc ns Q :=
  st_pure (fun p l e R s m args below meth c Qf H locs lsc hx hb hl q => lv_irem hx hb (fz_dk hM hc) (fun z => hne ((fz_eq hy1 ⟨by omega, by omega⟩).mp (z.trans fz_e_0))) (by rw [fz_e_rem hx1 hy1, hz]; exact q)) kk
theorem st_ishl0 {x : Int} (hM : fz_okK M = true) (hc : fz_at M.2.2.2.2 pc = some (.ishl, 1, a, b, w)) (kk : st_R D X d NC NS M (pc + 1) ls (.int (Int32.ofInt x) :: st) ws nc ns Q) : st_R D X d NC NS M pc ls (.int (Int32.ofInt 0) :: .int (Int32.ofInt x) :: st) ws nc ns Q :=
  st_pure (fun p l e R s m args below meth c Qf H locs lsc hx hb hl q => lv_ishl hx hb (fz_dk hM hc) (by rw [show Int32.ofInt x <<< (Int32.ofInt 0 &&& 31) = Int32.ofInt x from sb_shl0 _]; exact q)) kk
theorem st_ishr0 {x : Int} (hM : fz_okK M = true) (hc : fz_at M.2.2.2.2 pc = some (.ishr, 1, a, b, w)) (kk : st_R D X d NC NS M (pc + 1) ls (.int (Int32.ofInt x) :: st) ws nc ns Q) : st_R D X d NC NS M pc ls (.int (Int32.ofInt 0) :: .int (Int32.ofInt x) :: st) ws nc ns Q :=
  st_pure (fun p l e R s m args below meth c Qf H locs lsc hx hb hl q => lv_ishr hx hb (fz_dk hM hc) (by rw [show Int32.ofInt x >>> (Int32.ofInt 0 &&& 31) = Int32.ofInt x from sb_shr0 _]; exact q)) kk
theorem st_ishr {x y : Int} (hM : fz_okK M = true) (hc : fz_at M.2.2.2.2 pc = some (.ishr, 1, a, b, w)) (kk : ∀ z : Int, -2147483648 ≤ z ∧ z < 2147483648 → st_R D X d NC NS M (pc + 1) ls (.int (Int32.ofInt z) :: st) ws nc ns Q) : st_R D X d NC NS M pc ls (.int (Int32.ofInt y) :: .int (Int32.ofInt x) :: st) ws nc ns Q :=
  st_pure (fun p l e R s m args below meth c Qf H locs lsc hx hb hl q => lv_ishr hx hb (fz_dk hM hc) (by rw [show Int32.ofInt x >>> (Int32.ofInt y &&& 31) = Int32.ofInt (Int32.ofInt x >>> (Int32.ofInt y &&& 31)).toInt from (fz_r32 _).symm]; exact q)) (kk _ (fz_b32 _))
theorem st_iand {x y : Int} (hM : fz_okK M = true) (hc : fz_at M.2.2.2.2 pc = some (.iand, 1, a, b, w)) (kk : ∀ z : Int, z = fz_and x y → st_R D X d NC NS M (pc + 1) ls (.int (Int32.ofInt z) :: st) ws nc ns Q) : st_R D X d NC NS M pc ls (.int (Int32.ofInt y) :: .int (Int32.ofInt x) :: st) ws nc ns Q :=
  st_pure (fun p l e R s m args below meth c Qf H locs lsc hx hb hl q => lv_iand hx hb (fz_dk hM hc) (by rw [show Int32.ofInt x &&& Int32.ofInt y = Int32.ofInt (fz_and x y) from (fz_r32 _).symm]; exact q)) (kk _ rfl)
theorem st_i2b {x : Int} (hM : fz_okK M = true) (hc : fz_at M.2.2.2.2 pc = some (.i2b, 1, a, b, w)) (kk : st_R D X d NC NS M (pc + 1) ls (.int (Int32.ofInt (fz_i2b x)) :: st) ws nc ns Q) : st_R D X d NC NS M pc ls (.int (Int32.ofInt x) :: st) ws nc ns Q :=
  st_pure (fun p l e R s m args below meth c Qf H locs lsc hx hb hl q => lv_i2b hx hb (fz_dk hM hc) (fz_e_i2b x) q) kk
theorem st_i2c {x : Int} (hx1 : 0 ≤ x ∧ x < 65536) (hM : fz_okK M = true) (hc : fz_at M.2.2.2.2 pc = some (.i2c, 1, a, b, w)) (kk : st_R D X d NC NS M (pc + 1) ls (.int (Int32.ofInt x) :: st) ws nc ns Q) : st_R D X d NC NS M pc ls (.int (Int32.ofInt x) :: st) ws nc ns Q :=
  st_pure (fun p l e R s m args below meth c Qf H locs lsc hx hb hl q => lv_i2c hx hb (fz_dk hM hc) (st_e_i2c hx1) q) kk
theorem st_istore_n {n : Fin 4} {x : Int32} (hM : fz_okK M = true) (hc : fz_at M.2.2.2.2 pc = some (.istore_n n, 1, a, b, w)) (hn : (n : Nat) < M.2.2.1) (hl : ((n : Nat), Value.int x) :: ls.filter (fun q => !(q.1 == (n : Nat)) && !(q.1 + 1 == (n : Nat) && q.2.category == 2)) = ls') (kk : st_R D X d NC NS M (pc + 1) ls' st ws nc ns Q) : st_R D X d NC NS M pc ls (.int x :: st) ws nc ns Q := by
  intro p l e R s m args below meth c Qf A C hA hX hend H locs lsc hP hD hS hh
  exact lv_istore_n C.1 C.2.1 (fz_dk hM hc) rfl hh hn hl (fun lsc2 h2 => kk p l e R s m args below meth c Qf A C hA hX hend H locs lsc2 hP hD hS h2)
theorem st_istore {i : Nat} {x : Int32} (hM : fz_okK M = true) (hc : fz_at M.2.2.2.2 pc = some (.istore i, 2, a, b, w)) (hn : i < M.2.2.1) (hl : (i, Value.int x) :: ls.filter (fun q => !(q.1 == i) && !(q.1 + 1 == i && q.2.category == 2)) = ls') (kk : st_R D X d NC NS M (pc + 2) ls' st ws nc ns Q) : st_R D X d NC NS M pc ls (.int x :: st) ws nc ns Q := by
  intro p l e R s m args below meth c Qf A C hA hX hend H locs lsc hP hD hS hh
  exact lv_istore C.1 C.2.1 (fz_dk hM hc) hh hn hl (fun lsc2 h2 => kk p l e R s m args below meth c Qf A C hA hX hend H locs lsc2 hP hD hS h2)
theorem st_astore_n {n : Fin 4} {x : Nat} (hM : fz_okK M = true) (hc : fz_at M.2.2.2.2 pc = some (.astore_n n, 1, a, b, w)) (hn : (n : Nat) < M.2.2.1) (hl : ((n : Nat), Value.ref x) :: ls.filter (fun q => !(q.1 == (n : Nat)) && !(q.1 + 1 == (n : Nat) && q.2.category == 2)) = ls') (kk : st_R D X d NC NS M (pc + 1) ls' st ws nc ns Q) : st_R D X d NC NS M pc ls (.ref x :: st) ws nc ns Q := by
  intro p l e R s m args below meth c Qf A C hA hX hend H locs lsc hP hD hS hh
  exact lv_astore_n C.1 C.2.1 (fz_dk hM hc) rfl hh hn hl (fun lsc2 h2 => kk p l e R s m args below meth c Qf A C hA hX hend H locs lsc2 hP hD hS h2)
theorem st_astore {i x : Nat} (hM : fz_okK M = true) (hc : fz_at M.2.2.2.2 pc = some (.astore i, 2, a, b, w)) (hn : i < M.2.2.1) (hl : (i, Value.ref x) :: ls.filter (fun q => !(q.1 == i) && !(q.1 + 1 == i && q.2.category == 2)) = ls') (kk : st_R D X d NC NS M (pc + 2) ls' st ws nc ns Q) : st_R D X d NC NS M pc ls (.ref x :: st) ws nc ns Q := by
  intro p l e R s m args below meth c Qf A C hA hX hend H locs lsc hP hD hS hh
  exact lv_astore C.1 C.2.1 (fz_dk hM hc) hh hn hl (fun lsc2 h2 => kk p l e R s m args below meth c Qf A C hA hX hend H locs lsc2 hP hD hS h2)
theorem st_iinc {i k : Nat} {n x z : Int} (hz : fz_w (x + n) = z) (hM : fz_okK M = true) (hc : fz_at M.2.2.2.2 pc = some (.iinc i n, 3, a, b, w)) (hk : ls[k]? = some (i, .int (Int32.ofInt x))) (hn : i < M.2.2.1) (hl : (i, Value.int (Int32.ofInt z)) :: ls.filter (fun q => !(q.1 == i) && !(q.1 + 1 == i && q.2.category == 2)) = ls') (kk : st_R D X d NC NS M (pc + 3) ls' st ws nc ns Q) : st_R D X d NC NS M pc ls st ws nc ns Q := by
  intro p l e R s m args below meth c Qf A C hA hX hend H locs lsc hP hD hS hh
  exact lv_iinc C.1 C.2.1 (fz_dk hM hc) hh hk (by rw [fz_e_add, hz]) hn hl (fun lsc2 h2 => kk p l e R s m args below meth c Qf A C hA hX hend H locs lsc2 hP hD hS h2)
theorem st_icmp_lt {x y : Int} {off : Int} {tgt : Nat} (hx1 : -2147483648 ≤ x ∧ x < 2147483648) (hy1 : -2147483648 ≤ y ∧ y < 2147483648) (hM : fz_okK M = true) (hc : fz_at M.2.2.2.2 pc = some (.if_icmp .lt off, 3, a, b, w)) (ht : (pc : Int) + off = (tgt : Int)) (k1 : x < y → st_R D X d NC NS M tgt ls st ws nc ns Q) (k2 : ¬ (x < y) → st_R D X d NC NS M (pc + 3) ls st ws nc ns Q) : st_R D X d NC NS M pc ls (.int (Int32.ofInt y) :: .int (Int32.ofInt x) :: st) ws nc ns Q :=
  st_br (fun p l e R s m args below meth c Qf H locs lsc hx hb k1 k2 => lv_icmp_lt hx hb (fz_dk hM hc) ht (fun z => k1 ((fz_lt hx1 hy1).mp z)) (fun z => k2 (fun q => z ((fz_lt hx1 hy1).mpr q)))) k1 k2
theorem st_icmp_ge {x y : Int} {off : Int} {tgt : Nat} (hx1 : -2147483648 ≤ x ∧ x < 2147483648) (hy1 : -2147483648 ≤ y ∧ y < 2147483648) (hM : fz_okK M = true) (hc : fz_at M.2.2.2.2 pc = some (.if_icmp .ge off, 3, a, b, w)) (ht : (pc : Int) + off = (tgt : Int)) (k1 : y ≤ x → st_R D X d NC NS M tgt ls st ws nc ns Q) (k2 : ¬ (y ≤ x) → st_R D X d NC NS M (pc + 3) ls st ws nc ns Q) : st_R D X d NC NS M pc ls (.int (Int32.ofInt y) :: .int (Int32.ofInt x) :: st) ws nc ns Q :=
  st_br (fun p l e R s m args below meth c Qf H locs lsc hx hb k1 k2 => lv_icmp_ge hx hb (fz_dk hM hc) ht (fun z => k1 ((fz_le hy1 hx1).mp z)) (fun z => k2 (fun q => z ((fz_le hy1 hx1).mpr q)))) k1 k2
theorem st_icmp_gt {x y : Int} {off : Int} {tgt : Nat} (hx1 : -2147483648 ≤ x ∧ x < 2147483648) (hy1 : -2147483648 ≤ y ∧ y < 2147483648) (hM : fz_okK M = true) (hc : fz_at M.2.2.2.2 pc = some (.if_icmp .gt off, 3, a, b, w)) (ht : (pc : Int) + off = (tgt : Int)) (k1 : y < x → st_R D X d NC NS M tgt ls st ws nc ns Q) (k2 : ¬ (y < x) → st_R D X d NC NS M (pc + 3) ls st ws nc ns Q) : st_R D X d NC NS M pc ls (.int (Int32.ofInt y) :: .int (Int32.ofInt x) :: st) ws nc ns Q :=
  st_br (fun p l e R s m args below meth c Qf H locs lsc hx hb k1 k2 => lv_icmp_gt hx hb (fz_dk hM hc) ht (fun z => k1 ((fz_lt hy1 hx1).mp z)) (fun z => k2 (fun q => z ((fz_lt hy1 hx1).mpr q)))) k1 k2
theorem st_icmp_le {x y : Int} {off : Int} {tgt : Nat} (hx1 : -2147483648 ≤ x ∧ x < 2147483648) (hy1 : -2147483648 ≤ y ∧ y < 2147483648) (hM : fz_okK M = true) (hc : fz_at M.2.2.2.2 pc = some (.if_icmp .le off, 3, a, b, w)) (ht : (pc : Int) + off = (tgt : Int)) (k1 : x ≤ y → st_R D X d NC NS M tgt ls st ws nc ns Q) (k2 : ¬ (x ≤ y) → st_R D X d NC NS M (pc + 3) ls st ws nc ns Q) : st_R D X d NC NS M pc ls (.int (Int32.ofInt y) :: .int (Int32.ofInt x) :: st) ws nc ns Q :=
  st_br (fun p l e R s m args below meth c Qf H locs lsc hx hb k1 k2 => lv_icmp_le hx hb (fz_dk hM hc) ht (fun z => k1 ((fz_le hx1 hy1).mp z)) (fun z => k2 (fun q => z ((fz_le hx1 hy1).mpr q)))) k1 k2
theorem st_icmp_eq {x y : Int} {off : Int} {tgt : Nat} (hx1 : -2147483648 ≤ x ∧ x < 2147483648) (hy1 : -2147483648 ≤ y ∧ y < 2147483648) (hM : fz_okK M = true) (hc : fz_at M.2.2.2.2 pc = some (.if_icmp .eq off, 3, a, b, w)) (ht : (pc : Int) + off = (tgt : Int)) (k1 : x = y → st_R D X d NC NS M tgt ls st ws nc ns Q) (k2 : ¬ (x = y) → st_R D X d NC NS M (pc + 3) ls st ws nc ns Q) : st_R D X d NC NS M pc ls (.int (Int32.ofInt y) :: .int (Int32.ofInt x) :: st) ws nc ns Q :=
  st_br (fun p l e R s m args below meth c Qf H locs lsc hx hb k1 k2 => lv_icmp_eq hx hb (fz_dk hM hc) ht (fun z => k1 ((fz_eq hx1 hy1).mp z)) (fun z => k2 (fun q => z ((fz_eq hx1 hy1).mpr q)))) k1 k2
theorem st_icmp_ne {x y : Int} {off : Int} {tgt : Nat} (hx1 : -2147483648 ≤ x ∧ x < 2147483648) (hy1 : -2147483648 ≤ y ∧ y < 2147483648) (hM : fz_okK M = true) (hc : fz_at M.2.2.2.2 pc = some (.if_icmp .ne off, 3, a, b, w)) (ht : (pc : Int) + off = (tgt : Int)) (k1 : ¬ x = y → st_R D X d NC NS M tgt ls st ws nc ns Q) (k2 : ¬ (¬ x = y) → st_R D X d NC NS M (pc + 3) ls st ws nc ns Q) : st_R D X d NC NS M pc ls (.int (Int32.ofInt y) :: .int (Int32.ofInt x) :: st) ws nc ns Q :=
  st_br (fun p l e R s m args below meth c Qf H locs lsc hx hb k1 k2 => lv_icmp_ne hx hb (fz_dk hM hc) ht (fun z => k1 (fun q => z ((fz_eq hx1 hy1).mpr q))) (fun z => k2 (fun q => q ((fz_eq hx1 hy1).mp z)))) k1 k2
theorem st_if_lt {x : Int} {off : Int} {tgt : Nat} (hx1 : -2147483648 ≤ x ∧ x < 2147483648) (hM : fz_okK M = true) (hc : fz_at M.2.2.2.2 pc = some (.ifCond .lt off, 3, a, b, w)) (ht : (pc : Int) + off = (tgt : Int)) (k1 : x < 0 → st_R D X d NC NS M tgt ls st ws nc ns Q) (k2 : ¬ (x < 0) → st_R D X d NC NS M (pc + 3) ls st ws nc ns Q) : st_R D X d NC NS M pc ls (.int (Int32.ofInt x) :: st) ws nc ns Q :=
  st_br (fun p l e R s m args below meth c Qf H locs lsc hx hb k1 k2 => lv_if_lt hx hb (fz_dk hM hc) ht (fun z => k1 ((fz_lt hx1 st_z0).mp z)) (fun z => k2 (fun q => z ((fz_lt hx1 st_z0).mpr q)))) k1 k2
theorem st_if_ge {x : Int} {off : Int} {tgt : Nat} (hx1 : -2147483648 ≤ x ∧ x < 2147483648) (hM : fz_okK M = true) (hc : fz_at M.2.2.2.2 pc = some (.ifCond .ge off, 3, a, b, w)) (ht : (pc : Int) + off = (tgt : Int)) (k1 : 0 ≤ x → st_R D X d NC NS M tgt ls st ws nc ns Q) (k2 : ¬ (0 ≤ x) → st_R D X d NC NS M (pc + 3) ls st ws nc ns Q) : st_R D X d NC NS M pc ls (.int (Int32.ofInt x) :: st) ws nc ns Q :=
  st_br (fun p l e R s m args below meth c Qf H locs lsc hx hb k1 k2 => lv_if_ge hx hb (fz_dk hM hc) ht (fun z => k1 ((fz_le st_z0 hx1).mp z)) (fun z => k2 (fun q => z ((fz_le st_z0 hx1).mpr q)))) k1 k2
theorem st_if_gt {x : Int} {off : Int} {tgt : Nat} (hx1 : -2147483648 ≤ x ∧ x < 2147483648) (hM : fz_okK M = true) (hc : fz_at M.2.2.2.2 pc = some (.ifCond .gt off, 3, a, b, w)) (ht : (pc : Int) + off = (tgt : Int)) (k1 : 0 < x → st_R D X d NC NS M tgt ls st ws nc ns Q) (k2 : ¬ (0 < x) → st_R D X d NC NS M (pc + 3) ls st ws nc ns Q) : st_R D X d NC NS M pc ls (.int (Int32.ofInt x) :: st) ws nc ns Q :=
  st_br (fun p l e R s m args below meth c Qf H locs lsc hx hb k1 k2 => lv_if_gt hx hb (fz_dk hM hc) ht (fun z => k1 ((fz_lt st_z0 hx1).mp z)) (fun z => k2 (fun q => z ((fz_lt st_z0 hx1).mpr q)))) k1 k2
theorem st_if_le {x : Int} {off : Int} {tgt : Nat} (hx1 : -2147483648 ≤ x ∧ x < 2147483648) (hM : fz_okK M = true) (hc : fz_at M.2.2.2.2 pc = some (.ifCond .le off, 3, a, b, w)) (ht : (pc : Int) + off = (tgt : Int)) (k1 : x ≤ 0 → st_R D X d NC NS M tgt ls st ws nc ns Q) (k2 : ¬ (x ≤ 0) → st_R D X d NC NS M (pc + 3) ls st ws nc ns Q) : st_R D X d NC NS M pc ls (.int (Int32.ofInt x) :: st) ws nc ns Q :=
  st_br (fun p l e R s m args below meth c Qf H locs lsc hx hb k1 k2 => lv_if_le hx hb (fz_dk hM hc) ht (fun z => k1 ((fz_le hx1 st_z0).mp z)) (fun z => k2 (fun q => z ((fz_le hx1 st_z0).mpr q)))) k1 k2
theorem st_if_eq {x : Int} {off : Int} {tgt : Nat} (hx1 : -2147483648 ≤ x ∧ x < 2147483648) (hM : fz_okK M = true) (hc : fz_at M.2.2.2.2 pc = some (.ifCond .eq off, 3, a, b, w)) (ht : (pc : Int) + off = (tgt : Int)) (k1 : x = 0 → st_R D X d NC NS M tgt ls st ws nc ns Q) (k2 : ¬ (x = 0) → st_R D X d NC NS M (pc + 3) ls st ws nc ns Q) : st_R D X d NC NS M pc ls (.int (Int32.ofInt x) :: st) ws nc ns Q :=
  st_br (fun p l e R s m args below meth c Qf H locs lsc hx hb k1 k2 => lv_if_eq hx hb (fz_dk hM hc) ht (fun z => k1 ((fz_eq hx1 st_z0).mp z)) (fun z => k2 (fun q => z ((fz_eq hx1 st_z0).mpr q)))) k1 k2
theorem st_if_ne {x : Int} {off : Int} {tgt : Nat} (hx1 : -2147483648 ≤ x ∧ x < 2147483648) (hM : fz_okK M = true) (hc : fz_at M.2.2.2.2 pc = some (.ifCond .ne off, 3, a, b, w)) (ht : (pc : Int) + off = (tgt : Int)) (k1 : ¬ x = 0 → st_R D X d NC NS M tgt ls st ws nc ns Q) (k2 : ¬ (¬ x = 0) → st_R D X d NC NS M (pc + 3) ls st ws nc ns Q) : st_R D X d NC NS M pc ls (.int (Int32.ofInt x) :: st) ws nc ns Q :=
  st_br (fun p l e R s m args below meth c Qf H locs lsc hx hb k1 k2 => lv_if_ne hx hb (fz_dk hM hc) ht (fun z => k1 (fun q => z ((fz_eq hx1 st_z0).mpr q))) (fun z => k2 (fun q => q ((fz_eq hx1 st_z0).mp z)))) k1 k2
theorem st_ldcS {idx q : Nat} {tx : String} (hown : M.1.cls = "FameAheadLaw") (hq : (idx, tx, q) ∈ X.2.1) (hM : fz_okK M = true) (hc : fz_at M.2.2.2.2 pc = some (.ldc idx, 2, a, b, w)) (kk : st_R D X d NC NS M (pc + 2) ls (.ref q :: st) ws nc ns Q) : st_R D X d NC NS M pc ls st ws nc ns Q := by
  intro p l e R s m args below meth c Qf A C hA hX hend H locs lsc hP hD hS hh
  have h1 := C.2.2.2.2.1
  rw [hown] at h1
  exact va_ldcS C.1 C.2.1 h1 (hX.2.2.1 _ hq) (fz_dk hM hc) (kk p l e R s m args below meth c Qf A C hA hX hend H locs lsc hP hD hS hh)
theorem st_ldc {idx : Nat} {v : Int} (hk : Cond.constant M.1.cls idx (Int32.ofInt v) ∈ st_tb) (hM : fz_okK M = true) (hc : fz_at M.2.2.2.2 pc = some (.ldc idx, 2, a, b, w)) (kk : st_R D X d NC NS M (pc + 2) ls (.int (Int32.ofInt v) :: st) ws nc ns Q) : st_R D X d NC NS M pc ls st ws nc ns Q := by
  intro p l e R s m args below meth c Qf A C hA hX hend H locs lsc hP hD hS hh
  exact lv_ldc C.1 C.2.1 C.2.2.2.2.1 (C.2.2.2.2.2.1 _ hk) (fz_dk hM hc) (kk p l e R s m args below meth c Qf A C hA hX hend H locs lsc hP hD hS hh)
theorem st_compact {idx : Nat} (hk : Cond.fieldLink M.1.cls idx "java/lang/String" "COMPACT_STRINGS" "Z" ∈ st_tb) (hM : fz_okK M = true) (hc : fz_at M.2.2.2.2 pc = some (.getstatic idx, 3, a, b, w)) (kk : st_R D X d NC NS M (pc + 3) ls (.int (Int32.ofInt 1) :: st) ws nc ns Q) : st_R D X d NC NS M pc ls st ws nc ns Q := by
  intro p l e R s m args below meth c Qf A C hA hX hend H locs lsc hP hD hS hh
  exact va_gets C.1 C.2.1 hX.1.1 hS C.2.2.2.2.1 (C.2.2.2.2.2.1 _ hk) (fun _ z => z) (fz_dk hM hc) (kk p l e R s m args below meth c Qf A C hA hX hend H locs lsc hP hD hS hh)
theorem st_formatter {idx : Nat} (hk : Cond.fieldLink M.1.cls idx "jdk/internal/util/Preconditions" "SIOOBE_FORMATTER" "Ljava/util/function/BiFunction;" ∈ st_tb) (hM : fz_okK M = true) (hc : fz_at M.2.2.2.2 pc = some (.getstatic idx, 3, a, b, w)) (kk : ∀ v : Value, (v = .null ∨ ∃ q, v = .ref q) → st_R D X d NC NS M (pc + 3) ls (v :: st) ws nc ns Q) : st_R D X d NC NS M pc ls st ws nc ns Q := by
  intro p l e R s m args below meth c Qf A C hA hX hend H locs lsc hP hD hS hh
  rcases hX.1.2.1 with hv | ⟨v, hv⟩
  · exact va_gets C.1 C.2.1 hv hS C.2.2.2.2.1 (C.2.2.2.2.2.1 _ hk) (fun _ z => z) (fz_dk hM hc) (kk .null (Or.inl rfl) p l e R s m args below meth c Qf A C hA hX hend H locs lsc hP hD hS hh)
  · exact va_gets C.1 C.2.1 hv hS C.2.2.2.2.1 (C.2.2.2.2.2.1 _ hk) (fun _ z => z) (fz_dk hM hc) (kk (.ref v) (Or.inr ⟨v, rfl⟩) p l e R s m args below meth c Qf A C hA hX hend H locs lsc hP hD hS hh)
/-- the tables of digits -/
theorem st_getY {idx q : Nat} {n : String} (hn : (n = "DigitOnes" ∧ q = X.2.2.1.1) ∨ (n = "DigitTens" ∧ q = X.2.2.1.2)) (hk : Cond.fieldLink M.1.cls idx "java/lang/Integer" n "[B" ∈ st_tb) (hM : fz_okK M = true) (hc : fz_at M.2.2.2.2 pc = some (.getstatic idx, 3, a, b, w)) (kk : st_R D X d NC NS M (pc + 3) ls (.ref q :: st) ws nc ns Q) : st_R D X d NC NS M pc ls st ws nc ns Q := by
  intro p l e R s m args below meth c Qf A C hA hX hend H locs lsc hP hD hS hh
  rcases hn with ⟨rfl, rfl⟩ | ⟨rfl, rfl⟩
  · obtain ⟨f, h1, h2, h3⟩ := hX.1.2.2.1
    exact va_gets C.1 C.2.1 h1 hS C.2.2.2.2.1 (C.2.2.2.2.2.1 _ hk) (fun _ z => z) (fz_dk hM hc) (kk p l e R s m args below meth c Qf A C hA hX hend H locs lsc hP hD hS hh)
  · obtain ⟨f, h1, h2, h3⟩ := hX.1.2.2.2
    exact va_gets C.1 C.2.1 h1 hS C.2.2.2.2.1 (C.2.2.2.2.2.1 _ hk) (fun _ z => z) (fz_dk hM hc) (kk p l e R s m args below meth c Qf A C hA hX hend H locs lsc hP hD hS hh)
theorem st_baldY {q : Nat} {y : Int} (hq : q = X.2.2.1.1 ∨ q = X.2.2.1.2) (hy : 0 ≤ y ∧ y < 100) (hM : fz_okK M = true) (hc : fz_at M.2.2.2.2 pc = some (.baload, 1, a, b, w)) (kk : ∀ z : Int, fits .byte (.int (Int32.ofInt z)) = true → st_R D X d NC NS M (pc + 1) ls (.int (Int32.ofInt z) :: st) ws nc ns Q) : st_R D X d NC NS M pc ls (.int (Int32.ofInt y) :: .ref q :: st) ws nc ns Q := by
  intro p l e R s m args below meth c Qf A C hA hX hend H locs lsc hP hD hS hh
  have hT : ∃ f : Nat → Int32, va_T .byte q 100 (fun j => .int (f j)) A s s.heap ∧ sb_Fit f := by
    rcases hq with rfl | rfl
    · obtain ⟨f, h1, h2, h3⟩ := hX.1.2.2.1; exact ⟨f, h2, h3⟩
    · obtain ⟨f, h1, h2, h3⟩ := hX.1.2.2.2; exact ⟨f, h2, h3⟩
  obtain ⟨f, h2, h3⟩ := hT
  refine va_tb C.1 C.2.1 h2 hS (fz_in hy.1 (by omega) (by omega)) (v := .int (Int32.ofInt (f (Int32.ofInt y).toNatClampNeg).toInt)) (by rw [fz_r32]) (fz_dk hM hc) ?_
  exact kk _ (by rw [fz_r32]; exact h3 _) p l e R s m args below meth c Qf A C hA hX hend H locs lsc hP hD hS hh
/-- strings that nobody writes: coder, value, value.length, a byte -/
theorem st_scoder {idx r q n : Nat} (hr : (r, q, n) ∈ X.1) (hk : Cond.fieldLink M.1.cls idx "java/lang/String" "coder" "B" ∈ st_tb) (hM : fz_okK M = true) (hc : fz_at M.2.2.2.2 pc = some (.getfield idx, 3, a, b, w)) (kk : st_R D X d NC NS M (pc + 3) ls (.int (Int32.ofInt 0) :: st) ws nc ns Q) : st_R D X d NC NS M pc ls (.ref r :: st) ws nc ns Q := by
  intro p l e R s m args below meth c Qf A C hA hX hend H locs lsc hP hD hS hh
  obtain ⟨f, h1, h2, h3, h4, h5, h6⟩ := hX.2.1 _ hr
  exact vk_getf C.1 C.2.1 h2 hS C.2.2.2.2.1 (C.2.2.2.2.2.1 _ hk) (fun _ z => z) (fz_dk hM hc) (kk p l e R s m args below meth c Qf A C hA hX hend H locs lsc hP hD hS hh)
theorem st_sval {idx r q n : Nat} (hr : (r, q, n) ∈ X.1) (hk : Cond.fieldLink M.1.cls idx "java/lang/String" "value" "[B" ∈ st_tb) (hM : fz_okK M = true) (hc : fz_at M.2.2.2.2 pc = some (.getfield idx, 3, a, b, w)) (kk : st_R D X d NC NS M (pc + 3) ls (.ref q :: st) ws nc ns Q) : st_R D X d NC NS M pc ls (.ref r :: st) ws nc ns Q := by
  intro p l e R s m args below meth c Qf A C hA hX hend H locs lsc hP hD hS hh
  obtain ⟨f, h1, h2, h3, h4, h5, h6⟩ := hX.2.1 _ hr
  exact vk_getf C.1 C.2.1 h3 hS C.2.2.2.2.1 (C.2.2.2.2.2.1 _ hk) (fun _ z => z) (fz_dk hM hc) (kk p l e R s m args below meth c Qf A C hA hX hend H locs lsc hP hD hS hh)
theorem st_slen {r q n : Nat} (hr : (r, q, n) ∈ X.1) (hM : fz_okK M = true) (hc : fz_at M.2.2.2.2 pc = some (.arraylength, 1, a, b, w)) (kk : n < 100000 → st_R D X d NC NS M (pc + 1) ls (.int (Int32.ofInt (n : Int)) :: st) ws nc ns Q) : st_R D X d NC NS M pc ls (.ref q :: st) ws nc ns Q := by
  intro p l e R s m args below meth c Qf A C hA hX hend H locs lsc hP hD hS hh
  obtain ⟨f, h1, h2, h3, h4, h5, h6⟩ := hX.2.1 _ hr
  exact va_tlen C.1 C.2.1 h4 hS (v := Int32.ofInt (n : Int)) rfl (fz_dk hM hc) (kk h6 p l e R s m args below meth c Qf A C hA hX hend H locs lsc hP hD hS hh)
theorem st_sbald {r q n : Nat} {y : Int} (hr : (r, q, n) ∈ X.1) (hy : 0 ≤ y ∧ y < n) (hM : fz_okK M = true) (hc : fz_at M.2.2.2.2 pc = some (.baload, 1, a, b, w)) (kk : ∀ z : Int, st_R D X d NC NS M (pc + 1) ls (.int (Int32.ofInt z) :: st) ws nc ns Q) : st_R D X d NC NS M pc ls (.int (Int32.ofInt y) :: .ref q :: st) ws nc ns Q := by
  intro p l e R s m args below meth c Qf A C hA hX hend H locs lsc hP hD hS hh
  obtain ⟨f, h1, h2, h3, h4, h5, h6⟩ := hX.2.1 _ hr
  have h7 : n < 100000 := h6
  refine va_tb C.1 C.2.1 h4 hS (fz_in hy.1 hy.2 (by omega)) (v := .int (Int32.ofInt (f (Int32.ofInt y).toNatClampNeg).toInt)) (by rw [fz_r32]) (fz_dk hM hc) ?_
  exact kk _ p l e R s m args below meth c Qf A C hA hX hend H locs lsc hP hD hS hh
/-- the script -/
theorem st_xlen {q : Nat} (hq : q = X.2.2.2.1) (hM : fz_okK M = true) (hc : fz_at M.2.2.2.2 pc = some (.arraylength, 1, a, b, w)) (kk : st_R D X d NC NS M (pc + 1) ls (.int (Int32.ofInt (X.2.2.2.2.1 : Int)) :: st) ws nc ns Q) : st_R D X d NC NS M pc ls (.ref q :: st) ws nc ns Q := by
  intro p l e R s m args below meth c Qf A C hA hX hend H locs lsc hP hD hS hh
  subst hq
  exact va_tlen C.1 C.2.1 hX.2.2.2.1 hS (v := Int32.ofInt (X.2.2.2.2.1 : Int)) rfl (fz_dk hM hc) (kk p l e R s m args below meth c Qf A C hA hX hend H locs lsc hP hD hS hh)
theorem st_xald {q : Nat} {y : Int} (hq : q = X.2.2.2.1) (hy : 0 ≤ y ∧ y < X.2.2.2.2.1) (hy2 : y < 100000) (hM : fz_okK M = true) (hc : fz_at M.2.2.2.2 pc = some (.iaload, 1, a, b, w)) (kk : ∀ z : Int, -2147483648 ≤ z ∧ z < 2147483648 → st_R D X d NC NS M (pc + 1) ls (.int (Int32.ofInt z) :: st) ws nc ns Q) : st_R D X d NC NS M pc ls (.int (Int32.ofInt y) :: .ref q :: st) ws nc ns Q := by
  intro p l e R s m args below meth c Qf A C hA hX hend H locs lsc hP hD hS hh
  subst hq
  refine va_ti C.1 C.2.1 hX.2.2.2.1 hS (fz_in hy.1 hy.2 (by omega)) (v := .int (Int32.ofInt (X.2.2.2.2.2.1 (Int32.ofInt y).toNatClampNeg).toInt)) (by rw [fz_r32]) (fz_dk hM hc) ?_
  exact kk _ (fz_b32 _) p l e R s m args below meth c Qf A C hA hX hend H locs lsc hP hD hS hh
/-- the world's cells -/
theorem st_obj {x idx : Nat} (hM : fz_okK M = true) (hc : fz_at M.2.2.2.2 pc = some (.invokespecial idx, 3, a, b, w)) (hlk : Cond.methodLink M.1.cls idx Lib.objectInit ∈ st_tb) (hcap : (st.map fun v => v.category).sum ≤ 8) (hd : 1 ≤ d) (kk : st_R D X d NC NS M (pc + 3) ls st ws nc ns Q) : st_R D X d NC NS M pc ls (.ref x :: st) ws nc ns Q := by
  intro p l e R s m args below meth c Qf A C hA hX hend H locs lsc hP hD hS hh
  have hts := C.2.2.2.2.2.1
  have r1 := C.2.2.2.2.2.2.2.2.1
  have r2 := C.2.2.2.2.2.2.2.2.2.1
  have hc8 := lv_room (m := m) (pc := pc) (ls := lsc) (rest := (.ref x :: st)) hcap
  exact W.objInit C.1 C.2.1 C.2.2.2.2.1 (hts _ hlk) (hts _ fz_tOi) (hts _ fz_tOc) rfl (by rw [C.2.2.2.1]; exact hh.1) rfl (fz_dk hM hc) (by omega) (by omega) (kk p l e R s m args below meth c Qf A C hA hX hend H locs lsc hP hD hS hh)
theorem st_new {ci idx N : Nat} {Cn : String} {T : u_T} (ty : Nat → FieldType) (fs : List Value) (hM : fz_okK M = true) (hc : fz_at M.2.2.2.2 pc = some (.new idx, 3, a, b, w)) (hcl : fz_nth vwCl ci = some (Cn, T, N)) (hty : ∀ k, k < N → parseFieldDescriptor (T k).2.2.1 = some (ty k))
    (h1 : Cond.classLink M.1.cls idx Cn ∈ st_tb) (h2 : Cond.instantiable Cn N ∈ st_tb) (h3 : Cond.initialized Cn ∈ st_tb) (hfs : (List.range N).map (fun j => defaultValue (ty j)) = fs) (hn1 : nc + 1 ≤ NC) (hn2 : ns + N ≤ NS)
    (kk : ∀ q : Nat, st_R D X d NC NS M (pc + 3) ls (.ref q :: st) (ws ++ [(q, .inr (ci, fs))]) (nc + 1) (ns + N) Q) : st_R D X d NC NS M pc ls st ws nc ns Q := by
  intro p l e R s m args below meth c Qf A C hA hX hend H locs lsc hP hD hS hh
  have hts := C.2.2.2.2.2.1
  have r3 := C.2.2.2.2.2.2.2.2.2.2.1
  have r4 := C.2.2.2.2.2.2.2.2.2.2.2.1
  have hK := C.2.2.2.2.2.2.2.2.2.2.2.2.1
  refine va_new (ci := ci) (fs := fs) (C := Cn) (T := T) (N := N) C.1 C.2.1 hts (st_cl_in hcl) ty hty C.2.2.2.2.1 (hts _ h1) (hts _ h2) (hts _ h3) hK hP hD hS hA (by rw [← fz_nth_eq]; exact hcl) (fun j hj => ?_) (by omega) (by omega) (fz_dk hM hc) (fun q H1 hP1 hD1 hS1 => kk q p l e R s m args below meth c Qf A C hA hX hend H1 locs lsc hP1 hD1 hS1 hh)
  rw [← hfs]
  unfold vp_V
  simp [List.getD, hj]
theorem st_newB {n : Int} {N : Nat} (hM : fz_okK M = true) (hc : fz_at M.2.2.2.2 pc = some (.newarray .byte, 2, a, b, w)) (hn : 0 ≤ n ∧ n < 100000) (hN : n.toNat = N) (hn1 : nc + 1 ≤ NC) (hn2 : ns + N ≤ NS)
    (kk : ∀ q : Nat, st_R D X d NC NS M (pc + 2) ls (.ref q :: st) (ws ++ [(q, .inl (D.2.2.2, N, .inl (fun _ => 0)))]) (nc + 1) (ns + N) Q) : st_R D X d NC NS M pc ls (.int (Int32.ofInt n) :: st) ws nc ns Q := by
  intro p l e R s m args below meth c Qf A C hA hX hend H locs lsc hP hD hS hh
  have hts := C.2.2.2.2.2.1
  have r3 := C.2.2.2.2.2.2.2.2.2.2.1
  have r4 := C.2.2.2.2.2.2.2.2.2.2.2.1
  have hK := C.2.2.2.2.2.2.2.2.2.2.2.2.1
  have hx1 : -2147483648 ≤ n ∧ n < 2147483648 := ⟨by omega, by omega⟩
  refine va_newa (atype := .byte) (a0 := (N, .inl (fun _ => 0))) (N' := N) (ty := .byte) C.1 C.2.1 (hts _ st_tB) rfl hK hP hD hS hA (fun cA => rfl) (fun z => by rw [Int32.lt_iff_toInt_lt, fz_t32 hx1] at z; exact absurd z (by show ¬ n < 0; omega)) (by rw [fz_ix hn.1 hx1.2]; exact hN) (by show N * 1 ≤ 536870912; omega) (by omega) (by omega) (fz_dk hM hc) (fun q cA H1 hK1 hP1 hD1 hS1 => ?_)
  have e1 : s.vm.findClass ("[" ++ FieldType.byte.toString) = some cA := (hK1.2 3 (cA, .byte) rfl).2
  have e2 : s.vm.findClass ("[" ++ FieldType.byte.toString) = some D.2.2.2 := (hK.2 2 (D.2.2.2, .byte) rfl).2
  have e3 : cA = D.2.2.2 := Option.some.inj (e1.symm.trans e2)
  subst e3
  exact kk q p l e R s m args below meth c Qf A C hA hX hend H1 locs lsc hP1 hD1 hS1 hh
theorem st_put {x idx ci N q0 k : Nat} {Cn : String} {T : u_T} {v : Value} {fs : List Value} {ty : FieldType} (hM : fz_okK M = true) (hc : fz_at M.2.2.2.2 pc = some (.putfield idx, 3, a, b, w)) (hcl : fz_nth vwCl ci = some (Cn, T, N)) (he : ws[q0]? = some (x, .inr (ci, fs))) (hk : k < N) (hlk : Cond.fieldLink M.1.cls idx (T k).1 (T k).2.1 (T k).2.2.1 ∈ st_tb) (hfin : (T k).2.2.2 = false ∨ ((T k).2.2.2 = true ∧ (T k).1 = M.1.cls ∧ M.1.name = "<init>")) (hd : parseFieldDescriptor (T k).2.2.1 = some ty) (hn : narrow ty v = v) (hfit : fits ty v = true) (hl : k < fs.length)
    (kk : st_R D X d NC NS M (pc + 3) ls st (ws.set q0 (x, .inr (ci, fs.set k v))) nc ns Q) : st_R D X d NC NS M pc ls (v :: .ref x :: st) ws nc ns Q := by
  intro p l e R s m args below meth c Qf A C hA hX hend H locs lsc hP hD hS hh
  have hts := C.2.2.2.2.2.1
  have hK := C.2.2.2.2.2.2.2.2.2.2.2.2.1
  obtain ⟨ty0, hty⟩ := fz_cl_ty hcl
  rcases hfin with hfin | ⟨hfin, hdc, hi⟩
  · exact va_put (D := D.1) (ci := ci) (v := v) (ty := ty) (C := Cn) (T := T) (N := N) C.1 C.2.1 hts (st_cl_in hcl) ty0 hty (fz_cl_nm hcl) C.2.2.2.2.1 hK hP hD hS q0 he (by rw [← fz_nth_eq]; exact hcl) k hk (hts _ hlk) (fun _ h9 => h9) hfin hd hn hfit hl (fz_dk hM hc) (fun H1 locs1 hP1 hD1 hS1 => kk p l e R s m args below meth c Qf A C hA hX hend H1 locs1 lsc hP1 hD1 hS1 hh)
  · exact va_putF (D := D.1) (ci := ci) (v := v) (ty := ty) (C := Cn) (T := T) (N := N) C.1 C.2.1 hts (st_cl_in hcl) ty0 hty (fz_cl_nm hcl) C.2.2.2.2.1 hK hP hD hS q0 he (by rw [← fz_nth_eq]; exact hcl) k hk (hts _ hlk) (fun _ h9 => h9) hfin (C.2.2.2.2.2.2.2.1 hi) hdc hd hn hfit hl (fz_dk hM hc) (fun H1 locs1 hP1 hD1 hS1 => kk p l e R s m args below meth c Qf A C hA hX hend H1 locs1 lsc hP1 hD1 hS1 hh)
theorem st_get {x idx ci N q0 k : Nat} {Cn : String} {T : u_T} {v : Value} {fs : List Value} (hM : fz_okK M = true) (hc : fz_at M.2.2.2.2 pc = some (.getfield idx, 3, a, b, w)) (hcl : fz_nth vwCl ci = some (Cn, T, N)) (he : ws[q0]? = some (x, .inr (ci, fs))) (hk : k < N) (hlk : Cond.fieldLink M.1.cls idx (T k).1 (T k).2.1 (T k).2.2.1 ∈ st_tb) (hv : fs[k]? = some v)
    (kk : st_R D X d NC NS M (pc + 3) ls (v :: st) ws nc ns Q) : st_R D X d NC NS M pc ls (.ref x :: st) ws nc ns Q := by
  intro p l e R s m args below meth c Qf A C hA hX hend H locs lsc hP hD hS hh
  have hts := C.2.2.2.2.2.1
  have hK := C.2.2.2.2.2.2.2.2.2.2.2.2.1
  exact va_get (D := D.1) (ci := ci) (v := v) (C := Cn) (T := T) (N := N) C.1 C.2.1 hts (st_cl_in hcl) C.2.2.2.2.1 hK hP q0 he (by rw [← fz_nth_eq]; exact hcl) k hk (hts _ hlk) (fun _ h9 => h9) hv (fz_dk hM hc) (kk p l e R s m args below meth c Qf A C hA hX hend H locs lsc hP hD hS hh)
theorem st_alen {x q0 N : Nat} {f : Nat → Int32} (hM : fz_okK M = true) (hc : fz_at M.2.2.2.2 pc = some (.arraylength, 1, a, b, w)) (he : ws[q0]? = some (x, .inl (D.2.2.2, N, .inl f))) (kk : st_R D X d NC NS M (pc + 1) ls (.int (Int32.ofInt (N : Int)) :: st) ws nc ns Q) : st_R D X d NC NS M pc ls (.ref x :: st) ws nc ns Q := by
  intro p l e R s m args below meth c Qf A C hA hX hend H locs lsc hP hD hS hh
  have hK := C.2.2.2.2.2.2.2.2.2.2.2.2.1
  exact va_alen C.1 C.2.1 hK hP q0 2 he (ty := .byte) rfl (v := Int32.ofInt (N : Int)) rfl (fz_dk hM hc) (kk p l e R s m args below meth c Qf A C hA hX hend H locs lsc hP hD hS hh)
theorem st_bast {x q0 N : Nat} {i v : Int} {f : Nat → Int32} (hM : fz_okK M = true) (hc : fz_at M.2.2.2.2 pc = some (.bastore, 1, a, b, w)) (he : ws[q0]? = some (x, .inl (D.2.2.2, N, .inl f))) (hi : 0 ≤ i ∧ i < N) (hi2 : i < 100000) (hf : sb_Fit f)
    (kk : ∀ f' : Nat → Int32, sb_Fit f' → st_R D X d NC NS M (pc + 1) ls st (ws.set q0 (x, .inl (D.2.2.2, N, .inl f'))) nc ns Q) : st_R D X d NC NS M pc ls (.int (Int32.ofInt v) :: .int (Int32.ofInt i) :: .ref x :: st) ws nc ns Q := by
  intro p l e R s m args below meth c Qf A C hA hX hend H locs lsc hP hD hS hh
  have hK := C.2.2.2.2.2.2.2.2.2.2.2.2.1
  refine va_bast C.1 C.2.1 hK hP hD hS q0 2 he rfl (fz_in hi.1 hi.2 (by omega)) (fz_dk hM hc) (fun H1 locs1 hP1 hD1 hS1 => ?_)
  exact kk _ (sb_fitU hf (st_fitN _)) p l e R s m args below meth c Qf A C hA hX hend H1 locs1 lsc hP1 hD1 hS1 hh
theorem st_acW {idx x x0 q0 q1 n0 n1 : Nat} {sp dp n : Int} {f g : Nat → Int32} (hM : fz_okK M = true) (hc : fz_at M.2.2.2.2 pc = some (.invokestatic idx, 3, a, b, w)) (hlk : Cond.methodLink M.1.cls idx arraycopyName ∈ st_tb) (he0 : ws[q0]? = some (x0, .inl (D.2.2.2, n0, .inl f))) (he1 : ws[q1]? = some (x, .inl (D.2.2.2, n1, .inl g))) (hf : sb_Fit f) (hg : sb_Fit g)
    (h1 : 0 ≤ sp) (h2 : 0 ≤ dp) (h3 : 0 ≤ n) (h4 : sp + n ≤ n0) (h5 : dp + n ≤ n1) (h6 : sp < 100000 ∧ dp < 100000 ∧ n < 100000) (hd : 1 ≤ d) (hcap : (st.map fun v => v.category).sum ≤ 8)
    (kk : ∀ g' : Nat → Int32, sb_Fit g' → st_R D X d NC NS M (pc + 3) ls st (ws.set q1 (x, .inl (D.2.2.2, n1, .inl g'))) nc ns Q) : st_R D X d NC NS M pc ls (.int (Int32.ofInt n) :: .int (Int32.ofInt dp) :: .ref x :: .int (Int32.ofInt sp) :: .ref x0 :: st) ws nc ns Q := by
  intro p l e R s m args below meth c Qf A C hA hX hend H locs lsc hP hD hS hh
  have hK := C.2.2.2.2.2.2.2.2.2.2.2.2.1
  have hts := C.2.2.2.2.2.1
  have r1 := C.2.2.2.2.2.2.2.2.1
  have r2 := C.2.2.2.2.2.2.2.2.2.1
  have hnf := st_nfw
  refine va_copyi C.1 C.2.1 (C.2.2.2.1.trans hh.1.symm) C.2.2.2.2.1 (hts _ hlk) (hts _ st_ac1) (hts _ st_ac2) (hts _ st_ac3) hK hP hD hS q0 q1 2 2 (ty := .byte) he0 he1 rfl rfl rfl (st_nn h1 (by omega)) (st_nn h2 (by omega)) (st_nn h3 (by omega)) (by rw [fz_ix h1 (by omega), fz_ix h3 (by omega)]; omega) (by rw [fz_ix h2 (by omega), fz_ix h3 (by omega)]; omega) (fun i _ => hf _) (by omega) (by omega) (fz_dk hM hc) (fun H1 locs1 hP1 hD1 hS1 => ?_)
  exact kk _ (sb_fitC hf hg) p l e R s m args below meth c Qf A C hA hX hend H1 locs1 lsc hP1 hD1 hS1 hh
theorem st_acS {idx x r q q1 n0 n1 : Nat} {sp dp n : Int} {g : Nat → Int32} (hM : fz_okK M = true) (hc : fz_at M.2.2.2.2 pc = some (.invokestatic idx, 3, a, b, w)) (hlk : Cond.methodLink M.1.cls idx arraycopyName ∈ st_tb) (hr : (r, q, n0) ∈ X.1) (he1 : ws[q1]? = some (x, .inl (D.2.2.2, n1, .inl g))) (hg : sb_Fit g)
    (h1 : 0 ≤ sp) (h2 : 0 ≤ dp) (h3 : 0 ≤ n) (h4 : sp + n ≤ n0) (h5 : dp + n ≤ n1) (h6 : sp < 100000 ∧ dp < 100000 ∧ n < 100000) (hd : 1 ≤ d) (hcap : (st.map fun v => v.category).sum ≤ 8)
    (kk : ∀ g' : Nat → Int32, sb_Fit g' → st_R D X d NC NS M (pc + 3) ls st (ws.set q1 (x, .inl (D.2.2.2, n1, .inl g'))) nc ns Q) : st_R D X d NC NS M pc ls (.int (Int32.ofInt n) :: .int (Int32.ofInt dp) :: .ref x :: .int (Int32.ofInt sp) :: .ref q :: st) ws nc ns Q := by
  intro p l e R s m args below meth c Qf A C hA hX hend H locs lsc hP hD hS hh
  have hK := C.2.2.2.2.2.2.2.2.2.2.2.2.1
  have hts := C.2.2.2.2.2.1
  have r1 := C.2.2.2.2.2.2.2.2.1
  have r2 := C.2.2.2.2.2.2.2.2.2.1
  have hnf := st_nfw
  obtain ⟨f, s1, s2, s3, s4, s5, s6⟩ := hX.2.1 _ hr
  refine vk_copyt C.1 C.2.1 (C.2.2.2.1.trans hh.1.symm) C.2.2.2.2.1 (hts _ hlk) (hts _ st_ac1) (hts _ st_ac2) (hts _ st_ac3) hK hP hD hS s4 q1 2 he1 rfl (st_nn h1 (by omega)) (st_nn h2 (by omega)) (st_nn h3 (by omega)) (by rw [fz_ix h1 (by omega), fz_ix h3 (by omega)]; show _ ≤ n0; omega) (by rw [fz_ix h2 (by omega), fz_ix h3 (by omega)]; omega) (fun i _ => s5 _) (by omega) (by omega) (fz_dk hM hc) (fun H1 locs1 hP1 hD1 hS1 => ?_)
  exact kk _ (sb_fitC s5 hg) p l e R s m args below meth c Qf A C hA hX hend H1 locs1 lsc hP1 hD1 hS1 hh
theorem st_null (hM : fz_okK M = true) (hc : fz_at M.2.2.2.2 pc = some (.aconst_null, 1, a, b, w)) (kk : st_R D X d NC NS M (pc + 1) ls (.null :: st) ws nc ns Q) : st_R D X d NC NS M pc ls st ws nc ns Q :=
  st_pure (fun p l e R s m args below meth c Qf H locs lsc hx hb hl z => lv_null hx hb (fz_dk hM hc) z) kk
theorem st_mmax {idx : Nat} {x y : Int} (hx1 : -2147483648 ≤ x ∧ x < 2147483648) (hy1 : -2147483648 ≤ y ∧ y < 2147483648) (hlk : Cond.methodLink M.1.cls idx Lib.Math.max.name ∈ st_tb) (hM : fz_okK M = true) (hc : fz_at M.2.2.2.2 pc = some (.invokestatic idx, 3, a, b, w)) (hd : 1 ≤ d) (hcap : (st.map fun v => v.category).sum ≤ 8) (hnc : nc ≤ NC) (hns : ns ≤ NS)
    (kk : ∀ z : Int, z = max x y → st_R D X d NC NS M (pc + 3) ls (.int (Int32.ofInt z) :: st) ws nc ns Q) : st_R D X d NC NS M pc ls (.int (Int32.ofInt y) :: .int (Int32.ofInt x) :: st) ws nc ns Q := by
  intro p l e R s m args below meth c Qf A C hA hX hend H locs lsc hP hD hS hh
  have hts := C.2.2.2.2.2.1
  have r1 := C.2.2.2.2.2.2.2.2.1
  have r2 := C.2.2.2.2.2.2.2.2.2.1
  have r3 := C.2.2.2.2.2.2.2.2.2.2.1
  have r4 := C.2.2.2.2.2.2.2.2.2.2.2.1
  refine va_mmax C.1 C.2.1 (C.2.2.2.1.trans hh.1.symm) C.2.2.2.2.1 (hts _ hlk) (hts _ st_x1) (hts _ st_m0) (hts _ st_x2) (by omega) (by omega) (by omega) (by omega) (fz_dk hM hc) ?_
  have e1 : (if Int32.ofInt x < Int32.ofInt y then Int32.ofInt y else Int32.ofInt x) = Int32.ofInt (max x y) := by
    by_cases hq : x < y
    · rw [if_pos ((fz_lt hx1 hy1).mpr hq), show max x y = y by omega]
    · rw [if_neg (fun z => hq ((fz_lt hx1 hy1).mp z)), show max x y = x by omega]
  rw [e1]
  exact kk _ rfl p l e R s m args below meth c Qf A C hA hX hend H locs lsc hP hD hS hh
theorem st_mmin {idx : Nat} {x y : Int} (hx1 : -2147483648 ≤ x ∧ x < 2147483648) (hy1 : -2147483648 ≤ y ∧ y < 2147483648) (hlk : Cond.methodLink M.1.cls idx Lib.Math.min.name ∈ st_tb) (hM : fz_okK M = true) (hc : fz_at M.2.2.2.2 pc = some (.invokestatic idx, 3, a, b, w)) (hd : 1 ≤ d) (hcap : (st.map fun v => v.category).sum ≤ 8) (hnc : nc ≤ NC) (hns : ns ≤ NS)
    (kk : ∀ z : Int, z = min x y → st_R D X d NC NS M (pc + 3) ls (.int (Int32.ofInt z) :: st) ws nc ns Q) : st_R D X d NC NS M pc ls (.int (Int32.ofInt y) :: .int (Int32.ofInt x) :: st) ws nc ns Q := by
  intro p l e R s m args below meth c Qf A C hA hX hend H locs lsc hP hD hS hh
  have hts := C.2.2.2.2.2.1
  have r1 := C.2.2.2.2.2.2.2.2.1
  have r2 := C.2.2.2.2.2.2.2.2.2.1
  have r3 := C.2.2.2.2.2.2.2.2.2.2.1
  have r4 := C.2.2.2.2.2.2.2.2.2.2.2.1
  refine va_mmin C.1 C.2.1 (C.2.2.2.1.trans hh.1.symm) C.2.2.2.2.1 (hts _ hlk) (hts _ st_i1) (hts _ st_m0) (hts _ st_i2) (by omega) (by omega) (by omega) (by omega) (fz_dk hM hc) ?_
  have e1 : (if Int32.ofInt y < Int32.ofInt x then Int32.ofInt y else Int32.ofInt x) = Int32.ofInt (min x y) := by
    by_cases hq : y < x
    · rw [if_pos ((fz_lt hy1 hx1).mpr hq), show min x y = y by omega]
    · rw [if_neg (fun z => hq ((fz_lt hy1 hx1).mp z)), show min x y = x by omega]
  rw [e1]
  exact kk _ rfl p l e R s m args below meth c Qf A C hA hX hend H locs lsc hP hD hS hh
theorem st_clone {idx x q0 N : Nat} {f : Nat → Int32} (hM : fz_okK M = true) (hc : fz_at M.2.2.2.2 pc = some (.invokevirtual idx, 3, a, b, w)) (hlk : Cond.methodLink M.1.cls idx ⟨"[B", "clone", "()Ljava/lang/Object;"⟩ ∈ st_tb) (he : ws[q0]? = some (x, .inl (D.2.2.2, N, .inl f))) (hf : sb_Fit f) (hd : 1 ≤ d) (hcap : (st.map fun v => v.category).sum ≤ 8) (hn1 : nc + 1 ≤ NC) (hn2 : ns + N ≤ NS)
    (kk : ∀ q : Nat, st_R D X d NC NS M (pc + 3) ls (.ref q :: st) (ws ++ [(q, .inl (D.2.2.2, N, .inl f))]) (nc + 1) (ns + N) Q) : st_R D X d NC NS M pc ls (.ref x :: st) ws nc ns Q := by
  intro p l e R s m args below meth c Qf A C hA hX hend H locs lsc hP hD hS hh
  have hK := C.2.2.2.2.2.2.2.2.2.2.2.2.1
  have hts := C.2.2.2.2.2.1
  have r1 := C.2.2.2.2.2.2.2.2.1
  have r2 := C.2.2.2.2.2.2.2.2.2.1
  have r3 := C.2.2.2.2.2.2.2.2.2.2.1
  have r4 := C.2.2.2.2.2.2.2.2.2.2.2.1
  have hN := C.2.2.2.2.2.2.2.2.2.2.2.2.2
  have hnm : s.vm.findClass "[B" = some D.2.2.2 := (hK.2 2 (D.2.2.2, .byte) rfl).2
  refine va_clone C.1 C.2.1 (C.2.2.2.1.trans hh.1.symm) C.2.2.2.2.1 (hts _ hlk) (hts _ st_k1) (hts _ st_k2) (hts _ st_k3) (hts _ st_k4) hN.2 hK hP hD hS hA q0 2 he (ty := .byte) rfl hnm (fun i v hv => ?_) (by omega) (by omega) (by omega) (by show _ + N ≤ _; omega) (fz_dk hM hc) (fun q H1 hK1 hP1 hD1 hS1 => kk q p l e R s m args below meth c Qf A C hA hX hend H1 locs lsc hP1 hD1 hS1 hh)
  have hv2 : (arrV D.2.2.2 N (fun j => .int (f j))).slots[i]? = some v := hv
  by_cases hi : i < N
  · rw [arrV_read _ _ hi] at hv2
    cases hv2
    exact hf i
  · rw [Array.getElem?_eq_none (by rw [arrV_size]; omega)] at hv2
    cases hv2
theorem st_castB {idx x q0 N : Nat} {f : Nat → Int32} (hM : fz_okK M = true) (hc : fz_at M.2.2.2.2 pc = some (.checkcast idx, 3, a, b, w)) (hlk : Cond.classLink M.1.cls idx "[B" ∈ st_tb) (he : ws[q0]? = some (x, .inl (D.2.2.2, N, .inl f)))
    (kk : st_R D X d NC NS M (pc + 3) ls (.ref x :: st) ws nc ns Q) : st_R D X d NC NS M pc ls (.ref x :: st) ws nc ns Q := by
  intro p l e R s m args below meth c Qf A C hA hX hend H locs lsc hP hD hS hh
  have hK := C.2.2.2.2.2.2.2.2.2.2.2.2.1
  have hts := C.2.2.2.2.2.1
  have hnm : s.vm.findClass "[B" = some D.2.2.2 := (hK.2 2 (D.2.2.2, .byte) rfl).2
  exact va_castA C.1 C.2.1 C.2.2.2.2.1 (hts _ hlk) hP q0 he hnm (fz_dk hM hc) (kk p l e R s m args below meth c Qf A C hA hX hend H locs lsc hP hD hS hh)
theorem st_sub (is : List Nat) (hs : is.map (fun i => ws[i]?) = ws'.map some) (hn : va_nd is = true) (k : st_R D X d NC NS M pc ls st ws' nc ns Q) : st_R D X d NC NS M pc ls st ws nc ns Q := by
  intro p l e R s m args below meth c Qf A C hA hX hend H locs lsc hP hD hS hl
  exact k p l e R s m args below meth c Qf A C hA hX hend H locs lsc (hP.sub is (st_fm hs)) (hD.sub is hn hs) hS hl
theorem st_ret (hM : fz_okK M = true) (hc : fz_at M.2.2.2.2 pc = some (.return_, 1, a, b, w)) (hr : M.2.2.2.1 = none) (h1 : nc ≤ NC) (h2 : ns ≤ NS) (hq : Q ws none) : st_R D X d NC NS M pc ls [] ws nc ns Q := by
  intro p l e R s m args below meth c Qf A C hA hX hend H locs lsc hP hD hS hh
  exact W.widen h1 h2 (hend ws none pc lsc H locs hq ⟨hr, fz_dk hM hc⟩ hP hD hS)
theorem st_areturn {x : Nat} {ty : FieldType} (hM : fz_okK M = true) (hc : fz_at M.2.2.2.2 pc = some (.areturn, 1, a, b, w)) (hr : M.2.2.2.1 = some ty) (hk : (∃ n, ty = .object n) ∨ ∃ t, ty = .array t) (h1 : nc ≤ NC) (h2 : ns ≤ NS) (hq : Q ws (some (.ref x))) : st_R D X d NC NS M pc ls [.ref x] ws nc ns Q := by
  intro p l e R s m args below meth c Qf A C hA hX hend H locs lsc hP hD hS hh
  exact W.widen h1 h2 (hend ws (some (.ref x)) pc lsc H locs hq ⟨fz_dk hM hc, ty, hr, hk⟩ hP hD hS)
theorem st_ireturn {x : Int32} {ty : FieldType} (hM : fz_okK M = true) (hc : fz_at M.2.2.2.2 pc = some (.ireturn, 1, a, b, w)) (hr : M.2.2.2.1 = some ty) (hk : narrow ty (.int x) = .int x) (h1 : nc ≤ NC) (h2 : ns ≤ NS) (hq : Q ws (some (.int x))) : st_R D X d NC NS M pc ls [.int x] ws nc ns Q := by
  intro p l e R s m args below meth c Qf A C hA hX hend H locs lsc hP hD hS hh
  exact W.widen h1 h2 (hend ws (some (.int x)) pc lsc H locs hq ⟨fz_dk hM hc, ty, hr, hk⟩ hP hD hS)
end ST
