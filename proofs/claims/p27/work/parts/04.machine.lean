/-! ===== a machine of whole numbers over a heap of a fixed shape; each rule is proved from the kit's row ===== -/
/-- a value: a number of 32 bits, a number of 64 bits, a cell by its place -/
abbrev fz_V : Type := Int ⊕ Int ⊕ Nat
abbrev fz_i (x : Int) : fz_V := Sum.inl x
abbrev fz_l (x : Int) : fz_V := Sum.inr (Sum.inl x)
abbrev fz_r (o : Nat) : fz_V := Sum.inr (Sum.inr o)
abbrev fz_H : Type := Nat → Nat → Int
abbrev fz_I : Type := Nat × Instr × Nat × Nat × Nat × Nat
/-- a method: its name, code, number of locals, what it returns, its instructions: (pc, instruction, length, three numbers that say where it leads) -/
abbrev fz_M : Type := MethodName × ByteArray × Nat × Option FieldType × List fz_I
def fz_nth {α : Type} : List α → Nat → Option α
  | [], _ => none
  | a :: _, 0 => some a
  | _ :: l, n + 1 => fz_nth l n
theorem fz_nth_eq {α : Type} : ∀ (l : List α) (n : Nat), fz_nth l n = l[n]?
  | [], n => by simp [fz_nth]
  | a :: l, 0 => by simp [fz_nth]
  | a :: l, n + 1 => by simp [fz_nth, fz_nth_eq l n]
def fz_at : List fz_I → Nat → Option (Instr × Nat × Nat × Nat × Nat)
  | [], _ => none
  | q :: l, pc => bif Nat.beq q.1 pc then some q.2 else fz_at l pc
theorem fz_at_mem : ∀ {l : List fz_I} {pc : Nat} {v : Instr × Nat × Nat × Nat × Nat}, fz_at l pc = some v → (pc, v) ∈ l
  | [], pc, v, h => by simp [fz_at] at h
  | q :: l, pc, v, h => by
    unfold fz_at at h
    cases hb : Nat.beq q.1 pc with
    | true =>
      rw [hb] at h
      have e := Nat.eq_of_beq_eq_true hb
      simp only [cond_true] at h
      cases h
      subst e
      exact List.mem_cons_self
    | false =>
      rw [hb] at h
      exact List.mem_cons_of_mem _ (fz_at_mem h)
def fz_lk : List (Nat × fz_V) → Nat → Option fz_V
  | [], _ => none
  | q :: l, i => bif Nat.beq q.1 i then some q.2 else fz_lk l i
theorem fz_lk_mem : ∀ {l : List (Nat × fz_V)} {i : Nat} {v : fz_V}, fz_lk l i = some v → (i, v) ∈ l
  | [], i, v, h => by simp [fz_lk] at h
  | q :: l, i, v, h => by
    unfold fz_lk at h
    cases hb : Nat.beq q.1 i with
    | true =>
      rw [hb] at h
      have e := Nat.eq_of_beq_eq_true hb
      simp only [cond_true] at h
      cases h
      subst e
      exact List.mem_cons_self
    | false =>
      rw [hb] at h
      exact List.mem_cons_of_mem _ (fz_lk_mem h)
/-- the shape: (0, class, fields), (1, 0, length) ints, (2, 0, length) longs; which fields hold which cell (its place and one) -/
def fz_sh (i : Nat) : Nat × Nat × Nat := (fz_nth fz_shs i).getD (9, 0, 0)
def fz_rf (o s : Nat) : Nat := ((fz_nth fz_rfs o).bind (fun l => fz_nth l s)).getD 0
def fz_N : Nat := fz_shs.length
def fz_up (h : fz_H) (c i : Nat) (x : Int) : fz_H := fun d j => if d = c ∧ j = i then x else h d j
def fz_cp (h : fz_H) (a i b j n : Nat) : fz_H := fun d k => if d = b ∧ j ≤ k ∧ k < j + n then h a (i + (k - j)) else h d k
def fz_okx (c : Nat) (x : Int) : Prop := if (fz_sh c).1 = 2 then -9223372036854775808 ≤ x ∧ x < 9223372036854775808 else -2147483648 ≤ x ∧ x < 2147483648
def fz_nh (h : fz_H) : Prop := ∀ c i, fz_okx c (h c i)
def fz_nv (v : fz_V) : Prop := match v with
  | .inl x => -2147483648 ≤ x ∧ x < 2147483648
  | .inr (.inl x) => -9223372036854775808 ≤ x ∧ x < 9223372036854775808
  | .inr (.inr _) => True
def fz_cv (ad : Nat → Nat) (v : fz_V) : Value := match v with
  | .inl x => .int (Int32.ofInt x)
  | .inr (.inl x) => .long (Int64.ofInt x)
  | .inr (.inr o) => .ref (ad o)
def fz_cat (v : fz_V) : Nat := match v with
  | .inr (.inl _) => 2
  | _ => 1
theorem fz_cat_cv (ad : Nat → Nat) (v : fz_V) : (fz_cv ad v).category = fz_cat v := by
  rcases v with x | x | x <;> rfl
/-- where things are: classes, slots, the two classes of arrays, the cells -/
abbrev fz_E : Type := (Nat → ClassId) × (Nat → Nat → Nat) × ClassId × ClassId × (Nat → Nat) × (Nat → Nat → Int)
abbrev fz_ad (E : fz_E) : Nat → Nat := E.2.2.2.2.1
abbrev fz_tc (E : fz_E) : Nat → Nat → Int := E.2.2.2.2.2
def fz_fv (ad : Nat → Nat) (h : fz_H) (o s : Nat) : Value := match fz_rf o s with
  | 0 => .int (Int32.ofInt (h o s))
  | t + 1 => .ref (ad t)
def fz_ce (E : fz_E) (h : fz_H) (i : Nat) : va_E :=
  if (fz_sh i).1 = 0 then .inr ((fz_sh i).2.1, (List.range (fz_sh i).2.2).map (fz_fv (fz_ad E) h i))
  else if (fz_sh i).1 = 1 then .inl (E.2.2.1, (fz_sh i).2.2, .inl (fun j => Int32.ofInt (h i j)))
  else .inl (E.2.2.2.1, (fz_sh i).2.2, .inr (.inl (fun j => Int64.ofInt (h i j))))
def fz_ws (E : fz_E) (h : fz_H) : va_W := (List.range fz_N).map (fun i => (fz_ad E i, fz_ce E h i))
def fz_A (E : fz_E) : Nat → Prop := fun q => ∃ i, i < fz_N ∧ q = fz_ad E i
theorem fz_ws_at (E : fz_E) (h : fz_H) {i : Nat} (hi : i < fz_N) : (fz_ws E h)[i]? = some (fz_ad E i, fz_ce E h i) := by
  simp [fz_ws, hi]
/-- the tables that nobody writes: their lengths stand at place 100000 -/
def fz_St (E : fz_E) (U : State) : Prop :=
  (∀ id, 200 ≤ id → id < 205 → va_T .int (fz_ad E id) (fz_tc E id 100000).toNat (fun j => .int (Int32.ofInt (fz_tc E id j))) (fz_A E) U U.heap) ∧
  ∀ q ∈ fz_sts, va_Z q.1 q.2.1 q.2.2.1 (.ref (fz_ad E q.2.2.2)) (fz_A E) U U.heap
abbrev fz_dA (E : fz_E) : va_G := (E.1, E.2.1)
abbrev fz_ty (E : fz_E) : List (ClassId × FieldType) := [(E.2.2.1, .int), (E.2.2.2.1, .long)]
def fz_Wd (E : fz_E) (h : fz_H) (s : State) (H : Heap) (locs : List Loc) : Prop :=
  va_P (fz_dA E) vwCl (fz_ws E h) H ∧ va_D (fz_A E) (fz_ws E h) ∧ va_S (fz_A E) s.heap H locs ∧ fz_nh h ∧ ∀ id, 200 ≤ id → h id = fz_tc E id
def fz_Cx (d : Nat) (M : fz_M) (E : fz_E) (p : Program) (R : Room) (s : State) (m : MethodId) (args : Array Value) (meth : Method) (c : Code) (cells slots : Nat) : Prop :=
  p.tables.exec = Jvm.exec ∧ c.code = M.2.1 ∧ meth.sig.returnType = M.2.2.2.1 ∧ c.maxLocals = M.2.2.1 ∧ s.vm.findClass M.1.cls = some m.cls ∧ (∀ w ∈ lw_tbl.filter goodWord, w.before args s = true) ∧ meth.locks = false ∧ d ≤ R.frames ∧ d * 64 ≤ R.locals ∧ va_K (fz_dA E) vwCl (fz_ty E) s ∧ cells ≤ R.cells ∧ slots ≤ R.slots ∧ fz_St E s
def fz_rok (ret : Option FieldType) (r : Option fz_V) : Prop := match ret, r with
  | none, none => True
  | some .int, some (.inl x) => -2147483648 ≤ x ∧ x < 2147483648
  | some .boolean, some (.inl x) => x = 0 ∨ x = 1
  | some .long, some (.inr (.inl x)) => -9223372036854775808 ≤ x ∧ x < 9223372036854775808
  | _, _ => False
def fz_dr (b : ByteArray) (pc : Nat) (r : Option fz_V) : Prop := match r with
  | none => decode b pc = .ok (.return_, 1)
  | some (.inl _) => decode b pc = .ok (.ireturn, 1)
  | some (.inr (.inl _)) => decode b pc = .ok (.lreturn, 1)
  | _ => False
/-- from here the method comes to its end, with Q of the heap and the answer -/
def fz_R (d : Nat) (M : fz_M) (pc : Nat) (ls : List (Nat × fz_V)) (st : List fz_V) (h : fz_H) (Q : fz_H → Option fz_V → Prop) : Prop :=
  ∀ (E : fz_E) (p : Program) (l : Launch) (e : Env) (R : Room) (s : State) (m : MethodId) (args : Array Value) (below : List Frame) (meth : Method) (c : Code) (cells slots : Nat) (Qf : State → Prop),
    fz_Cx d M E p R s m args meth c cells slots →
    (∀ (h' : fz_H) (r : Option fz_V) (pc' : Nat) (lsc : Array Slot) (H : Heap) (locs : List Loc), Q h' r → fz_rok M.2.2.2.1 r → fz_dr M.2.1 pc' r → fz_Wd E h' s H locs →
      W p l e R s m args below meth c H locs cells slots Qf (F0 m pc' lsc (r.toList.map (fz_cv (fz_ad E))))) →
    ∀ (H : Heap) (locs : List Loc) (lsc : Array Slot), fz_Wd E h s H locs → (∀ v ∈ st, fz_nv v) → (∀ q ∈ ls, fz_nv q.2) → lv_has lsc M.2.2.1 (ls.map (fun q => (q.1, fz_cv (fz_ad E) q.2))) →
      W p l e R s m args below meth c H locs cells slots Qf (F0 m pc lsc (st.map (fz_cv (fz_ad E))))
/-- a word of the tables by its place: 1000 times the list, and the place in it -/
def fz_wl0 (k : Nat) : List Cond := match k with
  | 0 => k2_sels lw_privs
  | 1 => tables_1_1
  | 2 => tables_1_2
  | 3 => tables_1_3
  | 4 => tables_1_4
  | 5 => tables_1_5
  | 6 => tables_1_6
  | 7 => tables_1_7
  | _ => []
def fz_wa (n : Nat) : Option Cond := fz_nth (fz_wl0 (n / 1000)) (n % 1000)
theorem fz_has {n : Nat} {w : Cond} (h : fz_wa n = some w) (hg : goodWord w = true) : w ∈ fz_tb := by
  refine List.mem_filter.mpr ⟨?_, hg⟩
  unfold fz_wa at h
  rw [fz_nth_eq] at h
  have hm := List.mem_of_getElem? h
  show w ∈ k2_sels lw_privs ++ (tables_1_1 ++ (tables_1_2 ++ (tables_1_3 ++ (tables_1_4 ++ (tables_1_5 ++ (tables_1_6 ++ tables_1_7))))))
  simp only [List.mem_append]
  unfold fz_wl0 at hm
  split at hm
  · exact Or.inl hm
  · exact Or.inr (Or.inl hm)
  · exact Or.inr (Or.inr (Or.inl hm))
  · exact Or.inr (Or.inr (Or.inr (Or.inl hm)))
  · exact Or.inr (Or.inr (Or.inr (Or.inr (Or.inl hm))))
  · exact Or.inr (Or.inr (Or.inr (Or.inr (Or.inr (Or.inl hm)))))
  · exact Or.inr (Or.inr (Or.inr (Or.inr (Or.inr (Or.inr (Or.inl hm))))))
  · exact Or.inr (Or.inr (Or.inr (Or.inr (Or.inr (Or.inr (Or.inr hm))))))
  · cases hm
def fz_isF (w : Option Cond) (own : String) (idx : Nat) (r n d : String) : Bool := match w with
  | some (.fieldLink a b c e f) => decide (b = idx) && decide (a = own) && decide (c = r) && decide (e = n) && decide (f = d)
  | _ => false
def fz_isM (w : Option Cond) (own : String) (idx : Nat) (y : MethodName) : Bool := match w with
  | some (.methodLink a b c) => decide (b = idx) && decide (a = own) && decide (c.cls = y.cls) && decide (c.name = y.name) && decide (c.desc = y.desc)
  | _ => false
theorem fz_isF_spec {n : Nat} {own : String} {idx : Nat} {r nm d : String} (h : fz_isF (fz_wa n) own idx r nm d = true) : Cond.fieldLink own idx r nm d ∈ fz_tb := by
  cases hw : fz_wa n with
  | none => rw [hw] at h; cases h
  | some w =>
    rw [hw] at h
    unfold fz_isF at h
    split at h
    · next e =>
      simp only [Bool.and_eq_true, decide_eq_true_eq] at h
      obtain ⟨⟨⟨⟨h1, h2⟩, h3⟩, h4⟩, h5⟩ := h
      subst h1 h2 h3 h4 h5
      cases e
      exact fz_has hw rfl
    · cases h
theorem fz_isM_spec {n : Nat} {own : String} {idx : Nat} {y : MethodName} (h : fz_isM (fz_wa n) own idx y = true) : Cond.methodLink own idx y ∈ fz_tb := by
  cases hw : fz_wa n with
  | none => rw [hw] at h; cases h
  | some w =>
    rw [hw] at h
    unfold fz_isM at h
    split at h
    · next c e =>
      simp only [Bool.and_eq_true, decide_eq_true_eq] at h
      obtain ⟨⟨⟨⟨h1, h2⟩, h3⟩, h4⟩, h5⟩ := h
      have hy : c = y := by
        cases c; cases y
        simp only at h3 h4 h5
        subst h3 h4 h5
        rfl
      subst h1 h2 hy
      cases e
      exact fz_has hw rfl
    · cases h
/-- what is asked of an instruction's numbers -/
def fz_okI (M : fz_M) (q : fz_I) : Bool := decide (decode M.2.1 q.1 = .ok (q.2.1, q.2.2.1)) &&
  match q.2.1 with
  | .getfield idx => match fz_nth vwCl q.2.2.2.2.1 with
    | some (_, T, N) => decide (q.2.2.2.1 < N) && fz_isF (fz_wa q.2.2.2.2.2) M.1.cls idx (T q.2.2.2.1).1 (T q.2.2.2.1).2.1 (T q.2.2.2.1).2.2.1
    | none => false
  | .putfield idx => match fz_nth vwCl q.2.2.2.2.1 with
    | some (_, T, N) => decide (q.2.2.2.1 < N) && fz_isF (fz_wa q.2.2.2.2.2) M.1.cls idx (T q.2.2.2.1).1 (T q.2.2.2.1).2.1 (T q.2.2.2.1).2.2.1 && !(T q.2.2.2.1).2.2.2
    | none => false
  | .invokevirtual idx => match fz_nth fz_ms q.2.2.2.2.1 with
    | some y => fz_isM (fz_wa q.2.2.2.1) M.1.cls idx y
    | none => false
  | .invokestatic idx => match fz_nth fz_ms q.2.2.2.2.1 with
    | some y => fz_isM (fz_wa q.2.2.2.1) M.1.cls idx y
    | none => false
  | .getstatic idx => match fz_nth fz_sts q.2.2.2.2.1 with
    | some (C, n, d, id) => decide (q.2.2.2.1 = id) && fz_isF (fz_wa q.2.2.2.2.2) M.1.cls idx C n d
    | none => false
  | _ => true
def fz_okM (M : fz_M) : Bool := M.2.2.2.2.all (fz_okI M)
def fz_lkI (M : fz_M) (q : fz_I) : Bool := match q.2.1 with
  | .getfield idx => match fz_nth vwCl q.2.2.2.2.1 with
    | some (_, T, N) => decide (q.2.2.2.1 < N) && fz_isF (fz_wa q.2.2.2.2.2) M.1.cls idx (T q.2.2.2.1).1 (T q.2.2.2.1).2.1 (T q.2.2.2.1).2.2.1
    | none => false
  | .putfield idx => match fz_nth vwCl q.2.2.2.2.1 with
    | some (_, T, N) => decide (q.2.2.2.1 < N) && fz_isF (fz_wa q.2.2.2.2.2) M.1.cls idx (T q.2.2.2.1).1 (T q.2.2.2.1).2.1 (T q.2.2.2.1).2.2.1 && !(T q.2.2.2.1).2.2.2
    | none => false
  | .invokevirtual idx => match fz_nth fz_ms q.2.2.2.2.1 with
    | some y => fz_isM (fz_wa q.2.2.2.1) M.1.cls idx y
    | none => false
  | .invokestatic idx => match fz_nth fz_ms q.2.2.2.2.1 with
    | some y => fz_isM (fz_wa q.2.2.2.1) M.1.cls idx y
    | none => false
  | .getstatic idx => match fz_nth fz_sts q.2.2.2.2.1 with
    | some (C, n, d, id) => decide (q.2.2.2.1 = id) && fz_isF (fz_wa q.2.2.2.2.2) M.1.cls idx C n d
    | none => false
  | _ => true
theorem fz_okM_in {M : fz_M} (h1 : fd_wk M.2.1 (fd_n M.2.1) 0 M.2.2.2.2 = true) (h2 : M.2.2.2.2.all (fz_lkI M) = true) : fz_okM M = true := List.all_eq_true.mpr (fun q hq => by
  have a := fd_wk_ok _ _ 0 (fun z => by rw [fd_n_b1, Nat.zero_add]) h1 q hq
  have b := List.all_eq_true.mp h2 q hq
  show (decide (decode M.2.1 q.1 = .ok (q.2.1, q.2.2.1)) && fz_lkI M q) = true
  rw [decide_eq_true a, b]
  rfl)
theorem fz_dec {M : fz_M} (hM : fz_okM M = true) {pc : Nat} {v : Instr × Nat × Nat × Nat × Nat} (h : fz_at M.2.2.2.2 pc = some v) : decode M.2.1 pc = .ok (v.1, v.2.1) := by
  have h1 := List.all_eq_true.mp hM _ (fz_at_mem h)
  unfold fz_okI at h1
  rw [Bool.and_eq_true] at h1
  exact of_decide_eq_true h1.1
theorem fz_pure {d : Nat} {M : fz_M} {pc pc' : Nat} {ls : List (Nat × fz_V)} {st st' : List fz_V} {h : fz_H} {Q : fz_H → Option fz_V → Prop}
    (hn : (∀ v ∈ st, fz_nv v) → ∀ v ∈ st', fz_nv v)
    (hw : ∀ (E : fz_E) (p : Program) (l : Launch) (e : Env) (R : Room) (s : State) (m : MethodId) (args : Array Value) (below : List Frame) (meth : Method) (c : Code) (cells slots : Nat) (Qf : State → Prop) (H : Heap) (locs : List Loc) (lsc : Array Slot),
      p.tables.exec = Jvm.exec → c.code = M.2.1 → (∀ v ∈ st, fz_nv v) → W p l e R s m args below meth c H locs cells slots Qf (F0 m pc' lsc (st'.map (fz_cv (fz_ad E)))) → W p l e R s m args below meth c H locs cells slots Qf (F0 m pc lsc (st.map (fz_cv (fz_ad E)))))
    (k : fz_R d M pc' ls st' h Q) : fz_R d M pc ls st h Q := by
  intro E p l e R s m args below meth c cells slots Qf C hend H locs lsc hW hs hl hh
  exact hw E p l e R s m args below meth c cells slots Qf H locs lsc C.1 C.2.1 hs (k E p l e R s m args below meth c cells slots Qf C hend H locs lsc hW (hn hs) hl hh)
