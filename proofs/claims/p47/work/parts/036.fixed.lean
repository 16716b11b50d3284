/-! ===== what is read and never written: strings, tables of bytes, constants, the script ===== -/
def fz_isN : Cond → Bool
  | .methodLinkNest _ _ _ _ => true
  | _ => false
def fz_nw : List Cond := lw_tbl.filter fz_isN
def fz_nN (s : State) : Prop := ∀ w ∈ fz_nw, va_Nw w s
theorem fz_nN_warm {s U : State} (hW : s.WarmedH U.vm) (h : fz_nN s) : fz_nN U := by
  intro w hw
  have h1 := h w hw
  have h2 := (List.mem_filter.mp hw).2
  unfold fz_isN at h2
  split at h2
  · exact va_Nw.warmM hW h1
  · cases h2
theorem fz_nN_vm {u U : State} (e : u.vm = U.vm) (h : fz_nN u) : fz_nN U := by
  intro w hw
  have h1 := h w hw
  have h2 := (List.mem_filter.mp hw).2
  unfold fz_isN at h2
  split at h2
  · exact va_Nw.same rfl e h1
  · cases h2
/-- a string that nobody writes: its cell, its bytes' cell, its length -/
def ss_S (r q n : Nat) (A : Nat → Prop) (U : State) (H : Heap) : Prop :=
  ∃ f : Nat → Int32, va_O "java/lang/String" r A U H ∧ va_OF "java/lang/String" "coder" "B" (.int 0) r A U H ∧ va_OF "java/lang/String" "value" "[B" (.ref q) r A U H ∧ va_T .byte q n (fun j => .int (f j)) A U H ∧ sb_Fit f ∧ n < 100000
theorem ss_S.moved {r q n : Nat} {A : Nat → Prop} {u U : State} {H : Heap} (hvm : u.vm.Alike U.vm) (h : ss_S r q n A u H) : ss_S r q n A U H := by
  obtain ⟨f, h1, h2, h3, h4, h5⟩ := h
  exact ⟨f, va_O.moved hvm h1, va_OF.moved hvm h2, va_OF.moved hvm h3, va_T.moved hvm h4, h5⟩
theorem ss_S.kept {r q n : Nat} {A : Nat → Prop} {U : State} {H H1 : Heap} (h : ss_S r q n A U H) (hq : ∀ a : Nat, a < H.size → ¬ A a → H1[a]? = H[a]?) : ss_S r q n A U H1 := by
  obtain ⟨f, h1, h2, h3, h4, h5⟩ := h
  exact ⟨f, h1.kept hq, h2.kept hq, h3.kept hq, h4.kept hq, h5⟩
theorem ss_S.narrow {r q n : Nat} {A B : Nat → Prop} {U : State} {H : Heap} (h : ss_S r q n A U H) (hAB : ∀ q, B q → A q) : ss_S r q n B U H := by
  obtain ⟨f, h1, h2, h3, h4, h5⟩ := h
  exact ⟨f, h1.narrow hAB, h2.narrow hAB, h3.narrow hAB, h4.narrow hAB, h5⟩
/-- a table of bytes behind a static field -/
def ss_Y (C n : String) (t N : Nat) (A : Nat → Prop) (U : State) (H : Heap) : Prop := ∃ f : Nat → Int32, va_Z C n "[B" (.ref t) A U H ∧ va_T .byte t N (fun j => .int (f j)) A U H ∧ sb_Fit f
/-- the statics that are read -/
def ss_G (tO tT : Nat) (A : Nat → Prop) (U : State) (H : Heap) : Prop :=
  va_Z "java/lang/String" "COMPACT_STRINGS" "Z" (.int 1) A U H ∧ va_Zq "jdk/internal/util/Preconditions" "SIOOBE_FORMATTER" "Ljava/util/function/BiFunction;" A U H ∧ ss_Y "java/lang/Integer" "DigitOnes" tO 100 A U H ∧ ss_Y "java/lang/Integer" "DigitTens" tT 100 A U H
theorem ss_Y.moved {C n : String} {t N : Nat} {A : Nat → Prop} {u U : State} {H : Heap} (hvm : u.vm.Alike U.vm) (h : ss_Y C n t N A u H) : ss_Y C n t N A U H := by
  obtain ⟨f, h1, h2, h3⟩ := h
  exact ⟨f, h1.moved hvm, va_T.moved hvm h2, h3⟩
theorem ss_Y.kept {C n : String} {t N : Nat} {A : Nat → Prop} {U : State} {H H1 : Heap} (h : ss_Y C n t N A U H) (hq : ∀ a : Nat, a < H.size → ¬ A a → H1[a]? = H[a]?) : ss_Y C n t N A U H1 := by
  obtain ⟨f, h1, h2, h3⟩ := h
  exact ⟨f, h1.kept hq, h2.kept hq, h3⟩
theorem ss_Y.narrow {C n : String} {t N : Nat} {A B : Nat → Prop} {U : State} {H : Heap} (h : ss_Y C n t N A U H) (hAB : ∀ q, B q → A q) : ss_Y C n t N B U H := by
  obtain ⟨f, h1, h2, h3⟩ := h
  exact ⟨f, h1.narrow hAB, h2.narrow hAB, h3⟩
theorem ss_G.moved {tO tT : Nat} {A : Nat → Prop} {u U : State} {H : Heap} (hvm : u.vm.Alike U.vm) (h : ss_G tO tT A u H) : ss_G tO tT A U H := by
  obtain ⟨h1, h2, h3, h4⟩ := h
  exact ⟨h1.moved hvm, h2.moved hvm, h3.moved hvm, h4.moved hvm⟩
theorem ss_G.kept {tO tT : Nat} {A : Nat → Prop} {U : State} {H H1 : Heap} (h : ss_G tO tT A U H) (hq : ∀ a : Nat, a < H.size → ¬ A a → H1[a]? = H[a]?) : ss_G tO tT A U H1 := by
  obtain ⟨h1, h2, h3, h4⟩ := h
  exact ⟨h1.kept hq, h2.kept hq, h3.kept hq, h4.kept hq⟩
theorem ss_G.narrow {tO tT : Nat} {A B : Nat → Prop} {U : State} {H : Heap} (h : ss_G tO tT A U H) (hAB : ∀ q, B q → A q) : ss_G tO tT B U H := by
  obtain ⟨h1, h2, h3, h4⟩ := h
  exact ⟨h1.narrow hAB, h2.narrow hAB, h3.narrow hAB, h4.narrow hAB⟩
/-- strings; the law's constants (entry, text, cell); the two tables of digits; the script: cell, length, numbers; tables of ints behind static fields (class, field, cell, length, numbers) -/
abbrev st_Xt : Type := List (Nat × Nat × Nat) × List (Nat × String × Nat) × (Nat × Nat) × Nat × Nat × (Nat → Int32) × List (String × String × Nat × Nat × (Nat → Int))
def st_IT (q : String × String × Nat × Nat × (Nat → Int)) (A : Nat → Prop) (U : State) (H : Heap) : Prop := va_Z q.1 q.2.1 "[I" (.ref q.2.2.1) A U H ∧ va_T .int q.2.2.1 q.2.2.2.1 (fun j => .int (Int32.ofInt (q.2.2.2.2 j))) A U H
def st_ok (X : st_Xt) (A : Nat → Prop) (U : State) (H : Heap) : Prop := ss_G X.2.2.1.1 X.2.2.1.2 A U H ∧ (∀ q ∈ X.1, ss_S q.1 q.2.1 q.2.2 A U H) ∧ (∀ q ∈ X.2.1, vk_R "FameAheadLaw" q.1 q.2.1 q.2.2 U) ∧ va_T .int X.2.2.2.1 X.2.2.2.2.1 (fun j => .int (X.2.2.2.2.2.1 j)) A U H ∧ ∀ q ∈ X.2.2.2.2.2.2, st_IT q A U H
theorem st_ok.warm {X : st_Xt} {A : Nat → Prop} {s U : State} {H : Heap} (hW : s.WarmedH U.vm) (h : st_ok X A s H) : st_ok X A U H :=
  ⟨h.1.moved hW.alike, fun q hq => (h.2.1 q hq).moved hW.alike, fun q hq => (h.2.2.1 q hq).warm hW, va_T.moved hW.alike h.2.2.2.1, fun q hq => ⟨(h.2.2.2.2 q hq).1.moved hW.alike, va_T.moved hW.alike (h.2.2.2.2 q hq).2⟩⟩
theorem st_ok.same {X : st_Xt} {A : Nat → Prop} {u U : State} {H : Heap} (e : U.vm = u.vm) (h : st_ok X A u H) : st_ok X A U H := by
  have hal : u.vm.Alike U.vm := by rw [e]; exact Vm.Alike.refl u.vm
  exact ⟨h.1.moved hal, fun q hq => (h.2.1 q hq).moved hal, fun q hq => (h.2.2.1 q hq).same e, va_T.moved hal h.2.2.2.1, fun q hq => ⟨(h.2.2.2.2 q hq).1.moved hal, va_T.moved hal (h.2.2.2.2 q hq).2⟩⟩
theorem st_ok.kept {X : st_Xt} {A : Nat → Prop} {U : State} {H H1 : Heap} (h : st_ok X A U H) (hq : ∀ a : Nat, a < H.size → ¬ A a → H1[a]? = H[a]?) : st_ok X A U H1 :=
  ⟨h.1.kept hq, fun q hq2 => (h.2.1 q hq2).kept hq, h.2.2.1, h.2.2.2.1.kept hq, fun q hq2 => ⟨(h.2.2.2.2 q hq2).1.kept hq, (h.2.2.2.2 q hq2).2.kept hq⟩⟩
theorem st_ok.narrow {X : st_Xt} {A B : Nat → Prop} {U : State} {H : Heap} (h : st_ok X A U H) (hAB : ∀ q, B q → A q) : st_ok X B U H :=
  ⟨h.1.narrow hAB, fun q hq2 => (h.2.1 q hq2).narrow hAB, h.2.2.1, h.2.2.2.1.narrow hAB, fun q hq2 => ⟨(h.2.2.2.2 q hq2).1.narrow hAB, (h.2.2.2.2 q hq2).2.narrow hAB⟩⟩
def st_nN (s : State) : Prop := fz_nN s ∧ va_Nw (.castable "[B" "java/lang/Cloneable") s
theorem st_nN_warm {s U : State} (hW : s.WarmedH U.vm) (h : st_nN s) : st_nN U := ⟨fz_nN_warm hW h.1, va_Nw.warmC hW h.2⟩
theorem st_nN_vm {u U : State} (e : u.vm = U.vm) (h : st_nN u) : st_nN U := ⟨fz_nN_vm e h.1, va_Nw.same rfl e h.2⟩
theorem ss_S.wide {r q n : Nat} {A : Nat → Prop} {U : State} {H : Heap} (h : ss_S r q n A U H) : ss_S r q n (fun x => A x ∨ H.size ≤ x) U H := by
  obtain ⟨f, ⟨c1, a1, a2, a3, a4⟩, ⟨cf, k, i, fd, c2, b1, b2, b3, b4, b5, b6⟩, ⟨cf', k', i', fd', c3, d1, d2, d3, d4, d5, d6⟩, ⟨c4, e1, e2, e3, e4, e5, e6, e7⟩, h5, h6⟩ := h
  have g1 := (Array.getElem?_eq_some_iff.mp a1).1
  have g2 := (Array.getElem?_eq_some_iff.mp e1).1
  exact ⟨f, ⟨c1, a1, a2, a3, fun z => z.elim a4 (fun z => by omega)⟩, ⟨cf, k, i, fd, c2, b1, b2, b3, b4, b5, fun z => z.elim b6 (fun z => by omega)⟩, ⟨cf', k', i', fd', c3, d1, d2, d3, d4, d5, fun z => z.elim d6 (fun z => by omega)⟩, ⟨c4, e1, e2, e3, e4, e5, e6, fun z => z.elim e7 (fun z => by omega)⟩, h5, h6⟩
theorem st_Zw {C n d : String} {v : Value} {A : Nat → Prop} {U : State} {H : Heap} (h : va_Z C n d v A U H) : va_Z C n d v (fun x => A x ∨ H.size ≤ x) U H := by
  obtain ⟨cf, kf, fi, f, a, cell, h1, h2, h3, h4, h5, h6, h7, h8⟩ := h
  have g1 := (Array.getElem?_eq_some_iff.mp h5).1
  exact ⟨cf, kf, fi, f, a, cell, h1, h2, h3, h4, h5, h6, h7, fun z => z.elim h8 (fun z => by omega)⟩
theorem st_Twd {ty : FieldType} {t N : Nat} {f : Nat → Value} {A : Nat → Prop} {U : State} {H : Heap} (h : va_T ty t N f A U H) : va_T ty t N f (fun x => A x ∨ H.size ≤ x) U H := by
  obtain ⟨c4, e1, e2, e3, e4, e5, e6, e7⟩ := h
  have g2 := (Array.getElem?_eq_some_iff.mp e1).1
  exact ⟨c4, e1, e2, e3, e4, e5, e6, fun z => z.elim e7 (fun z => by omega)⟩
theorem st_ok.wide {X : st_Xt} {A : Nat → Prop} {U : State} {H : Heap} (h : st_ok X A U H) : st_ok X (fun x => A x ∨ H.size ≤ x) U H := by
  obtain ⟨⟨h1, h2, ⟨f3, h3, h4, h5⟩, ⟨f6, h6, h7, h8⟩⟩, h9, h10, h11, h12⟩ := h
  exact ⟨⟨st_Zw h1, h2.elim (fun z => Or.inl (st_Zw z)) (fun z => z.elim (fun v z => Or.inr ⟨v, st_Zw z⟩)), ⟨f3, st_Zw h3, st_Twd h4, h5⟩, ⟨f6, st_Zw h6, st_Twd h7, h8⟩⟩, fun q hq => (h9 q hq).wide, h10, st_Twd h11, fun q hq => ⟨st_Zw (h12 q hq).1, st_Twd (h12 q hq).2⟩⟩
