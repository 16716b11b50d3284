/-! ===== instructions by their bytes ===== -/
def fd_b1 (c : ByteArray) (p : Nat) : Nat := if h : p < c.size then c[p].toNat else 256
theorem fd_u1 {c : ByteArray} {p b : Nat} (h : fd_b1 c p = b) (hb : b < 256) : (Jvm.ClassFile.Reader.u1 : Jvm.ClassFile.Decoder Nat) c p = .ok (b, p + 1) := by
  unfold fd_b1 at h
  by_cases hp : p < c.size
  · rw [dif_pos hp] at h
    subst h
    show (dite (p < c.size) _ _ : Jvm.ClassFile.Decoder Nat) c p = _
    rw [dif_pos hp]
    rfl
  · rw [dif_neg hp] at h
    exact absurd hb (by omega)
theorem fd_bnd {α β : Type} {m : Jvm.ClassFile.Decoder α} {f : α → Jvm.ClassFile.Decoder β} {c : ByteArray} {p q : Nat} {a : α} (h : m c p = .ok (a, q)) : (m >>= f) c p = f a c q := by
  show (m c p >>= fun x => f x.1 c x.2) = _
  rw [h]
  rfl
theorem fd_map {α β : Type} {m : Jvm.ClassFile.Decoder α} {f : α → β} {c : ByteArray} {p q : Nat} {a : α} (h : m c p = .ok (a, q)) : (f <$> m) c p = .ok (f a, q) := by
  show (Functor.map (fun x => (f x.1, x.2)) (m c p)) = _
  rw [h]
  rfl
theorem fd_dec1 {c : ByteArray} {pc b s n : Nat} {i : Instr} (h : fd_b1 c pc = b) (hb : b < 256) (F : Nat → Jvm.ClassFile.Decoder Instr) (hF : Jvm.ClassFile.Decoder.instr pc = (Jvm.ClassFile.Reader.u1 >>= F)) (hr : F b c (pc + 1) = .ok (i, s)) (hn : s = pc + n) : decode c pc = .ok (i, n) := by
  have e : Jvm.ClassFile.Decoder.instr pc c pc = .ok (i, s) := by
    rw [hF, fd_bnd (fd_u1 h hb)]
    exact hr
  show (Jvm.ClassFile.Decoder.instr pc c pc >>= fun x => pure (x.1, x.2 - pc)) = _
  rw [e, hn]
  show Except.ok (i, pc + n - pc) = _
  rw [Nat.add_sub_cancel_left]
def fd_w2 (b : Nat → Nat) (p : Nat) : Nat := if b p < 256 ∧ b (p + 1) < 256 then b p * 256 + b (p + 1) else 70000
theorem fd_u2 {c : ByteArray} {p b : Nat} (h : fd_w2 (fd_b1 c) p = b) (hb : b < 65536) : (Jvm.ClassFile.Reader.u2 : Jvm.ClassFile.Decoder Nat) c p = .ok (b, p + 2) := by
  unfold fd_w2 at h
  by_cases hp : fd_b1 c p < 256 ∧ fd_b1 c (p + 1) < 256
  · rw [if_pos hp] at h
    subst h
    exact (fd_bnd (m := Jvm.ClassFile.Reader.u1) (fd_u1 rfl hp.1)).trans ((fd_bnd (m := Jvm.ClassFile.Reader.u1) (fd_u1 rfl hp.2)).trans rfl)
  · rw [if_neg hp] at h
    exact absurd hb (by omega)
def fd_s1 (b : Nat → Nat) (p : Nat) : Int := Jvm.ClassFile.Reader.signed 8 (b p)
def fd_s2 (b : Nat → Nat) (p : Nat) : Int := Jvm.ClassFile.Reader.signed 16 (fd_w2 b p)
theorem fd_rs1 {c : ByteArray} {p : Nat} {x : Int} (h : fd_s1 (fd_b1 c) p = x) (hb : fd_b1 c p < 256) : (Jvm.ClassFile.Reader.s1 : Jvm.ClassFile.Decoder Int) c p = .ok (x, p + 1) := by
  rw [← h]
  exact fd_map (fd_u1 rfl hb)
theorem fd_rs2 {c : ByteArray} {p : Nat} {x : Int} (h : fd_s2 (fd_b1 c) p = x) (hb : fd_w2 (fd_b1 c) p < 65536) : (Jvm.ClassFile.Reader.s2 : Jvm.ClassFile.Decoder Int) c p = .ok (x, p + 2) := by
  rw [← h]
  exact fd_map (fd_u2 rfl hb)
def fd_o0 (b : Nat → Nat) (k len n : Nat) : Bool := Nat.beq (b 0) k && Nat.beq len n
def fd_o1 (b : Nat → Nat) (k len x : Nat) : Bool := Nat.beq (b 0) k && Nat.beq len 2 && Nat.beq (b 1) x && Nat.blt x 256
def fd_o2 (b : Nat → Nat) (k len x : Nat) : Bool := Nat.beq (b 0) k && Nat.beq len 3 && Nat.beq (fd_w2 b 1) x && Nat.blt x 65536
def fd_oS (b : Nat → Nat) (k len : Nat) (x : Int) : Bool := Nat.beq (b 0) k && Nat.beq len 2 && decide (fd_s1 b 1 = x) && Nat.blt (b 1) 256
def fd_oT (b : Nat → Nat) (k len : Nat) (x : Int) : Bool := Nat.beq (b 0) k && Nat.beq len 3 && decide (fd_s2 b 1 = x) && Nat.blt (fd_w2 b 1) 65536
def fd_oI (b : Nat → Nat) (len n : Nat) (x : Int) : Bool := Nat.beq (b 0) 132 && Nat.beq len 3 && Nat.beq (b 1) n && Nat.blt n 256 && decide (fd_s1 b 2 = x) && Nat.blt (b 2) 256
theorem fd_bq {a b : Nat} (h : Nat.beq a b = true) : a = b := Nat.eq_of_beq_eq_true h
theorem fd_bl {a b : Nat} (h : Nat.blt a b = true) : a < b := by simpa [Nat.blt_eq] using h
theorem fd_e0 {c : ByteArray} {pc k len n : Nat} {i : Instr} (h : fd_o0 (fun z => fd_b1 c (pc + z)) k len n = true) (hk : k < 256) (F : Nat → Jvm.ClassFile.Decoder Instr) (hF : Jvm.ClassFile.Decoder.instr pc = (Jvm.ClassFile.Reader.u1 >>= F)) (hn : n = 1) (hr : F k = (Pure.pure i : Jvm.ClassFile.Decoder Instr)) : decode c pc = .ok (i, len) := by
  unfold fd_o0 at h
  rw [Bool.and_eq_true] at h
  rw [fd_bq h.2]
  exact fd_dec1 (fd_bq h.1) hk F hF (by rw [hr]; rfl) (by rw [hn])
theorem fd_e1 {c : ByteArray} {pc k len x : Nat} {i : Nat → Instr} (h : fd_o1 (fun z => fd_b1 c (pc + z)) k len x = true) (hk : k < 256) (F : Nat → Jvm.ClassFile.Decoder Instr) (hF : Jvm.ClassFile.Decoder.instr pc = (Jvm.ClassFile.Reader.u1 >>= F)) (hr : F k = (Jvm.ClassFile.Reader.u1 >>= fun z => pure (i z))) : decode c pc = .ok (i x, len) := by
  unfold fd_o1 at h
  simp only [Bool.and_eq_true] at h
  rw [fd_bq h.1.1.2]
  exact fd_dec1 (fd_bq h.1.1.1) hk F hF (by rw [hr, fd_bnd (fd_u1 (fd_bq h.1.2) (fd_bl h.2))]; rfl) rfl
theorem fd_e2 {c : ByteArray} {pc k len x : Nat} {i : Nat → Instr} (h : fd_o2 (fun z => fd_b1 c (pc + z)) k len x = true) (hk : k < 256) (F : Nat → Jvm.ClassFile.Decoder Instr) (hF : Jvm.ClassFile.Decoder.instr pc = (Jvm.ClassFile.Reader.u1 >>= F)) (hr : F k = (Jvm.ClassFile.Reader.u2 >>= fun z => pure (i z))) : decode c pc = .ok (i x, len) := by
  unfold fd_o2 at h
  simp only [Bool.and_eq_true] at h
  rw [fd_bq h.1.1.2]
  exact fd_dec1 (fd_bq h.1.1.1) hk F hF (by rw [hr, fd_bnd (fd_u2 (fd_bq h.1.2) (fd_bl h.2))]; rfl) rfl
theorem fd_eS {c : ByteArray} {pc k len : Nat} {x : Int} {i : Int → Instr} (h : fd_oS (fun z => fd_b1 c (pc + z)) k len x = true) (hk : k < 256) (F : Nat → Jvm.ClassFile.Decoder Instr) (hF : Jvm.ClassFile.Decoder.instr pc = (Jvm.ClassFile.Reader.u1 >>= F)) (hr : F k = (Jvm.ClassFile.Reader.s1 >>= fun z => pure (i z))) : decode c pc = .ok (i x, len) := by
  unfold fd_oS at h
  simp only [Bool.and_eq_true] at h
  rw [fd_bq h.1.1.2]
  exact fd_dec1 (fd_bq h.1.1.1) hk F hF (by rw [hr, fd_bnd (fd_rs1 (of_decide_eq_true h.1.2) (fd_bl h.2))]; rfl) rfl
theorem fd_eT {c : ByteArray} {pc k len : Nat} {x : Int} {i : Int → Instr} (h : fd_oT (fun z => fd_b1 c (pc + z)) k len x = true) (hk : k < 256) (F : Nat → Jvm.ClassFile.Decoder Instr) (hF : Jvm.ClassFile.Decoder.instr pc = (Jvm.ClassFile.Reader.u1 >>= F)) (hr : F k = (Jvm.ClassFile.Reader.s2 >>= fun z => pure (i z))) : decode c pc = .ok (i x, len) := by
  unfold fd_oT at h
  simp only [Bool.and_eq_true] at h
  rw [fd_bq h.1.1.2]
  exact fd_dec1 (fd_bq h.1.1.1) hk F hF (by rw [hr, fd_bnd (fd_rs2 (of_decide_eq_true h.1.2) (fd_bl h.2))]; rfl) rfl
theorem fd_eI {c : ByteArray} {pc len n : Nat} {x : Int} (h : fd_oI (fun z => fd_b1 c (pc + z)) len n x = true) (F : Nat → Jvm.ClassFile.Decoder Instr) (hF : Jvm.ClassFile.Decoder.instr pc = (Jvm.ClassFile.Reader.u1 >>= F)) (hr : F 132 = (Jvm.ClassFile.Reader.u1 >>= fun z => Jvm.ClassFile.Reader.s1 >>= fun y => pure (.iinc z y))) : decode c pc = .ok (.iinc n x, len) := by
  unfold fd_oI at h
  simp only [Bool.and_eq_true] at h
  rw [fd_bq h.1.1.1.1.2]
  exact fd_dec1 (fd_bq h.1.1.1.1.1) (by decide) F hF (by rw [hr, fd_bnd (fd_u1 (fd_bq h.1.1.1.2) (fd_bl h.1.1.2)), fd_bnd (fd_rs1 (of_decide_eq_true h.1.2) (fd_bl h.2))]; rfl) rfl
def fd_dq (c : ByteArray) (pc : Nat) (b : Nat → Nat) (ins : Instr) (len : Nat) : Bool := match ins with
  | .aload_n n => fd_o0 b (42 + n.val) len 1
  | .iload_n n => fd_o0 b (26 + n.val) len 1
  | .lload_n n => fd_o0 b (30 + n.val) len 1
  | .istore_n n => fd_o0 b (59 + n.val) len 1
  | .lstore_n n => fd_o0 b (63 + n.val) len 1
  | .astore_n n => fd_o0 b (75 + n.val) len 1
  | .lconst n => fd_o0 b (9 + n.val) len 1
  | .arraylength => fd_o0 b 190 len 1
  | .athrow => fd_o0 b 191 len 1
  | .dup => fd_o0 b 89 len 1
  | .dup2 => fd_o0 b 92 len 1
  | .dup_x1 => fd_o0 b 90 len 1
  | .i2b => fd_o0 b 145 len 1
  | .i2l => fd_o0 b 133 len 1
  | .i2s => fd_o0 b 147 len 1
  | .iadd => fd_o0 b 96 len 1
  | .iaload => fd_o0 b 46 len 1
  | .iand => fd_o0 b 126 len 1
  | .iastore => fd_o0 b 79 len 1
  | .idiv => fd_o0 b 108 len 1
  | .imul => fd_o0 b 104 len 1
  | .ineg => fd_o0 b 116 len 1
  | .ior => fd_o0 b 128 len 1
  | .irem => fd_o0 b 112 len 1
  | .ireturn => fd_o0 b 172 len 1
  | .ishl => fd_o0 b 120 len 1
  | .ishr => fd_o0 b 122 len 1
  | .isub => fd_o0 b 100 len 1
  | .iushr => fd_o0 b 124 len 1
  | .ixor => fd_o0 b 130 len 1
  | .l2i => fd_o0 b 136 len 1
  | .ladd => fd_o0 b 97 len 1
  | .laload => fd_o0 b 47 len 1
  | .land => fd_o0 b 127 len 1
  | .lastore => fd_o0 b 80 len 1
  | .lcmp => fd_o0 b 148 len 1
  | .ldiv => fd_o0 b 109 len 1
  | .lmul => fd_o0 b 105 len 1
  | .lor => fd_o0 b 129 len 1
  | .lrem => fd_o0 b 113 len 1
  | .lreturn => fd_o0 b 173 len 1
  | .lshl => fd_o0 b 121 len 1
  | .pop => fd_o0 b 87 len 1
  | .pop2 => fd_o0 b 88 len 1
  | .return_ => fd_o0 b 177 len 1
  | .iload x => fd_o1 b 21 len x
  | .istore x => fd_o1 b 54 len x
  | .lload x => fd_o1 b 22 len x
  | .lstore x => fd_o1 b 55 len x
  | .ldc x => fd_o1 b 18 len x
  | .getfield x => fd_o2 b 180 len x
  | .putfield x => fd_o2 b 181 len x
  | .getstatic x => fd_o2 b 178 len x
  | .invokespecial x => fd_o2 b 183 len x
  | .invokestatic x => fd_o2 b 184 len x
  | .invokevirtual x => fd_o2 b 182 len x
  | .ldc_w x => fd_o2 b 19 len x
  | .ldc2_w x => fd_o2 b 20 len x
  | .new x => fd_o2 b 187 len x
  | .bipush x => fd_oS b 16 len x
  | .sipush x => fd_oT b 17 len x
  | .goto x => fd_oT b 167 len x
  | .iinc n x => fd_oI b len n x
  | .ifCond .eq x => fd_oT b 153 len x
  | .if_icmp .eq x => fd_oT b 159 len x
  | .ifCond .ne x => fd_oT b 154 len x
  | .if_icmp .ne x => fd_oT b 160 len x
  | .ifCond .lt x => fd_oT b 155 len x
  | .if_icmp .lt x => fd_oT b 161 len x
  | .ifCond .ge x => fd_oT b 156 len x
  | .if_icmp .ge x => fd_oT b 162 len x
  | .ifCond .gt x => fd_oT b 157 len x
  | .if_icmp .gt x => fd_oT b 163 len x
  | .ifCond .le x => fd_oT b 158 len x
  | .if_icmp .le x => fd_oT b 164 len x
  | ins => decide (decode c pc = .ok (ins, len))
theorem fd_dq_0 {c : ByteArray} {pc len : Nat} {n : Fin 4} (h : fd_o0 (fun z => fd_b1 c (pc + z)) (42 + n.val) len 1 = true) : decode c pc = .ok (.aload_n n, len) := by
  match n, h with
    | ⟨0, _⟩, h => exact fd_e0 (k := 42) h (by decide) _ rfl rfl rfl
    | ⟨1, _⟩, h => exact fd_e0 (k := 43) h (by decide) _ rfl rfl rfl
    | ⟨2, _⟩, h => exact fd_e0 (k := 44) h (by decide) _ rfl rfl rfl
    | ⟨3, _⟩, h => exact fd_e0 (k := 45) h (by decide) _ rfl rfl rfl
theorem fd_dq_1 {c : ByteArray} {pc len : Nat} {n : Fin 4} (h : fd_o0 (fun z => fd_b1 c (pc + z)) (26 + n.val) len 1 = true) : decode c pc = .ok (.iload_n n, len) := by
  match n, h with
    | ⟨0, _⟩, h => exact fd_e0 (k := 26) h (by decide) _ rfl rfl rfl
    | ⟨1, _⟩, h => exact fd_e0 (k := 27) h (by decide) _ rfl rfl rfl
    | ⟨2, _⟩, h => exact fd_e0 (k := 28) h (by decide) _ rfl rfl rfl
    | ⟨3, _⟩, h => exact fd_e0 (k := 29) h (by decide) _ rfl rfl rfl
theorem fd_dq_2 {c : ByteArray} {pc len : Nat} {n : Fin 4} (h : fd_o0 (fun z => fd_b1 c (pc + z)) (30 + n.val) len 1 = true) : decode c pc = .ok (.lload_n n, len) := by
  match n, h with
    | ⟨0, _⟩, h => exact fd_e0 (k := 30) h (by decide) _ rfl rfl rfl
    | ⟨1, _⟩, h => exact fd_e0 (k := 31) h (by decide) _ rfl rfl rfl
    | ⟨2, _⟩, h => exact fd_e0 (k := 32) h (by decide) _ rfl rfl rfl
    | ⟨3, _⟩, h => exact fd_e0 (k := 33) h (by decide) _ rfl rfl rfl
theorem fd_dq_3 {c : ByteArray} {pc len : Nat} {n : Fin 4} (h : fd_o0 (fun z => fd_b1 c (pc + z)) (59 + n.val) len 1 = true) : decode c pc = .ok (.istore_n n, len) := by
  match n, h with
    | ⟨0, _⟩, h => exact fd_e0 (k := 59) h (by decide) _ rfl rfl rfl
    | ⟨1, _⟩, h => exact fd_e0 (k := 60) h (by decide) _ rfl rfl rfl
    | ⟨2, _⟩, h => exact fd_e0 (k := 61) h (by decide) _ rfl rfl rfl
    | ⟨3, _⟩, h => exact fd_e0 (k := 62) h (by decide) _ rfl rfl rfl
theorem fd_dq_4 {c : ByteArray} {pc len : Nat} {n : Fin 4} (h : fd_o0 (fun z => fd_b1 c (pc + z)) (63 + n.val) len 1 = true) : decode c pc = .ok (.lstore_n n, len) := by
  match n, h with
    | ⟨0, _⟩, h => exact fd_e0 (k := 63) h (by decide) _ rfl rfl rfl
    | ⟨1, _⟩, h => exact fd_e0 (k := 64) h (by decide) _ rfl rfl rfl
    | ⟨2, _⟩, h => exact fd_e0 (k := 65) h (by decide) _ rfl rfl rfl
    | ⟨3, _⟩, h => exact fd_e0 (k := 66) h (by decide) _ rfl rfl rfl
theorem fd_dq_5 {c : ByteArray} {pc len : Nat} {n : Fin 4} (h : fd_o0 (fun z => fd_b1 c (pc + z)) (75 + n.val) len 1 = true) : decode c pc = .ok (.astore_n n, len) := by
  match n, h with
    | ⟨0, _⟩, h => exact fd_e0 (k := 75) h (by decide) _ rfl rfl rfl
    | ⟨1, _⟩, h => exact fd_e0 (k := 76) h (by decide) _ rfl rfl rfl
    | ⟨2, _⟩, h => exact fd_e0 (k := 77) h (by decide) _ rfl rfl rfl
    | ⟨3, _⟩, h => exact fd_e0 (k := 78) h (by decide) _ rfl rfl rfl
theorem fd_dq_6 {c : ByteArray} {pc len : Nat} {n : Fin 2} (h : fd_o0 (fun z => fd_b1 c (pc + z)) (9 + n.val) len 1 = true) : decode c pc = .ok (.lconst n, len) := by
  match n, h with
    | ⟨0, _⟩, h => exact fd_e0 (k := 9) h (by decide) _ rfl rfl rfl
    | ⟨1, _⟩, h => exact fd_e0 (k := 10) h (by decide) _ rfl rfl rfl
theorem fd_dq_7 {c : ByteArray} {pc len : Nat} (h : fd_o0 (fun z => fd_b1 c (pc + z)) 190 len 1 = true) : decode c pc = .ok (.arraylength, len) := by
  exact fd_e0 h (by decide) _ rfl rfl rfl
theorem fd_dq_8 {c : ByteArray} {pc len : Nat} (h : fd_o0 (fun z => fd_b1 c (pc + z)) 191 len 1 = true) : decode c pc = .ok (.athrow, len) := by
  exact fd_e0 h (by decide) _ rfl rfl rfl
theorem fd_dq_9 {c : ByteArray} {pc len : Nat} (h : fd_o0 (fun z => fd_b1 c (pc + z)) 89 len 1 = true) : decode c pc = .ok (.dup, len) := by
  exact fd_e0 h (by decide) _ rfl rfl rfl
theorem fd_dq_10 {c : ByteArray} {pc len : Nat} (h : fd_o0 (fun z => fd_b1 c (pc + z)) 92 len 1 = true) : decode c pc = .ok (.dup2, len) := by
  exact fd_e0 h (by decide) _ rfl rfl rfl
theorem fd_dq_11 {c : ByteArray} {pc len : Nat} (h : fd_o0 (fun z => fd_b1 c (pc + z)) 90 len 1 = true) : decode c pc = .ok (.dup_x1, len) := by
  exact fd_e0 h (by decide) _ rfl rfl rfl
theorem fd_dq_12 {c : ByteArray} {pc len : Nat} (h : fd_o0 (fun z => fd_b1 c (pc + z)) 145 len 1 = true) : decode c pc = .ok (.i2b, len) := by
  exact fd_e0 h (by decide) _ rfl rfl rfl
theorem fd_dq_13 {c : ByteArray} {pc len : Nat} (h : fd_o0 (fun z => fd_b1 c (pc + z)) 133 len 1 = true) : decode c pc = .ok (.i2l, len) := by
  exact fd_e0 h (by decide) _ rfl rfl rfl
theorem fd_dq_14 {c : ByteArray} {pc len : Nat} (h : fd_o0 (fun z => fd_b1 c (pc + z)) 147 len 1 = true) : decode c pc = .ok (.i2s, len) := by
  exact fd_e0 h (by decide) _ rfl rfl rfl
theorem fd_dq_15 {c : ByteArray} {pc len : Nat} (h : fd_o0 (fun z => fd_b1 c (pc + z)) 96 len 1 = true) : decode c pc = .ok (.iadd, len) := by
  exact fd_e0 h (by decide) _ rfl rfl rfl
theorem fd_dq_16 {c : ByteArray} {pc len : Nat} (h : fd_o0 (fun z => fd_b1 c (pc + z)) 46 len 1 = true) : decode c pc = .ok (.iaload, len) := by
  exact fd_e0 h (by decide) _ rfl rfl rfl
theorem fd_dq_17 {c : ByteArray} {pc len : Nat} (h : fd_o0 (fun z => fd_b1 c (pc + z)) 126 len 1 = true) : decode c pc = .ok (.iand, len) := by
  exact fd_e0 h (by decide) _ rfl rfl rfl
theorem fd_dq_18 {c : ByteArray} {pc len : Nat} (h : fd_o0 (fun z => fd_b1 c (pc + z)) 79 len 1 = true) : decode c pc = .ok (.iastore, len) := by
  exact fd_e0 h (by decide) _ rfl rfl rfl
theorem fd_dq_19 {c : ByteArray} {pc len : Nat} (h : fd_o0 (fun z => fd_b1 c (pc + z)) 108 len 1 = true) : decode c pc = .ok (.idiv, len) := by
  exact fd_e0 h (by decide) _ rfl rfl rfl
theorem fd_dq_20 {c : ByteArray} {pc len : Nat} (h : fd_o0 (fun z => fd_b1 c (pc + z)) 104 len 1 = true) : decode c pc = .ok (.imul, len) := by
  exact fd_e0 h (by decide) _ rfl rfl rfl
theorem fd_dq_21 {c : ByteArray} {pc len : Nat} (h : fd_o0 (fun z => fd_b1 c (pc + z)) 116 len 1 = true) : decode c pc = .ok (.ineg, len) := by
  exact fd_e0 h (by decide) _ rfl rfl rfl
theorem fd_dq_22 {c : ByteArray} {pc len : Nat} (h : fd_o0 (fun z => fd_b1 c (pc + z)) 128 len 1 = true) : decode c pc = .ok (.ior, len) := by
  exact fd_e0 h (by decide) _ rfl rfl rfl
theorem fd_dq_23 {c : ByteArray} {pc len : Nat} (h : fd_o0 (fun z => fd_b1 c (pc + z)) 112 len 1 = true) : decode c pc = .ok (.irem, len) := by
  exact fd_e0 h (by decide) _ rfl rfl rfl
theorem fd_dq_24 {c : ByteArray} {pc len : Nat} (h : fd_o0 (fun z => fd_b1 c (pc + z)) 172 len 1 = true) : decode c pc = .ok (.ireturn, len) := by
  exact fd_e0 h (by decide) _ rfl rfl rfl
theorem fd_dq_25 {c : ByteArray} {pc len : Nat} (h : fd_o0 (fun z => fd_b1 c (pc + z)) 120 len 1 = true) : decode c pc = .ok (.ishl, len) := by
  exact fd_e0 h (by decide) _ rfl rfl rfl
theorem fd_dq_26 {c : ByteArray} {pc len : Nat} (h : fd_o0 (fun z => fd_b1 c (pc + z)) 122 len 1 = true) : decode c pc = .ok (.ishr, len) := by
  exact fd_e0 h (by decide) _ rfl rfl rfl
theorem fd_dq_27 {c : ByteArray} {pc len : Nat} (h : fd_o0 (fun z => fd_b1 c (pc + z)) 100 len 1 = true) : decode c pc = .ok (.isub, len) := by
  exact fd_e0 h (by decide) _ rfl rfl rfl
theorem fd_dq_28 {c : ByteArray} {pc len : Nat} (h : fd_o0 (fun z => fd_b1 c (pc + z)) 124 len 1 = true) : decode c pc = .ok (.iushr, len) := by
  exact fd_e0 h (by decide) _ rfl rfl rfl
theorem fd_dq_29 {c : ByteArray} {pc len : Nat} (h : fd_o0 (fun z => fd_b1 c (pc + z)) 130 len 1 = true) : decode c pc = .ok (.ixor, len) := by
  exact fd_e0 h (by decide) _ rfl rfl rfl
theorem fd_dq_30 {c : ByteArray} {pc len : Nat} (h : fd_o0 (fun z => fd_b1 c (pc + z)) 136 len 1 = true) : decode c pc = .ok (.l2i, len) := by
  exact fd_e0 h (by decide) _ rfl rfl rfl
theorem fd_dq_31 {c : ByteArray} {pc len : Nat} (h : fd_o0 (fun z => fd_b1 c (pc + z)) 97 len 1 = true) : decode c pc = .ok (.ladd, len) := by
  exact fd_e0 h (by decide) _ rfl rfl rfl
theorem fd_dq_32 {c : ByteArray} {pc len : Nat} (h : fd_o0 (fun z => fd_b1 c (pc + z)) 47 len 1 = true) : decode c pc = .ok (.laload, len) := by
  exact fd_e0 h (by decide) _ rfl rfl rfl
theorem fd_dq_33 {c : ByteArray} {pc len : Nat} (h : fd_o0 (fun z => fd_b1 c (pc + z)) 127 len 1 = true) : decode c pc = .ok (.land, len) := by
  exact fd_e0 h (by decide) _ rfl rfl rfl
theorem fd_dq_34 {c : ByteArray} {pc len : Nat} (h : fd_o0 (fun z => fd_b1 c (pc + z)) 80 len 1 = true) : decode c pc = .ok (.lastore, len) := by
  exact fd_e0 h (by decide) _ rfl rfl rfl
theorem fd_dq_35 {c : ByteArray} {pc len : Nat} (h : fd_o0 (fun z => fd_b1 c (pc + z)) 148 len 1 = true) : decode c pc = .ok (.lcmp, len) := by
  exact fd_e0 h (by decide) _ rfl rfl rfl
theorem fd_dq_36 {c : ByteArray} {pc len : Nat} (h : fd_o0 (fun z => fd_b1 c (pc + z)) 109 len 1 = true) : decode c pc = .ok (.ldiv, len) := by
  exact fd_e0 h (by decide) _ rfl rfl rfl
theorem fd_dq_37 {c : ByteArray} {pc len : Nat} (h : fd_o0 (fun z => fd_b1 c (pc + z)) 105 len 1 = true) : decode c pc = .ok (.lmul, len) := by
  exact fd_e0 h (by decide) _ rfl rfl rfl
theorem fd_dq_38 {c : ByteArray} {pc len : Nat} (h : fd_o0 (fun z => fd_b1 c (pc + z)) 129 len 1 = true) : decode c pc = .ok (.lor, len) := by
  exact fd_e0 h (by decide) _ rfl rfl rfl
theorem fd_dq_39 {c : ByteArray} {pc len : Nat} (h : fd_o0 (fun z => fd_b1 c (pc + z)) 113 len 1 = true) : decode c pc = .ok (.lrem, len) := by
  exact fd_e0 h (by decide) _ rfl rfl rfl
theorem fd_dq_40 {c : ByteArray} {pc len : Nat} (h : fd_o0 (fun z => fd_b1 c (pc + z)) 173 len 1 = true) : decode c pc = .ok (.lreturn, len) := by
  exact fd_e0 h (by decide) _ rfl rfl rfl
theorem fd_dq_41 {c : ByteArray} {pc len : Nat} (h : fd_o0 (fun z => fd_b1 c (pc + z)) 121 len 1 = true) : decode c pc = .ok (.lshl, len) := by
  exact fd_e0 h (by decide) _ rfl rfl rfl
theorem fd_dq_42 {c : ByteArray} {pc len : Nat} (h : fd_o0 (fun z => fd_b1 c (pc + z)) 87 len 1 = true) : decode c pc = .ok (.pop, len) := by
  exact fd_e0 h (by decide) _ rfl rfl rfl
theorem fd_dq_43 {c : ByteArray} {pc len : Nat} (h : fd_o0 (fun z => fd_b1 c (pc + z)) 88 len 1 = true) : decode c pc = .ok (.pop2, len) := by
  exact fd_e0 h (by decide) _ rfl rfl rfl
theorem fd_dq_44 {c : ByteArray} {pc len : Nat} (h : fd_o0 (fun z => fd_b1 c (pc + z)) 177 len 1 = true) : decode c pc = .ok (.return_, len) := by
  exact fd_e0 h (by decide) _ rfl rfl rfl
theorem fd_dq_45 {c : ByteArray} {pc len : Nat} {x : Nat} (h : fd_o1 (fun z => fd_b1 c (pc + z)) 21 len x = true) : decode c pc = .ok (.iload x, len) := by
  exact fd_e1 (i := fun z => .iload z) h (by decide) _ rfl rfl
theorem fd_dq_46 {c : ByteArray} {pc len : Nat} {x : Nat} (h : fd_o1 (fun z => fd_b1 c (pc + z)) 54 len x = true) : decode c pc = .ok (.istore x, len) := by
  exact fd_e1 (i := fun z => .istore z) h (by decide) _ rfl rfl
theorem fd_dq_47 {c : ByteArray} {pc len : Nat} {x : Nat} (h : fd_o1 (fun z => fd_b1 c (pc + z)) 22 len x = true) : decode c pc = .ok (.lload x, len) := by
  exact fd_e1 (i := fun z => .lload z) h (by decide) _ rfl rfl
theorem fd_dq_48 {c : ByteArray} {pc len : Nat} {x : Nat} (h : fd_o1 (fun z => fd_b1 c (pc + z)) 55 len x = true) : decode c pc = .ok (.lstore x, len) := by
  exact fd_e1 (i := fun z => .lstore z) h (by decide) _ rfl rfl
theorem fd_dq_49 {c : ByteArray} {pc len : Nat} {x : Nat} (h : fd_o1 (fun z => fd_b1 c (pc + z)) 18 len x = true) : decode c pc = .ok (.ldc x, len) := by
  exact fd_e1 (i := fun z => .ldc z) h (by decide) _ rfl rfl
theorem fd_dq_50 {c : ByteArray} {pc len : Nat} {x : Nat} (h : fd_o2 (fun z => fd_b1 c (pc + z)) 180 len x = true) : decode c pc = .ok (.getfield x, len) := by
  exact fd_e2 (i := fun z => .getfield z) h (by decide) _ rfl rfl
theorem fd_dq_51 {c : ByteArray} {pc len : Nat} {x : Nat} (h : fd_o2 (fun z => fd_b1 c (pc + z)) 181 len x = true) : decode c pc = .ok (.putfield x, len) := by
  exact fd_e2 (i := fun z => .putfield z) h (by decide) _ rfl rfl
theorem fd_dq_52 {c : ByteArray} {pc len : Nat} {x : Nat} (h : fd_o2 (fun z => fd_b1 c (pc + z)) 178 len x = true) : decode c pc = .ok (.getstatic x, len) := by
  exact fd_e2 (i := fun z => .getstatic z) h (by decide) _ rfl rfl
theorem fd_dq_53 {c : ByteArray} {pc len : Nat} {x : Nat} (h : fd_o2 (fun z => fd_b1 c (pc + z)) 183 len x = true) : decode c pc = .ok (.invokespecial x, len) := by
  exact fd_e2 (i := fun z => .invokespecial z) h (by decide) _ rfl rfl
theorem fd_dq_54 {c : ByteArray} {pc len : Nat} {x : Nat} (h : fd_o2 (fun z => fd_b1 c (pc + z)) 184 len x = true) : decode c pc = .ok (.invokestatic x, len) := by
  exact fd_e2 (i := fun z => .invokestatic z) h (by decide) _ rfl rfl
theorem fd_dq_55 {c : ByteArray} {pc len : Nat} {x : Nat} (h : fd_o2 (fun z => fd_b1 c (pc + z)) 182 len x = true) : decode c pc = .ok (.invokevirtual x, len) := by
  exact fd_e2 (i := fun z => .invokevirtual z) h (by decide) _ rfl rfl
theorem fd_dq_56 {c : ByteArray} {pc len : Nat} {x : Nat} (h : fd_o2 (fun z => fd_b1 c (pc + z)) 19 len x = true) : decode c pc = .ok (.ldc_w x, len) := by
  exact fd_e2 (i := fun z => .ldc_w z) h (by decide) _ rfl rfl
theorem fd_dq_57 {c : ByteArray} {pc len : Nat} {x : Nat} (h : fd_o2 (fun z => fd_b1 c (pc + z)) 20 len x = true) : decode c pc = .ok (.ldc2_w x, len) := by
  exact fd_e2 (i := fun z => .ldc2_w z) h (by decide) _ rfl rfl
theorem fd_dq_58 {c : ByteArray} {pc len : Nat} {x : Nat} (h : fd_o2 (fun z => fd_b1 c (pc + z)) 187 len x = true) : decode c pc = .ok (.new x, len) := by
  exact fd_e2 (i := fun z => .new z) h (by decide) _ rfl rfl
theorem fd_dq_59 {c : ByteArray} {pc len : Nat} {x : Int} (h : fd_oS (fun z => fd_b1 c (pc + z)) 16 len x = true) : decode c pc = .ok (.bipush x, len) := by
  exact fd_eS (i := fun z => .bipush z) h (by decide) _ rfl rfl
theorem fd_dq_60 {c : ByteArray} {pc len : Nat} {x : Int} (h : fd_oT (fun z => fd_b1 c (pc + z)) 17 len x = true) : decode c pc = .ok (.sipush x, len) := by
  exact fd_eT (i := fun z => .sipush z) h (by decide) _ rfl rfl
theorem fd_dq_61 {c : ByteArray} {pc len : Nat} {x : Int} (h : fd_oT (fun z => fd_b1 c (pc + z)) 167 len x = true) : decode c pc = .ok (.goto x, len) := by
  exact fd_eT (i := fun z => .goto z) h (by decide) _ rfl rfl
theorem fd_dq_62 {c : ByteArray} {pc len : Nat} {n : Nat} {x : Int} (h : fd_oI (fun z => fd_b1 c (pc + z)) len n x = true) : decode c pc = .ok (.iinc n x, len) := by
  exact fd_eI h _ rfl rfl
theorem fd_dq_63 {c : ByteArray} {pc len : Nat} {x : Int} (h : fd_oT (fun z => fd_b1 c (pc + z)) 153 len x = true) : decode c pc = .ok (.ifCond .eq x, len) := by
  exact fd_eT (i := fun z => .ifCond .eq z) h (by decide) _ rfl rfl
theorem fd_dq_64 {c : ByteArray} {pc len : Nat} {x : Int} (h : fd_oT (fun z => fd_b1 c (pc + z)) 159 len x = true) : decode c pc = .ok (.if_icmp .eq x, len) := by
  exact fd_eT (i := fun z => .if_icmp .eq z) h (by decide) _ rfl rfl
theorem fd_dq_65 {c : ByteArray} {pc len : Nat} {x : Int} (h : fd_oT (fun z => fd_b1 c (pc + z)) 154 len x = true) : decode c pc = .ok (.ifCond .ne x, len) := by
  exact fd_eT (i := fun z => .ifCond .ne z) h (by decide) _ rfl rfl
theorem fd_dq_66 {c : ByteArray} {pc len : Nat} {x : Int} (h : fd_oT (fun z => fd_b1 c (pc + z)) 160 len x = true) : decode c pc = .ok (.if_icmp .ne x, len) := by
  exact fd_eT (i := fun z => .if_icmp .ne z) h (by decide) _ rfl rfl
theorem fd_dq_67 {c : ByteArray} {pc len : Nat} {x : Int} (h : fd_oT (fun z => fd_b1 c (pc + z)) 155 len x = true) : decode c pc = .ok (.ifCond .lt x, len) := by
  exact fd_eT (i := fun z => .ifCond .lt z) h (by decide) _ rfl rfl
theorem fd_dq_68 {c : ByteArray} {pc len : Nat} {x : Int} (h : fd_oT (fun z => fd_b1 c (pc + z)) 161 len x = true) : decode c pc = .ok (.if_icmp .lt x, len) := by
  exact fd_eT (i := fun z => .if_icmp .lt z) h (by decide) _ rfl rfl
theorem fd_dq_69 {c : ByteArray} {pc len : Nat} {x : Int} (h : fd_oT (fun z => fd_b1 c (pc + z)) 156 len x = true) : decode c pc = .ok (.ifCond .ge x, len) := by
  exact fd_eT (i := fun z => .ifCond .ge z) h (by decide) _ rfl rfl
theorem fd_dq_70 {c : ByteArray} {pc len : Nat} {x : Int} (h : fd_oT (fun z => fd_b1 c (pc + z)) 162 len x = true) : decode c pc = .ok (.if_icmp .ge x, len) := by
  exact fd_eT (i := fun z => .if_icmp .ge z) h (by decide) _ rfl rfl
theorem fd_dq_71 {c : ByteArray} {pc len : Nat} {x : Int} (h : fd_oT (fun z => fd_b1 c (pc + z)) 157 len x = true) : decode c pc = .ok (.ifCond .gt x, len) := by
  exact fd_eT (i := fun z => .ifCond .gt z) h (by decide) _ rfl rfl
theorem fd_dq_72 {c : ByteArray} {pc len : Nat} {x : Int} (h : fd_oT (fun z => fd_b1 c (pc + z)) 163 len x = true) : decode c pc = .ok (.if_icmp .gt x, len) := by
  exact fd_eT (i := fun z => .if_icmp .gt z) h (by decide) _ rfl rfl
theorem fd_dq_73 {c : ByteArray} {pc len : Nat} {x : Int} (h : fd_oT (fun z => fd_b1 c (pc + z)) 158 len x = true) : decode c pc = .ok (.ifCond .le x, len) := by
  exact fd_eT (i := fun z => .ifCond .le z) h (by decide) _ rfl rfl
theorem fd_dq_74 {c : ByteArray} {pc len : Nat} {x : Int} (h : fd_oT (fun z => fd_b1 c (pc + z)) 164 len x = true) : decode c pc = .ok (.if_icmp .le x, len) := by
  exact fd_eT (i := fun z => .if_icmp .le z) h (by decide) _ rfl rfl
theorem fd_dq_ok {c : ByteArray} {pc : Nat} {b : Nat → Nat} {ins : Instr} {len : Nat} (hb : ∀ z, b z = fd_b1 c (pc + z)) (h : fd_dq c pc b ins len = true) : decode c pc = .ok (ins, len) := by
  obtain rfl : b = (fun z => fd_b1 c (pc + z)) := funext hb
  unfold fd_dq at h
  split at h
  · exact fd_dq_0 h
  · exact fd_dq_1 h
  · exact fd_dq_2 h
  · exact fd_dq_3 h
  · exact fd_dq_4 h
  · exact fd_dq_5 h
  · exact fd_dq_6 h
  · exact fd_dq_7 h
  · exact fd_dq_8 h
  · exact fd_dq_9 h
  · exact fd_dq_10 h
  · exact fd_dq_11 h
  · exact fd_dq_12 h
  · exact fd_dq_13 h
  · exact fd_dq_14 h
  · exact fd_dq_15 h
  · exact fd_dq_16 h
  · exact fd_dq_17 h
  · exact fd_dq_18 h
  · exact fd_dq_19 h
  · exact fd_dq_20 h
  · exact fd_dq_21 h
  · exact fd_dq_22 h
  · exact fd_dq_23 h
  · exact fd_dq_24 h
  · exact fd_dq_25 h
  · exact fd_dq_26 h
  · exact fd_dq_27 h
  · exact fd_dq_28 h
  · exact fd_dq_29 h
  · exact fd_dq_30 h
  · exact fd_dq_31 h
  · exact fd_dq_32 h
  · exact fd_dq_33 h
  · exact fd_dq_34 h
  · exact fd_dq_35 h
  · exact fd_dq_36 h
  · exact fd_dq_37 h
  · exact fd_dq_38 h
  · exact fd_dq_39 h
  · exact fd_dq_40 h
  · exact fd_dq_41 h
  · exact fd_dq_42 h
  · exact fd_dq_43 h
  · exact fd_dq_44 h
  · exact fd_dq_45 h
  · exact fd_dq_46 h
  · exact fd_dq_47 h
  · exact fd_dq_48 h
  · exact fd_dq_49 h
  · exact fd_dq_50 h
  · exact fd_dq_51 h
  · exact fd_dq_52 h
  · exact fd_dq_53 h
  · exact fd_dq_54 h
  · exact fd_dq_55 h
  · exact fd_dq_56 h
  · exact fd_dq_57 h
  · exact fd_dq_58 h
  · exact fd_dq_59 h
  · exact fd_dq_60 h
  · exact fd_dq_61 h
  · exact fd_dq_62 h
  · exact fd_dq_63 h
  · exact fd_dq_64 h
  · exact fd_dq_65 h
  · exact fd_dq_66 h
  · exact fd_dq_67 h
  · exact fd_dq_68 h
  · exact fd_dq_69 h
  · exact fd_dq_70 h
  · exact fd_dq_71 h
  · exact fd_dq_72 h
  · exact fd_dq_73 h
  · exact fd_dq_74 h
  · exact of_decide_eq_true h
def fd_n (c : ByteArray) : List Nat := c.data.toList.map UInt8.toNat
def fd_nth : List Nat → Nat → Nat
  | [], _ => 256
  | a :: _, 0 => a
  | _ :: l, k + 1 => fd_nth l k
theorem fd_nth_eq : ∀ (l : List Nat) (k : Nat), fd_nth l k = (l[k]?).getD 256
  | [], k => by simp [fd_nth]
  | a :: l, 0 => by simp [fd_nth]
  | a :: l, k + 1 => by simp [fd_nth, fd_nth_eq l k]
theorem fd_n_b1 (c : ByteArray) (p : Nat) : fd_nth (fd_n c) p = fd_b1 c p := by
  rw [fd_nth_eq]
  unfold fd_n fd_b1
  rw [List.getElem?_map]
  by_cases h : p < c.size
  · have h2 : p < c.data.toList.length := h
    rw [dif_pos h, List.getElem?_eq_getElem h2]
    rfl
  · have h2 : ¬ p < c.data.toList.length := h
    rw [dif_neg h, List.getElem?_eq_none (by omega)]
    rfl
def fd_drop : List Nat → Nat → List Nat
  | l, 0 => l
  | [], _ => []
  | _ :: l, k + 1 => fd_drop l k
theorem fd_drop_nth : ∀ (k : Nat) (l : List Nat) (z : Nat), fd_nth (fd_drop l k) z = fd_nth l (k + z)
  | 0, l, z => by
    rw [Nat.zero_add]
    cases l <;> rfl
  | k + 1, [], z => by
    rw [show k + 1 + z = (k + z) + 1 by omega]
    rfl
  | k + 1, a :: l, z => by
    rw [show k + 1 + z = (k + z) + 1 by omega]
    exact fd_drop_nth k l z
abbrev fd_I : Type := Nat × Instr × Nat × Nat × Nat × Nat
def fd_wk (c : ByteArray) : List Nat → Nat → List fd_I → Bool
  | _, _, [] => true
  | l, p, q :: r => Nat.ble p q.1 && (fd_dq c q.1 (fd_nth (fd_drop l (q.1 - p))) q.2.1 q.2.2.1 && fd_wk c (fd_drop l (q.1 - p)) q.1 r)
theorem fd_wk_ok {c : ByteArray} : ∀ (r : List fd_I) (l : List Nat) (p : Nat), (∀ z, fd_nth l z = fd_b1 c (p + z)) → fd_wk c l p r = true → ∀ q ∈ r, decode c q.1 = .ok (q.2.1, q.2.2.1)
  | [], _, _, _, _, q, hq => by cases hq
  | a :: r, l, p, hl, h, q, hq => by
    unfold fd_wk at h
    simp only [Bool.and_eq_true] at h
    have hp : p ≤ a.1 := Nat.le_of_ble_eq_true h.1
    have hl2 : ∀ z, fd_nth (fd_drop l (a.1 - p)) z = fd_b1 c (a.1 + z) := fun z => by
      rw [fd_drop_nth, hl]
      congr 1
      omega
    rcases List.mem_cons.mp hq with e | e
    · rw [e]
      exact fd_dq_ok hl2 h.2.1
    · exact fd_wk_ok r _ _ hl2 h.2.2 q e
