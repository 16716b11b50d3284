/-! ===== bits ===== -/
theorem fz_and_m {x y : Int} (h0 : 0 ≤ y) (h1 : y < 2147483648) : 0 ≤ fz_and x y ∧ fz_and x y ≤ y := by
  obtain ⟨n, rfl⟩ := Int.eq_ofNat_of_zero_le h0
  have e : fz_and x (n : Int) = (BitVec.ofInt 32 x &&& BitVec.ofInt 32 (n : Int)).toInt := rfl
  have e2 : (BitVec.ofInt 32 x &&& BitVec.ofInt 32 (n : Int)).toNat ≤ n := by
    rw [BitVec.toNat_and]
    refine Nat.le_trans Nat.and_le_right ?_
    rw [BitVec.toNat_ofInt]
    omega
  rw [e, BitVec.toInt_eq_toNat_of_lt (by omega)]
  omega
theorem fz_or_m {x y : Int} (hx : 0 ≤ x ∧ x ≤ 2047) (hy : 0 ≤ y ∧ y ≤ 2047) : 0 ≤ fz_or x y ∧ fz_or x y ≤ 2047 := by
  obtain ⟨m, rfl⟩ := Int.eq_ofNat_of_zero_le hx.1
  obtain ⟨n, rfl⟩ := Int.eq_ofNat_of_zero_le hy.1
  have e : fz_or (m : Int) (n : Int) = (BitVec.ofInt 32 (m : Int) ||| BitVec.ofInt 32 (n : Int)).toInt := rfl
  have e2 : (BitVec.ofInt 32 (m : Int) ||| BitVec.ofInt 32 (n : Int)).toNat < 2 ^ 11 := by
    rw [BitVec.toNat_or, BitVec.toNat_ofInt, BitVec.toNat_ofInt]
    exact Nat.or_lt_two_pow (by omega) (by omega)
  rw [e, BitVec.toInt_eq_toNat_of_lt (by omega)]
  omega
theorem fz_shl_m {i : Int} (h : 0 ≤ i ∧ i ≤ 10) : 0 ≤ fz_shl 1 i ∧ fz_shl 1 i ≤ 2047 := by
  have c : i = 0 ∨ i = 1 ∨ i = 2 ∨ i = 3 ∨ i = 4 ∨ i = 5 ∨ i = 6 ∨ i = 7 ∨ i = 8 ∨ i = 9 ∨ i = 10 := by omega
  rcases c with rfl | rfl | rfl | rfl | rfl | rfl | rfl | rfl | rfl | rfl | rfl <;> decide
/-! bits counted as the machine does -/
def fl_b1 (x : Int) : Int := fz_w (x - fz_and (fz_ush x 1) 1431655765)
def fl_b2 (x : Int) : Int := fz_w (fz_and x 858993459 + fz_and (fz_ush x 2) 858993459)
def fl_b3 (x : Int) : Int := fz_and (fz_w (x + fz_ush x 4)) 252645135
def fl_b4 (x : Int) : Int := fz_w (x + fz_ush x 8)
def fl_b5 (x : Int) : Int := fz_w (x + fz_ush x 16)
def fl_bc (x : Int) : Int := fz_and (fl_b5 (fl_b4 (fl_b3 (fl_b2 (fl_b1 x))))) 63
abbrev qJ6_bitCount_0f7a4 (h : fz_H) (x : Int) : fz_H → Option fz_V → Prop := fun h' r0 => h' = h ∧ ∃ r : Int, r0 = some (fz_i r) ∧ ((-2147483648) ≤ r ∧ r ≤ 2147483647) ∧ (r = fl_bc x)
set_option maxHeartbeats 1000000 in
set_option maxRecDepth 100000 in
theorem sJ6_bitCount_0f7a4 (h : fz_H) (hI : fz_Iv h) (x : Int) : fz_R 0 mJ6_bitCount_0f7a4 0 [(0, fz_i x)] [] h (qJ6_bitCount_0f7a4 h x) := by
  refine fz_knowl (fun hk => ?_)
  have hr_x : -2147483648 ≤ x ∧ x < 2147483648 := hk _ (List.Mem.head _)
  clear hk
  refine fz_iload_n kJ6_bitCount_0f7a4 rfl rfl ?_
  refine fz_iload_n kJ6_bitCount_0f7a4 rfl rfl ?_
  refine fz_iconst ⟨by decide, by decide⟩ kJ6_bitCount_0f7a4 rfl ?_
  refine fz_iushr kJ6_bitCount_0f7a4 rfl ?_
  have b1 : -2147483648 ≤ (fz_ush x 1) ∧ (fz_ush x 1) < 2147483648 := fz_b32 _
  refine fz_ldcw (x := 1431655765) kJ6_bitCount_0f7a4 rfl rfl rfl ?_
  refine fz_iand kJ6_bitCount_0f7a4 rfl ?_
  have b2 : -2147483648 ≤ (fz_and (fz_ush x 1) 1431655765) ∧ (fz_and (fz_ush x 1) 1431655765) < 2147483648 := fz_b32 _
  refine fz_isub kJ6_bitCount_0f7a4 rfl ?_
  have b3 := fz_w_b (x - (fz_and (fz_ush x 1) 1431655765))
  refine fz_istore_n (ls' := [(0, fz_i (fz_w (x - (fz_and (fz_ush x 1) 1431655765))))]) kJ6_bitCount_0f7a4 rfl (by decide) rfl ?_
  refine fz_iload_n kJ6_bitCount_0f7a4 rfl rfl ?_
  refine fz_ldcw (x := 858993459) kJ6_bitCount_0f7a4 rfl rfl rfl ?_
  refine fz_iand kJ6_bitCount_0f7a4 rfl ?_
  have b4 : -2147483648 ≤ (fz_and (fz_w (x - (fz_and (fz_ush x 1) 1431655765))) 858993459) ∧ (fz_and (fz_w (x - (fz_and (fz_ush x 1) 1431655765))) 858993459) < 2147483648 := fz_b32 _
  refine fz_iload_n kJ6_bitCount_0f7a4 rfl rfl ?_
  refine fz_iconst ⟨by decide, by decide⟩ kJ6_bitCount_0f7a4 rfl ?_
  refine fz_iushr kJ6_bitCount_0f7a4 rfl ?_
  have b5 : -2147483648 ≤ (fz_ush (fz_w (x - (fz_and (fz_ush x 1) 1431655765))) 2) ∧ (fz_ush (fz_w (x - (fz_and (fz_ush x 1) 1431655765))) 2) < 2147483648 := fz_b32 _
  refine fz_ldcw (x := 858993459) kJ6_bitCount_0f7a4 rfl rfl rfl ?_
  refine fz_iand kJ6_bitCount_0f7a4 rfl ?_
  have b6 : -2147483648 ≤ (fz_and (fz_ush (fz_w (x - (fz_and (fz_ush x 1) 1431655765))) 2) 858993459) ∧ (fz_and (fz_ush (fz_w (x - (fz_and (fz_ush x 1) 1431655765))) 2) 858993459) < 2147483648 := fz_b32 _
  refine fz_iadd kJ6_bitCount_0f7a4 rfl ?_
  have b7 := fz_w_b ((fz_and (fz_w (x - (fz_and (fz_ush x 1) 1431655765))) 858993459) + (fz_and (fz_ush (fz_w (x - (fz_and (fz_ush x 1) 1431655765))) 2) 858993459))
  refine fz_istore_n (ls' := [(0, fz_i (fz_w ((fz_and (fz_w (x - (fz_and (fz_ush x 1) 1431655765))) 858993459) + (fz_and (fz_ush (fz_w (x - (fz_and (fz_ush x 1) 1431655765))) 2) 858993459))))]) kJ6_bitCount_0f7a4 rfl (by decide) rfl ?_
  refine fz_iload_n kJ6_bitCount_0f7a4 rfl rfl ?_
  refine fz_iload_n kJ6_bitCount_0f7a4 rfl rfl ?_
  refine fz_iconst ⟨by decide, by decide⟩ kJ6_bitCount_0f7a4 rfl ?_
  refine fz_iushr kJ6_bitCount_0f7a4 rfl ?_
  have b8 : -2147483648 ≤ (fz_ush (fz_w ((fz_and (fz_w (x - (fz_and (fz_ush x 1) 1431655765))) 858993459) + (fz_and (fz_ush (fz_w (x - (fz_and (fz_ush x 1) 1431655765))) 2) 858993459))) 4) ∧ (fz_ush (fz_w ((fz_and (fz_w (x - (fz_and (fz_ush x 1) 1431655765))) 858993459) + (fz_and (fz_ush (fz_w (x - (fz_and (fz_ush x 1) 1431655765))) 2) 858993459))) 4) < 2147483648 := fz_b32 _
  refine fz_iadd kJ6_bitCount_0f7a4 rfl ?_
  have b9 := fz_w_b ((fz_w ((fz_and (fz_w (x - (fz_and (fz_ush x 1) 1431655765))) 858993459) + (fz_and (fz_ush (fz_w (x - (fz_and (fz_ush x 1) 1431655765))) 2) 858993459))) + (fz_ush (fz_w ((fz_and (fz_w (x - (fz_and (fz_ush x 1) 1431655765))) 858993459) + (fz_and (fz_ush (fz_w (x - (fz_and (fz_ush x 1) 1431655765))) 2) 858993459))) 4))
  refine fz_ldcw (x := 252645135) kJ6_bitCount_0f7a4 rfl rfl rfl ?_
  refine fz_iand kJ6_bitCount_0f7a4 rfl ?_
  have b10 : -2147483648 ≤ (fz_and (fz_w ((fz_w ((fz_and (fz_w (x - (fz_and (fz_ush x 1) 1431655765))) 858993459) + (fz_and (fz_ush (fz_w (x - (fz_and (fz_ush x 1) 1431655765))) 2) 858993459))) + (fz_ush (fz_w ((fz_and (fz_w (x - (fz_and (fz_ush x 1) 1431655765))) 858993459) + (fz_and (fz_ush (fz_w (x - (fz_and (fz_ush x 1) 1431655765))) 2) 858993459))) 4))) 252645135) ∧ (fz_and (fz_w ((fz_w ((fz_and (fz_w (x - (fz_and (fz_ush x 1) 1431655765))) 858993459) + (fz_and (fz_ush (fz_w (x - (fz_and (fz_ush x 1) 1431655765))) 2) 858993459))) + (fz_ush (fz_w ((fz_and (fz_w (x - (fz_and (fz_ush x 1) 1431655765))) 858993459) + (fz_and (fz_ush (fz_w (x - (fz_and (fz_ush x 1) 1431655765))) 2) 858993459))) 4))) 252645135) < 2147483648 := fz_b32 _
  refine fz_istore_n (ls' := [(0, fz_i (fz_and (fz_w ((fz_w ((fz_and (fz_w (x - (fz_and (fz_ush x 1) 1431655765))) 858993459) + (fz_and (fz_ush (fz_w (x - (fz_and (fz_ush x 1) 1431655765))) 2) 858993459))) + (fz_ush (fz_w ((fz_and (fz_w (x - (fz_and (fz_ush x 1) 1431655765))) 858993459) + (fz_and (fz_ush (fz_w (x - (fz_and (fz_ush x 1) 1431655765))) 2) 858993459))) 4))) 252645135))]) kJ6_bitCount_0f7a4 rfl (by decide) rfl ?_
  refine fz_iload_n kJ6_bitCount_0f7a4 rfl rfl ?_
  refine fz_iload_n kJ6_bitCount_0f7a4 rfl rfl ?_
  refine fz_bipush ⟨by decide, by decide⟩ kJ6_bitCount_0f7a4 rfl ?_
  refine fz_iushr kJ6_bitCount_0f7a4 rfl ?_
  have b11 : -2147483648 ≤ (fz_ush (fz_and (fz_w ((fz_w ((fz_and (fz_w (x - (fz_and (fz_ush x 1) 1431655765))) 858993459) + (fz_and (fz_ush (fz_w (x - (fz_and (fz_ush x 1) 1431655765))) 2) 858993459))) + (fz_ush (fz_w ((fz_and (fz_w (x - (fz_and (fz_ush x 1) 1431655765))) 858993459) + (fz_and (fz_ush (fz_w (x - (fz_and (fz_ush x 1) 1431655765))) 2) 858993459))) 4))) 252645135) 8) ∧ (fz_ush (fz_and (fz_w ((fz_w ((fz_and (fz_w (x - (fz_and (fz_ush x 1) 1431655765))) 858993459) + (fz_and (fz_ush (fz_w (x - (fz_and (fz_ush x 1) 1431655765))) 2) 858993459))) + (fz_ush (fz_w ((fz_and (fz_w (x - (fz_and (fz_ush x 1) 1431655765))) 858993459) + (fz_and (fz_ush (fz_w (x - (fz_and (fz_ush x 1) 1431655765))) 2) 858993459))) 4))) 252645135) 8) < 2147483648 := fz_b32 _
  refine fz_iadd kJ6_bitCount_0f7a4 rfl ?_
  have b12 := fz_w_b ((fz_and (fz_w ((fz_w ((fz_and (fz_w (x - (fz_and (fz_ush x 1) 1431655765))) 858993459) + (fz_and (fz_ush (fz_w (x - (fz_and (fz_ush x 1) 1431655765))) 2) 858993459))) + (fz_ush (fz_w ((fz_and (fz_w (x - (fz_and (fz_ush x 1) 1431655765))) 858993459) + (fz_and (fz_ush (fz_w (x - (fz_and (fz_ush x 1) 1431655765))) 2) 858993459))) 4))) 252645135) + (fz_ush (fz_and (fz_w ((fz_w ((fz_and (fz_w (x - (fz_and (fz_ush x 1) 1431655765))) 858993459) + (fz_and (fz_ush (fz_w (x - (fz_and (fz_ush x 1) 1431655765))) 2) 858993459))) + (fz_ush (fz_w ((fz_and (fz_w (x - (fz_and (fz_ush x 1) 1431655765))) 858993459) + (fz_and (fz_ush (fz_w (x - (fz_and (fz_ush x 1) 1431655765))) 2) 858993459))) 4))) 252645135) 8))
  refine fz_istore_n (ls' := [(0, fz_i (fz_w ((fz_and (fz_w ((fz_w ((fz_and (fz_w (x - (fz_and (fz_ush x 1) 1431655765))) 858993459) + (fz_and (fz_ush (fz_w (x - (fz_and (fz_ush x 1) 1431655765))) 2) 858993459))) + (fz_ush (fz_w ((fz_and (fz_w (x - (fz_and (fz_ush x 1) 1431655765))) 858993459) + (fz_and (fz_ush (fz_w (x - (fz_and (fz_ush x 1) 1431655765))) 2) 858993459))) 4))) 252645135) + (fz_ush (fz_and (fz_w ((fz_w ((fz_and (fz_w (x - (fz_and (fz_ush x 1) 1431655765))) 858993459) + (fz_and (fz_ush (fz_w (x - (fz_and (fz_ush x 1) 1431655765))) 2) 858993459))) + (fz_ush (fz_w ((fz_and (fz_w (x - (fz_and (fz_ush x 1) 1431655765))) 858993459) + (fz_and (fz_ush (fz_w (x - (fz_and (fz_ush x 1) 1431655765))) 2) 858993459))) 4))) 252645135) 8))))]) kJ6_bitCount_0f7a4 rfl (by decide) rfl ?_
  refine fz_iload_n kJ6_bitCount_0f7a4 rfl rfl ?_
  refine fz_iload_n kJ6_bitCount_0f7a4 rfl rfl ?_
  refine fz_bipush ⟨by decide, by decide⟩ kJ6_bitCount_0f7a4 rfl ?_
  refine fz_iushr kJ6_bitCount_0f7a4 rfl ?_
  have b13 : -2147483648 ≤ (fz_ush (fz_w ((fz_and (fz_w ((fz_w ((fz_and (fz_w (x - (fz_and (fz_ush x 1) 1431655765))) 858993459) + (fz_and (fz_ush (fz_w (x - (fz_and (fz_ush x 1) 1431655765))) 2) 858993459))) + (fz_ush (fz_w ((fz_and (fz_w (x - (fz_and (fz_ush x 1) 1431655765))) 858993459) + (fz_and (fz_ush (fz_w (x - (fz_and (fz_ush x 1) 1431655765))) 2) 858993459))) 4))) 252645135) + (fz_ush (fz_and (fz_w ((fz_w ((fz_and (fz_w (x - (fz_and (fz_ush x 1) 1431655765))) 858993459) + (fz_and (fz_ush (fz_w (x - (fz_and (fz_ush x 1) 1431655765))) 2) 858993459))) + (fz_ush (fz_w ((fz_and (fz_w (x - (fz_and (fz_ush x 1) 1431655765))) 858993459) + (fz_and (fz_ush (fz_w (x - (fz_and (fz_ush x 1) 1431655765))) 2) 858993459))) 4))) 252645135) 8))) 16) ∧ (fz_ush (fz_w ((fz_and (fz_w ((fz_w ((fz_and (fz_w (x - (fz_and (fz_ush x 1) 1431655765))) 858993459) + (fz_and (fz_ush (fz_w (x - (fz_and (fz_ush x 1) 1431655765))) 2) 858993459))) + (fz_ush (fz_w ((fz_and (fz_w (x - (fz_and (fz_ush x 1) 1431655765))) 858993459) + (fz_and (fz_ush (fz_w (x - (fz_and (fz_ush x 1) 1431655765))) 2) 858993459))) 4))) 252645135) + (fz_ush (fz_and (fz_w ((fz_w ((fz_and (fz_w (x - (fz_and (fz_ush x 1) 1431655765))) 858993459) + (fz_and (fz_ush (fz_w (x - (fz_and (fz_ush x 1) 1431655765))) 2) 858993459))) + (fz_ush (fz_w ((fz_and (fz_w (x - (fz_and (fz_ush x 1) 1431655765))) 858993459) + (fz_and (fz_ush (fz_w (x - (fz_and (fz_ush x 1) 1431655765))) 2) 858993459))) 4))) 252645135) 8))) 16) < 2147483648 := fz_b32 _
  refine fz_iadd kJ6_bitCount_0f7a4 rfl ?_
  have b14 := fz_w_b ((fz_w ((fz_and (fz_w ((fz_w ((fz_and (fz_w (x - (fz_and (fz_ush x 1) 1431655765))) 858993459) + (fz_and (fz_ush (fz_w (x - (fz_and (fz_ush x 1) 1431655765))) 2) 858993459))) + (fz_ush (fz_w ((fz_and (fz_w (x - (fz_and (fz_ush x 1) 1431655765))) 858993459) + (fz_and (fz_ush (fz_w (x - (fz_and (fz_ush x 1) 1431655765))) 2) 858993459))) 4))) 252645135) + (fz_ush (fz_and (fz_w ((fz_w ((fz_and (fz_w (x - (fz_and (fz_ush x 1) 1431655765))) 858993459) + (fz_and (fz_ush (fz_w (x - (fz_and (fz_ush x 1) 1431655765))) 2) 858993459))) + (fz_ush (fz_w ((fz_and (fz_w (x - (fz_and (fz_ush x 1) 1431655765))) 858993459) + (fz_and (fz_ush (fz_w (x - (fz_and (fz_ush x 1) 1431655765))) 2) 858993459))) 4))) 252645135) 8))) + (fz_ush (fz_w ((fz_and (fz_w ((fz_w ((fz_and (fz_w (x - (fz_and (fz_ush x 1) 1431655765))) 858993459) + (fz_and (fz_ush (fz_w (x - (fz_and (fz_ush x 1) 1431655765))) 2) 858993459))) + (fz_ush (fz_w ((fz_and (fz_w (x - (fz_and (fz_ush x 1) 1431655765))) 858993459) + (fz_and (fz_ush (fz_w (x - (fz_and (fz_ush x 1) 1431655765))) 2) 858993459))) 4))) 252645135) + (fz_ush (fz_and (fz_w ((fz_w ((fz_and (fz_w (x - (fz_and (fz_ush x 1) 1431655765))) 858993459) + (fz_and (fz_ush (fz_w (x - (fz_and (fz_ush x 1) 1431655765))) 2) 858993459))) + (fz_ush (fz_w ((fz_and (fz_w (x - (fz_and (fz_ush x 1) 1431655765))) 858993459) + (fz_and (fz_ush (fz_w (x - (fz_and (fz_ush x 1) 1431655765))) 2) 858993459))) 4))) 252645135) 8))) 16))
  refine fz_istore_n (ls' := [(0, fz_i (fz_w ((fz_w ((fz_and (fz_w ((fz_w ((fz_and (fz_w (x - (fz_and (fz_ush x 1) 1431655765))) 858993459) + (fz_and (fz_ush (fz_w (x - (fz_and (fz_ush x 1) 1431655765))) 2) 858993459))) + (fz_ush (fz_w ((fz_and (fz_w (x - (fz_and (fz_ush x 1) 1431655765))) 858993459) + (fz_and (fz_ush (fz_w (x - (fz_and (fz_ush x 1) 1431655765))) 2) 858993459))) 4))) 252645135) + (fz_ush (fz_and (fz_w ((fz_w ((fz_and (fz_w (x - (fz_and (fz_ush x 1) 1431655765))) 858993459) + (fz_and (fz_ush (fz_w (x - (fz_and (fz_ush x 1) 1431655765))) 2) 858993459))) + (fz_ush (fz_w ((fz_and (fz_w (x - (fz_and (fz_ush x 1) 1431655765))) 858993459) + (fz_and (fz_ush (fz_w (x - (fz_and (fz_ush x 1) 1431655765))) 2) 858993459))) 4))) 252645135) 8))) + (fz_ush (fz_w ((fz_and (fz_w ((fz_w ((fz_and (fz_w (x - (fz_and (fz_ush x 1) 1431655765))) 858993459) + (fz_and (fz_ush (fz_w (x - (fz_and (fz_ush x 1) 1431655765))) 2) 858993459))) + (fz_ush (fz_w ((fz_and (fz_w (x - (fz_and (fz_ush x 1) 1431655765))) 858993459) + (fz_and (fz_ush (fz_w (x - (fz_and (fz_ush x 1) 1431655765))) 2) 858993459))) 4))) 252645135) + (fz_ush (fz_and (fz_w ((fz_w ((fz_and (fz_w (x - (fz_and (fz_ush x 1) 1431655765))) 858993459) + (fz_and (fz_ush (fz_w (x - (fz_and (fz_ush x 1) 1431655765))) 2) 858993459))) + (fz_ush (fz_w ((fz_and (fz_w (x - (fz_and (fz_ush x 1) 1431655765))) 858993459) + (fz_and (fz_ush (fz_w (x - (fz_and (fz_ush x 1) 1431655765))) 2) 858993459))) 4))) 252645135) 8))) 16))))]) kJ6_bitCount_0f7a4 rfl (by decide) rfl ?_
  refine fz_iload_n kJ6_bitCount_0f7a4 rfl rfl ?_
  refine fz_bipush ⟨by decide, by decide⟩ kJ6_bitCount_0f7a4 rfl ?_
  refine fz_iand kJ6_bitCount_0f7a4 rfl ?_
  have b15 : -2147483648 ≤ (fz_and (fz_w ((fz_w ((fz_and (fz_w ((fz_w ((fz_and (fz_w (x - (fz_and (fz_ush x 1) 1431655765))) 858993459) + (fz_and (fz_ush (fz_w (x - (fz_and (fz_ush x 1) 1431655765))) 2) 858993459))) + (fz_ush (fz_w ((fz_and (fz_w (x - (fz_and (fz_ush x 1) 1431655765))) 858993459) + (fz_and (fz_ush (fz_w (x - (fz_and (fz_ush x 1) 1431655765))) 2) 858993459))) 4))) 252645135) + (fz_ush (fz_and (fz_w ((fz_w ((fz_and (fz_w (x - (fz_and (fz_ush x 1) 1431655765))) 858993459) + (fz_and (fz_ush (fz_w (x - (fz_and (fz_ush x 1) 1431655765))) 2) 858993459))) + (fz_ush (fz_w ((fz_and (fz_w (x - (fz_and (fz_ush x 1) 1431655765))) 858993459) + (fz_and (fz_ush (fz_w (x - (fz_and (fz_ush x 1) 1431655765))) 2) 858993459))) 4))) 252645135) 8))) + (fz_ush (fz_w ((fz_and (fz_w ((fz_w ((fz_and (fz_w (x - (fz_and (fz_ush x 1) 1431655765))) 858993459) + (fz_and (fz_ush (fz_w (x - (fz_and (fz_ush x 1) 1431655765))) 2) 858993459))) + (fz_ush (fz_w ((fz_and (fz_w (x - (fz_and (fz_ush x 1) 1431655765))) 858993459) + (fz_and (fz_ush (fz_w (x - (fz_and (fz_ush x 1) 1431655765))) 2) 858993459))) 4))) 252645135) + (fz_ush (fz_and (fz_w ((fz_w ((fz_and (fz_w (x - (fz_and (fz_ush x 1) 1431655765))) 858993459) + (fz_and (fz_ush (fz_w (x - (fz_and (fz_ush x 1) 1431655765))) 2) 858993459))) + (fz_ush (fz_w ((fz_and (fz_w (x - (fz_and (fz_ush x 1) 1431655765))) 858993459) + (fz_and (fz_ush (fz_w (x - (fz_and (fz_ush x 1) 1431655765))) 2) 858993459))) 4))) 252645135) 8))) 16))) 63) ∧ (fz_and (fz_w ((fz_w ((fz_and (fz_w ((fz_w ((fz_and (fz_w (x - (fz_and (fz_ush x 1) 1431655765))) 858993459) + (fz_and (fz_ush (fz_w (x - (fz_and (fz_ush x 1) 1431655765))) 2) 858993459))) + (fz_ush (fz_w ((fz_and (fz_w (x - (fz_and (fz_ush x 1) 1431655765))) 858993459) + (fz_and (fz_ush (fz_w (x - (fz_and (fz_ush x 1) 1431655765))) 2) 858993459))) 4))) 252645135) + (fz_ush (fz_and (fz_w ((fz_w ((fz_and (fz_w (x - (fz_and (fz_ush x 1) 1431655765))) 858993459) + (fz_and (fz_ush (fz_w (x - (fz_and (fz_ush x 1) 1431655765))) 2) 858993459))) + (fz_ush (fz_w ((fz_and (fz_w (x - (fz_and (fz_ush x 1) 1431655765))) 858993459) + (fz_and (fz_ush (fz_w (x - (fz_and (fz_ush x 1) 1431655765))) 2) 858993459))) 4))) 252645135) 8))) + (fz_ush (fz_w ((fz_and (fz_w ((fz_w ((fz_and (fz_w (x - (fz_and (fz_ush x 1) 1431655765))) 858993459) + (fz_and (fz_ush (fz_w (x - (fz_and (fz_ush x 1) 1431655765))) 2) 858993459))) + (fz_ush (fz_w ((fz_and (fz_w (x - (fz_and (fz_ush x 1) 1431655765))) 858993459) + (fz_and (fz_ush (fz_w (x - (fz_and (fz_ush x 1) 1431655765))) 2) 858993459))) 4))) 252645135) + (fz_ush (fz_and (fz_w ((fz_w ((fz_and (fz_w (x - (fz_and (fz_ush x 1) 1431655765))) 858993459) + (fz_and (fz_ush (fz_w (x - (fz_and (fz_ush x 1) 1431655765))) 2) 858993459))) + (fz_ush (fz_w ((fz_and (fz_w (x - (fz_and (fz_ush x 1) 1431655765))) 858993459) + (fz_and (fz_ush (fz_w (x - (fz_and (fz_ush x 1) 1431655765))) 2) 858993459))) 4))) 252645135) 8))) 16))) 63) < 2147483648 := fz_b32 _
  exact fz_iret kJ6_bitCount_0f7a4 rfl rfl (fun _ => ⟨rfl, _, rfl, (by omega), (by rfl)⟩)
