/-! ===== numbers ===== -/
def fz_w (z : Int) : Int := Int.bmod z 4294967296
def fz_wl (z : Int) : Int := Int.bmod z 18446744073709551616
theorem fz_w_b (x : Int) : -2147483648 ≤ fz_w x ∧ fz_w x < 2147483648 := by
  have h1 := Int.le_bmod (x := x) (m := 4294967296) (by decide)
  have h2 := Int.bmod_lt (x := x) (m := 4294967296) (by decide)
  unfold fz_w
  omega
theorem fz_wl_b (x : Int) : -9223372036854775808 ≤ fz_wl x ∧ fz_wl x < 9223372036854775808 := by
  have h1 := Int.le_bmod (x := x) (m := 18446744073709551616) (by decide)
  have h2 := Int.bmod_lt (x := x) (m := 18446744073709551616) (by decide)
  unfold fz_wl
  omega
theorem fz_w_id {x : Int} (h1 : -2147483648 ≤ x) (h2 : x < 2147483648) : fz_w x = x := Int.bmod_eq_of_le (by omega) (by omega)
theorem fz_wl_id {x : Int} (h1 : -9223372036854775808 ≤ x) (h2 : x < 9223372036854775808) : fz_wl x = x := Int.bmod_eq_of_le (by omega) (by omega)
theorem fz_td {x y : Int} (h : 0 ≤ x) : Int.tdiv x y = x / y := Int.tdiv_eq_ediv_of_nonneg h
theorem fz_tm {x y : Int} (h : 0 ≤ x) : Int.tmod x y = x % y := Int.tmod_eq_emod_of_nonneg h
theorem fz_t32 {x : Int} (h : -2147483648 ≤ x ∧ x < 2147483648) : (Int32.ofInt x).toInt = x := Int32.toInt_ofInt_of_le h.1 h.2
theorem fz_t64 {x : Int} (h : -9223372036854775808 ≤ x ∧ x < 9223372036854775808) : (Int64.ofInt x).toInt = x := Int64.toInt_ofInt_of_le h.1 h.2
theorem fz_o32 (x : Int) : Int32.ofInt (fz_w x) = Int32.ofInt x := by
  apply Int32.toInt_inj.mp
  simp [fz_w, Int32.toInt_ofInt]
theorem fz_o64 (x : Int) : Int64.ofInt (fz_wl x) = Int64.ofInt x := by
  apply Int64.toInt_inj.mp
  simp [fz_wl, Int64.toInt_ofInt]
theorem fz_e_add (x y : Int) : Int32.ofInt x + Int32.ofInt y = Int32.ofInt (fz_w (x + y)) := by
  apply Int32.toInt_inj.mp
  simp [fz_w, Int32.toInt_add, Int32.toInt_ofInt]
theorem fz_e_sub (x y : Int) : Int32.ofInt x - Int32.ofInt y = Int32.ofInt (fz_w (x - y)) := by
  apply Int32.toInt_inj.mp
  simp [fz_w, Int32.toInt_sub, Int32.toInt_ofInt]
theorem fz_e_mul (x y : Int) : Int32.ofInt x * Int32.ofInt y = Int32.ofInt (fz_w (x * y)) := by
  apply Int32.toInt_inj.mp
  simp [fz_w, Int32.toInt_mul, Int32.toInt_ofInt]
theorem fz_e_neg (x : Int) : - Int32.ofInt x = Int32.ofInt (fz_w (- x)) := by
  apply Int32.toInt_inj.mp
  simp [fz_w, Int32.toInt_neg, Int32.toInt_ofInt]
theorem fz_e_addl (x y : Int) : Int64.ofInt x + Int64.ofInt y = Int64.ofInt (fz_wl (x + y)) := by
  apply Int64.toInt_inj.mp
  simp [fz_wl, Int64.toInt_add, Int64.toInt_ofInt]
theorem fz_e_mull (x y : Int) : Int64.ofInt x * Int64.ofInt y = Int64.ofInt (fz_wl (x * y)) := by
  apply Int64.toInt_inj.mp
  simp [fz_wl, Int64.toInt_mul, Int64.toInt_ofInt]
theorem fz_e_div {x y : Int} (hx : -2147483648 ≤ x ∧ x < 2147483648) (hy : -2147483648 ≤ y ∧ y < 2147483648) : Int32.ofInt x / Int32.ofInt y = Int32.ofInt (fz_w (Int.tdiv x y)) := by
  apply Int32.toInt_inj.mp
  rw [Int32.toInt_div, fz_t32 hx, fz_t32 hy, fz_t32 (fz_w_b _)]
  rfl
theorem fz_e_divl {x y : Int} (hx : -9223372036854775808 ≤ x ∧ x < 9223372036854775808) (hy : -9223372036854775808 ≤ y ∧ y < 9223372036854775808) : Int64.ofInt x / Int64.ofInt y = Int64.ofInt (fz_wl (Int.tdiv x y)) := by
  apply Int64.toInt_inj.mp
  rw [Int64.toInt_div, fz_t64 hx, fz_t64 hy, fz_t64 (fz_wl_b _)]
  rfl
theorem fz_e_rem {x y : Int} (hx : -2147483648 ≤ x ∧ x < 2147483648) (hy : -2147483648 ≤ y ∧ y < 2147483648) : Int32.ofInt x - Int32.ofInt x / Int32.ofInt y * Int32.ofInt y = Int32.ofInt (fz_w (Int.tmod x y)) := by
  have e1 : Int32.ofInt (fz_w (Int.tdiv x y)) * Int32.ofInt y = Int32.ofInt (fz_w (Int.tdiv x y * y)) := by
    rw [fz_o32, fz_e_mul]
  rw [fz_e_div hx hy, e1, fz_e_sub, fz_o32, fz_o32]
  apply Int32.toInt_inj.mp
  simp only [fz_w, Int32.toInt_ofInt]
  rw [Int.tmod_def, Int.mul_comm y]
  rw [Int.sub_bmod_bmod]
theorem fz_e_reml {x y : Int} (hx : -9223372036854775808 ≤ x ∧ x < 9223372036854775808) (hy : -9223372036854775808 ≤ y ∧ y < 9223372036854775808) : Int64.ofInt x - Int64.ofInt x / Int64.ofInt y * Int64.ofInt y = Int64.ofInt (fz_wl (Int.tmod x y)) := by
  have e1 : Int64.ofInt (fz_wl (Int.tdiv x y)) * Int64.ofInt y = Int64.ofInt (fz_wl (Int.tdiv x y * y)) := by
    rw [fz_o64, fz_e_mull]
  have e2 : ∀ u v : Int, Int64.ofInt u - Int64.ofInt v = Int64.ofInt (fz_wl (u - v)) := fun u v => by
    apply Int64.toInt_inj.mp
    simp [fz_wl, Int64.toInt_sub, Int64.toInt_ofInt]
  rw [fz_e_divl hx hy, e1, e2, fz_o64, fz_o64]
  apply Int64.toInt_inj.mp
  simp only [fz_wl, Int64.toInt_ofInt]
  rw [Int.tmod_def, Int.mul_comm y]
  rw [Int.sub_bmod_bmod]
theorem fz_lt {x y : Int} (hx : -2147483648 ≤ x ∧ x < 2147483648) (hy : -2147483648 ≤ y ∧ y < 2147483648) : Int32.ofInt x < Int32.ofInt y ↔ x < y := by
  rw [Int32.lt_iff_toInt_lt, fz_t32 hx, fz_t32 hy]
theorem fz_le {x y : Int} (hx : -2147483648 ≤ x ∧ x < 2147483648) (hy : -2147483648 ≤ y ∧ y < 2147483648) : Int32.ofInt x ≤ Int32.ofInt y ↔ x ≤ y := by
  rw [Int32.le_iff_toInt_le, fz_t32 hx, fz_t32 hy]
theorem fz_eq {x y : Int} (hx : -2147483648 ≤ x ∧ x < 2147483648) (hy : -2147483648 ≤ y ∧ y < 2147483648) : Int32.ofInt x = Int32.ofInt y ↔ x = y := by
  rw [← Int32.toInt_inj, fz_t32 hx, fz_t32 hy]
theorem fz_ltl {x y : Int} (hx : -9223372036854775808 ≤ x ∧ x < 9223372036854775808) (hy : -9223372036854775808 ≤ y ∧ y < 9223372036854775808) : Int64.ofInt x < Int64.ofInt y ↔ x < y := by
  rw [Int64.lt_iff_toInt_lt, fz_t64 hx, fz_t64 hy]
theorem fz_eql {x y : Int} (hx : -9223372036854775808 ≤ x ∧ x < 9223372036854775808) (hy : -9223372036854775808 ≤ y ∧ y < 9223372036854775808) : Int64.ofInt x = Int64.ofInt y ↔ x = y := by
  rw [← Int64.toInt_inj, fz_t64 hx, fz_t64 hy]
theorem fz_ix {x : Int} (h : 0 ≤ x) (h2 : x < 2147483648) : (Int32.ofInt x).toNatClampNeg = x.toNat := by
  show (Int32.ofInt x).toInt.toNat = _
  rw [fz_t32 ⟨by omega, h2⟩]
theorem fz_in {x : Int} {n : Nat} (h : 0 ≤ x) (h2 : x < n) (h3 : x < 2147483648) : vp_in (Int32.ofInt x) n := by
  rw [vp_in_iff, fz_t32 ⟨by omega, h3⟩]
  exact ⟨h, h2⟩
/-- bits -/
def fz_and (x y : Int) : Int := (Int32.ofInt x &&& Int32.ofInt y).toInt
def fz_or (x y : Int) : Int := (Int32.ofInt x ||| Int32.ofInt y).toInt
def fz_xor (x y : Int) : Int := (Int32.ofInt x ^^^ Int32.ofInt y).toInt
def fz_shl (x y : Int) : Int := (Int32.ofInt x <<< (Int32.ofInt y &&& 31)).toInt
def fz_shr (x y : Int) : Int := (Int32.ofInt x >>> (Int32.ofInt y &&& 31)).toInt
def fz_ush (x y : Int) : Int := ((Int32.ofInt x).toUInt32 >>> ((Int32.ofInt y).toUInt32 &&& Int32.toUInt32 31)).toInt32.toInt
def fz_andl (x y : Int) : Int := (Int64.ofInt x &&& Int64.ofInt y).toInt
def fz_orl (x y : Int) : Int := (Int64.ofInt x ||| Int64.ofInt y).toInt
def fz_shll (x y : Int) : Int := (Int64.ofInt x <<< ((Int32.ofInt y).toInt64 &&& 63)).toInt
theorem fz_b32 (v : Int32) : -2147483648 ≤ v.toInt ∧ v.toInt < 2147483648 := ⟨by have := Int32.le_toInt v; omega, by have := Int32.toInt_lt v; omega⟩
theorem fz_b64 (v : Int64) : -9223372036854775808 ≤ v.toInt ∧ v.toInt < 9223372036854775808 := ⟨by have := Int64.le_toInt v; omega, by have := Int64.toInt_lt v; omega⟩
theorem fz_r32 (v : Int32) : Int32.ofInt v.toInt = v := Int32.ofInt_toInt v
theorem fz_r64 (v : Int64) : Int64.ofInt v.toInt = v := Int64.ofInt_toInt v
theorem fz_e_i2l {x : Int} (hx : -2147483648 ≤ x ∧ x < 2147483648) : (Int32.ofInt x).toInt64 = Int64.ofInt x := by
  apply Int64.toInt_inj.mp
  rw [Int32.toInt_toInt64, fz_t32 hx, fz_t64 ⟨by omega, by omega⟩]
theorem fz_e_l2i (x : Int) : (Int64.ofInt x).toInt32 = Int32.ofInt (fz_w x) := by
  apply Int32.toInt_inj.mp
  rw [Int64.toInt_toInt32, Int64.toInt_ofInt, fz_o32, Int32.toInt_ofInt]
  show (x.bmod 18446744073709551616).bmod 4294967296 = x.bmod 4294967296
  exact Int.bmod_bmod_of_dvd (by decide)
def fz_i2b (x : Int) : Int := Int.bmod x 256
def fz_i2s (x : Int) : Int := Int.bmod x 65536
theorem fz_e_i2b (x : Int) : (Int32.ofInt x).toInt8.toInt32 = Int32.ofInt (fz_i2b x) := by
  apply Int32.toInt_inj.mp
  rw [fz_t32 (x := fz_i2b x) (by have := Int.le_bmod (x := x) (m := 256) (by decide); have := Int.bmod_lt (x := x) (m := 256) (by decide); unfold fz_i2b; omega)]
  simp [fz_i2b, Int32.toInt_ofInt]
theorem fz_e_i2s (x : Int) : (Int32.ofInt x).toInt16.toInt32 = Int32.ofInt (fz_i2s x) := by
  apply Int32.toInt_inj.mp
  rw [fz_t32 (x := fz_i2s x) (by have := Int.le_bmod (x := x) (m := 65536) (by decide); have := Int.bmod_lt (x := x) (m := 65536) (by decide); unfold fz_i2s; omega)]
  simp [fz_i2s, Int32.toInt_ofInt]
theorem fz_i2b_b (x : Int) : -128 ≤ fz_i2b x ∧ fz_i2b x < 128 := by
  have h1 := Int.le_bmod (x := x) (m := 256) (by decide)
  have h2 := Int.bmod_lt (x := x) (m := 256) (by decide)
  unfold fz_i2b
  omega
theorem fz_i2s_b (x : Int) : -32768 ≤ fz_i2s x ∧ fz_i2s x < 32768 := by
  have h1 := Int.le_bmod (x := x) (m := 65536) (by decide)
  have h2 := Int.bmod_lt (x := x) (m := 65536) (by decide)
  unfold fz_i2s
  omega
def fz_cmp (x y : Int) : Int := if y < x then 1 else if x = y then 0 else -1
theorem fz_e_cmp {x y : Int} (hx : -9223372036854775808 ≤ x ∧ x < 9223372036854775808) (hy : -9223372036854775808 ≤ y ∧ y < 9223372036854775808) : lg_cmp (Int64.ofInt x) (Int64.ofInt y) = Int32.ofInt (fz_cmp x y) := by
  unfold lg_cmp fz_cmp
  simp only [fz_ltl hy hx, fz_eql hx hy]
  split
  · rfl
  · split <;> rfl
def fz_tb : List Cond := lw_tbl.filter goodWord
theorem fz_tb_n : fz_tb.length = 1631 := by decide +kernel
