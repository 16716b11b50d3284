/-! ===== Math.min, Math.max: the kit's rows ===== -/
theorem fz_mm_cls (x y : Int) (hx : -2147483648 ≤ x ∧ x < 2147483648) (hy : -2147483648 ≤ y ∧ y < 2147483648) : (if Int32.ofInt x < Int32.ofInt y then Int32.ofInt y else Int32.ofInt x) = Int32.ofInt (max x y) ∧ (if Int32.ofInt y < Int32.ofInt x then Int32.ofInt y else Int32.ofInt x) = Int32.ofInt (min x y) := by
  simp only [fz_lt hx hy, fz_lt hy hx]
  constructor
  · split
    · rw [Int.max_eq_right (by omega)]
    · rw [Int.max_eq_left (by omega)]
  · split
    · rw [Int.min_eq_right (by omega)]
    · rw [Int.min_eq_left (by omega)]
section FZ
variable {d : Nat} {M : fz_M} {pc a b w : Nat} {ls : List (Nat × fz_V)} {st : List fz_V} {h : fz_H} {Q : fz_H → Option fz_V → Prop}
theorem fz_capsum {E : fz_E} : (st.map (fz_cv (fz_ad E))).map (fun v => v.category) = st.map fz_cat := by
  rw [List.map_map]
  congr 1
  funext v
  exact fz_cat_cv _ v
theorem fz_max {x y : Int} {idx : Nat} (hM : fz_okM M = true) (hc : fz_at M.2.2.2.2 pc = some (.invokestatic idx, 3, a, b, w)) (hb2 : fz_nth fz_ms b = some Lib.Math.max.name) (hs1 : Cond.static Lib.Math.max.name ∈ fz_tb) (hs2 : Cond.initialized "java/lang/Math" ∈ fz_tb) (hs3 : Cond.code Lib.Math.max.name Lib.Math.max.code 2 (some .int) ∈ fz_tb) (hd : 1 ≤ d) (hcap : (st.map fz_cat).sum ≤ 8) (k : fz_R d M (pc + 3) ls (fz_i (max x y) :: st) h Q) : fz_R d M pc ls (fz_i y :: fz_i x :: st) h Q := by
  intro E p l e R s m args below meth c cells slots Qf C hend H locs lsc hW hs hl hh
  have hq := List.all_eq_true.mp hM _ (fz_at_mem hc)
  unfold fz_okI at hq
  rw [Bool.and_eq_true] at hq
  have hq2 := hq.2
  dsimp only at hq2
  rw [hb2] at hq2
  have hml := fz_isM_spec hq2
  have hts := C.2.2.2.2.2.1
  have hy1 : -2147483648 ≤ y ∧ y < 2147483648 := fz_h1 hs
  have hx1 : -2147483648 ≤ x ∧ x < 2147483648 := fz_h2 hs
  have hf := C.2.2.2.2.2.2.2.1
  have hlo := C.2.2.2.2.2.2.2.2.1
  show W p l e R s m args below meth c H locs cells slots Qf (F0 m pc lsc (.int (Int32.ofInt y) :: .int (Int32.ofInt x) :: st.map (fz_cv (fz_ad E))))
  refine va_mmax C.1 C.2.1 (C.2.2.2.1.trans hh.1.symm) C.2.2.2.2.1 (hts _ hml) (hts _ hs1) (hts _ hs2) (hts _ hs3) (by omega) (by rw [fz_capsum]; omega) C.2.2.2.2.2.2.2.2.2.2.1 C.2.2.2.2.2.2.2.2.2.2.2.1 (fz_dec hM hc) ?_
  rw [(fz_mm_cls x y hx1 hy1).1]
  exact k E p l e R s m args below meth c cells slots Qf C hend H locs lsc hW (fz_n2 (show fz_nv (fz_i _) from ⟨by omega, by omega⟩) hs) hl hh
theorem fz_min {x y : Int} {idx : Nat} (hM : fz_okM M = true) (hc : fz_at M.2.2.2.2 pc = some (.invokestatic idx, 3, a, b, w)) (hb2 : fz_nth fz_ms b = some Lib.Math.min.name) (hs1 : Cond.static Lib.Math.min.name ∈ fz_tb) (hs2 : Cond.initialized "java/lang/Math" ∈ fz_tb) (hs3 : Cond.code Lib.Math.min.name Lib.Math.min.code 2 (some .int) ∈ fz_tb) (hd : 1 ≤ d) (hcap : (st.map fz_cat).sum ≤ 8) (k : fz_R d M (pc + 3) ls (fz_i (min x y) :: st) h Q) : fz_R d M pc ls (fz_i y :: fz_i x :: st) h Q := by
  intro E p l e R s m args below meth c cells slots Qf C hend H locs lsc hW hs hl hh
  have hq := List.all_eq_true.mp hM _ (fz_at_mem hc)
  unfold fz_okI at hq
  rw [Bool.and_eq_true] at hq
  have hq2 := hq.2
  dsimp only at hq2
  rw [hb2] at hq2
  have hml := fz_isM_spec hq2
  have hts := C.2.2.2.2.2.1
  have hy1 : -2147483648 ≤ y ∧ y < 2147483648 := fz_h1 hs
  have hx1 : -2147483648 ≤ x ∧ x < 2147483648 := fz_h2 hs
  have hf := C.2.2.2.2.2.2.2.1
  have hlo := C.2.2.2.2.2.2.2.2.1
  show W p l e R s m args below meth c H locs cells slots Qf (F0 m pc lsc (.int (Int32.ofInt y) :: .int (Int32.ofInt x) :: st.map (fz_cv (fz_ad E))))
  refine va_mmin C.1 C.2.1 (C.2.2.2.1.trans hh.1.symm) C.2.2.2.2.1 (hts _ hml) (hts _ hs1) (hts _ hs2) (hts _ hs3) (by omega) (by rw [fz_capsum]; omega) C.2.2.2.2.2.2.2.2.2.2.1 C.2.2.2.2.2.2.2.2.2.2.2.1 (fz_dec hM hc) ?_
  rw [(fz_mm_cls x y hx1 hy1).2]
  exact k E p l e R s m args below meth c cells slots Qf C hend H locs lsc hW (fz_n2 (show fz_nv (fz_i _) from ⟨by omega, by omega⟩) hs) hl hh
theorem fz_sMx : Cond.static Lib.Math.max.name ∈ fz_tb := fz_has (n := 3181) rfl rfl
theorem fz_cMx : Cond.code Lib.Math.max.name Lib.Math.max.code 2 (some .int) ∈ fz_tb := fz_has (n := 3182) rfl rfl
theorem fz_sMn : Cond.static Lib.Math.min.name ∈ fz_tb := fz_has (n := 2167) rfl rfl
theorem fz_cMn : Cond.code Lib.Math.min.name Lib.Math.min.code 2 (some .int) ∈ fz_tb := fz_has (n := 2168) rfl rfl
theorem fz_iMm : Cond.initialized "java/lang/Math" ∈ fz_tb := fz_has (n := 1014) rfl rfl
end FZ
