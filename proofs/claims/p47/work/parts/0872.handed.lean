/-! ===== the handed string, in the machine of whole numbers ===== -/
theorem st_arrB {s : State} {args : Array Value} (h : (Cond.arrayClass FieldType.byte).before args s = true) : ∃ c : ClassId, ArrOfT s c .byte ∧ va_RA s c .byte := by
  obtain ⟨c, k, comp, h1, h2, h3⟩ := Cond.arrayClass_spec h
  exact ⟨c, fun n z => ⟨fun k h => (by cases h), k, h2, comp, h3⟩, h1⟩
theorem vtJ0_length_8abf5 : fz_vM mtJ0_length_8abf5 0 false := fz_vI2 5088 1019 5086 5087 (by decide +kernel) (by decide +kernel) rfl rfl rfl rfl rfl
theorem vtJ0_charAt_5068e : fz_vM mtJ0_charAt_5068e 1 false := fz_vI2 5138 1019 5136 5137 (by decide +kernel) (by decide +kernel) rfl rfl rfl rfl rfl
section FZ
variable {d : Nat} {M : fz_M} {pc a b w : Nat} {ls : List (Nat × fz_V)} {st : List fz_V} {h : fz_H} {Q : fz_H → Option fz_V → Prop}
/-- a method of java/lang/String is asked of the handed string; it answers a number and writes nothing -/
theorem fz_str {d' idx n : Nat} {M' : fz_M} {As : List fz_V} {P : Int → Prop} {Q0 : va_W → Option Value → Prop} (hM : fz_okM M = true) (hc : fz_at M.2.2.2.2 pc = some (.invokevirtual idx, 3, a, b, w)) (hb2 : fz_nth fz_ms b = some M'.1) (hv : fz_vM M' n false) (hcl : M'.1.cls = "java/lang/String")
    (hn : As.length = n) (hL : ∀ (ad : Nat → Nat) (r : Nat), (lg_sl (.ref r :: As.map (fz_cv ad))).length ≤ M'.2.2.1) (hcap : (st.map fz_cat).sum ≤ 8) (hd : d' + 1 ≤ d)
    (hB : ∀ (D : st_D) (X : st_Xt) (r q : Nat) (ad : Nat → Nat), st_R D ([(r, q, (h 205 100000).toNat)], X.2) d' 0 0 M' 0 (lv_args 0 (.ref r :: As.map (fz_cv ad))) [] [] 0 0 Q0)
    (hQ : ∀ ws v, Q0 ws v → ∃ x : Int, (-2147483648 ≤ x ∧ x < 2147483648) ∧ P x ∧ v = some (.int (Int32.ofInt x))) (k : ∀ x, P x → fz_R d M (pc + 3) ls (fz_i x :: st) h Q) : fz_R d M pc ls (As.reverse ++ fz_r 205 :: st) h Q := by
  intro E p l e R s m args below meth c cells slots Qf C hend H locs lsc hW hs hl hh
  have hq := List.all_eq_true.mp hM _ (fz_at_mem hc)
  unfold fz_okI at hq
  rw [Bool.and_eq_true] at hq
  have hq2 := hq.2
  dsimp only at hq2
  rw [hb2] at hq2
  have hml := fz_isM_spec hq2
  obtain ⟨v1, v2, v3, v4, v5, v6, v79, v8⟩ := hv
  rw [if_neg (by decide)] at v79
  obtain ⟨v7, v9⟩ := v79
  have hts := C.2.2.2.2.2.1
  have hK := C.2.2.2.2.2.2.2.2.2.1
  have hSt := C.2.2.2.2.2.2.2.2.2.2.2.2
  obtain ⟨cB, hB1, hB2⟩ := st_arrB (hts _ st_tB)
  have hK2 : va_K (fz_dA E) vwCl (st_ty (fz_dA E, E.2.2.1, E.2.2.2.1, cB)) s := ⟨hK.1, fun k q hk => by
    match k, hk with
    | 0, hk => exact hK.2 0 q hk
    | 1, hk => exact hK.2 1 q hk
    | 2, hk => cases hk; exact ⟨hB1, hB2⟩
    | k + 3, hk => simp at hk⟩
  have htc := hW.2.2.2.2 205 (by decide)
  have hX0 : st_ok (fz_X E) (fz_A E) s H := hSt.2.2.1.kept hW.2.2.1.2.1
  have hX1 := (hX0.wide).narrow (B := va_A [] H.size) (fun q hq => by
    rcases hq with ⟨k9, e9, h9⟩ | h9
    · simp at h9
    · exact Or.inr h9)
  have hsS := hSt.2.2.1.2.1 (fz_ad E 205, fz_ad E 206, (fz_tc E 205 100000).toNat) (by simp [fz_X])
  obtain ⟨f9, g1, -⟩ := hsS
  have hrecv := va_Orecv g1 hW.2.2.1
  rw [← hcl] at hrecv
  have hB9 := hB (fz_dA E, E.2.2.1, E.2.2.2.1, cB) (fz_X E) (fz_ad E 205) (fz_ad E 206) (fz_ad E)
  have e9 : (([(fz_ad E 205, fz_ad E 206, (h 205 100000).toNat)], (fz_X E).2) : st_Xt) = fz_X E := by rw [htc]; rfl
  rw [e9] at hB9
  have hMet := st_met (M := M') v1 (hL (fz_ad E) (fz_ad E 205)) hB9 H.size l
  have hgood : GoodIn fz_tb (wsV M.1.cls idx M'.1.cls M'.1 (fz_wd M')) := fz_good M' v5 _ (by
    intro x hx
    simp only [List.mem_cons, List.not_mem_nil, or_false] at hx
    rcases hx with rfl | rfl | rfl | rfl
    · exact hml
    · exact v7
    · exact v9
    · exact v6)
  have hroom : (fz_rB d' 0 0).frames + 1 ≤ R.frames ∧ 8 + (M'.2.2.1 + 11) + (fz_rB d' 0 0).locals ≤ R.locals := by
    have := C.2.2.2.2.2.2.2.1
    have := C.2.2.2.2.2.2.2.2.1
    constructor
    · show d' + 1 ≤ R.frames; omega
    · show 8 + (M'.2.2.1 + 11) + d' * 64 ≤ R.locals
      omega
  have hcw := cwV (R := R) n hts hgood rfl (rm := fz_rB d' 0 0) (mc := 0) (ms := 0) rfl rfl ⟨rfl, v2, v3, v4⟩ hroom
  have e0 : (As.reverse ++ fz_r 205 :: st).map (fz_cv (fz_ad E)) = (As.map (fz_cv (fz_ad E))).reverse ++ Value.ref (fz_ad E 205) :: st.map (fz_cv (fz_ad E)) := by
    simp [fz_cv]
  rw [e0]
  have hrun := va_runV (cells := cells) (slots := slots) (e := e) (below := below) (meth := meth) (locs := locs) (H := H) (b := fz_ad E 205) (As := As.map (fz_cv (fz_ad E))) (rest := st.map (fz_cv (fz_ad E))) (g := F0 m pc lsc ((As.map (fz_cv (fz_ad E))).reverse ++ Value.ref (fz_ad E 205) :: st.map (fz_cv (fz_ad E)))) ⟨C.1, C.2.1, C.2.2.2.1, C.2.2.2.2.1, hts⟩ hMet hcw
    ⟨st_blind, hrecv, fun U hU hWm => ⟨rfl, by rw [hU], fun k q hk => by simp at hk, va_K.moved hWm.alike hK2, ⟨fun i j p q hi => by simp at hi, fun k q hk => by simp at hk⟩, st_nN_warm hWm hSt.2.2.2, by rw [hU]; exact hX1.warm hWm⟩⟩ rfl (by rw [List.length_map]; exact hn) hh.1 rfl
    (lv_room (by rw [List.map_map, show ((fun v => Value.category v) ∘ fz_cv (fz_ad E)) = fz_cat from funext (fun v => fz_cat_cv _ v)]; exact hcap)) (fz_dec hM hc) ⟨C.2.2.2.2.2.2.2.2.2.2.1, C.2.2.2.2.2.2.2.2.2.2.2.1⟩
  intro T hT Y
  obtain ⟨v, st₀, t, T', L, h0, Y', hL9, e1, e2, ⟨⟨ws1, u1, hu9, hq, hP1, hD1⟩, hz, hk⟩, st1⟩ := hrun T hT Y
  cases hu9
  rw [h0] at hz hk
  obtain ⟨x, hx, hPx, rfl⟩ := hQ ws1 _ hq
  have hsz : H.size ≤ T'.heap.size := by rw [e1]; exact hz
  have hkp : ∀ q : Nat, q < H.size → T'.heap[q]? = H[q]? := fun q h1 => by
    rw [e1]
    exact hk q h1 (fun z => by
      rcases z with ⟨k9, e9, h9⟩ | h9
      · simp at h9
      · omega)
  have Y9 := Stand.forget (locs := locs) Y' (fun q hq => by
    rcases hL9 q hq with ⟨k9, e9, h9⟩ | h9
    · simp at h9
    · exact Nat.le_trans hW.2.2.1.1 h9)
  have hP' : va_P (fz_dA E) vwCl (fz_ws E h) T'.heap := fun k q hk2 => by
    have h8 := hW.1 k q hk2
    obtain ⟨q1, q2⟩ := q
    rcases q2 with a9 | o9
    · have h7 : H[q1]? = some (vp_cell a9.1 a9.2) := h8
      show T'.heap[q1]? = some (vp_cell a9.1 a9.2)
      rw [hkp q1 (Array.getElem?_eq_some_iff.mp h7).1]
      exact h7
    · obtain ⟨r9, y1, cell, y2, y3, y4, y5⟩ := h8
      exact ⟨r9, y1, cell, by rw [hkp q1 (Array.getElem?_eq_some_iff.mp y2).1]; exact y2, y3, y4, y5⟩
  have hS' : va_S (fz_A E) s.heap T'.heap locs := ⟨Nat.le_trans hW.2.2.1.1 hsz, fun q h1 h2 => by rw [hkp q (Nat.lt_of_lt_of_le h1 hW.2.2.1.1)]; exact hW.2.2.1.2.1 q h1 h2, hW.2.2.1.2.2⟩
  have kk := k x hPx E p l e R s m args below meth c cells slots Qf C hend T'.heap locs lsc ⟨hP', hW.2.1, hS', hW.2.2.2.1, hW.2.2.2.2⟩ (fun v hv => by
    rcases List.mem_cons.mp hv with h1 | h1
    · rw [h1]; exact hx
    · exact hs v (by simp [h1])) hl hh
  obtain ⟨t2, a1, b1⟩ := kk T' rfl Y9
  exact ⟨t2, st1 t2 a1, b1⟩
theorem fz_slen {idx : Nat} (hM : fz_okM M = true) (hc : fz_at M.2.2.2.2 pc = some (.invokevirtual idx, 3, a, b, w)) (hb2 : fz_nth fz_ms b = some mtJ0_length_8abf5.1) (h0 : 0 ≤ h 205 100000 ∧ h 205 100000 < 100000) (hcap : (st.map fz_cat).sum ≤ 8) (hd : 3 ≤ d) (k : fz_R d M (pc + 3) ls (fz_i (h 205 100000) :: st) h Q) : fz_R d M pc ls (fz_r 205 :: st) h Q :=
  fz_str (As := []) (d' := 2) (M' := mtJ0_length_8abf5) (P := fun x => x = h 205 100000) hM hc hb2 vtJ0_length_8abf5 rfl rfl (fun _ _ => Nat.le_of_ble_eq_true rfl) hcap hd (fun D X r q _ => tt_strLen D X r q _) (fun ws v hq => ⟨h 205 100000, ⟨by omega, by omega⟩, rfl, by rw [hq.1, Int.toNat_of_nonneg h0.1]⟩) (fun x hx => by rw [hx]; exact k)
theorem fz_sat {idx : Nat} {i : Int} (hM : fz_okM M = true) (hc : fz_at M.2.2.2.2 pc = some (.invokevirtual idx, 3, a, b, w)) (hb2 : fz_nth fz_ms b = some mtJ0_charAt_5068e.1) (h0 : 0 ≤ i ∧ i < h 205 100000) (hcap : (st.map fz_cat).sum ≤ 8) (hd : 5 ≤ d) (k : ∀ x : Int, 0 ≤ x ∧ x ≤ 255 → fz_R d M (pc + 3) ls (fz_i x :: st) h Q) : fz_R d M pc ls (fz_i i :: fz_r 205 :: st) h Q :=
  fz_str (As := [fz_i i]) (d' := 4) (M' := mtJ0_charAt_5068e) (P := fun x => 0 ≤ x ∧ x ≤ 255) hM hc hb2 vtJ0_charAt_5068e rfl rfl (fun _ _ => Nat.le_of_ble_eq_true rfl) hcap hd (fun D X r q _ => tt_strAt D X r q _ i (by omega)) (fun ws v hq => by
    obtain ⟨z, hz, hv, -⟩ := hq
    exact ⟨z, ⟨by omega, by omega⟩, hz, hv⟩) k
end FZ
