def fz_st (C n : String) : Term := .static C n "[I"
theorem fz_tab_of {args : Array Value} {s : State} {C n : String} {l : List Int} {A : Nat → Prop} (hs : ∀ c ∈ flatC (Jvm.Cond.and given_1 narrow_1), c.before args s = true) (hlay : (Cond.laysStatic C n "[I").before args s = true) (hini : (Cond.initialized C).before args s = true) (hl : l.length < 1000)
    (h1 : (Cond.arrayOf (fz_st C n) .int) ∈ flatC (Jvm.Cond.and given_1 narrow_1)) (h2 : (Cond.eq (.length (fz_st C n)) (.int (Int32.ofNat l.length))) ∈ flatC (Jvm.Cond.and given_1 narrow_1)) (h3 : ∀ j, j < l.length → (Cond.eq (.elem (fz_st C n) (.int (Int32.ofNat j))) (.int (Int32.ofInt ((fz_nth l j).getD 0)))) ∈ flatC (Jvm.Cond.and given_1 narrow_1)) (hA : ∀ a : Nat, a < s.heap.size → ¬ A a) :
    ∃ t : Nat, va_Z C n "[I" (.ref t) A s s.heap ∧ va_T .int t l.length (fun j => .int (Int32.ofInt (fz_tbl l j))) A s s.heap := by
  obtain ⟨t, ht, hT⟩ := va_Tof (tm := fz_st C n) (ty := .int) (N := l.length) (f := fun j => .int (Int32.ofInt (fz_tbl l j))) (A := A) (by omega) (hs _ h1) (va_eqt (hs _ h2)) (fun j hj => by
    have e : fz_tbl l j = (fz_nth l j).getD 0 := by unfold fz_tbl; rw [if_neg (by omega)]
    rw [e]
    exact va_eqt (hs _ (h3 j hj))) hA
  exact ⟨t, va_Zref hlay hini ht hA, hT⟩
theorem fz_kn {s : State} {args : Array Value} (hts : ∀ w ∈ fz_tb, w.before args s = true) : ∃ (dC : Nat → ClassId) (dI : Nat → Nat → Nat), ∀ (k : Nat) (q : vw_C), vwCl[k]? = some q → u_Kn s q.1 q.2.1 q.2.2 (dC k) (dI k) := by
  obtain ⟨c0, i0, k0⟩ := u_known (C := RX0) (T := TX0) (N := 6) (n := 6) hts (fz_cl_in (ci := 0) rfl) (hts _ (fz_has (n := 1228) rfl rfl))
  obtain ⟨c1, i1, k1⟩ := u_known (C := RX1) (T := TX1) (N := 9) (n := 9) hts (fz_cl_in (ci := 1) rfl) (hts _ (fz_has (n := 2019) rfl rfl))
  obtain ⟨c2, i2, k2⟩ := u_known (C := RX2) (T := TX2) (N := 9) (n := 9) hts (fz_cl_in (ci := 2) rfl) (hts _ (fz_has (n := 1026) rfl rfl))
  obtain ⟨c3, i3, k3⟩ := u_known (C := RX3) (T := TX3) (N := 5) (n := 5) hts (fz_cl_in (ci := 3) rfl) (hts _ (fz_has (n := 1106) rfl rfl))
  obtain ⟨c4, i4, k4⟩ := u_known (C := RX4) (T := TX4) (N := 6) (n := 6) hts (fz_cl_in (ci := 4) rfl) (hts _ (fz_has (n := 1069) rfl rfl))
  obtain ⟨c5, i5, k5⟩ := u_known (C := RX5) (T := TX5) (N := 5) (n := 5) hts (fz_cl_in (ci := 5) rfl) (hts _ (fz_has (n := 1128) rfl rfl))
  obtain ⟨c6, i6, k6⟩ := u_known (C := RX6) (T := TX6) (N := 8) (n := 8) hts (fz_cl_in (ci := 6) rfl) (hts _ (fz_has (n := 1196) rfl rfl))
  obtain ⟨c7, i7, k7⟩ := u_known (C := RX7) (T := TX7) (N := 5) (n := 5) hts (fz_cl_in (ci := 7) rfl) (hts _ (fz_has (n := 2088) rfl rfl))
  obtain ⟨c8, i8, k8⟩ := u_known (C := RX8) (T := TX8) (N := 10) (n := 10) hts (fz_cl_in (ci := 8) rfl) (hts _ (fz_has (n := 1154) rfl rfl))
  obtain ⟨c9, i9, k9⟩ := u_known (C := RX9) (T := TX9) (N := 6) (n := 6) hts (fz_cl_in (ci := 9) rfl) (hts _ (fz_has (n := 2060) rfl rfl))
  obtain ⟨c10, i10, k10⟩ := u_known (C := RX10) (T := TX10) (N := 10) (n := 10) hts (fz_cl_in (ci := 10) rfl) (hts _ (fz_has (n := 1018) rfl rfl))
  obtain ⟨c11, i11, k11⟩ := u_known (C := RX11) (T := TX11) (N := 58) (n := 58) hts (fz_cl_in (ci := 11) rfl) (hts _ (fz_has (n := 5082) rfl rfl))
  refine ⟨fun k => (fz_nth [c0, c1, c2, c3, c4, c5, c6, c7, c8, c9, c10, c11] k).getD c0, fun k => (fz_nth [i0, i1, i2, i3, i4, i5, i6, i7, i8, i9, i10, i11] k).getD i0, fun k q hq => ?_⟩
  match k, hq with
  | 0, hq => cases hq; exact k0
  | 1, hq => cases hq; exact k1
  | 2, hq => cases hq; exact k2
  | 3, hq => cases hq; exact k3
  | 4, hq => cases hq; exact k4
  | 5, hq => cases hq; exact k5
  | 6, hq => cases hq; exact k6
  | 7, hq => cases hq; exact k7
  | 8, hq => cases hq; exact k8
  | 9, hq => cases hq; exact k9
  | 10, hq => cases hq; exact k10
  | 11, hq => cases hq; exact k11
  | k + 12, hq => simp [vwCl] at hq
theorem fz_arr {s : State} {args : Array Value} {ty : FieldType} (hty : ty = .int ∨ ty = .long) (h : (Cond.arrayClass ty).before args s = true) : ∃ c : ClassId, ArrOfT s c ty ∧ va_RA s c ty := by
  obtain ⟨c, k, comp, h1, h2, h3⟩ := Cond.arrayClass_spec h
  refine ⟨c, fun n z => ⟨fun k h => (by cases h), k, h2, comp, h3⟩, ?_⟩
  rcases hty with rfl | rfl
  · exact h1
  · exact h1
def fz_sc (L : Nat) (xs : Nat → Int32) : Nat → Int := fun j => if j = 100000 then (L : Int) else (xs j).toInt
def fz_adr (qs : List Nat) (b t1 t2 t3 t4 : Nat) : Nat → Nat := fun i => if i = 200 then b else if i = 201 then t1 else if i = 202 then t2 else if i = 203 then t3 else if i = 204 then t4 else (fz_nth qs i).getD 0
theorem lw_scr {b L : Nat} {xs : Nat → Int32} {s : State} {A : Nat → Prop} (hX : va_X b L xs s s.heap) (hL : L ≤ 3072) (hA : ¬ A b) : va_T .int b (fz_sc L xs 100000).toNat (fun j => .int (Int32.ofInt (fz_sc L xs j))) A s s.heap := by
  obtain ⟨scr, h1, h2, h3, h4, h5⟩ := hX
  have e : (fz_sc L xs 100000).toNat = L := by unfold fz_sc; rw [if_pos rfl]; omega
  rw [e]
  refine ⟨scr, h1, h2, h3, by omega, by rw [h4], fun j hj => ?_, hA⟩
  rw [h5 j hj]
  show _ = some (Value.int (Int32.ofInt (fz_sc L xs j)))
  unfold fz_sc
  rw [if_neg (by omega), Int32.ofInt_toInt]
theorem lw_from {E : fz_E} {sc : Nat → Int} {p : Program} {l : Launch} {e : Env} {s : State} {m : MethodId} {below : List Frame} {meth : Method} {c : Code} {b L : Nat} {xs : Nat → Int32} {H : Heap} {locs : List Loc} {lsc : Array Slot} (hL : L ≤ 3072) (hsc : sc = fz_sc L xs)
    (hx : p.tables.exec = Jvm.exec) (hb : c.code = code) (hr : meth.sig.returnType = ret) (hml : c.maxLocals = 4) (hown : s.vm.findClass R_law = some m.cls) (hts : ∀ w ∈ fz_tb, w.before #[Value.ref b] s = true) (hlocks : meth.locks = false) (hK : va_K (fz_dA E) vwCl (fz_ty E) s) (hSt : fz_St E s)
    (hP : va_P (fz_dA E) vwCl (fz_ws E (fz_h0 sc)) H) (hD : va_D (fun q : Nat => s.heap.size ≤ q) (fz_ws E (fz_h0 sc))) (hS : va_S (fun q : Nat => s.heap.size ≤ q) s.heap H locs) (htc : ∀ id, 200 ≤ id → fz_h0 sc id = fz_tc E id) (hl : lv_has lsc 4 [(3, .int (Int32.ofInt 0)), (2, .ref (fz_ad E 53)), (1, .ref (fz_ad E 0)), (0, .ref (fz_ad E 200))]) :
    W p l e room_1 s m #[Value.ref b] below meth c H locs 91 4657 (lw_Z below #[Value.ref b] s) (F0 m 18 lsc []) := by
  have hsb : ∀ j, -2147483648 ≤ sc j ∧ sc j ≤ 2147483647 := fun j => by
    have := fz_b32 (xs j)
    rw [hsc]
    unfold fz_sc
    split <;> omega
  have hA : ∀ q, fz_A E q → s.heap.size ≤ q := by
    rintro q ⟨i, hi, rfl⟩
    exact hD.2 i _ (fz_ws_at _ _ hi)
  have hD' : va_D (fz_A E) (fz_ws E (fz_h0 sc)) := ⟨hD.1, fun k q hk => by
    unfold fz_ws at hk
    rw [List.getElem?_map] at hk
    obtain ⟨i, hi, rfl⟩ := Option.map_eq_some_iff.mp hk
    have h1 := List.mem_range.mp (List.mem_of_getElem? hi)
    exact ⟨i, h1, rfl⟩⟩
  refine va_forget (fun x hx => hS.2.2 x hx) ?_
  have hS' : va_S (fz_A E) s.heap H [] := ⟨hS.1, fun q h1 h2 => hS.2.1 q h1 (fun z => absurd (show s.heap.size ≤ q from z) (by omega)), fun _ z => by cases z⟩
  have hL2 : 0 ≤ sc 100000 ∧ sc 100000 ≤ 3072 := by
    rw [hsc]; unfold fz_sc; rw [if_pos rfl]; omega
  refine lw_loop sc hL2 3074 0 (fz_h0 sc) (fz_h0_G hsb) rfl (by omega) (by decide) E p l e room_1 s m #[Value.ref b] below meth c 91 4657 (lw_Z below #[Value.ref b] s) ⟨hx, hb, hr, hml, hown, hts, hlocks, Nat.le_of_ble_eq_true rfl, Nat.le_of_ble_eq_true rfl, hK, Nat.le_of_ble_eq_true rfl, Nat.le_of_ble_eq_true rfl, hSt⟩ ?_ H [] lsc ⟨hP, hD', hS', fun c i => ?_, htc⟩ (fun _ z => by cases z) ?_ (lv_sub hl [0, 3, 2, 1] rfl)
  · intro h' r pc' lsc' H' locs' hr1 hrok hdr hW
    subst hr1
    refine va_forget (fun x hx => hA _ (hW.2.2.1.2.2 x hx)) ?_
    refine W.widen (k := 600000) (n := 7302250) (Nat.le_of_ble_eq_true rfl) (Nat.le_of_ble_eq_true rfl) ?_
    exact lw_ret hx hb hr hlocks hdr
  · have := fz_h0_b hsb c i
    unfold fz_okx
    split <;> omega
  · intro q hq
    simp only [List.mem_cons, List.not_mem_nil, or_false] at hq
    rcases hq with rfl | rfl | rfl | rfl
    · exact ⟨by decide, by decide⟩
    · trivial
    · trivial
    · trivial
set_option maxHeartbeats 4000000 in
set_option maxRecDepth 100000 in
theorem whole_start {p : Program} {e : Env} {s : State} {m : MethodId} {below : List Frame} {meth : Method} {c : Code} (l : Launch) (hflags : l.flags = flags0) {b L : Nat} {xs : Nat → Int32} (hL : L ≤ 3072) (C0 : lw_At p s m meth c b L xs) : W p l e room_1 s m #[Value.ref b] below meth c s.heap [] 0 0 (lw_Z below #[Value.ref b] s) (entryFrame m ([Value.ref b] : List Value).toArray 4) := by
  obtain ⟨hx, hb, hr, hml, hown, hts0, hX, hbl, hlocks, hgv⟩ := id C0
  have hts : ∀ w ∈ fz_tb, w.before #[Value.ref b] s = true := fun w hw => hts0 w (List.mem_filter.mp hw).1
  have hfl := flat_of_before _ hgv
  obtain ⟨dC, dI, hKn⟩ := fz_kn hts
  obtain ⟨cI, hI1, hI2⟩ := fz_arr (Or.inl rfl) (hts _ fz_tI)
  obtain ⟨cJ, hJ1, hJ2⟩ := fz_arr (Or.inr rfl) (hts _ fz_tJ)
  have hK : va_K (dC, dI) vwCl [(cI, .int), (cJ, .long)] s := ⟨hKn, fun k q h => by
    match k, h with
    | 0, h => cases h; exact ⟨hI1, hI2⟩
    | 1, h => cases h; exact ⟨hJ1, hJ2⟩
    | k + 2, h => simp at h⟩
  have hA0 : ∀ a : Nat, a < s.heap.size → ¬ (fun q : Nat => s.heap.size ≤ q) a := fun a h z => absurd (show s.heap.size ≤ a from z) (by omega)
  obtain ⟨t1, hZ1, hT1⟩ := fz_tab_of (C := "FameAhead") (n := "LEAST") (l := fz_c201) (A := fun q : Nat => s.heap.size ≤ q) hfl (hts0 _ (fz_has0 (n := 2147) rfl)) (hts _ (fz_has (n := 1001) rfl rfl)) (by decide) (by decide +kernel) (by decide +kernel) (by decide +kernel) hA0
  obtain ⟨t2, hZ2, hT2⟩ := fz_tab_of (C := "FameAhead") (n := "MOST") (l := fz_c202) (A := fun q : Nat => s.heap.size ≤ q) hfl (hts0 _ (fz_has0 (n := 2149) rfl)) (hts _ (fz_has (n := 1001) rfl rfl)) (by decide) (by decide +kernel) (by decide +kernel) (by decide +kernel) hA0
  obtain ⟨t3, hZ3, hT3⟩ := fz_tab_of (C := "FameAhead$Words") (n := "OWN") (l := fz_c203) (A := fun q : Nat => s.heap.size ≤ q) hfl (hts0 _ (fz_has0 (n := 5001) rfl)) (hts _ (fz_has (n := 1010) rfl rfl)) (by decide) (by decide +kernel) (by decide +kernel) (by decide +kernel) hA0
  obtain ⟨t4, hZ4, hT4⟩ := fz_tab_of (C := "FameAhead$Words") (n := "ABOVE") (l := fz_c204) (A := fun q : Nat => s.heap.size ≤ q) hfl (hts0 _ (fz_has0 (n := 5003) rfl)) (hts _ (fz_has (n := 1010) rfl rfl)) (by decide) (by decide +kernel) (by decide +kernel) (by decide +kernel) hA0
  have hl := lv_entry ([.ref b]) (n := 4) (Nat.le_of_ble_eq_true rfl)
  rw [lg_entry_eq]
  generalize (lg_sl ([.ref b]) ++ List.replicate (4 - (lg_sl ([.ref b])).length) Slot.unset).toArray = lsc at hl ⊢
  have hl : lv_has lsc 4 [(0, .ref b)] := hl
  have C1 : fz_Bx ((dC, dI), cI, cJ) 4 91 4657 mL0 p room_1 s m #[Value.ref b] meth c := ⟨hx, hb, hr, hml, hown, hts, hlocks, fun h => absurd h (by decide), Nat.le_of_ble_eq_true rfl, Nat.le_of_ble_eq_true rfl, Nat.le_of_ble_eq_true rfl, Nat.le_of_ble_eq_true rfl, hK, fz_nN_of hts0⟩
  have hP0 : va_P (dC, dI) vwCl [] s.heap := fun k q h => by simp at h
  have hD0 : va_D (fun q : Nat => s.heap.size ≤ q) [] := ⟨fun i j p q h => by simp at h, fun k q h => by simp at h⟩
  refine lw_make ((dC, dI), cI, cJ) b p l e room_1 s m #[Value.ref b] below meth c (lw_Z below #[Value.ref b] s) (fun q : Nat => s.heap.size ≤ q) s.heap C1 (fun _ h => h) (fun ws' pc' lsc H locs hq => hq.elim) (fun ws' lsc H locs hq hP hD hS => ?_) s.heap [] lsc hP0 hD0 va_S.rf hl
  obtain ⟨q0, q1, q2, q3, q4, q5, q6, q7, q8, q9, q10, q11, q12, q13, q14, q15, q16, q17, q18, q19, q20, q21, q22, q23, q24, q25, q26, q27, q28, q29, q30, q31, q32, q33, q34, q35, q36, q37, q38, q39, q40, q41, q42, q43, q44, q45, q46, q47, q48, q49, q50, q51, q52, q53, q54, q55, q56, q57, q58, q59, q60, q61, q62, q63, q64, q65, q66, q67, q68, q69, q70, q71, q72, q73, q74, q75, q76, q77, q78, q79, q80, q81, q82, q83, q84, q85, q86, q87, q88, q89, q90, rfl, hh⟩ := hq
  have hw : [(q0, .inr (10, [.ref q1, .ref q9, .ref q15, .ref q20, .ref q27, .ref q33, .ref q35, .ref q40, .ref q44, .ref q47])), (q1, .inr (2, [.ref q2, .ref q3, .ref q4, .ref q5, .ref q6, .ref q7, .ref q8, .int (Int32.ofInt 0), .int (Int32.ofInt 0)])), (q2, .inl (cI, 8, .inl (fun _ => Int32.ofInt 0))), (q3, .inl (cI, 12, .inl (fun _ => Int32.ofInt 0))), (q4, .inl (cI, 12, .inl (fun _ => Int32.ofInt 0))), (q5, .inl (cI, 12, .inl (fun _ => Int32.ofInt 0))), (q6, .inl (cI, 12, .inl (fun _ => Int32.ofInt 0))), (q7, .inl (cI, 64, .inl (fun _ => Int32.ofInt 0))), (q8, .inl (cI, 64, .inl (fun _ => Int32.ofInt 0))), (q9, .inr (4, [.ref q10, .ref q11, .ref q12, .ref q13, .ref q14, .int (Int32.ofInt 0)])), (q10, .inl (cI, 11, .inl (fun _ => Int32.ofInt 0))), (q11, .inl (cI, 11, .inl (fun _ => Int32.ofInt 0))), (q12, .inl (cI, 11, .inl (fun _ => Int32.ofInt 0))), (q13, .inl (cI, 11, .inl (fun _ => Int32.ofInt 0))), (q14, .inl (cI, 11, .inl (fun _ => Int32.ofInt 0))), (q15, .inr (3, [.ref q16, .ref q17, .ref q18, .ref q19, .int (Int32.ofInt 0)])), (q16, .inl (cI, 128, .inl (fun _ => Int32.ofInt 0))), (q17, .inl (cI, 128, .inl (fun _ => Int32.ofInt 0))), (q18, .inl (cI, 128, .inl (fun _ => Int32.ofInt 0))), (q19, .inl (cI, 6, .inl (fun _ => Int32.ofInt 0))), (q20, .inr (5, [.ref q21, .ref q26, .int (Int32.ofInt 0), .int (Int32.ofInt 0), .int (Int32.ofInt 0)])), (q21, .inr (3, [.ref q22, .ref q23, .ref q24, .ref q25, .int (Int32.ofInt 0)])), (q22, .inl (cI, 128, .inl (fun _ => Int32.ofInt 0))), (q23, .inl (cI, 128, .inl (fun _ => Int32.ofInt 0))), (q24, .inl (cI, 128, .inl (fun _ => Int32.ofInt 0))), (q25, .inl (cI, 6, .inl (fun _ => Int32.ofInt 0))), (q26, .inl (cI, 120, .inl (fun _ => Int32.ofInt 0))), (q27, .inr (8, [.ref q1, .ref q9, .ref q15, .ref q28, .ref q29, .ref q30, .ref q31, .ref q32, .int (Int32.ofInt 60), .int (Int32.ofInt 1)])), (q28, .inl (cI, 5, .inl (upd (upd (upd (upd (upd (fun _ => Int32.ofInt 0) 0 (Int32.ofInt 1)) 1 (Int32.ofInt (-2))) 2 (Int32.ofInt 1)) 3 (Int32.ofInt 1)) 4 (Int32.ofInt (-1))))), (q29, .inl (cI, 5, .inl (fun _ => Int32.ofInt 0))), (q30, .inl (cI, 5, .inl (fun _ => Int32.ofInt 0))), (q31, .inl (cI, 10, .inl (fun _ => Int32.ofInt 0))), (q32, .inl (cJ, 5, .inr (.inl (fun _ => Int64.ofInt 0)))), (q33, .inr (6, [.ref q1, .ref q27, .ref q34, .int (Int32.ofInt 0), .int (Int32.ofInt 0), .int (Int32.ofInt 0), .int (Int32.ofInt 0), .int (Int32.ofInt 0)])), (q34, .inl (cI, 776, .inl (fun _ => Int32.ofInt 0))), (q35, .inr (0, [.ref q36, .ref q37, .ref q38, .ref q39, .int (Int32.ofInt 0), .int (Int32.ofInt 0)])), (q36, .inl (cI, 40, .inl (fun _ => Int32.ofInt 0))), (q37, .inl (cI, 40, .inl (fun _ => Int32.ofInt 0))), (q38, .inl (cI, 40, .inl (fun _ => Int32.ofInt 0))), (q39, .inl (cI, 40, .inl (fun _ => Int32.ofInt 0))), (q40, .inr (1, [.ref q41, .int (Int32.ofInt 0), .int (Int32.ofInt 0), .int (Int32.ofInt 0), .int (Int32.ofInt 0), .int (Int32.ofInt 0), .int (Int32.ofInt 0), .ref q42, .ref q43])), (q41, .inl (cI, 4, .inl (fun _ => Int32.ofInt 0))), (q42, .inl (cI, 4, .inl (fun _ => Int32.ofInt 0))), (q43, .inl (cI, 5, .inl (fun _ => Int32.ofInt 0))), (q44, .inr (9, [.ref q45, .ref q46, .int (Int32.ofInt 0), .int (Int32.ofInt 0), .int (Int32.ofInt 0), .int (Int32.ofInt 0)])), (q45, .inl (cI, 50, .inl (fun _ => Int32.ofInt 0))), (q46, .inl (cI, 24, .inl (fun _ => Int32.ofInt 0))), (q47, .inr (7, [.ref q48, .ref q49, .ref q50, .ref q51, .ref q52])), (q48, .inl (cI, 6, .inl (fun _ => Int32.ofInt 0))), (q49, .inl (cI, 6, .inl (fun _ => Int32.ofInt 0))), (q50, .inl (cI, 6, .inl (fun _ => Int32.ofInt 0))), (q51, .inl (cI, 6, .inl (fun _ => Int32.ofInt 0))), (q52, .inl (cJ, 360, .inr (.inl (fun _ => Int64.ofInt 0)))), (q53, .inr (11, [.int (Int32.ofInt 0), .ref q54, .int (Int32.ofInt 0), .ref q55, .ref q56, .ref q57, .ref q58, .ref q59, .int (Int32.ofInt 60), .int (Int32.ofInt 1), .int (Int32.ofInt 0), .ref q60, .ref q61, .ref q62, .ref q63, .ref q64, .int (Int32.ofInt 0), .ref q65, .int (Int32.ofInt 0), .int (Int32.ofInt 0), .ref q66, .ref q67, .ref q68, .ref q69, .int (Int32.ofInt 0), .int (Int32.ofInt 0), .int (Int32.ofInt 0), .int (Int32.ofInt 0), .ref q70, .ref q71, .ref q72, .ref q73, .ref q74, .ref q75, .int (Int32.ofInt 0), .ref q76, .ref q77, .int (Int32.ofInt 0), .int (Int32.ofInt 0), .ref q78, .ref q79, .int (Int32.ofInt 0), .int (Int32.ofInt 0), .ref q80, .int (Int32.ofInt 0), .ref q81, .int (Int32.ofInt 0), .ref q82, .ref q83, .ref q84, .ref q85, .ref q86, .ref q87, .ref q88, .int (Int32.ofInt 0), .int (Int32.ofInt 0), .ref q89, .ref q90])), (q54, .inl (cI, 8, .inl (fun _ => Int32.ofInt 0))), (q55, .inl (cI, 12, .inl (fun _ => Int32.ofInt 0))), (q56, .inl (cI, 12, .inl (fun _ => Int32.ofInt 0))), (q57, .inl (cI, 12, .inl (fun _ => Int32.ofInt 0))), (q58, .inl (cI, 12, .inl (fun _ => Int32.ofInt 0))), (q59, .inl (cI, 5, .inl (upd (upd (upd (upd (upd (fun _ => Int32.ofInt 0) 0 (Int32.ofInt 1)) 1 (Int32.ofInt (-2))) 2 (Int32.ofInt 1)) 3 (Int32.ofInt 1)) 4 (Int32.ofInt (-1))))), (q60, .inl (cI, 11, .inl (fun _ => Int32.ofInt 0))), (q61, .inl (cI, 11, .inl (fun _ => Int32.ofInt 0))), (q62, .inl (cI, 11, .inl (fun _ => Int32.ofInt 0))), (q63, .inl (cI, 11, .inl (fun _ => Int32.ofInt 0))), (q64, .inl (cI, 11, .inl (fun _ => Int32.ofInt 0))), (q65, .inl (cI, 120, .inl (fun _ => Int32.ofInt 0))), (q66, .inl (cI, 60, .inl (fun _ => Int32.ofInt 0))), (q67, .inl (cI, 60, .inl (fun _ => Int32.ofInt 0))), (q68, .inl (cI, 60, .inl (fun _ => Int32.ofInt 0))), (q69, .inl (cI, 200, .inl (fun _ => Int32.ofInt 0))), (q70, .inl (cI, 61, .inl (fun _ => Int32.ofInt 0))), (q71, .inl (cI, 61, .inl (fun _ => Int32.ofInt 0))), (q72, .inl (cI, 61, .inl (fun _ => Int32.ofInt 0))), (q73, .inl (cI, 200, .inl (fun _ => Int32.ofInt 0))), (q74, .inl (cI, 200, .inl (fun _ => Int32.ofInt 0))), (q75, .inl (cI, 6, .inl (fun _ => Int32.ofInt 0))), (q76, .inl (cI, 4, .inl (fun _ => Int32.ofInt 0))), (q77, .inl (cI, 4, .inl (fun _ => Int32.ofInt 0))), (q78, .inl (cI, 4, .inl (fun _ => Int32.ofInt 0))), (q79, .inl (cI, 4, .inl (fun _ => Int32.ofInt 0))), (q80, .inl (cI, 160, .inl (fun _ => Int32.ofInt 0))), (q81, .inl (cI, 50, .inl (fun _ => Int32.ofInt 0))), (q82, .inl (cI, 24, .inl (fun _ => Int32.ofInt 0))), (q83, .inl (cI, 6, .inl (upd (upd (upd (upd (upd (upd (fun _ => Int32.ofInt 0) 0 (Int32.ofInt (-1))) 1 (Int32.ofInt (-1))) 2 (Int32.ofInt (-1))) 3 (Int32.ofInt (-1))) 4 (Int32.ofInt (-1))) 5 (Int32.ofInt (-1))))), (q84, .inl (cI, 6, .inl (fun _ => Int32.ofInt 0))), (q85, .inl (cJ, 360, .inr (.inl (fun _ => Int64.ofInt 0)))), (q86, .inl (cI, 8, .inl (fun _ => Int32.ofInt 0))), (q87, .inl (cI, 8, .inl (fun _ => Int32.ofInt 0))), (q88, .inl (cI, 88, .inl (fun _ => Int32.ofInt 0))), (q89, .inl (cI, 4, .inl (fun _ => Int32.ofInt 0))), (q90, .inl (cI, 4, .inl (fun _ => Int32.ofInt 0)))] = fz_ws (dC, dI, cI, cJ, fz_adr [q0, q1, q2, q3, q4, q5, q6, q7, q8, q9, q10, q11, q12, q13, q14, q15, q16, q17, q18, q19, q20, q21, q22, q23, q24, q25, q26, q27, q28, q29, q30, q31, q32, q33, q34, q35, q36, q37, q38, q39, q40, q41, q42, q43, q44, q45, q46, q47, q48, q49, q50, q51, q52, q53, q54, q55, q56, q57, q58, q59, q60, q61, q62, q63, q64, q65, q66, q67, q68, q69, q70, q71, q72, q73, q74, q75, q76, q77, q78, q79, q80, q81, q82, q83, q84, q85, q86, q87, q88, q89, q90] b t1 t2 t3 t4, fz_h0 (fz_sc L xs)) (fz_h0 (fz_sc L xs)) := by rw [fz_wld]; rfl
  rw [hw] at hP hD
  have hA1 : ∀ q, fz_A (dC, dI, cI, cJ, fz_adr [q0, q1, q2, q3, q4, q5, q6, q7, q8, q9, q10, q11, q12, q13, q14, q15, q16, q17, q18, q19, q20, q21, q22, q23, q24, q25, q26, q27, q28, q29, q30, q31, q32, q33, q34, q35, q36, q37, q38, q39, q40, q41, q42, q43, q44, q45, q46, q47, q48, q49, q50, q51, q52, q53, q54, q55, q56, q57, q58, q59, q60, q61, q62, q63, q64, q65, q66, q67, q68, q69, q70, q71, q72, q73, q74, q75, q76, q77, q78, q79, q80, q81, q82, q83, q84, q85, q86, q87, q88, q89, q90] b t1 t2 t3 t4, fz_h0 (fz_sc L xs)) q → s.heap.size ≤ q := by
    rintro q ⟨i, hi, rfl⟩
    exact hD.2 i _ (fz_ws_at _ _ hi)
  refine lw_from (E := (dC, dI, cI, cJ, fz_adr [q0, q1, q2, q3, q4, q5, q6, q7, q8, q9, q10, q11, q12, q13, q14, q15, q16, q17, q18, q19, q20, q21, q22, q23, q24, q25, q26, q27, q28, q29, q30, q31, q32, q33, q34, q35, q36, q37, q38, q39, q40, q41, q42, q43, q44, q45, q46, q47, q48, q49, q50, q51, q52, q53, q54, q55, q56, q57, q58, q59, q60, q61, q62, q63, q64, q65, q66, q67, q68, q69, q70, q71, q72, q73, q74, q75, q76, q77, q78, q79, q80, q81, q82, q83, q84, q85, q86, q87, q88, q89, q90] b t1 t2 t3 t4, fz_h0 (fz_sc L xs))) (sc := fz_sc L xs) hL rfl hx hb hr hml hown hts hlocks hK ?_ hP hD hS (fun _ _ => rfl) hh
  refine ⟨fun id h1 h2 => ?_, List.forall_mem_cons.mpr ⟨hZ1.narrow hA1, List.forall_mem_cons.mpr ⟨hZ2.narrow hA1, List.forall_mem_cons.mpr ⟨hZ3.narrow hA1, List.forall_mem_cons.mpr ⟨hZ4.narrow hA1, fun _ z => by cases z⟩⟩⟩⟩⟩
  rcases (show id = 200 ∨ id = 201 ∨ id = 202 ∨ id = 203 ∨ id = 204 by omega) with rfl | rfl | rfl | rfl | rfl
  · exact lw_scr hX hL (fun z => absurd (hA1 b z) (by omega))
  · exact hT1.narrow hA1
  · exact hT2.narrow hA1
  · exact hT3.narrow hA1
  · exact hT4.narrow hA1
