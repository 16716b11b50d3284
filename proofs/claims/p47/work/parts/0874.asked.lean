/-! ===== from texts to numbers: objects are made and asked ===== -/
def st_EX (E : fz_E) (X : st_Xt) : Prop := X.2.2.2.1 = fz_ad E 200 ∧ X.2.2.2.2.1 = (fz_tc E 200 100000).toNat ∧ X.2.2.2.2.2.1 = (fun j => Int32.ofInt (fz_tc E 200 j)) ∧ fz_ad E 207 = X.2.2.1.1 ∧ fz_ad E 208 = X.2.2.1.2 ∧ (fz_ad E 205, fz_ad E 206, (fz_tc E 205 100000).toNat) ∈ X.1 ∧
  ("FameAhead", "LEAST", fz_ad E 201, (fz_tc E 201 100000).toNat, fun j => fz_tc E 201 j) ∈ X.2.2.2.2.2.2 ∧ ("FameAhead", "MOST", fz_ad E 202, (fz_tc E 202 100000).toNat, fun j => fz_tc E 202 j) ∈ X.2.2.2.2.2.2
theorem st_toSt {E : fz_E} {X : st_Xt} {B : Nat → Prop} {U : State} (hX : st_ok X B U U.heap) (hB : ∀ q, fz_A E q → B q) (hE : st_EX E X) (hN : st_nN U) : fz_St E U := by
  obtain ⟨e1, e2, e3, e4, e5, e6, e7, e8⟩ := hE
  have hY := hX.narrow hB
  refine ⟨fun id h1 h2 => ?_, ?_, ⟨by rw [show (fz_X E).2.2.1.1 = X.2.2.1.1 from e4, show (fz_X E).2.2.1.2 = X.2.2.1.2 from e5]; exact hY.1, fun q hq => ?_, fun q hq => (by cases hq), ?_, fun q hq => (by cases hq)⟩, hN⟩
  · rcases (show id = 200 ∨ id = 201 ∨ id = 202 by omega) with rfl | rfl | rfl
    · have := hY.2.2.2.1
      rw [e1, e2, e3] at this
      exact this
    · exact (hY.2.2.2.2 _ e7).2
    · exact (hY.2.2.2.2 _ e8).2
  · exact List.forall_mem_cons.mpr ⟨(hY.2.2.2.2 _ e7).1, List.forall_mem_cons.mpr ⟨(hY.2.2.2.2 _ e8).1, fun _ z => by cases z⟩⟩
  · have h9 : q = (fz_ad E 205, fz_ad E 206, (fz_tc E 205 100000).toNat) := by simpa [fz_X] using hq
    rw [h9]
    exact hY.2.1 _ e6
  · have := hY.2.2.2.1
    rw [e1, e2, e3] at this
    exact this
section ST
variable {D : st_D} {X : st_Xt} {d NC NS : Nat} {M : fz_M} {pc a b w : Nat} {ls ls' : List (Nat × Value)} {st st' : List Value} {ws ws' : va_W} {nc ns : Nat} {Q : va_W → Option Value → Prop}
/-- a constructor of the other machine is called for the cell that was made last -/
theorem st_callB {d' NC' NS' : Nat} {M' : fz_M} {idx q : Nat} {e : va_E} {w0 : va_W} {Q' : va_W → Prop} (hM : fz_okK M = true) (hc : fz_at M.2.2.2.2 pc = some (.invokespecial idx, 3, a, b, w))
    (hlk : Cond.methodLink M.1.cls idx M'.1 ∈ fz_tb) (h1 : Cond.code M'.1 M'.2.1 M'.2.2.1 M'.2.2.2.1 ∈ fz_tb) (h2 : Cond.initialized M'.1.cls ∈ fz_tb) (h3 : Cond.instanceMethod M'.1 ∈ fz_tb) (hpl : st_ow M' 0 = true) (hret : M'.2.2.2.1 = none) (hnm : M'.1.name = "<init>") (hcap : (st.map fun v => v.category).sum ≤ 8) (hL : (lg_sl [Value.ref q]).length ≤ M'.2.2.1) (hd : d' + 1 ≤ d) (hnc : nc + NC' ≤ NC) (hns : ns + NS' ≤ NS) (hw : ws = w0 ++ [(q, e)])
    (hB : fz_B (D.1, D.2.1, D.2.2.1) d' NC' NS' M' 0 (lv_args 0 [.ref q]) [] [(q, e)] 0 0 (fz_q Q')) (kk : ∀ ws1, Q' ws1 → st_R D X d NC NS M (pc + 3) ls st (w0 ++ ws1) (nc + NC') (ns + NS') Q) : st_R D X d NC NS M pc ls (.ref q :: st) ws nc ns Q := by
  subst hw
  obtain ⟨p1, p2, p3, p4, p5⟩ := st_ow_s hpl
  intro p l e2 R s m args below meth c Qf A C hA hX hend H locs lsc hP hD hSt hh
  have hts := C.2.2.2.2.2.1
  have r1 := C.2.2.2.2.2.2.2.2.1
  have r2 := C.2.2.2.2.2.2.2.2.2.1
  have r3 := C.2.2.2.2.2.2.2.2.2.2.1
  have r4 := C.2.2.2.2.2.2.2.2.2.2.2.1
  have hK := C.2.2.2.2.2.2.2.2.2.2.2.2.1
  have hN := C.2.2.2.2.2.2.2.2.2.2.2.2.2
  have hK2 : va_K D.1 vwCl [(D.2.1, .int), (D.2.2.1, .long)] s := hK.sub [0, 1] rfl
  have hMet := fz_bmet (D := (D.1, D.2.1, D.2.2.1)) p1 hret hnm hL hB H.size l
  have hat : (w0 ++ [(q, e)])[w0.length]? = some (q, e) := by simp
  have hC1 : [w0.length].map (fun i => (w0 ++ [(q, e)])[i]?) = [(q, e)].map some := by simp
  have hPc : va_P D.1 vwCl [(q, e)] H := hP.sub [w0.length] (by simp)
  have hDc : va_D A [(q, e)] := hD.sub [w0.length] (by simp [va_nd]) hC1
  have hFc := va_free (wc := [(q, e)]) hD hSt hA [w0.length] hC1
  have hgood : GoodIn fz_tb (fz_wd M') := by
    have := fz_good M' h1 [] (fun _ z => by cases z)
    exact this
  have hroom : (fz_rB d' NC' NS').frames + 1 ≤ R.frames ∧ 8 + (M'.2.2.1 + 11) + (fz_rB d' NC' NS').locals ≤ R.locals := st_rooms r1 r2 hd p5
  have hpre : PreS s H (va_Pc [Value.ref q] (fz_Bp (D.1, D.2.1, D.2.2.1) q e H.size)) [Value.ref q] := ⟨fz_Bp_blind, fun U hU hWm => ⟨rfl, by rw [hU], by rw [hU]; exact hPc, va_K.moved hWm.alike hK2, hDc.weaken (fun _ _ _ _ => trivial), fz_nN_warm hWm hN.1⟩⟩
  have hwd : fz_wd M' = Cond.code M'.1 M'.2.1 M'.2.2.1 none :: fz_tb := by rw [← hret]
  have hrun := va_runI (cells := nc) (slots := ns) (e := e2) (below := below) (meth := meth) (locs := locs) (H := H) (b := q) (As := []) (rest := st) (g := F0 m pc lsc (.ref q :: st)) ⟨C.1, C.2.1, C.2.2.2.1, C.2.2.2.2.1, hts⟩ hMet (cwI 0 hts hgood hwd rfl rfl (hts _ h2) (hts _ hlk) (hts _ h3) hnm ⟨p2, p3, p4⟩ hroom) hpre rfl rfl hh.1 rfl (lv_room hcap) (fz_dk hM hc) ⟨by omega, by omega⟩
  refine va_callv hrun hSt (fun x _ h => hFc x h) hFc (fun ws1 t H1 locs1 ht hvm hq hB1 hz1 hk1 hS1 => ?_)
  obtain ⟨hP1, hD1⟩ := hB1
  rw [ht] at hP1
  obtain ⟨hPj, hDj⟩ := va_join (wr := w0) (w1 := ws1) hP hD [w0.length] (List.range' 0 w0.length) hC1 (fz_map_range w0 _) (fz_nd_range' _ _) (fun i hi z => by
    have h5 := (List.mem_range'_1.mp hi).2
    have h6 : i = w0.length := by simpa using z
    omega) hk1 hFc hP1 hD1
  exact kk ws1 hq p l e2 R s m args below meth c Qf A C hA hX hend H1 locs1 lsc hPj hDj hS1 hh
/-- an object of numbers is asked -/
theorem st_callF {d' n idx o ci nf : Nat} {M' : fz_M} {As : List fz_V} {S : List Value} {E : fz_E} {h : fz_H} {Q' : fz_H → Option fz_V → Prop} (hM : fz_okK M = true) (hc : fz_at M.2.2.2.2 pc = some (.invokevirtual idx, 3, a, b, w))
    (hlk : Cond.methodLink M.1.cls idx M'.1 ∈ fz_tb) (hv : fz_vM M' n false) (hD0 : fz_dA E = D.1 ∧ E.2.2.1 = D.2.1 ∧ E.2.2.2.1 = D.2.2.1) (hw : ws = fz_ws E h) (ho : fz_sh o = (0, ci, nf)) (hci : (fz_nth vwCl ci).map (fun q => q.1) = some M'.1.cls) (hn : As.length = n) (hS : S = (As.map (fz_cv (fz_ad E))).reverse ++ .ref (fz_ad E o) :: st)
    (hL : ((fz_r o :: As).map fz_cat).sum ≤ M'.2.2.1) (hcap : (st.map fun v => v.category).sum ≤ 8) (hd : d' + 1 ≤ d) (hAs : ∀ v ∈ As, fz_nv v) (hnh : fz_nh h) (htc : ∀ id, 200 ≤ id → h id = fz_tc E id) (hE : st_EX E X) (hnc : nc ≤ NC) (hns : ns ≤ NS)
    (hR : fz_R d' M' 0 (fz_en 0 (fz_r o :: As)) [] h Q') (k : ∀ h' r, Q' h' r → fz_rok M'.2.2.2.1 r → fz_nh h' → (∀ id, 200 ≤ id → h' id = fz_tc E id) → st_R D X d NC NS M (pc + 3) ls (r.toList.map (fz_cv (fz_ad E)) ++ st) (fz_ws E h') nc ns Q) : st_R D X d NC NS M pc ls S ws nc ns Q := by
  subst hS hw
  obtain ⟨d1, d2, d3⟩ := hD0
  obtain ⟨v1, v2, v3, v4, v5, v6, v79, v8⟩ := id hv
  rw [if_neg (by decide)] at v79
  obtain ⟨v7, v9⟩ := v79
  intro p l e R s m args below meth c Qf A C hA hX hend H locs lsc hP hD hSt hh
  have hts := C.2.2.2.2.2.1
  have r1 := C.2.2.2.2.2.2.2.2.1
  have r2 := C.2.2.2.2.2.2.2.2.2.1
  have r3 := C.2.2.2.2.2.2.2.2.2.2.1
  have r4 := C.2.2.2.2.2.2.2.2.2.2.2.1
  have hK := C.2.2.2.2.2.2.2.2.2.2.2.2.1
  have hN := C.2.2.2.2.2.2.2.2.2.2.2.2.2
  rw [← d1] at hP
  have hK2 : va_K (fz_dA E) vwCl (fz_ty E) s := by
    rw [d1, show fz_ty E = [(D.2.1, .int), (D.2.2.1, .long)] by show [(E.2.2.1, FieldType.int), (E.2.2.2.1, FieldType.long)] = _; rw [d2, d3]]
    exact hK.sub [0, 1] rfl
  have hAE : ∀ q, fz_A E q → A q := by
    rintro q ⟨i, hi, rfl⟩
    exact hD.2 i _ (fz_ws_at E h hi)
  have hDE : va_D (fz_A E) (fz_ws E h) := ⟨hD.1, fun k q hk => by
    unfold fz_ws at hk
    rw [List.getElem?_map] at hk
    obtain ⟨i, hi, rfl⟩ := Option.map_eq_some_iff.mp hk
    exact ⟨i, List.mem_range.mp (List.mem_of_getElem? hi), rfl⟩⟩
  have hsA : ∀ v ∈ fz_r o :: As, fz_nv v := fun v hv => by
    rcases List.mem_cons.mp hv with h1 | h1
    · rw [h1]; trivial
    · exact hAs v h1
  have hMet := fz_met (d := d') (M := M') hv hL hsA hR E l
  have hlt : o < fz_N := fz_sh_lt ho (show (0 : Nat) ≠ 9 by decide)
  have hat := fz_ws_at E h hlt
  rw [show fz_ce E h o = .inr (ci, (List.range nf).map (fz_fv (fz_ad E) h o)) by unfold fz_ce; rw [ho, if_pos rfl]] at hat
  obtain ⟨z, hz1, hz2⟩ := Option.map_eq_some_iff.mp hci
  rw [fz_nth_eq] at hz1
  have hrecv := va_recv hK2 hP hz1 hat
  rw [hz2] at hrecv
  have hgood : GoodIn fz_tb (wsV M.1.cls idx M'.1.cls M'.1 (fz_wd M')) := fz_good M' v5 _ (by
    intro x hx
    simp only [List.mem_cons, List.not_mem_nil, or_false] at hx
    rcases hx with rfl | rfl | rfl | rfl
    · exact hlk
    · exact v7
    · exact v9
    · exact v6)
  have hroom : (fz_rm d').frames + 1 ≤ R.frames ∧ 8 + (M'.2.2.1 + 11) + (fz_rm d').locals ≤ R.locals := by
    constructor
    · show d' + 1 ≤ R.frames; omega
    · show 8 + (M'.2.2.1 + 11) + d' * 64 ≤ R.locals
      omega
  have hcw := cwV (R := R) n hts hgood rfl (rm := fz_rm d') (mc := 0) (ms := 0) rfl rfl ⟨rfl, v2, v3, v4⟩ hroom
  have hrun := va_runV (cells := nc) (slots := ns) (e := e) (below := below) (meth := meth) (locs := locs) (H := H) (b := fz_ad E o) (As := As.map (fz_cv (fz_ad E))) (rest := st) (g := F0 m pc lsc ((As.map (fz_cv (fz_ad E))).reverse ++ Value.ref (fz_ad E o) :: st)) ⟨C.1, C.2.1, C.2.2.2.1, C.2.2.2.2.1, hts⟩ hMet hcw
    ⟨fz_blind, hrecv, fun U hU hWm => ⟨by simp [fz_cv], by rw [hU]; exact hP, va_K.moved hWm.alike hK2, hDE, hnh, htc, by
      have h9 : st_ok X A U U.heap := by rw [hU]; exact (hX.kept hSt.2.1).warm hWm
      exact st_toSt h9 hAE hE (st_nN_warm hWm hN)⟩⟩ rfl (by rw [List.length_map]; exact hn) hh.1 rfl (lv_room hcap) (fz_dk hM hc) ⟨by omega, by omega⟩
  intro T hT Y
  obtain ⟨v, st₀, t, T', L, h0, Y', hL9, e1, e2, ⟨⟨h', r, hv9, hq, hrok, hP1, hD1, hnh1, hht1⟩, hz, hk⟩, st1⟩ := hrun T hT Y
  cases hv9
  rw [h0] at hz hk
  have hS' : va_S A s.heap T'.heap (locs ++ L) :=
    ⟨Nat.le_trans hSt.1 (by rw [e1]; exact hz), fun q h1 h2 => by rw [e1, hk q (Nat.lt_of_lt_of_le h1 hSt.1) (fun z => h2 (hAE q z))]; exact hSt.2.1 q h1 h2, fun q hq => by
      rcases List.mem_append.mp hq with h1 | h1
      · exact hSt.2.2 q h1
      · exact hAE _ (hL9 q h1)⟩
  have hDA : va_D A (fz_ws E h') := ⟨hD1.1, fun k q hk => hAE _ (hD1.2 k q hk)⟩
  rw [d1, ← e1] at hP1
  have kk := k h' r hq hrok hnh1 hht1 p l e R s m args below meth c Qf A C hA hX hend T'.heap (locs ++ L) lsc hP1 hDA hS' hh
  obtain ⟨t2, a1, b1⟩ := kk T' rfl Y'
  refine ⟨t2, st1 t2 ?_, b1⟩
  have e3 : (Option.map (fz_cv (fz_ad E)) r).toList ++ st = r.toList.map (fz_cv (fz_ad E)) ++ st := by
    cases r <;> simp
  show Steps p.tables e below (T'.setTop { method := m, pc := pc + 3, locals := lsc, stack := (Option.map (fz_cv (fz_ad E)) r).toList ++ st, locked := none }) t2
  rw [e3]
  exact a1
end ST
