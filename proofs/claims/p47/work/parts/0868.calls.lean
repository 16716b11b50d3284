/-! ===== texts: contracts, calls ===== -/
def st_Pc (D : st_D) (X : st_Xt) (ws : va_W) (sz : Nat) (U : State) : Prop := U.heap.size = sz ∧ va_P D.1 vwCl ws U.heap ∧ va_K D.1 vwCl (st_ty D) U ∧ va_D (va_A ws sz) ws ∧ st_nN U ∧ st_ok X (va_A ws sz) U U.heap
def st_Qc (D : st_D) (ws : va_W) (sz : Nat) (Q : va_W → Option Value → Prop) : Array Value → State → Outcome → State → Prop := fun _ st oc t =>
  (∃ (ws1 : va_W) (v : Option Value), oc = .returned v ∧ Q ws1 v ∧ va_P D.1 vwCl ws1 t.heap ∧ va_D (va_A ws sz) ws1) ∧ va_F (va_A ws sz) st t
theorem st_blind {D : st_D} {X : st_Xt} {ws : va_W} {sz : Nat} {vs : List Value} : FrameBlind (va_Pc vs (st_Pc D X ws sz)) := by
  intro a U g mk hp
  obtain ⟨h1, h2, h3, h4, h5, h6, h7⟩ := hp
  exact ⟨h1, h2, h3, va_K.moved (u := U) (U := U.calling g mk a) (Vm.Alike.refl U.vm) h4, h5, st_nN_vm (u := U) (U := U.calling g mk a) rfl h6, st_ok.same (u := U) (U := U.calling g mk a) rfl h7⟩
theorem st_met {D : st_D} {X : st_Xt} {d NC NS : Nat} {M : fz_M} {vs : List Value} {ws : va_W} {Q : va_W → Option Value → Prop} (hpl : plainName M.1.cls = true) (hL : (lg_sl vs).length ≤ M.2.2.1)
    (hB : st_R D X d NC NS M 0 (lv_args 0 vs) [] ws 0 0 Q) (sz : Nat) (l : Launch) :
    Met l M.1 (st_wd M) (fz_rB d NC NS) (va_Pc vs (st_Pc D X ws sz)) (st_Qc D ws sz Q) NC NS (va_A ws sz) := by
  refine Met.ofW (cc := M.2.1) (maxL := M.2.2.1) (ret := M.2.2.2.1) hpl rfl ?_
  intro p e2 s m args below meth c s₁ B hml hpc
  obtain ⟨rfl, hsz, hP, hK, hD0, hN, hX⟩ := hpc
  subst hsz
  have hts := atoms_spec (ws := st_wd M) B.pre
  have hl := lv_entry vs (n := M.2.2.1) hL
  rw [lg_entry_eq]
  generalize (lg_sl vs ++ List.replicate (M.2.2.1 - (lg_sl vs).length) Slot.unset).toArray = lsc at hl ⊢
  have hlocks := B.notSynchronized
  have hin : M.1.name = "<init>" → meth.name = "<init>" := fun h => (name_of_methodNamed B.named B.method).1.trans h
  have hr : meth.sig.returnType = M.2.2.2.1 := B.returns
  have C : st_Bx D d NC NS M p (headSpec (st_wd M) (fz_rB d NC NS)).room s m (vs.toArray) meth c :=
    ⟨B.exec, B.bytes, B.returns, hml, findClass_of_methodNamed B.named, fun w hw => hts w (List.mem_cons_of_mem _ hw), hlocks, hin, Nat.le_refl _, Nat.le_refl _, Nat.le_refl _, Nat.le_refl _, hK, hN⟩
  refine hB p l e2 _ s m _ below meth c _ (va_A ws s.heap.size) C (fun x h => Or.inr h) hX ?_ s.heap [] lsc hP hD0 va_S.rf hl
  intro ws' v pc' lsc' H locs hQ hdr hP' hD' hS'
  have fin : ∀ t : State, t.heap = H → s.WarmedH t.vm → st_Qc D ws s.heap.size Q (vs.toArray) s (.returned v) t := fun t ht _ => ⟨⟨ws', v, rfl, hQ, by rw [ht]; exact hP', hD'⟩, hS'.F ht⟩
  match v, hdr, fin with
  | none, hdr, fin => exact W.vret C.1 C.2.1 (hr.trans hdr.1) fin hS'.2.2 hdr.2
  | some (.int x), hdr, fin =>
    obtain ⟨h1, ty, h2, h3⟩ := hdr
    exact W.zret C.1 C.2.1 (hr.trans h2) h3 fin hS'.2.2 h1
  | some (.ref x), hdr, fin =>
    obtain ⟨h1, ty, h2, h3⟩ := hdr
    exact W.aret C.1 C.2.1 (hr.trans h2) h3 (Or.inr ⟨x, rfl⟩) fin hS'.2.2 h1
/-- a field of a cell of the world, seen by those who don't write it -/
theorem st_OF {D : st_D} {s : State} {args : Array Value} {H : Heap} {ws : va_W} {A : Nat → Prop} {tys : List (ClassId × FieldType)} {x q0 ci N k : Nat} {Cn : String} {T : u_T} {fs : List Value} {v : Value} (hts : ∀ w ∈ st_tb, w.before args s = true) (hK : va_K D.1 vwCl tys s) (hP : va_P D.1 vwCl ws H) (hcl : fz_nth vwCl ci = some (Cn, T, N)) (he : ws[q0]? = some (x, .inr (ci, fs))) (hk : k < N) (hv : fs[k]? = some v) (hA : ¬ A x) :
    va_OF (T k).1 (T k).2.1 (T k).2.2.1 v x A s H := by
  obtain ⟨r, h1, cell, q1, q2, q3, q4⟩ := hP q0 _ he
  have hr : r = (Cn, T, N) := Option.some.inj (h1.symm.trans ((fz_nth_eq _ _).symm.trans hcl))
  subst hr
  obtain ⟨hS, hfc, kC, hkC, hkind⟩ := hK.1 ci _ ((fz_nth_eq _ _).symm.trans hcl)
  obtain ⟨cf, kf, fi, f, hi, hsl⟩ := hS k hk
  refine ⟨cf, kf, fi, f, cell, hi, (u_facts hfc hkC (u_lays hts (st_cl_in hcl) hk) hi).1, q1, (by rw [q3]; exact fun h => (by cases h)), ?_, hA⟩
  rw [hsl, q4 k hk]
  simp [vp_V, hv]
theorem st_Tw {D : st_D} {s : State} {H : Heap} {ws : va_W} {A : Nat → Prop} {q j n : Nat} {f : Nat → Int32} (hK : va_K D.1 vwCl (st_ty D) s) (hP : va_P D.1 vwCl ws H) (he : ws[j]? = some (q, .inl (D.2.2.2, n, .inl f))) (hA : ¬ A q) : va_T .byte q n (fun j => .int (f j)) A s H := by
  refine ⟨vp_cell D.2.2.2 (n, .inl f), hP j _ he, (hK.2 2 (D.2.2.2, .byte) rfl).1 n (fun j => .int (f j)), fun h => (by cases h), ?_, ?_, fun i hi => ?_, hA⟩
  · show n ≤ (arrV _ _ _).slots.size
    rw [arrV_size]
    exact Nat.le_refl n
  · show (arrV _ _ _).slots.size.toInt32 = _
    rw [arrV_size]
  · show (arrV _ _ _).slots[_]? = _
    rw [arrV_read _ _ hi]
theorem st_ltH {D : va_G} {cl : List vw_C} {ws : va_W} {H : Heap} (hP : va_P D cl ws H) {i x : Nat} {e : va_E} (he : ws[i]? = some (x, e)) : x < H.size := by
  have h := hP i _ he
  rcases e with a | o
  · exact (Array.getElem?_eq_some_iff.mp h).1
  · obtain ⟨r, -, cell, q1, -⟩ := h
    exact (Array.getElem?_eq_some_iff.mp q1).1
theorem st_out {D : va_G} {cl : List vw_C} {ws wc : va_W} {A : Nat → Prop} {H : Heap} (hP : va_P D cl ws H) (hD : va_D A ws) {isC : List Nat} (hC : isC.map (fun i => ws[i]?) = wc.map some) {i x : Nat} {e : va_E} (he : ws[i]? = some (x, e)) (hi : i ∉ isC) : ¬ va_A wc H.size x := by
  rintro (⟨k, e', hk⟩ | h)
  · have h1 : (wc.map some)[k]? = some (some (x, e')) := by rw [List.getElem?_map, hk]; rfl
    rw [← hC, List.getElem?_map] at h1
    obtain ⟨i', h2, h3⟩ := Option.map_eq_some_iff.mp h1
    have h4 : i' = i := hD.1 i' i _ _ h3 he rfl
    exact hi (h4 ▸ List.mem_of_getElem? h2)
  · exact absurd (st_ltH hP he) (by omega)
/-- the strings that a callee sees: the caller's, or such as lie in its world and aren't handed over -/
def st_vis (D : st_D) (X X' : st_Xt) (ws : va_W) (isC : List Nat) : Prop := X'.2 = X.2 ∧ ∀ q ∈ X'.1, q ∈ X.1 ∨ ∃ (i j : Nat) (y z : Int32) (f : Nat → Int32), ws[i]? = some (q.1, .inr (0, [.ref q.2.1, .int 0, .int y, .int z])) ∧ ws[j]? = some (q.2.1, .inl (D.2.2.2, q.2.2, .inl f)) ∧ sb_Fit f ∧ q.2.2 < 100000 ∧ i ∉ isC ∧ j ∉ isC
theorem st_see {D : st_D} {X X' : st_Xt} {s U : State} {args : Array Value} {H : Heap} {locs : List Loc} {ws wc : va_W} {A : Nat → Prop} {isC : List Nat} (hts : ∀ w ∈ st_tb, w.before args s = true) (hK : va_K D.1 vwCl (st_ty D) s) (hX : st_ok X A s s.heap) (hP : va_P D.1 vwCl ws H) (hD : va_D A ws) (hS : va_S A s.heap H locs) (hA : ∀ q : Nat, s.heap.size ≤ q → A q) (hC : isC.map (fun i => ws[i]?) = wc.map some) (hv : st_vis D X X' ws isC) (hU : U.heap = H) (hW : s.WarmedH U.vm) : st_ok X' (va_A wc H.size) U U.heap := by
  have hF := va_free hD hS hA isC hC
  have h0 : st_ok X (va_A wc H.size) s H := (hX.kept hS.2.1).narrow hF
  rw [hU]
  refine st_ok.warm hW ⟨by rw [hv.1]; exact h0.1, fun q hq => ?_, by rw [hv.1]; exact h0.2.2.1, by rw [hv.1]; exact h0.2.2.2.1, by rw [hv.1]; exact h0.2.2.2.2⟩
  rcases hv.2 q hq with h1 | ⟨i, j, y, z, f, e1, e2, hf, hn, hi, hj⟩
  · exact h0.2.1 q h1
  · have o1 := st_out hP hD hC e1 hi
    have o2 := st_out hP hD hC e2 hj
    obtain ⟨cell, g1, g2, g3⟩ := va_recv hK hP (ci := 0) (q := (RJ0, TJ0, 4)) rfl e1
    exact ⟨f, ⟨cell, g1, g2, g3, o1⟩, st_OF (k := 1) hts hK hP (ci := 0) (Cn := RJ0) (T := TJ0) (N := 4) rfl e1 (by decide) rfl o1, st_OF (k := 0) hts hK hP (ci := 0) (Cn := RJ0) (T := TJ0) (N := 4) rfl e1 (by decide) rfl o1, st_Tw hK hP e2 o2, hf, hn⟩
def st_rv (X : st_Xt) (ws : va_W) (Cn : String) (x : Nat) : Prop := (∃ (i ci : Nat) (fs : List Value) (T : u_T) (N : Nat), ws[i]? = some (x, .inr (ci, fs)) ∧ fz_nth vwCl ci = some (Cn, T, N)) ∨ (Cn = "java/lang/String" ∧ ∃ q n, (x, q, n) ∈ X.1)
theorem st_recv {D : st_D} {X : st_Xt} {s : State} {H : Heap} {locs : List Loc} {ws : va_W} {A : Nat → Prop} {Cn : String} {x : Nat} (hK : va_K D.1 vwCl (st_ty D) s) (hX : st_ok X A s s.heap) (hP : va_P D.1 vwCl ws H) (hS : va_S A s.heap H locs) (h : st_rv X ws Cn x) : ∃ cell : Cell, H[x]? = some cell ∧ cell.vm.isStatics = false ∧ s.vm.findClass Cn = some cell.cls := by
  rcases h with ⟨i, ci, fs, T, N, h1, h2⟩ | ⟨rfl, q, n, h1⟩
  · exact va_recv hK hP (q := (Cn, T, N)) ((fz_nth_eq _ _).symm.trans h2) h1
  · obtain ⟨f, g1, -⟩ := hX.2.1 _ h1
    exact va_Orecv g1 hS
section STC
variable {D : st_D} {X : st_Xt} {d NC NS : Nat} {M : fz_M} {pc a b w : Nat} {ls ls' : List (Nat × Value)} {st st' : List Value} {ws ws' : va_W} {nc ns : Nat} {Q : va_W → Option Value → Prop}
variable {p : Program} {l : Launch} {e : Env} {R : Room} {s : State} {m : MethodId} {args : Array Value} {below : List Frame} {meth : Method} {c : Code} {Qf : State → Prop} {A : Nat → Prop} {H : Heap} {locs : List Loc} {lsc : Array Slot}
theorem st_goon {NC' NS' : Nat} {S : List Value} {wc wr : va_W} {Q' : va_W → Option Value → Prop} {aa : Array Value} (isC isR : List Nat) (C : st_Bx D d NC NS M p R s m args meth c) (hA : ∀ q : Nat, s.heap.size ≤ q → A q) (hX : st_ok X A s s.heap)
    (hend : ∀ (ws' : va_W) (v : Option Value) (pc' : Nat) (lsc : Array Slot) (H : Heap) (locs : List Loc), Q ws' v → st_dr M pc' v → va_P D.1 vwCl ws' H → va_D A ws' → va_S A s.heap H locs → W p l e R s m args below meth c H locs NC NS Qf (F0 m pc' lsc v.toList))
    (hP : va_P D.1 vwCl ws H) (hD : va_D A ws) (hS : va_S A s.heap H locs) (hh : lv_has lsc M.2.2.1 ls) (hC : isC.map (fun i => ws[i]?) = wc.map some) (hR : isR.map (fun i => ws[i]?) = wr.map some) (hn : va_nd isR = true) (hdis : ∀ i ∈ isR, i ∉ isC)
    (hrun : va_Run p l e R s m args below meth c H locs nc ns NC' NS' (F0 m pc lsc S) st (st_Qc D wc H.size Q' aa) (va_A wc H.size))
    (k : ∀ ws1 v, Q' ws1 v → st_R D X d NC NS M (pc + 3) ls (v.toList ++ st) (wr ++ ws1) (nc + NC') (ns + NS') Q) : W p l e R s m args below meth c H locs nc ns Qf (F0 m pc lsc S) := by
  have hF := va_free hD hS hA isC hC
  intro T hT Y
  obtain ⟨v, st₀, t, T', L, h0, Y', hL, e1, e2, ⟨⟨ws1, v1, hv, hq, hP1, hD1⟩, hz, hk⟩, st1⟩ := hrun T hT Y
  cases hv
  rw [h0] at hz hk
  have hS' : va_S A s.heap T'.heap (locs ++ L) :=
    ⟨Nat.le_trans hS.1 (by rw [e1]; exact hz), fun q h1 h2 => by rw [e1, hk q (Nat.lt_of_lt_of_le h1 hS.1) (fun z => h2 (hF q z))]; exact hS.2.1 q h1 h2, fun q hq => by
      rcases List.mem_append.mp hq with h1 | h1
      · exact hS.2.2 q h1
      · exact hF _ (hL q h1)⟩
  rw [← e1] at hP1 hk
  obtain ⟨hPj, hDj⟩ := va_join (wr := wr) (w1 := ws1) hP hD isC isR hC hR hn hdis hk hF hP1 hD1
  obtain ⟨t2, a1, b1⟩ := k ws1 v hq p l e R s m args below meth c Qf A C hA hX hend T'.heap (locs ++ L) lsc hPj hDj hS' hh T' rfl Y'
  exact ⟨t2, st1 t2 a1, b1⟩
end STC
section ST
variable {D : st_D} {X X' : st_Xt} {d NC NS : Nat} {M : fz_M} {pc a b w : Nat} {ls ls' : List (Nat × Value)} {st st' : List Value} {ws ws' : va_W} {nc ns : Nat} {Q : va_W → Option Value → Prop}
def st_ow (M' : fz_M) (n : Nat) : Bool := plainName M'.1.cls && decide (M'.1.cls ≠ "java/lang/invoke/MethodHandle") && decide (M'.1.cls ≠ "java/lang/invoke/VarHandle") && decide ((parseMethodDescriptor M'.1.desc).map (fun q => q.parameters.length) = some n) && decide (M'.2.2.1 ≤ 40)
theorem st_ow_s {M' : fz_M} {n : Nat} (h : st_ow M' n = true) : plainName M'.1.cls = true ∧ M'.1.cls ≠ "java/lang/invoke/MethodHandle" ∧ M'.1.cls ≠ "java/lang/invoke/VarHandle" ∧ (parseMethodDescriptor M'.1.desc).map (fun q => q.parameters.length) = some n ∧ M'.2.2.1 ≤ 40 := by
  unfold st_ow at h
  simp only [Bool.and_eq_true, decide_eq_true_eq] at h
  exact ⟨h.1.1.1.1, h.1.1.1.2, h.1.1.2, h.1.2, h.2⟩
theorem st_rooms {d' NC' NS' : Nat} {M' : fz_M} {R : Room} (h1 : d ≤ R.frames) (h2 : d * 64 ≤ R.locals) (hd : d' + 1 ≤ d) (h3 : M'.2.2.1 ≤ 40) : (fz_rB d' NC' NS').frames + 1 ≤ R.frames ∧ 8 + (M'.2.2.1 + 11) + (fz_rB d' NC' NS').locals ≤ R.locals := by
  constructor
  · show d' + 1 ≤ R.frames; omega
  · show 8 + (M'.2.2.1 + 11) + d' * 64 ≤ R.locals
    omega
theorem st_callS {d' NC' NS' : Nat} {M' : fz_M} {n idx : Nat} {As S : List Value} {wc wr : va_W} {Q' : va_W → Option Value → Prop} (isC isR : List Nat) (hM : fz_okK M = true) (hc : fz_at M.2.2.2.2 pc = some (.invokestatic idx, 3, a, b, w))
    (hlk : Cond.methodLink M.1.cls idx M'.1 ∈ st_tb) (h1 : Cond.code M'.1 M'.2.1 M'.2.2.1 M'.2.2.2.1 ∈ st_tb) (h2 : Cond.initialized M'.1.cls ∈ st_tb) (h3 : Cond.static M'.1 ∈ st_tb) (hpl : st_ow M' n = true)
    (hn : As.length = n) (hS : S = As.reverse ++ st) (hcap : (st.map fun v => v.category).sum ≤ 8) (hL : (lg_sl As).length ≤ M'.2.2.1) (hd : d' + 1 ≤ d) (hnc : nc + NC' ≤ NC) (hns : ns + NS' ≤ NS)
    (hC : isC.map (fun i => ws[i]?) = wc.map some) (hR : isR.map (fun i => ws[i]?) = wr.map some) (hnd : va_nd isR = true) (hnc2 : va_nd isC = true) (hdis : ∀ i ∈ isR, i ∉ isC) (hv : st_vis D X X' ws isC)
    (hB : st_R D X' d' NC' NS' M' 0 (lv_args 0 As) [] wc 0 0 Q') (k : ∀ ws1 v, Q' ws1 v → st_R D X d NC NS M (pc + 3) ls (v.toList ++ st) (wr ++ ws1) (nc + NC') (ns + NS') Q) : st_R D X d NC NS M pc ls S ws nc ns Q := by
  subst hS
  obtain ⟨p1, p2, p3, p4, p5⟩ := st_ow_s hpl
  intro p l e R s m args below meth c Qf A C hA hX hend H locs lsc hP hD hSt hh
  have hts := C.2.2.2.2.2.1
  have r1 := C.2.2.2.2.2.2.2.2.1
  have r2 := C.2.2.2.2.2.2.2.2.2.1
  have r3 := C.2.2.2.2.2.2.2.2.2.2.1
  have r4 := C.2.2.2.2.2.2.2.2.2.2.2.1
  have hK := C.2.2.2.2.2.2.2.2.2.2.2.2.1
  have hN := C.2.2.2.2.2.2.2.2.2.2.2.2.2
  have hPc := hP.sub isC (st_fm hC)
  have hDc := (hD.sub isC hnc2 hC).self (sz := H.size)
  have hgood : GoodIn st_tb (va_wsS M.1.cls idx M'.1 (st_wd M')) := st_good M' h1 _ (by
    intro x hx
    simp only [List.mem_cons, List.not_mem_nil, or_false] at hx
    rcases hx with rfl | rfl | rfl
    · exact hlk
    · exact h3
    · exact h2)
  have hcw := va_cwS (R := R) n hts hgood rfl (rm := fz_rB d' NC' NS') (mc := NC') (ms := NS') rfl rfl ⟨p2, p3, p4⟩ (st_rooms r1 r2 hd p5)
  have hrun := va_runS (cells := nc) (slots := ns) (e := e) (below := below) (meth := meth) (locs := locs) (H := H) (As := As) (rest := st) (g := F0 m pc lsc (As.reverse ++ st)) ⟨C.1, C.2.1, C.2.2.2.1, C.2.2.2.2.1, hts⟩ (st_met p1 hL hB H.size l) hcw
    ⟨st_blind, fun U hU hWm => ⟨rfl, by rw [hU], by rw [hU]; exact hPc, va_K.moved hWm.alike hK, hDc, st_nN_warm hWm hN, st_see hts hK hX hP hD hSt hA hC hv hU hWm⟩⟩ rfl hn hh.1 rfl (lv_room hcap) (fz_dk hM hc) ⟨by omega, by omega⟩
  exact st_goon isC isR C hA hX hend hP hD hSt hh hC hR hnd hdis hrun k
theorem st_callI {d' NC' NS' : Nat} {M' : fz_M} {n idx x : Nat} {As S : List Value} {wc wr : va_W} {Q' : va_W → Option Value → Prop} (isC isR : List Nat) (hM : fz_okK M = true) (hc : fz_at M.2.2.2.2 pc = some (.invokespecial idx, 3, a, b, w))
    (hlk : Cond.methodLink M.1.cls idx M'.1 ∈ st_tb) (h1 : Cond.code M'.1 M'.2.1 M'.2.2.1 M'.2.2.2.1 ∈ st_tb) (h2 : Cond.initialized M'.1.cls ∈ st_tb) (h3 : Cond.instanceMethod M'.1 ∈ st_tb) (hpl : st_ow M' n = true) (hret : M'.2.2.2.1 = none) (hnm : M'.1.name = "<init>")
    (hn : As.length = n) (hS : S = As.reverse ++ .ref x :: st) (hcap : (st.map fun v => v.category).sum ≤ 8) (hL : (lg_sl (.ref x :: As)).length ≤ M'.2.2.1) (hd : d' + 1 ≤ d) (hnc : nc + NC' ≤ NC) (hns : ns + NS' ≤ NS)
    (hC : isC.map (fun i => ws[i]?) = wc.map some) (hR : isR.map (fun i => ws[i]?) = wr.map some) (hnd : va_nd isR = true) (hnc2 : va_nd isC = true) (hdis : ∀ i ∈ isR, i ∉ isC) (hv : st_vis D X X' ws isC)
    (hB : st_R D X' d' NC' NS' M' 0 (lv_args 0 (.ref x :: As)) [] wc 0 0 Q') (k : ∀ ws1 v, Q' ws1 v → st_R D X d NC NS M (pc + 3) ls (v.toList ++ st) (wr ++ ws1) (nc + NC') (ns + NS') Q) : st_R D X d NC NS M pc ls S ws nc ns Q := by
  subst hS
  obtain ⟨p1, p2, p3, p4, p5⟩ := st_ow_s hpl
  intro p l e R s m args below meth c Qf A C hA hX hend H locs lsc hP hD hSt hh
  have hts := C.2.2.2.2.2.1
  have r1 := C.2.2.2.2.2.2.2.2.1
  have r2 := C.2.2.2.2.2.2.2.2.2.1
  have r3 := C.2.2.2.2.2.2.2.2.2.2.1
  have r4 := C.2.2.2.2.2.2.2.2.2.2.2.1
  have hK := C.2.2.2.2.2.2.2.2.2.2.2.2.1
  have hN := C.2.2.2.2.2.2.2.2.2.2.2.2.2
  have hPc := hP.sub isC (st_fm hC)
  have hDc := (hD.sub isC hnc2 hC).self (sz := H.size)
  have hgood : GoodIn st_tb (st_wd M') := by
    have := st_good M' h1 [] (fun _ z => by cases z)
    exact this
  have hwd : st_wd M' = Cond.code M'.1 M'.2.1 M'.2.2.1 none :: st_tb := by rw [← hret]
  have hrun := va_runI (cells := nc) (slots := ns) (e := e) (below := below) (meth := meth) (locs := locs) (H := H) (b := x) (As := As) (rest := st) (g := F0 m pc lsc (As.reverse ++ .ref x :: st)) ⟨C.1, C.2.1, C.2.2.2.1, C.2.2.2.2.1, hts⟩ (st_met p1 hL hB H.size l) (cwI n hts hgood hwd rfl rfl (hts _ h2) (hts _ hlk) (hts _ h3) hnm ⟨p2, p3, p4⟩ (st_rooms r1 r2 hd p5))
    ⟨st_blind, fun U hU hWm => ⟨rfl, by rw [hU], by rw [hU]; exact hPc, va_K.moved hWm.alike hK, hDc, st_nN_warm hWm hN, st_see hts hK hX hP hD hSt hA hC hv hU hWm⟩⟩ rfl hn hh.1 rfl (lv_room hcap) (fz_dk hM hc) ⟨by omega, by omega⟩
  exact st_goon isC isR C hA hX hend hP hD hSt hh hC hR hnd hdis hrun k
/-- a method that the receiver's class declares, or one that it inherits, or a private one of a class above it -/
def st_sel (M : fz_M) (idx : Nat) (Cn : String) (M' : fz_M) : Prop := Cond.methodLink M.1.cls idx M'.1 ∈ st_tb ∧ Cond.instanceMethod M'.1 ∈ st_tb ∧ Cond.initialized M'.1.cls ∈ st_tb ∧ ((Cn = M'.1.cls ∧ Cond.selects M'.1.cls M'.1 M'.1 ∈ st_tb) ∨ (Cond.sameMethod M'.1.cls M'.1.cls M'.1.name M'.1.desc ∈ st_tb ∧ Cond.selects Cn M'.1 M'.1 ∈ st_tb))
theorem st_selP {y y2 : MethodName} {Cn : String} {s : State} {args : Array Value} {n : Nat} (hy : y.cls ≠ "java/lang/invoke/MethodHandle" ∧ y.cls ≠ "java/lang/invoke/VarHandle")
    (hins : (Cond.instantiable Cn n).before args s = true) (hpriv : (Cond.privateMethod y).before args s = true) (hinst : (Cond.instanceMethod y).before args s = true) (hy2 : y2.cls = y.cls) (hsel2 : (Cond.selects Cn y2 y2).before args s = true) :
    (Cond.selects Cn y y).before args s = true := by
  obtain ⟨c, k, hc, hk, -, hniab, -, -⟩ := Cond.instantiable_spec hins
  obtain ⟨mk, methM, hnamed, hmethM, -, -⟩ := Cond.instanceMethod_spec hinst
  have hfound : s.methodFound? y.cls y.name y.desc = some mk := State.methodFound?_of_named hnamed hy
  have hsel : selectMethod {} s.vm c mk = .method mk := selectMethod_private hmethM (Cond.privateMethod_at hpriv mk methM hnamed hmethM)
  obtain ⟨c2, r2, m2, -, -, q3, -, kP, hkP, hkPi⟩ := Cond.selects_spec hsel2
  have hm2 : mk.cls = m2.cls := Option.some.inj ((findClass_of_methodNamed hnamed).symm.trans (by rw [← hy2]; exact findClass_of_methodNamed q3))
  rw [← hm2] at hkP
  simp only [Cond.before, Cond.holds, Cond.value, hc, hfound, hnamed, hsel, hkP]
  simp
  exact hkPi
theorem st_callV {d' NC' NS' : Nat} {M' : fz_M} {n idx x : Nat} {Cn : String} {As S : List Value} {wc wr : va_W} {Q' : va_W → Option Value → Prop} (isC isR : List Nat) (hM : fz_okK M = true) (hc : fz_at M.2.2.2.2 pc = some (.invokevirtual idx, 3, a, b, w))
    (hsl : st_sel M idx Cn M') (h1 : Cond.code M'.1 M'.2.1 M'.2.2.1 M'.2.2.2.1 ∈ st_tb) (hpl : st_ow M' n = true) (hrv : st_rv X ws Cn x)
    (hn : As.length = n) (hS : S = As.reverse ++ .ref x :: st) (hcap : (st.map fun v => v.category).sum ≤ 8) (hL : (lg_sl (.ref x :: As)).length ≤ M'.2.2.1) (hd : d' + 1 ≤ d) (hnc : nc + NC' ≤ NC) (hns : ns + NS' ≤ NS)
    (hC : isC.map (fun i => ws[i]?) = wc.map some) (hR : isR.map (fun i => ws[i]?) = wr.map some) (hnd : va_nd isR = true) (hnc2 : va_nd isC = true) (hdis : ∀ i ∈ isR, i ∉ isC) (hv : st_vis D X X' ws isC)
    (hB : st_R D X' d' NC' NS' M' 0 (lv_args 0 (.ref x :: As)) [] wc 0 0 Q') (k : ∀ ws1 v, Q' ws1 v → st_R D X d NC NS M (pc + 3) ls (v.toList ++ st) (wr ++ ws1) (nc + NC') (ns + NS') Q) : st_R D X d NC NS M pc ls S ws nc ns Q := by
  subst hS
  obtain ⟨p1, p2, p3, p4, p5⟩ := st_ow_s hpl
  obtain ⟨l1, l2, l3, l4⟩ := hsl
  intro p l e R s m args below meth c Qf A C hA hX hend H locs lsc hP hD hSt hh
  have hts := C.2.2.2.2.2.1
  have r1 := C.2.2.2.2.2.2.2.2.1
  have r2 := C.2.2.2.2.2.2.2.2.2.1
  have r3 := C.2.2.2.2.2.2.2.2.2.2.1
  have r4 := C.2.2.2.2.2.2.2.2.2.2.2.1
  have hK := C.2.2.2.2.2.2.2.2.2.2.2.2.1
  have hN := C.2.2.2.2.2.2.2.2.2.2.2.2.2
  have hPc := hP.sub isC (st_fm hC)
  have hDc := (hD.sub isC hnc2 hC).self (sz := H.size)
  have hrecv := st_recv hK hX hP hSt hrv
  have hpre : PreV s H Cn x (va_Pc (.ref x :: As) (st_Pc D X' wc H.size)) As := ⟨st_blind, hrecv, fun U hU hWm => ⟨rfl, by rw [hU], by rw [hU]; exact hPc, va_K.moved hWm.alike hK, hDc, st_nN_warm hWm hN, st_see hts hK hX hP hD hSt hA hC hv hU hWm⟩⟩
  have hfix : CallFix p m c M.2.1 M.2.2.1 s args st_tb M.1.cls := ⟨C.1, C.2.1, C.2.2.2.1, C.2.2.2.2.1, hts⟩
  have hmet := st_met p1 hL hB H.size l
  have hrooms := st_rooms (NC' := NC') (NS' := NS') (M' := M') r1 r2 hd p5
  have hrun : va_Run p l e R s m args below meth c H locs nc ns NC' NS' (F0 m pc lsc (As.reverse ++ .ref x :: st)) st (st_Qc D wc H.size Q' (Value.ref x :: As).toArray) (va_A wc H.size) := by
    rcases l4 with ⟨rfl, l5⟩ | ⟨l5, l6⟩
    · have hgood : GoodIn st_tb (wsV M.1.cls idx M'.1.cls M'.1 (st_wd M')) := st_good M' h1 _ (by
        intro y hy
        simp only [List.mem_cons, List.not_mem_nil, or_false] at hy
        rcases hy with rfl | rfl | rfl | rfl
        · exact l1
        · exact l2
        · exact l5
        · exact l3)
      have hcw := cwV (R := R) n hts hgood rfl (rm := fz_rB d' NC' NS') (mc := NC') (ms := NS') rfl rfl ⟨rfl, p2, p3, p4⟩ hrooms
      exact va_runV hfix hmet hcw hpre rfl hn hh.1 rfl (lv_room hcap) (fz_dk hM hc) ⟨by omega, by omega⟩
    · have hgood := st_good M' h1 [] (fun _ z => by cases z)
      have cw : va_CU R s args M.1.cls Cn M'.1.cls idx M'.1 M'.1 M'.2.1 M'.2.2.1 M'.2.2.2.1 (st_wd M') (fz_rB d' NC' NS') NC' NS' n :=
        ⟨⟨rfl, rfl, hrooms.1, hrooms.2, pay_in hts hgood, List.mem_cons_self⟩, hts _ h1, hts _ l3, ⟨p2, p3⟩, fun sig h => by
          rw [h] at p4
          exact (Option.some.inj p4).symm, hts _ l1, hts _ l5, va_Decl.of (hts _ l2) (hts _ h1), (hts _ l6), hts _ l2⟩
      exact va_runU hfix hmet cw hpre rfl hn hh.1 rfl (lv_room hcap) (fz_dk hM hc) ⟨by omega, by omega⟩
  exact st_goon isC isR C hA hX hend hP hD hSt hh hC hR hnd hdis hrun k
theorem st_callO {Mx : fz_M} {d' NC' NS' : Nat} {M' : fz_M} {n idx x : Nat} {Cn : String} {As S : List Value} {wc wr : va_W} {Q' : va_W → Option Value → Prop} (isC isR : List Nat) (hM : fz_okK M = true) (hc : fz_at M.2.2.2.2 pc = some (.invokevirtual idx, 3, a, b, w))
    (l1 : Cond.methodLink M.1.cls idx Mx.1 ∈ st_tb) (l2 : Cond.sameMethod Mx.1.cls Mx.1.cls Mx.1.name Mx.1.desc ∈ st_tb) (l3 : Cond.instanceMethod Mx.1 ∈ st_tb) (l4 : Cond.selects Cn Mx.1 M'.1 ∈ st_tb) (l5 : Cond.instanceMethod M'.1 ∈ st_tb) (l6 : Cond.initialized M'.1.cls ∈ st_tb) (h0 : Cond.code Mx.1 Mx.2.1 Mx.2.2.1 Mx.2.2.2.1 ∈ st_tb) (hplx : st_ow Mx n = true) (h1 : Cond.code M'.1 M'.2.1 M'.2.2.1 M'.2.2.2.1 ∈ st_tb) (hpl : st_ow M' n = true) (hrv : st_rv X ws Cn x)
    (hn : As.length = n) (hS : S = As.reverse ++ .ref x :: st) (hcap : (st.map fun v => v.category).sum ≤ 8) (hL : (lg_sl (.ref x :: As)).length ≤ M'.2.2.1) (hd : d' + 1 ≤ d) (hnc : nc + NC' ≤ NC) (hns : ns + NS' ≤ NS)
    (hC : isC.map (fun i => ws[i]?) = wc.map some) (hR : isR.map (fun i => ws[i]?) = wr.map some) (hnd : va_nd isR = true) (hnc2 : va_nd isC = true) (hdis : ∀ i ∈ isR, i ∉ isC) (hv : st_vis D X X' ws isC)
    (hB : st_R D X' d' NC' NS' M' 0 (lv_args 0 (.ref x :: As)) [] wc 0 0 Q') (k : ∀ ws1 v, Q' ws1 v → st_R D X d NC NS M (pc + 3) ls (v.toList ++ st) (wr ++ ws1) (nc + NC') (ns + NS') Q) : st_R D X d NC NS M pc ls S ws nc ns Q := by
  subst hS
  obtain ⟨p1, p2, p3, p4, p5⟩ := st_ow_s hpl
  obtain ⟨x1, x2, x3, x4, x5⟩ := st_ow_s hplx
  intro p l e R s m args below meth c Qf A C hA hX hend H locs lsc hP hD hSt hh
  have hts := C.2.2.2.2.2.1
  have r1 := C.2.2.2.2.2.2.2.2.1
  have r2 := C.2.2.2.2.2.2.2.2.2.1
  have r3 := C.2.2.2.2.2.2.2.2.2.2.1
  have r4 := C.2.2.2.2.2.2.2.2.2.2.2.1
  have hK := C.2.2.2.2.2.2.2.2.2.2.2.2.1
  have hN := C.2.2.2.2.2.2.2.2.2.2.2.2.2
  have hPc := hP.sub isC (st_fm hC)
  have hDc := (hD.sub isC hnc2 hC).self (sz := H.size)
  have hrecv := st_recv hK hX hP hSt hrv
  have hpre : PreV s H Cn x (va_Pc (.ref x :: As) (st_Pc D X' wc H.size)) As := ⟨st_blind, hrecv, fun U hU hWm => ⟨rfl, by rw [hU], by rw [hU]; exact hPc, va_K.moved hWm.alike hK, hDc, st_nN_warm hWm hN, st_see hts hK hX hP hD hSt hA hC hv hU hWm⟩⟩
  have hfix : CallFix p m c M.2.1 M.2.2.1 s args st_tb M.1.cls := ⟨C.1, C.2.1, C.2.2.2.1, C.2.2.2.2.1, hts⟩
  have hmet := st_met p1 hL hB H.size l
  have hrooms := st_rooms (NC' := NC') (NS' := NS') (M' := M') r1 r2 hd p5
  have hrun : va_Run p l e R s m args below meth c H locs nc ns NC' NS' (F0 m pc lsc (As.reverse ++ .ref x :: st)) st (st_Qc D wc H.size Q' (Value.ref x :: As).toArray) (va_A wc H.size) := by
    have hgood := st_good M' h1 [Cond.methodLink M.1.cls idx Mx.1, Cond.sameMethod Mx.1.cls Mx.1.cls Mx.1.name Mx.1.desc, Cond.instanceMethod Mx.1, Cond.selects Cn Mx.1 M'.1, Cond.instanceMethod M'.1, Cond.initialized M'.1.cls] (by
      intro y hy
      simp only [List.mem_cons, List.not_mem_nil, or_false] at hy
      rcases hy with rfl | rfl | rfl | rfl | rfl | rfl
      · exact l1
      · exact l2
      · exact l3
      · exact l4
      · exact l5
      · exact l6)
    have cw := va_cwO (R := R) (own := M.1.cls) (C := Cn) (owner := Mx.1.cls) (index := idx) (x := Mx.1) (y := M'.1) n hts hgood rfl (rm := fz_rB d' NC' NS') (mc := NC') (ms := NS') rfl rfl h0 ⟨x2, x3, x4⟩ hrooms
    exact va_runU hfix hmet cw hpre rfl hn hh.1 rfl (lv_room hcap) (fz_dk hM hc) ⟨by omega, by omega⟩
  exact st_goon isC isR C hA hX hend hP hD hSt hh hC hR hnd hdis hrun k
/-- super.method(..) -/
theorem st_callSU {d' NC' NS' : Nat} {M' : fz_M} {n idx x : Nat} {Cn : String} {As S : List Value} {wc wr : va_W} {Q' : va_W → Option Value → Prop} {ci N q0 : Nat} {T : u_T} {fs : List Value} (isC isR : List Nat) (hM : fz_okK M = true) (hc : fz_at M.2.2.2.2 pc = some (.invokespecial idx, 3, a, b, w))
    (l1 : Cond.methodLink M.1.cls idx M'.1 ∈ st_tb) (l2 : Cond.sameMethod M'.1.cls M'.1.cls M'.1.name M'.1.desc ∈ st_tb) (l3 : Cond.superclass M.1.cls M'.1.cls ∈ st_tb) (l4 : Cond.instanceMethod M'.1 ∈ st_tb) (l5 : Cond.initialized M'.1.cls ∈ st_tb) (h1 : Cond.code M'.1 M'.2.1 M'.2.2.1 M'.2.2.2.1 ∈ st_tb) (hpl : st_ow M' n = true) (hno : M'.1.name ≠ "<init>") (he : ws[q0]? = some (x, .inr (ci, fs))) (hcl : fz_nth vwCl ci = some (Cn, T, N))
    (hn : As.length = n) (hS : S = As.reverse ++ .ref x :: st) (hcap : (st.map fun v => v.category).sum ≤ 8) (hL : (lg_sl (.ref x :: As)).length ≤ M'.2.2.1) (hd : d' + 1 ≤ d) (hnc : nc + NC' ≤ NC) (hns : ns + NS' ≤ NS)
    (hC : isC.map (fun i => ws[i]?) = wc.map some) (hR : isR.map (fun i => ws[i]?) = wr.map some) (hnd : va_nd isR = true) (hnc2 : va_nd isC = true) (hdis : ∀ i ∈ isR, i ∉ isC) (hv : st_vis D X X' ws isC)
    (hB : st_R D X' d' NC' NS' M' 0 (lv_args 0 (.ref x :: As)) [] wc 0 0 Q') (k : ∀ ws1 v, Q' ws1 v → st_R D X d NC NS M (pc + 3) ls (v.toList ++ st) (wr ++ ws1) (nc + NC') (ns + NS') Q) : st_R D X d NC NS M pc ls S ws nc ns Q := by
  subst hS
  obtain ⟨p1, p2, p3, p4, p5⟩ := st_ow_s hpl
  intro p l e R s m args below meth c Qf A C hA hX hend H locs lsc hP hD hSt hh
  have hts := C.2.2.2.2.2.1
  have r1 := C.2.2.2.2.2.2.2.2.1
  have r2 := C.2.2.2.2.2.2.2.2.2.1
  have r3 := C.2.2.2.2.2.2.2.2.2.2.1
  have r4 := C.2.2.2.2.2.2.2.2.2.2.2.1
  have hK := C.2.2.2.2.2.2.2.2.2.2.2.2.1
  have hN := C.2.2.2.2.2.2.2.2.2.2.2.2.2
  have hPc := hP.sub isC (st_fm hC)
  have hDc := (hD.sub isC hnc2 hC).self (sz := H.size)
  have hcl2 : vwCl[ci]? = some (Cn, T, N) := (fz_nth_eq _ _).symm.trans hcl
  have hrecv := va_recv hK hP hcl2 he
  have hgood := st_good M' h1 [Cond.methodLink M.1.cls idx M'.1, Cond.sameMethod M'.1.cls M'.1.cls M'.1.name M'.1.desc, Cond.superclass M.1.cls M'.1.cls, Cond.instanceMethod M'.1, Cond.initialized M'.1.cls] (by
    intro y hy
    simp only [List.mem_cons, List.not_mem_nil, or_false] at hy
    rcases hy with rfl | rfl | rfl | rfl | rfl
    · exact l1
    · exact l2
    · exact l3
    · exact l4
    · exact l5)
  have cw := va_cwSU (R := R) (own := M.1.cls) (index := idx) n hts hgood rfl (rm := fz_rB d' NC' NS') (mc := NC') (ms := NS') rfl rfl ⟨hno, p4⟩ (st_rooms r1 r2 hd p5)
  have hrun := va_runSU (C := Cn) (cells := nc) (slots := ns) (e := e) (below := below) (meth := meth) (locs := locs) (H := H) (b := x) (As := As) (rest := st) (g := F0 m pc lsc (As.reverse ++ .ref x :: st)) (hK.1 ci _ hcl2).2 ⟨C.1, C.2.1, C.2.2.2.1, C.2.2.2.2.1, hts⟩ (st_met p1 hL hB H.size l) cw
    ⟨st_blind, hrecv, fun U hU hWm => ⟨rfl, by rw [hU], by rw [hU]; exact hPc, va_K.moved hWm.alike hK, hDc, st_nN_warm hWm hN, st_see hts hK hX hP hD hSt hA hC hv hU hWm⟩⟩ rfl hn hh.1 rfl (lv_room hcap) (fz_dk hM hc) ⟨by omega, by omega⟩
  exact st_goon isC isR C hA hX hend hP hD hSt hh hC hR hnd hdis hrun k
end ST
