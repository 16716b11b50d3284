/-! ===== from texts to numbers in the midst of a method ===== -/
def sn_s (s T : State) : State := { s with heap := T.heap, slotsUsed := T.slotsUsed, vm := T.vm }
/-- a state in which a method stands, seen as the one in which it began -/
theorem sn_base {p : Program} {l : Launch} {e : Env} {R : Room} {s : State} {m : MethodId} {args : Array Value} {below : List Frame} {meth : Method} {c : Code} {T : State} {locs : List Loc} {nc ns d : Nat} (Y : Stand p l e R s m args below meth c T locs nc ns) (hd : d ≤ R.frames) (hl : d * 64 ≤ R.locals) (hc : nc ≤ R.cells) (hn : ns ≤ R.slots) :
    Stand p l e (fz_rm d) (sn_s s T) m args below meth c T [] 0 0 ∧ ∀ (T2 : State) (l2 : List Loc), Stand p l e (fz_rm d) (sn_s s T) m args below meth c T2 l2 0 0 → Stand p l e R s m args below meth c T2 (locs ++ l2) nc ns := by
  obtain ⟨t, ht, -⟩ := State.frames_cons Y.frames
  have hcur := State.cur_lt_of_frames Y.frames
  have hT : T = (sn_s s T).setFrames T.frames := by
    have h1 := congrArg (fun q : State => q.setVm T.vm) Y.same.1
    exact h1
  have hF : ∀ f, T.setFrames f = (sn_s s T).setFrames f := fun f =>
    (congrArg (fun q : State => q.setFrames f) hT).trans (State.setFrames_setFrames _ _ _)
  have hm : ∀ x, T.vm.method? x = s.vm.method? x := fun x => by rw [Y.warmed.alike.method?]
  have hI : (sn_s s T).localsInUse = s.localsInUse := (State.localsInUse_invoking (s := sn_s s T) Y.frames Y.method' Y.code).trans (State.localsInUse_invoking Y.frames Y.method Y.code).symm
  have hroom : (sn_s s T).hasRoom e.platform (fz_rm d) = true := by
    have g1 := State.hasRoom_stack Y.room
    have g2 := State.hasRoom_plain Y.room
    have g3 := State.hasRoom_real Y.room
    have g4 := State.hasRoom_heap Y.room
    have g5 := Y.heapSize
    have g6 := Y.used
    refine State.hasRoom_of g2 ?_ ?_ ?_ ?_ Y.book ?_
    · show s.frames.length + d ≤ _
      omega
    · rw [hI]
      show s.localsInUse + d * 64 ≤ _
      omega
    · show T.heap.size + 0 ≤ _
      omega
    · show T.slotsUsed + 0 ≤ _
      omega
    · rw [hI]
      show s.localsInUse + d * 64 + stackMargin ≤ _
      omega
  have hhears : (sn_s s T).hears m below = true := by
    have hh := Y.hears
    have hv : (sn_s s T).vm = T.vm := rfl
    rcases below with _ | ⟨y, r⟩
    · simp only [State.hears, hv, hm] at hh ⊢
      exact hh
    · cases y <;> first | rfl | (simp only [State.hears, State.code?_eq, hv, hm] at hh ⊢; exact hh)
  have hsame : (sn_s s T).sameButNew (T.setVm (sn_s s T).vm) [] 0 0 := by
    have k := (State.sameButNew.refl (sn_s s T) ht).setFrames T.frames hcur
    rw [← hT] at k
    exact k
  refine ⟨⟨Y.admits, Y.cas, Y.clock, Y.frames, hroom, hhears, Y.method', Y.code, Y.here, Y.tail, State.WarmedH.refl (sn_s s T), Y.limits, Y.bytes, hsame⟩, fun T2 l2 Y2 => ?_⟩
  exact Y.moved (T₂ := T2) (l₂ := l2) (c₂ := 0) (n₂ := 0) Y2.here Y2.tail (Y2.limits.trans Y.limits.symm) (Y2.bytes.trans Y.bytes.symm) Y2.warmed ⟨by rw [hF]; exact Y2.same.1, Y2.same.2⟩
section ST
variable {D : st_D} {X X' : st_Xt} {d NC NS : Nat} {M : fz_M} {pc a b w : Nat} {ls ls' : List (Nat × Value)} {st st' : List Value} {ws ws' : va_W} {nc ns : Nat} {Q : va_W → Option Value → Prop}
theorem sn_newI {n : Int} {N : Nat} (hM : fz_okK M = true) (hc : fz_at M.2.2.2.2 pc = some (.newarray .int, 2, a, b, w)) (hn : 0 ≤ n ∧ n < 100000) (hN : n.toNat = N) (hn1 : nc + 1 ≤ NC) (hn2 : ns + N ≤ NS)
    (kk : ∀ q : Nat, st_R D X d NC NS M (pc + 2) ls (.ref q :: st) (ws ++ [(q, .inl (D.2.1, N, .inl (fun _ => Int32.ofInt 0)))]) (nc + 1) (ns + N) Q) : st_R D X d NC NS M pc ls (.int (Int32.ofInt n) :: st) ws nc ns Q := by
  intro p l e R s m args below meth c Qf A C hA hX hend H locs lsc hP hD hS hh
  have hts := C.2.2.2.2.2.1
  have r3 := C.2.2.2.2.2.2.2.2.2.2.1
  have r4 := C.2.2.2.2.2.2.2.2.2.2.2.1
  have hK := C.2.2.2.2.2.2.2.2.2.2.2.2.1
  have hx1 : -2147483648 ≤ n ∧ n < 2147483648 := ⟨by omega, by omega⟩
  refine va_newa (atype := .int) (a0 := (N, .inl (fun _ => Int32.ofInt 0))) (N' := N) (ty := .int) C.1 C.2.1 (hts _ st_tI) rfl hK hP hD hS hA (fun cA => rfl) (fun z => by rw [Int32.lt_iff_toInt_lt, fz_t32 hx1] at z; exact absurd z (by show ¬ n < 0; omega)) (by rw [fz_ix hn.1 hx1.2]; exact hN) (by show N * 4 ≤ 536870912; omega) (by omega) (by omega) (fz_dk hM hc) (fun q cA H1 hK1 hP1 hD1 hS1 => ?_)
  have e1 : s.vm.findClass ("[" ++ FieldType.int.toString) = some cA := (hK1.2 3 (cA, .int) rfl).2
  have e2 : s.vm.findClass ("[" ++ FieldType.int.toString) = some D.2.1 := (hK.2 0 (D.2.1, .int) rfl).2
  have e3 : cA = D.2.1 := Option.some.inj (e1.symm.trans e2)
  subst e3
  exact kk q p l e R s m args below meth c Qf A C hA hX hend H1 locs lsc hP1 hD1 hS1 hh
/-- the rest of a method, told over numbers -/
theorem sn_toF {E : fz_E} {h : fz_H} {Mf : fz_M} {d2 : Nat} {lf : List (Nat × fz_V)} {sf : List fz_V} {Q2 : fz_H → Option fz_V → Prop} (isC : List Nat) (hM : Mf.1 = M.1 ∧ Mf.2.1 = M.2.1 ∧ Mf.2.2.1 = M.2.2.1) (hM4 : M.2.2.2.1 = some .boolean) (hM5 : Mf.2.2.2.1 = some .boolean) (hD0 : fz_dA E = D.1 ∧ E.2.2.1 = D.2.1 ∧ E.2.2.2.1 = D.2.2.1)
    (hC : isC.map (fun i => ws[i]?) = (fz_ws E h).map some) (hnd : va_nd isC = true) (hv : st_vis D X X' ws isC) (hEX : st_EX E X') (hnh : fz_nh h) (htc : ∀ id, 200 ≤ id → h id = fz_tc E id)
    (hst : st = sf.map (fz_cv (fz_ad E))) (hsn : ∀ v ∈ sf, fz_nv v) (hls : ∀ lsc, lv_has lsc M.2.2.1 ls → lv_has lsc M.2.2.1 (lf.map (fun q => (q.1, fz_cv (fz_ad E) q.2)))) (hln : ∀ q ∈ lf, fz_nv q.2) (hd : d2 ≤ d) (hnc : nc ≤ NC) (hns : ns ≤ NS)
    (hR : fz_R d2 Mf pc lf sf h Q2) (hQ : ∀ h' x, Q2 h' (some (fz_i x)) → Q (fz_ws E h') (some (.int (Int32.ofInt x)))) : st_R D X d NC NS M pc ls st ws nc ns Q := by
  subst hst
  obtain ⟨d1, d3, d4⟩ := hD0
  obtain ⟨m1, m2, m3⟩ := hM
  intro p l e R s m args below meth c Qf A C hA hX hend H locs lsc hP hD hS hh
  have hts := C.2.2.2.2.2.1
  have hlk := C.2.2.2.2.2.2.1
  have r1 := C.2.2.2.2.2.2.2.2.1
  have r2 := C.2.2.2.2.2.2.2.2.2.1
  have r3 := C.2.2.2.2.2.2.2.2.2.2.1
  have r4 := C.2.2.2.2.2.2.2.2.2.2.2.1
  have hK := C.2.2.2.2.2.2.2.2.2.2.2.2.1
  have hN := C.2.2.2.2.2.2.2.2.2.2.2.2.2
  intro T hT Y
  obtain ⟨Y1, back⟩ := sn_base (d := d2) Y (by omega) (by omega) (by omega) (by omega)
  have hW : s.WarmedH (sn_s s T).vm := Y.warmed
  have hs9 : (sn_s s T).heap = H := hT
  generalize sn_s s T = s' at Y1 back hW hs9
  have hPc := hP.sub isC (st_fm hC)
  have hDc := hD.sub isC hnd hC
  have hAE : ∀ q, fz_A E q → A q := by
    rintro q ⟨i, hi, rfl⟩
    exact hDc.2 i _ (fz_ws_at E h hi)
  have hDE : va_D (fz_A E) (fz_ws E h) := ⟨hDc.1, fun k q hk => by
    unfold fz_ws at hk
    rw [List.getElem?_map] at hk
    obtain ⟨i, hi, rfl⟩ := Option.map_eq_some_iff.mp hk
    exact ⟨i, List.mem_range.mp (List.mem_of_getElem? hi), rfl⟩⟩
  have hst9 := st_see (U := s') hts hK hX hP hD hS hA hC hv hs9 hW
  have hSt : fz_St E s' := st_toSt hst9 (fun q hq => by
    obtain ⟨i, hi, rfl⟩ := hq
    exact Or.inl ⟨i, _, fz_ws_at E h hi⟩) hEX (st_nN_warm hW hN)
  have hK2 : va_K (fz_dA E) vwCl (fz_ty E) s' := by
    refine va_K.moved hW.alike ?_
    rw [d1, show fz_ty E = [(D.2.1, .int), (D.2.2.1, .long)] by show [(E.2.2.1, FieldType.int), (E.2.2.2.1, FieldType.long)] = _; rw [d3, d4]]
    exact hK.sub [0, 1] rfl
  have C9 : fz_Cx d2 Mf E p (fz_rm d2) s' m args meth c 0 0 := ⟨C.1, by rw [m2]; exact C.2.1, by rw [hM5, ← hM4]; exact C.2.2.1, by rw [m3]; exact C.2.2.2.1, by rw [m1, hW.alike.findClass]; exact C.2.2.2.2.1, fun w hw => word_at hW (good_of_word (fz_tb_all w hw)) (hts w hw), hlk, Nat.le_refl _, Nat.le_refl _, hK2, Nat.le_refl _, Nat.le_refl _, hSt⟩
  have key := hR E p l e (fz_rm d2) s' m args below meth c 0 0 (fun t => ∃ (T2 : State) (l2 : List Loc) (h' : fz_H) (r : Option fz_V) (pc' : Nat) (lsc' : Array Slot), t = T2.setTop (F0 m pc' lsc' (r.toList.map (fz_cv (fz_ad E)))) ∧ Stand p l e (fz_rm d2) s' m args below meth c T2 l2 0 0 ∧ Q2 h' r ∧ fz_rok Mf.2.2.2.1 r ∧ fz_dr Mf.2.1 pc' r ∧ fz_Wd E h' s' T2.heap l2) C9 (fun h' r pc' lsc' H2 l2 q1 q2 q3 q4 T2 hT2 Y2 => ⟨_, Steps.refl _, T2, l2, h', r, pc', lsc', rfl, Y2, q1, q2, q3, by rw [hT2]; exact q4⟩) T.heap [] lsc ⟨by rw [hT, d1]; exact hPc, hDE, by rw [hs9, hT]; exact va_S.rf, hnh, htc⟩ hsn hln (by rw [m3]; exact hls lsc hh) T rfl Y1
  obtain ⟨t, a1, T2, l2, h', r, pc', lsc', rfl, Y2, q1, q2, q3, P1, P2, P3, P4, P5⟩ := key
  have Y3 := back T2 l2 Y2
  have hS' : va_S A s.heap T2.heap (locs ++ l2) := ⟨Nat.le_trans hS.1 (by rw [← hs9]; exact P3.1), fun q z1 z2 => by
    rw [P3.2.1 q (by rw [hs9]; exact Nat.lt_of_lt_of_le z1 hS.1) (fun z => z2 (hAE q z)), hs9]
    exact hS.2.1 q z1 z2, fun q hq => by
    rcases List.mem_append.mp hq with z1 | z1
    · exact hS.2.2 q z1
    · exact hAE _ (P3.2.2 q z1)⟩
  have hDA : va_D A (fz_ws E h') := ⟨P2.1, fun k q hk => hAE _ (P2.2 k q hk)⟩
  rw [hM5] at q2
  obtain ⟨x, rfl⟩ : ∃ x, r = some (fz_i x) := by
    rcases r with _ | x | x | x
    · exact (show False from q2).elim
    · exact ⟨x, rfl⟩
    · exact (show False from q2).elim
    · exact (show False from q2).elim
  have hx : x = 0 ∨ x = 1 := q2
  have kk := hend (fz_ws E h') (some (.int (Int32.ofInt x))) pc' lsc' T2.heap (locs ++ l2) (hQ h' x q1) ⟨by rw [← m2]; exact q3, .boolean, hM4, st_nr_boolean hx⟩ (by rw [← d1]; exact P1) hDA hS'
  obtain ⟨t2, b1, b2⟩ := W.widen hnc hns kk T2 rfl Y3
  exact ⟨t2, Steps.trans a1 b1, b2⟩
end ST
