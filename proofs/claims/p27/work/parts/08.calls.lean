/-! ===== rules: calls ===== -/
def fz_en : Nat → List fz_V → List (Nat × fz_V)
  | _, [] => []
  | i, v :: vs => (i, v) :: fz_en (if fz_cat v = 2 then i + 2 else i + 1) vs
theorem fz_en_map (E : fz_E) : ∀ (vs : List fz_V) (i : Nat), lv_args i (vs.map (fz_cv (fz_ad E))) = (fz_en i vs).map (fun q => (q.1, fz_cv (fz_ad E) q.2))
  | [], i => rfl
  | v :: vs, i => by
    simp only [List.map_cons, lv_args, fz_en, fz_cat_cv]
    rw [fz_en_map E vs]
theorem fz_en_mem {vs : List fz_V} : ∀ {i : Nat} {q : Nat × fz_V}, q ∈ fz_en i vs → q.2 ∈ vs := by
  induction vs with
  | nil => intro i q h; cases h
  | cons v vs ih =>
    intro i q h
    rcases List.mem_cons.mp h with h | h
    · rw [h]; exact List.mem_cons_self
    · exact List.mem_cons_of_mem _ (ih h)
theorem fz_sl_len (E : fz_E) : ∀ (vs : List fz_V), (lg_sl (vs.map (fz_cv (fz_ad E)))).length = (vs.map fz_cat).sum
  | [] => rfl
  | v :: vs => by
    have ih := fz_sl_len E vs
    unfold lg_sl at ih ⊢
    simp only [List.map_cons, List.flatMap_cons, List.length_append, List.sum_cons, ih, fz_cat_cv]
    rcases v with x | x | x <;> simp [fz_cat]
/-- what is asked of a method that is called: nargs of the descriptor, an instance method or not -/
def fz_vM (M : fz_M) (n : Nat) (stat : Bool) : Prop :=
  plainName M.1.cls = true ∧ M.1.cls ≠ "java/lang/invoke/MethodHandle" ∧ M.1.cls ≠ "java/lang/invoke/VarHandle" ∧ (parseMethodDescriptor M.1.desc).map (fun q => q.parameters.length) = some n ∧
  Cond.code M.1 M.2.1 M.2.2.1 M.2.2.2.1 ∈ fz_tb ∧ Cond.initialized M.1.cls ∈ fz_tb ∧
  (if stat = true then Cond.static M.1 ∈ fz_tb else Cond.instanceMethod M.1 ∈ fz_tb ∧ Cond.selects M.1.cls M.1 M.1 ∈ fz_tb) ∧ M.2.2.1 ≤ 40
theorem fz_vS {M : fz_M} {n : Nat} (i1 i2 i3 : Nat) (h1 : (plainName M.1.cls && decide (M.1.cls ≠ "java/lang/invoke/MethodHandle") && decide (M.1.cls ≠ "java/lang/invoke/VarHandle") && decide ((parseMethodDescriptor M.1.desc).map (fun q => q.parameters.length) = some n) && decide (M.2.2.1 ≤ 40)) = true)
    (h2 : fz_wa i1 = some (Cond.code M.1 M.2.1 M.2.2.1 M.2.2.2.1)) (h3 : fz_wa i2 = some (Cond.initialized M.1.cls)) (h4 : fz_wa i3 = some (Cond.static M.1)) : fz_vM M n true := by
  simp only [Bool.and_eq_true, decide_eq_true_eq] at h1
  exact ⟨h1.1.1.1.1, h1.1.1.1.2, h1.1.1.2, h1.1.2, fz_has h2 rfl, fz_has h3 rfl, by rw [if_pos rfl]; exact fz_has h4 rfl, h1.2⟩
theorem fz_vI {M : fz_M} {n : Nat} (i1 i2 i3 i4 : Nat) (h1 : (plainName M.1.cls && decide (M.1.cls ≠ "java/lang/invoke/MethodHandle") && decide (M.1.cls ≠ "java/lang/invoke/VarHandle") && decide ((parseMethodDescriptor M.1.desc).map (fun q => q.parameters.length) = some n) && decide (M.2.2.1 ≤ 40)) = true)
    (h2 : fz_wa i1 = some (Cond.code M.1 M.2.1 M.2.2.1 M.2.2.2.1)) (h3 : fz_wa i2 = some (Cond.initialized M.1.cls)) (h4 : fz_wa i3 = some (Cond.instanceMethod M.1)) (h5 : fz_wa i4 = some (Cond.selects M.1.cls M.1 M.1)) : fz_vM M n false := by
  simp only [Bool.and_eq_true, decide_eq_true_eq] at h1
  exact ⟨h1.1.1.1.1, h1.1.1.1.2, h1.1.1.2, h1.1.2, fz_has h2 rfl, fz_has h3 rfl, by rw [if_neg (by decide)]; exact ⟨fz_has h4 rfl, fz_has h5 rfl⟩, h1.2⟩
def fz_pc (C : String) : Bool := plainName C && decide (C ≠ "java/lang/invoke/MethodHandle") && decide (C ≠ "java/lang/invoke/VarHandle")
def fz_pd (d : String) (n : Nat) : Bool := decide ((parseMethodDescriptor d).map (fun q => q.parameters.length) = some n)
theorem fz_vS2 {M : fz_M} {n : Nat} (i1 i2 i3 : Nat) (hc : fz_pc M.1.cls = true) (hd : fz_pd M.1.desc n = true) (hl : decide (M.2.2.1 ≤ 40) = true)
    (h2 : fz_wa i1 = some (Cond.code M.1 M.2.1 M.2.2.1 M.2.2.2.1)) (h3 : fz_wa i2 = some (Cond.initialized M.1.cls)) (h4 : fz_wa i3 = some (Cond.static M.1)) : fz_vM M n true :=
  fz_vS i1 i2 i3 (by show (fz_pc M.1.cls && fz_pd M.1.desc n && decide (M.2.2.1 ≤ 40)) = true; rw [hc, hd, hl]; rfl) h2 h3 h4
theorem fz_vI2 {M : fz_M} {n : Nat} (i1 i2 i3 i4 : Nat) (hc : fz_pc M.1.cls = true) (hd : fz_pd M.1.desc n = true) (hl : decide (M.2.2.1 ≤ 40) = true)
    (h2 : fz_wa i1 = some (Cond.code M.1 M.2.1 M.2.2.1 M.2.2.2.1)) (h3 : fz_wa i2 = some (Cond.initialized M.1.cls)) (h4 : fz_wa i3 = some (Cond.instanceMethod M.1)) (h5 : fz_wa i4 = some (Cond.selects M.1.cls M.1 M.1)) : fz_vM M n false :=
  fz_vI i1 i2 i3 i4 (by show (fz_pc M.1.cls && fz_pd M.1.desc n && decide (M.2.2.1 ≤ 40)) = true; rw [hc, hd, hl]; rfl) h2 h3 h4 h5
abbrev fz_wd (M : fz_M) : List Cond := Cond.code M.1 M.2.1 M.2.2.1 M.2.2.2.1 :: fz_tb
def fz_rm (d : Nat) : Room := { frames := d, cells := 0, slots := 0, locals := d * 64 }
def fz_Pc (E : fz_E) (h : fz_H) (U : State) : Prop := va_P (fz_dA E) vwCl (fz_ws E h) U.heap ∧ va_K (fz_dA E) vwCl (fz_ty E) U ∧ va_D (fz_A E) (fz_ws E h) ∧ fz_nh h ∧ (∀ id, 200 ≤ id → h id = fz_tc E id) ∧ fz_St E U
def fz_Qc (E : fz_E) (ret : Option FieldType) (Q : fz_H → Option fz_V → Prop) : Array Value → State → Outcome → State → Prop := fun _ st oc t =>
  (∃ (h : fz_H) (r : Option fz_V), oc = .returned (r.map (fz_cv (fz_ad E))) ∧ Q h r ∧ fz_rok ret r ∧ va_P (fz_dA E) vwCl (fz_ws E h) t.heap ∧ va_D (fz_A E) (fz_ws E h) ∧ fz_nh h ∧ (∀ id, 200 ≤ id → h id = fz_tc E id)) ∧ va_F (fz_A E) st t
theorem fz_St_moved {E : fz_E} {s U : State} {H : Heap} {locs : List Loc} (hvm : s.vm.Alike U.vm) (hS : va_S (fz_A E) s.heap H locs) (hU : U.heap = H) (h : fz_St E s) : fz_St E U := by
  have key : ∀ a : Nat, a < s.heap.size → ¬ fz_A E a → U.heap[a]? = s.heap[a]? := fun a h1 h2 => by rw [hU]; exact hS.2.1 a h1 h2
  exact ⟨fun id h1 h2 => ((h.1 id h1 h2).moved hvm).kept key, fun q hq => ((h.2 q hq).moved hvm).kept key⟩
theorem fz_blind {E : fz_E} {h : fz_H} {vs : List Value} : FrameBlind (va_Pc vs (fz_Pc E h)) := by
  intro a U g mk hp
  obtain ⟨h1, h2, h3, h4, h5, h6, h7⟩ := hp
  have hal : U.vm.Alike (U.calling g mk a).vm := Vm.Alike.refl U.vm
  refine ⟨h1, h2, va_K.moved hal h3, h4, h5, h6, ?_⟩
  exact ⟨fun id z1 z2 => (h7.1 id z1 z2).moved hal, fun q hq => (h7.2 q hq).moved hal⟩
theorem fz_met {d : Nat} {M : fz_M} {n : Nat} {stat : Bool} {vs : List fz_V} {h : fz_H} {Q : fz_H → Option fz_V → Prop} (hv : fz_vM M n stat) (hL : (vs.map fz_cat).sum ≤ M.2.2.1) (hn : ∀ v ∈ vs, fz_nv v) (hR : fz_R d M 0 (fz_en 0 vs) [] h Q) (E : fz_E) (l : Launch) :
    Met l M.1 (fz_wd M) (fz_rm d) (va_Pc (vs.map (fz_cv (fz_ad E))) (fz_Pc E h)) (fz_Qc E M.2.2.2.1 Q) 0 0 (fz_A E) := by
  obtain ⟨v1, v2, v3, v4, v5, v6, v7, v8⟩ := hv
  refine Met.ofW (cc := M.2.1) (maxL := M.2.2.1) (ret := M.2.2.2.1) v1 rfl ?_
  intro p e s m args below meth c s₁ B hml hpc
  obtain ⟨rfl, hP, hK, hD, hnh, hht, hSt⟩ := hpc
  have hts := atoms_spec (ws := fz_wd M) B.pre
  have hl := lv_entry (vs.map (fz_cv (fz_ad E))) (n := M.2.2.1) (by rw [fz_sl_len]; exact hL)
  rw [lg_entry_eq]
  generalize (lg_sl (vs.map (fz_cv (fz_ad E))) ++ List.replicate (M.2.2.1 - (lg_sl (vs.map (fz_cv (fz_ad E)))).length) Slot.unset).toArray = lsc at hl ⊢
  rw [fz_en_map] at hl
  have hlocks := B.notSynchronized
  have C : fz_Cx d M E p (headSpec (fz_wd M) (fz_rm d)).room s m ((vs.map (fz_cv (fz_ad E))).toArray) meth c 0 0 :=
    ⟨B.exec, B.bytes, B.returns, hml, findClass_of_methodNamed B.named, fun w hw => hts w (List.mem_cons_of_mem _ hw), hlocks, Nat.le_refl _, Nat.le_refl _, hK, Nat.le_refl _, Nat.le_refl _, hSt⟩
  refine hR E p l e _ s m _ below meth c 0 0 _ C ?_ s.heap [] lsc ⟨hP, hD, va_S.rf, hnh, hht⟩ (fun _ z => by cases z) (fun q hq => hn _ (fz_en_mem hq)) hl
  intro h' r pc' lsc' H locs hQ hrok hdr hW
  obtain ⟨w1, w2, w3, w4, w5⟩ := hW
  have fin : ∀ t : State, t.heap = H → s.WarmedH t.vm → fz_Qc E M.2.2.2.1 Q ((vs.map (fz_cv (fz_ad E))).toArray) s (.returned (r.map (fz_cv (fz_ad E)))) t := by
    intro t ht _
    exact ⟨⟨h', r, rfl, hQ, hrok, by rw [ht]; exact w1, w2, w4, w5⟩, w3.F ht⟩
  have hr : meth.sig.returnType = M.2.2.2.1 := B.returns
  rcases r with _ | x | x | x
  · have hret : M.2.2.2.1 = none := by
      cases hq : M.2.2.2.1 with
      | none => rfl
      | some ty => rw [hq] at hrok; cases ty <;> exact hrok.elim
    exact W.vret C.1 C.2.1 (by rw [hr]; exact hret) fin w3.2.2 hdr
  · cases hq : M.2.2.2.1 with
    | none => rw [hq] at hrok; exact hrok.elim
    | some ty =>
      rw [hq] at hrok
      have hnar : narrow ty (.int (Int32.ofInt x)) = .int (Int32.ofInt x) := by
        cases ty <;> first | exact hrok.elim | rfl | (rcases hrok with rfl | rfl <;> decide)
      rw [hq] at fin
      exact W.zret (ty := ty) C.1 C.2.1 (by rw [hr]; exact hq) hnar fin w3.2.2 hdr
  · have hret : M.2.2.2.1 = some .long := by
      cases hq : M.2.2.2.1 with
      | none => rw [hq] at hrok; exact hrok.elim
      | some ty => rw [hq] at hrok; cases ty <;> first | exact hrok.elim | rfl
    exact W.lret C.1 C.2.1 (by rw [hr]; exact hret) fin w3.2.2 hdr
  · exact hdr.elim
theorem fz_good (M : fz_M) (h : Cond.code M.1 M.2.1 M.2.2.1 M.2.2.2.1 ∈ fz_tb) (ws : List Cond) (hw : ∀ w ∈ ws, w ∈ fz_tb) : GoodIn fz_tb (ws ++ fz_wd M) := by
  intro w hw2
  have hm : w ∈ fz_tb := by
    rcases List.mem_append.mp hw2 with h1 | h1
    · exact hw w h1
    · rcases List.mem_cons.mp h1 with h2 | h2
      · rw [h2]; exact h
      · exact h2
  exact ⟨hm, good_of_word (fz_tb_all w hm)⟩
section FZ
variable {d : Nat} {M : fz_M} {pc a b w : Nat} {ls ls' : List (Nat × fz_V)} {st : List fz_V} {h : fz_H} {Q : fz_H → Option fz_V → Prop}
theorem fz_goon {E : fz_E} {p : Program} {l : Launch} {e : Env} {R : Room} {s : State} {m : MethodId} {args : Array Value} {below : List Frame} {meth : Method} {c : Code} {cells slots : Nat} {Qf : State → Prop} {H : Heap} {locs : List Loc} {lsc : Array Slot} {S : List Value} {ret : Option FieldType} {Q' : fz_H → Option fz_V → Prop} {aa : Array Value}
    (C : fz_Cx d M E p R s m args meth c cells slots)
    (hend : ∀ (h' : fz_H) (r : Option fz_V) (pc' : Nat) (lsc : Array Slot) (H : Heap) (locs : List Loc), Q h' r → fz_rok M.2.2.2.1 r → fz_dr M.2.1 pc' r → fz_Wd E h' s H locs → W p l e R s m args below meth c H locs cells slots Qf (F0 m pc' lsc (r.toList.map (fz_cv (fz_ad E)))))
    (hrun : va_Run p l e R s m args below meth c H locs cells slots 0 0 (F0 m pc lsc S) (st.map (fz_cv (fz_ad E))) (fz_Qc E ret Q' aa) (fz_A E))
    (hS : va_S (fz_A E) s.heap H locs) (hs : ∀ v ∈ st, fz_nv v) (hl : ∀ q ∈ ls, fz_nv q.2) (hh : lv_has lsc M.2.2.1 (ls.map (fun q => (q.1, fz_cv (fz_ad E) q.2))))
    (k : ∀ h' r, Q' h' r → fz_rok ret r → fz_R d M (pc + 3) ls (r.toList ++ st) h' Q) : W p l e R s m args below meth c H locs cells slots Qf (F0 m pc lsc S) := by
  intro T hT X
  obtain ⟨v, st₀, t, T', L, h0, X', hL, e1, e2, ⟨⟨h', r, hv, hq, hrok, hP, hD, hnh, hht⟩, hz, hk⟩, st1⟩ := hrun T hT X
  cases hv
  rw [h0] at hz hk
  have hS' : va_S (fz_A E) s.heap T'.heap (locs ++ L) :=
    ⟨Nat.le_trans hS.1 (by rw [e1]; exact hz), fun q h1 h2 => by rw [e1, hk q (Nat.lt_of_lt_of_le h1 hS.1) h2]; exact hS.2.1 q h1 h2, fun q hq => by
      rcases List.mem_append.mp hq with h1 | h1
      · exact hS.2.2 q h1
      · exact hL q h1⟩
  have hnr : ∀ v ∈ r.toList ++ st, fz_nv v := by
    intro v hv
    rcases List.mem_append.mp hv with h1 | h1
    · cases r with
      | none => cases h1
      | some x =>
        have : v = x := by simpa using h1
        subst this
        cases ret with
        | none => exact hrok.elim
        | some ty =>
          rcases v with y | y | y
          · cases ty <;> first | exact hrok.elim | exact hrok | (rcases hrok with rfl | rfl <;> exact ⟨by decide, by decide⟩)
          · cases ty <;> first | exact hrok.elim | exact hrok
          · trivial
    · exact hs v h1
  have kk := k h' r hq hrok E p l e R s m args below meth c cells slots Qf C hend T'.heap (locs ++ L) lsc ⟨by rw [e1]; exact hP, hD, hS', hnh, hht⟩ hnr hl hh
  obtain ⟨t2, a1, b1⟩ := kk T' rfl X'
  refine ⟨t2, st1 t2 ?_, b1⟩
  have e3 : (Option.map (fz_cv (fz_ad E)) r).toList ++ st.map (fz_cv (fz_ad E)) = (r.toList ++ st).map (fz_cv (fz_ad E)) := by
    cases r <;> simp
  show Steps p.tables e below (T'.setTop { method := m, pc := pc + 3, locals := lsc, stack := (Option.map (fz_cv (fz_ad E)) r).toList ++ st.map (fz_cv (fz_ad E)), locked := none }) t2
  rw [e3]
  exact a1
theorem fz_callV {d' : Nat} {M' : fz_M} {n o ci nf idx : Nat} {As S : List fz_V} {Q' : fz_H → Option fz_V → Prop} (hM : fz_okM M = true) (hc : fz_at M.2.2.2.2 pc = some (.invokevirtual idx, 3, a, b, w)) (hb2 : fz_nth fz_ms b = some M'.1) (hv : fz_vM M' n false)
    (ho : fz_sh o = (0, ci, nf)) (hci : (fz_nth vwCl ci).map (fun q => q.1) = some M'.1.cls) (hn : As.length = n) (hst : S = As.reverse ++ fz_r o :: st) (hL : ((fz_r o :: As).map fz_cat).sum ≤ M'.2.2.1) (hcap : (st.map fz_cat).sum ≤ 8) (hd : d' + 1 ≤ d)
    (hR : fz_R d' M' 0 (fz_en 0 (fz_r o :: As)) [] h Q') (k : ∀ h' r, Q' h' r → fz_rok M'.2.2.2.1 r → fz_R d M (pc + 3) ls (r.toList ++ st) h' Q) : fz_R d M pc ls S h Q := by
  subst hst
  intro E p l e R s m args below meth c cells slots Qf C hend H locs lsc hW hs hl hh
  have hq := List.all_eq_true.mp hM _ (fz_at_mem hc)
  unfold fz_okI at hq
  rw [Bool.and_eq_true] at hq
  have hq2 := hq.2
  dsimp only at hq2
  rw [hb2] at hq2
  have hml := fz_isM_spec hq2
  have hvv := hv
  obtain ⟨v1, v2, v3, v4, v5, v6, v79, v8⟩ := hvv
  rw [if_neg (by decide)] at v79
  obtain ⟨v7, v9⟩ := v79
  have hsA : ∀ v ∈ fz_r o :: As, fz_nv v := by
    intro v hv
    refine hs v ?_
    rcases List.mem_cons.mp hv with h1 | h1
    · rw [h1]; simp
    · simp [h1]
  have hsR : ∀ v ∈ st, fz_nv v := fun v hv => hs v (by simp [hv])
  have hMet := fz_met (d := d') (M := M') hv hL hsA hR E l
  have hts := C.2.2.2.2.2.1
  have hK := C.2.2.2.2.2.2.2.2.2.1
  have hlt : o < fz_N := fz_sh_lt ho (show (0 : Nat) ≠ 9 by decide)
  have hat := fz_ws_at E h hlt
  rw [show fz_ce E h o = .inr (ci, (List.range nf).map (fz_fv (fz_ad E) h o)) by unfold fz_ce; rw [ho, if_pos rfl]] at hat
  obtain ⟨z, hz1, hz2⟩ := Option.map_eq_some_iff.mp hci
  rw [fz_nth_eq] at hz1
  have hrecv := va_recv hK hW.1 hz1 hat
  rw [hz2] at hrecv
  have hgood : GoodIn fz_tb (wsV M.1.cls idx M'.1.cls M'.1 (fz_wd M')) := fz_good M' v5 _ (by
    intro x hx
    simp only [List.mem_cons, List.not_mem_nil, or_false] at hx
    rcases hx with rfl | rfl | rfl | rfl
    · exact hml
    · exact v7
    · exact v9
    · exact v6)
  have hroom : (fz_rm d').frames + 1 ≤ R.frames ∧ 8 + (M'.2.2.1 + 11) + (fz_rm d').locals ≤ R.locals := by
    have := C.2.2.2.2.2.2.2.1
    have := C.2.2.2.2.2.2.2.2.1
    constructor
    · show d' + 1 ≤ R.frames; omega
    · show 8 + (M'.2.2.1 + 11) + d' * 64 ≤ R.locals
      omega
  have hcw := cwV (R := R) n hts hgood rfl (rm := fz_rm d') (mc := 0) (ms := 0) rfl rfl ⟨rfl, v2, v3, v4⟩ hroom
  have e0 : (As.reverse ++ fz_r o :: st).map (fz_cv (fz_ad E)) = (As.map (fz_cv (fz_ad E))).reverse ++ Value.ref (fz_ad E o) :: st.map (fz_cv (fz_ad E)) := by
    simp [fz_cv]
  rw [e0]
  have hrun := va_runV (cells := cells) (slots := slots) (e := e) (below := below) (meth := meth) (locs := locs) (H := H) (b := fz_ad E o) (As := As.map (fz_cv (fz_ad E))) (rest := st.map (fz_cv (fz_ad E))) (g := F0 m pc lsc ((As.map (fz_cv (fz_ad E))).reverse ++ Value.ref (fz_ad E o) :: st.map (fz_cv (fz_ad E)))) ⟨C.1, C.2.1, C.2.2.2.1, C.2.2.2.2.1, hts⟩ hMet hcw
    ⟨fz_blind, hrecv, fun U hU hWm => ⟨by simp [fz_cv], by rw [hU]; exact hW.1, va_K.moved hWm.alike hK, hW.2.1, hW.2.2.2.1, hW.2.2.2.2, fz_St_moved hWm.alike hW.2.2.1 hU C.2.2.2.2.2.2.2.2.2.2.2.2⟩⟩ rfl (by rw [List.length_map]; exact hn) hh.1 rfl
    (lv_room (by rw [List.map_map, show ((fun v => Value.category v) ∘ fz_cv (fz_ad E)) = fz_cat from funext (fun v => fz_cat_cv _ v)]; exact hcap)) (fz_dec hM hc) ⟨C.2.2.2.2.2.2.2.2.2.2.1, C.2.2.2.2.2.2.2.2.2.2.2.1⟩
  exact fz_goon C hend hrun hW.2.2.1 hsR hl hh k
theorem fz_callS {d' : Nat} {M' : fz_M} {n idx : Nat} {As S : List fz_V} {Q' : fz_H → Option fz_V → Prop} (hM : fz_okM M = true) (hc : fz_at M.2.2.2.2 pc = some (.invokestatic idx, 3, a, b, w)) (hb2 : fz_nth fz_ms b = some M'.1) (hv : fz_vM M' n true)
    (hn : As.length = n) (hst : S = As.reverse ++ st) (hL : (As.map fz_cat).sum ≤ M'.2.2.1) (hcap : (st.map fz_cat).sum ≤ 8) (hd : d' + 1 ≤ d)
    (hR : fz_R d' M' 0 (fz_en 0 As) [] h Q') (k : ∀ h' r, Q' h' r → fz_rok M'.2.2.2.1 r → fz_R d M (pc + 3) ls (r.toList ++ st) h' Q) : fz_R d M pc ls S h Q := by
  subst hst
  intro E p l e R s m args below meth c cells slots Qf C hend H locs lsc hW hs hl hh
  have hq := List.all_eq_true.mp hM _ (fz_at_mem hc)
  unfold fz_okI at hq
  rw [Bool.and_eq_true] at hq
  have hq2 := hq.2
  dsimp only at hq2
  rw [hb2] at hq2
  have hml := fz_isM_spec hq2
  have hvv := hv
  obtain ⟨v1, v2, v3, v4, v5, v6, v7, v8⟩ := hvv
  rw [if_pos rfl] at v7
  have hsA : ∀ v ∈ As, fz_nv v := fun v hv => hs v (by simp [hv])
  have hsR : ∀ v ∈ st, fz_nv v := fun v hv => hs v (by simp [hv])
  have hMet := fz_met (d := d') (M := M') hv hL hsA hR E l
  have hts := C.2.2.2.2.2.1
  have hK := C.2.2.2.2.2.2.2.2.2.1
  have hgood : GoodIn fz_tb (va_wsS M.1.cls idx M'.1 (fz_wd M')) := fz_good M' v5 _ (by
    intro x hx
    simp only [List.mem_cons, List.not_mem_nil, or_false] at hx
    rcases hx with rfl | rfl | rfl
    · exact hml
    · exact v7
    · exact v6)
  have hroom : (fz_rm d').frames + 1 ≤ R.frames ∧ 8 + (M'.2.2.1 + 11) + (fz_rm d').locals ≤ R.locals := by
    have := C.2.2.2.2.2.2.2.1
    have := C.2.2.2.2.2.2.2.2.1
    constructor
    · show d' + 1 ≤ R.frames; omega
    · show 8 + (M'.2.2.1 + 11) + d' * 64 ≤ R.locals
      omega
  have hcw := va_cwS (R := R) n hts hgood rfl (rm := fz_rm d') (mc := 0) (ms := 0) rfl rfl ⟨v2, v3, v4⟩ hroom
  have e0 : (As.reverse ++ st).map (fz_cv (fz_ad E)) = (As.map (fz_cv (fz_ad E))).reverse ++ st.map (fz_cv (fz_ad E)) := by
    simp
  rw [e0]
  have hrun := va_runS (cells := cells) (slots := slots) (e := e) (below := below) (meth := meth) (locs := locs) (H := H) (As := As.map (fz_cv (fz_ad E))) (rest := st.map (fz_cv (fz_ad E))) (g := F0 m pc lsc ((As.map (fz_cv (fz_ad E))).reverse ++ st.map (fz_cv (fz_ad E)))) ⟨C.1, C.2.1, C.2.2.2.1, C.2.2.2.2.1, hts⟩ hMet hcw
    ⟨fz_blind, fun U hU hWm => ⟨rfl, by rw [hU]; exact hW.1, va_K.moved hWm.alike hK, hW.2.1, hW.2.2.2.1, hW.2.2.2.2, fz_St_moved hWm.alike hW.2.2.1 hU C.2.2.2.2.2.2.2.2.2.2.2.2⟩⟩ rfl (by rw [List.length_map]; exact hn) hh.1 rfl
    (lv_room (by rw [List.map_map, show ((fun v => Value.category v) ∘ fz_cv (fz_ad E)) = fz_cat from funext (fun v => fz_cat_cv _ v)]; exact hcap)) (fz_dec hM hc) ⟨C.2.2.2.2.2.2.2.2.2.2.1, C.2.2.2.2.2.2.2.2.2.2.2.1⟩
  exact fz_goon C hend hrun hW.2.2.1 hsR hl hh k
end FZ
