/-! ===== the start ===== -/
/-! THE CLAIM OUT OF ONE WALK OF THE LAW'S BODY. Your part is whole_start (and what it stands on); all else here is the same for every law, but numbers. -/
def R_law : String := "FameAheadLaw"
def lw_P (b : Addr) (xs : List Int32) (args : Array Value) (s : State) : Prop := args = #[.ref b] ∧ s.IntsAt b xs ∧ xs.length ≤ 260 ∧ (Jvm.Cond.and given_1 narrow_1).before args s = true
def lw_Q (_ : Array Value) (s : State) (o : Outcome) (t : State) : Prop := o = .returned (some (.int 1)) ∧ Framed s o t [] 600000 7302250
def lw_Z (below : List Frame) (a : Array Value) (s : State) : State → Prop := fun t => ∃ o, t.status = .running ∧ Ended t below o ∧ lw_Q a s o t
/-- the law's own end, with 1 on the stack, nothing written that was there before, its room as the claim has it -/
theorem lw_ret {p : Program} {l : Launch} {e : Env} {s : State} {m : MethodId} {below : List Frame} {meth : Method} {c : Code} {b : Nat} (hx : p.tables.exec = Jvm.exec) (hb : c.code = code) (hr : meth.sig.returnType = ret) (hlocks : meth.locks = false) {pc : Nat} {H : Heap} {ls : Array Slot} (hdg : decode code pc = .ok (.ireturn, 1)) : W p l e room_1 s m #[Value.ref b] below meth c H [] 600000 7302250 (lw_Z below #[Value.ref b] s) (F0 m pc ls [.int 1]) := by
  intro T hT X
  obtain ⟨fs, hret, hrun, hended, hW, hframe⟩ := X.leave (v := some (.int 1)) (hlocks := hlocks) (fun h => by rw [hr] at h; cases h)
  have hmeth' : T.vm.method? m = some meth := X.method'
  refine ⟨T.setFrames fs, ?_, .returned (some (.int 1)), hrun, hended, rfl, ⟨_, rfl⟩, hW, hframe⟩
  jvm_step X.here [X.here.top, hx, hb, hdg, hmeth', hr, ret, narrow_b1]
  (try refine ⟨rfl, ?_⟩); (try refine ⟨rfl, ?_⟩)
  first | (intro acts; rw [hret _ acts rfl rfl rfl]) | rw [hret _ _ rfl rfl rfl]
  exact Steps.refl _
/-- what holds at the law's entry: the machine, the code, the tables' words (any of lw_tbl by 'hts w (by decide +kernel)'), the script of L ints xs at the cell b, what the Statement gives of the start (any of its parts by flat_of_before) -/
def lw_At (p : Program) (s : State) (m : MethodId) (meth : Method) (c : Code) (b L : Nat) (xs : Nat → Int32) : Prop :=
  p.tables.exec = Jvm.exec ∧ c.code = code ∧ meth.sig.returnType = ret ∧ c.maxLocals = 16 ∧ s.vm.findClass R_law = some m.cls ∧ (∀ w ∈ lw_tbl, w.before #[Value.ref b] s = true) ∧ va_X b L xs s s.heap ∧ b < s.heap.size ∧ meth.locks = false ∧ (Jvm.Cond.and given_1 narrow_1).before #[Value.ref b] s = true
def sn_fl : List Cond := flatC (Jvm.Cond.and given_1 narrow_1)
theorem sn_at {n : Nat} {P : Nat → Nat} {c : Nat → Cond} (h : (List.range n).all (fun i => decide (sn_fl[P i]? = some (c i))) = true) : ∀ i, i < n → c i ∈ sn_fl := fun i hi => List.mem_of_getElem? (of_decide_eq_true (List.all_eq_true.mp h i (List.mem_range.mpr hi)))
theorem sn_at2 {n : Nat} {m : Nat → Nat} {P : Nat → Nat → Nat} {c : Nat → Nat → Cond} (h : (List.range n).all (fun i => (List.range (m i)).all (fun j => decide (sn_fl[P i j]? = some (c i j)))) = true) : ∀ i, i < n → ∀ j, j < m i → c i j ∈ sn_fl := fun i hi j hj => List.mem_of_getElem? (of_decide_eq_true (List.all_eq_true.mp (List.all_eq_true.mp h i (List.mem_range.mpr hi)) j (List.mem_range.mpr hj)))
theorem sn_c {k : Nat} {c : Cond} (h : decide (sn_fl[k]? = some c) = true) : c ∈ sn_fl := List.mem_of_getElem? (of_decide_eq_true h)
def sn_st (C n d : String) : Term := .static C n d
theorem sn_tab {args : Array Value} {s : State} {C n : String} {l : List Int} {A : Nat → Prop} (hs : ∀ c ∈ sn_fl, c.before args s = true) (hlay : (Cond.laysStatic C n "[I").before args s = true) (hini : (Cond.initialized C).before args s = true) (hl : l.length < 1000)
    (h1 : (Cond.arrayOf (sn_st C n "[I") .int) ∈ sn_fl) (h2 : (Cond.eq (.length (sn_st C n "[I")) (.int (Int32.ofNat l.length))) ∈ sn_fl) (h3 : ∀ j, j < l.length → (Cond.eq (.elem (sn_st C n "[I") (.int (Int32.ofNat j))) (.int (Int32.ofInt ((fz_nth l j).getD 0)))) ∈ sn_fl) (hA : ∀ a : Nat, a < s.heap.size → ¬ A a) :
    ∃ t : Nat, va_Z C n "[I" (.ref t) A s s.heap ∧ va_T .int t l.length (fun j => .int (Int32.ofInt (fz_tbl l j))) A s s.heap := by
  obtain ⟨t, ht, hT⟩ := va_Tof (tm := sn_st C n "[I") (ty := .int) (N := l.length) (f := fun j => .int (Int32.ofInt (fz_tbl l j))) (A := A) (by omega) (hs _ h1) (va_eqt (hs _ h2)) (fun j hj => by
    have e : fz_tbl l j = (fz_nth l j).getD 0 := by unfold fz_tbl; rw [if_neg (by omega)]
    rw [e]
    exact va_eqt (hs _ (h3 j hj))) hA
  exact ⟨t, va_Zref hlay hini ht hA, hT⟩
theorem sn_fits {l : List Int32} (h : l.all (fun x => fits .byte (.int x)) = true) : sb_Fit (fun j => l.getD j 0) := fun j => by
  show fits .byte (.int (l.getD j 0)) = true
  rw [List.getD_eq_getElem?_getD]
  cases e : l[j]? with
  | none => decide
  | some x => exact List.all_eq_true.mp h x (List.mem_of_getElem? e)
theorem sn_tabB {args : Array Value} {s : State} {C n : String} {l : List Int32} {A : Nat → Prop} (hs : ∀ c ∈ sn_fl, c.before args s = true) (hlay : (Cond.laysStatic C n "[B").before args s = true) (hini : (Cond.initialized C).before args s = true) (hl : l.length < 1000)
    (h1 : (Cond.arrayOf (sn_st C n "[B") .byte) ∈ sn_fl) (h2 : (Cond.eq (.length (sn_st C n "[B")) (.int (Int32.ofNat l.length))) ∈ sn_fl) (h3 : ∀ j, j < l.length → (Cond.eq (.elem (sn_st C n "[B") (.int (Int32.ofNat j))) (.int (l.getD j 0))) ∈ sn_fl) (hf : l.all (fun x => fits .byte (.int x)) = true) (hA : ∀ a : Nat, a < s.heap.size → ¬ A a) :
    ∃ t : Nat, ss_Y C n t l.length A s s.heap := by
  obtain ⟨t, ht, hT⟩ := va_Tof (tm := sn_st C n "[B") (ty := .byte) (N := l.length) (f := fun j => .int (l.getD j 0)) (A := A) (by omega) (hs _ h1) (va_eqt (hs _ h2)) (fun j hj => va_eqt (hs _ (h3 j hj))) hA
  exact ⟨t, fun j => l.getD j 0, va_Zref hlay hini ht hA, hT, sn_fits hf⟩
def sn_ones : List Int32 := [48, 49, 50, 51, 52, 53, 54, 55, 56, 57, 48, 49, 50, 51, 52, 53, 54, 55, 56, 57, 48, 49, 50, 51, 52, 53, 54, 55, 56, 57, 48, 49, 50, 51, 52, 53, 54, 55, 56, 57, 48, 49, 50, 51, 52, 53, 54, 55, 56, 57, 48, 49, 50, 51, 52, 53, 54, 55, 56, 57, 48, 49, 50, 51, 52, 53, 54, 55, 56, 57, 48, 49, 50, 51, 52, 53, 54, 55, 56, 57, 48, 49, 50, 51, 52, 53, 54, 55, 56, 57, 48, 49, 50, 51, 52, 53, 54, 55, 56, 57]
def sn_tens : List Int32 := [48, 48, 48, 48, 48, 48, 48, 48, 48, 48, 49, 49, 49, 49, 49, 49, 49, 49, 49, 49, 50, 50, 50, 50, 50, 50, 50, 50, 50, 50, 51, 51, 51, 51, 51, 51, 51, 51, 51, 51, 52, 52, 52, 52, 52, 52, 52, 52, 52, 52, 53, 53, 53, 53, 53, 53, 53, 53, 53, 53, 54, 54, 54, 54, 54, 54, 54, 54, 54, 54, 55, 55, 55, 55, 55, 55, 55, 55, 55, 55, 56, 56, 56, 56, 56, 56, 56, 56, 56, 56, 57, 57, 57, 57, 57, 57, 57, 57, 57, 57]
def sn_ks : List Nat := [16, 22, 40, 42, 48, 50, 52, 54, 56, 58, 60, 62, 72, 74, 76, 82]
def sn_tm (i : Nat) : Term := .string "FameAheadLaw" (sn_ks.getD i 0)
def sn_len : List Nat := [0, 6, 1, 1, 10, 1, 2, 3, 2, 1, 1, 8, 1, 1, 9, 20]
def sn_p0 : List Nat := [239, 243, 254, 261, 269, 287, 297, 309, 323, 337, 351, 366, 389, 406, 424, 451]
def sn_byt : List (List Int32) := [[], [119, 97, 100, 109, 116, 112], [33], [45], [43, 45, 42, 47, 37, 124, 38, 60, 61, 62], [40], [41, 42], [43, 50, 48], [33, 40], [60], [124], [61, 51, 41, 42, 51, 48, 43, 57], [63], [59], [57, 42, 119, 45, 97, 47, 53, 45, 100], [109, 61, 49, 63, 55, 42, 119, 45, 97, 59, 119, 62, 53, 63, 53, 48, 45, 97, 59, 57]]
def sn_va (i : Nat) : Term := .field (sn_tm i) "java/lang/String" "value" "[B"
theorem sn_q1 : ∀ i, i < 16 → Cond.exactly (sn_tm i) "java/lang/String" ∈ sn_fl := sn_at (P := fun i => sn_p0.getD i 0) (by decide +kernel)
theorem sn_q2 : ∀ i, i < 16 → Cond.eq (.field (sn_tm i) "java/lang/String" "coder" "B") (.int 0) ∈ sn_fl := sn_at (P := fun i => sn_p0.getD i 0 + 1) (c := fun i => Cond.eq (.field (sn_tm i) "java/lang/String" "coder" "B") (.int 0)) (by decide +kernel)
theorem sn_q3 : ∀ i, i < 16 → Cond.arrayOf (sn_va i) .byte ∈ sn_fl := sn_at (P := fun i => sn_p0.getD i 0 + 2) (by decide +kernel)
theorem sn_q4 : ∀ i, i < 16 → Cond.eq (.length (sn_va i)) (.int (Int32.ofNat (sn_len.getD i 0))) ∈ sn_fl := sn_at (P := fun i => sn_p0.getD i 0 + 3) (c := fun i => Cond.eq (.length (sn_va i)) (.int (Int32.ofNat (sn_len.getD i 0)))) (by decide +kernel)
theorem sn_q5 : ∀ i, i < 16 → ∀ j, j < sn_len.getD i 0 → Cond.eq (.elem (sn_va i) (.int (Int32.ofNat j))) (.int ((sn_byt.getD i []).getD j 0)) ∈ sn_fl := sn_at2 (m := fun i => sn_len.getD i 0) (P := fun i j => sn_p0.getD i 0 + 4 + j) (c := fun i j => Cond.eq (.elem (sn_va i) (.int (Int32.ofNat j))) (.int ((sn_byt.getD i []).getD j 0))) (by decide +kernel)
theorem sn_q6 : ∀ j, j < 16 → ∀ i, i < j → Cond.not (Cond.eq (sn_tm i) (sn_tm j)) ∈ sn_fl := sn_at2 (m := fun j => j) (P := fun j i => sn_p0.getD j 0 + 4 + sn_len.getD j 0 + i) (c := fun j i => Cond.not (Cond.eq (sn_tm i) (sn_tm j))) (by decide +kernel)
theorem sn_q7 : (List.range 16).all (fun i => (sn_byt.getD i []).all (fun x => fits .byte (.int x))) = true := by decide +kernel
theorem sn_q8 : (List.range 16).all (fun i => decide (sn_len.getD i 0 < 100000)) = true := by decide +kernel
theorem sn_q9 {i : Nat} (hi : i < 16) : sn_len.getD i 0 < 100000 := of_decide_eq_true (List.all_eq_true.mp sn_q8 i (List.mem_range.mpr hi))
theorem sn_strs {args : Array Value} {s : State} {A : Nat → Prop} (hs : ∀ c ∈ sn_fl, c.before args s = true) (hA : ∀ a : Nat, a < s.heap.size → ¬ A a) : ∃ ca cv : Nat → Nat, vk_S 16 sn_len sn_byt ca cv A s s.heap ∧ ∀ i : Nat, i < 16 → (sn_tm i).eval args s none [] s = some (.ref (ca i)) :=
  vk_Sof (fun i hi => Nat.lt_trans (sn_q9 hi) (by decide)) (fun i hi => hs _ (sn_q1 i hi)) (fun i hi => hs _ (sn_q2 i hi)) (fun i hi => hs _ (sn_q3 i hi)) (fun i hi => hs _ (sn_q4 i hi)) (fun i hi j hj => hs _ (sn_q5 i hi j hj)) (fun i j hi hj hij => (Nat.lt_or_gt_of_ne hij).elim (fun z => Or.inl (hs _ (sn_q6 j hj i z))) (fun z => Or.inr (hs _ (sn_q6 i hi j z)))) hA
theorem sn_S {A : Nat → Prop} {U : State} {H : Heap} {ca cv : Nat → Nat} (h : vk_S 16 sn_len sn_byt ca cv A U H) (i : Nat) (hi : i < 16) : ss_S (ca i) (cv i) (sn_len.getD i 0) A U H := ⟨fun j => (sn_byt.getD i []).getD j 0, (h.1 i hi).1, (h.1 i hi).2.1, (h.1 i hi).2.2.1, (h.1 i hi).2.2.2, sn_fits (List.all_eq_true.mp sn_q7 i (List.mem_range.mpr hi)), sn_q9 hi⟩
theorem sn_kss {A : Nat → Prop} {U : State} {H : Heap} {ca cv : Nat → Nat} (h : vk_S 16 sn_len sn_byt ca cv A U H) : ∀ q ∈ kss ca cv, ss_S q.1 q.2.1 q.2.2 A U H := List.forall_mem_cons.mpr ⟨sn_S h 0 (by decide), List.forall_mem_cons.mpr ⟨sn_S h 1 (by decide), List.forall_mem_cons.mpr ⟨sn_S h 2 (by decide), List.forall_mem_cons.mpr ⟨sn_S h 3 (by decide), List.forall_mem_cons.mpr ⟨sn_S h 4 (by decide), List.forall_mem_cons.mpr ⟨sn_S h 5 (by decide), List.forall_mem_cons.mpr ⟨sn_S h 6 (by decide), List.forall_mem_cons.mpr ⟨sn_S h 7 (by decide), List.forall_mem_cons.mpr ⟨sn_S h 8 (by decide), List.forall_mem_cons.mpr ⟨sn_S h 9 (by decide), List.forall_mem_cons.mpr ⟨sn_S h 10 (by decide), List.forall_mem_cons.mpr ⟨sn_S h 11 (by decide), List.forall_mem_cons.mpr ⟨sn_S h 12 (by decide), List.forall_mem_cons.mpr ⟨sn_S h 13 (by decide), List.forall_mem_cons.mpr ⟨sn_S h 14 (by decide), List.forall_mem_cons.mpr ⟨sn_S h 15 (by decide), fun _ z => by cases z⟩⟩⟩⟩⟩⟩⟩⟩⟩⟩⟩⟩⟩⟩⟩⟩
theorem sn_kl {args : Array Value} {s : State} {ca : Nat → Nat} (h0 : ∀ w ∈ lw_tbl, w.before args s = true) (h : ∀ i : Nat, i < 16 → (sn_tm i).eval args s none [] s = some (.ref (ca i))) : ∀ q ∈ kl ca, vk_R "FameAheadLaw" q.1 q.2.1 q.2.2 s := List.forall_mem_cons.mpr ⟨vk_R.of (h0 _ (fz_has0 (n := 4221) rfl)) (h 0 (by decide)), List.forall_mem_cons.mpr ⟨vk_R.of (h0 _ (fz_has0 (n := 5134) rfl)) (h 1 (by decide)), List.forall_mem_cons.mpr ⟨vk_R.of (h0 _ (fz_has0 (n := 6017) rfl)) (h 2 (by decide)), List.forall_mem_cons.mpr ⟨vk_R.of (h0 _ (fz_has0 (n := 6018) rfl)) (h 3 (by decide)), List.forall_mem_cons.mpr ⟨vk_R.of (h0 _ (fz_has0 (n := 6019) rfl)) (h 4 (by decide)), List.forall_mem_cons.mpr ⟨vk_R.of (h0 _ (fz_has0 (n := 6020) rfl)) (h 5 (by decide)), List.forall_mem_cons.mpr ⟨vk_R.of (h0 _ (fz_has0 (n := 6021) rfl)) (h 6 (by decide)), List.forall_mem_cons.mpr ⟨vk_R.of (h0 _ (fz_has0 (n := 6022) rfl)) (h 7 (by decide)), List.forall_mem_cons.mpr ⟨vk_R.of (h0 _ (fz_has0 (n := 6023) rfl)) (h 8 (by decide)), List.forall_mem_cons.mpr ⟨vk_R.of (h0 _ (fz_has0 (n := 6024) rfl)) (h 9 (by decide)), List.forall_mem_cons.mpr ⟨vk_R.of (h0 _ (fz_has0 (n := 6025) rfl)) (h 10 (by decide)), List.forall_mem_cons.mpr ⟨vk_R.of (h0 _ (fz_has0 (n := 6026) rfl)) (h 11 (by decide)), List.forall_mem_cons.mpr ⟨vk_R.of (h0 _ (fz_has0 (n := 6027) rfl)) (h 12 (by decide)), List.forall_mem_cons.mpr ⟨vk_R.of (h0 _ (fz_has0 (n := 6028) rfl)) (h 13 (by decide)), List.forall_mem_cons.mpr ⟨vk_R.of (h0 _ (fz_has0 (n := 6029) rfl)) (h 14 (by decide)), List.forall_mem_cons.mpr ⟨vk_R.of (h0 _ (fz_has0 (n := 6031) rfl)) (h 15 (by decide)), fun _ z => by cases z⟩⟩⟩⟩⟩⟩⟩⟩⟩⟩⟩⟩⟩⟩⟩⟩
theorem sn_tb {args : Array Value} {s : State} (hts0 : ∀ w ∈ lw_tbl, w.before args s = true) : ∀ w ∈ fz_tb, w.before args s = true := by
  intro w hw
  refine (List.mem_append.mp hw).elim (fun hw => ?_) (fun hw => hts0 w (List.mem_filter.mp hw).1)
  obtain ⟨q, hq, rfl⟩ := List.mem_map.mp hw
  simp only [st_pm, List.mem_cons, List.not_mem_nil, or_false] at hq
  rcases hq with rfl | rfl | rfl | rfl
  · exact st_selP (y2 := ⟨"java/lang/AbstractStringBuilder", "isLatin1", "()Z"⟩) ⟨by decide +kernel, by decide +kernel⟩ (hts0 _ (fz_has0 (n := 4223) rfl)) (hts0 _ (fz_has0 (n := 5026) rfl)) (hts0 _ (fz_has0 (n := 5027) rfl)) rfl (hts0 _ (fz_has0 (n := 5057) rfl))
  · exact st_selP (y2 := ⟨"java/lang/AbstractStringBuilder", "isLatin1", "()Z"⟩) ⟨by decide +kernel, by decide +kernel⟩ (hts0 _ (fz_has0 (n := 4223) rfl)) (hts0 _ (fz_has0 (n := 5030) rfl)) (hts0 _ (fz_has0 (n := 5031) rfl)) rfl (hts0 _ (fz_has0 (n := 5057) rfl))
  · exact st_selP (y2 := ⟨"java/lang/AbstractStringBuilder", "isLatin1", "()Z"⟩) ⟨by decide +kernel, by decide +kernel⟩ (hts0 _ (fz_has0 (n := 4223) rfl)) (hts0 _ (fz_has0 (n := 5095) rfl)) (hts0 _ (fz_has0 (n := 5096) rfl)) rfl (hts0 _ (fz_has0 (n := 5057) rfl))
  · exact st_selP (y2 := ⟨"java/lang/AbstractStringBuilder", "isLatin1", "()Z"⟩) ⟨by decide +kernel, by decide +kernel⟩ (hts0 _ (fz_has0 (n := 4223) rfl)) (hts0 _ (fz_has0 (n := 5099) rfl)) (hts0 _ (fz_has0 (n := 5100) rfl)) rfl (hts0 _ (fz_has0 (n := 5057) rfl))
theorem sn_kn {s : State} {args : Array Value} (hts : ∀ w ∈ fz_tb, w.before args s = true) : ∃ (dC : Nat → ClassId) (dI : Nat → Nat → Nat), ∀ (k : Nat) (q : vw_C), vwCl[k]? = some q → u_Kn s q.1 q.2.1 q.2.2 (dC k) (dI k) := by
  obtain ⟨c0, i0, k0⟩ := u_known (C := RJ0) (T := TJ0) (N := 4) (n := 4) hts (fz_cl_in (ci := 0) rfl) (hts _ (fz_has (n := 5180) rfl rfl))
  obtain ⟨c1, i1, k1⟩ := u_known (C := RJ4) (T := TJ4) (N := 4) (n := 4) hts (fz_cl_in (ci := 1) rfl) (hts _ (fz_has (n := 4223) rfl rfl))
  obtain ⟨c2, i2, k2⟩ := u_known (C := RX0) (T := TX0) (N := 6) (n := 6) hts (fz_cl_in (ci := 2) rfl) (hts _ (fz_has (n := 1235) rfl rfl))
  obtain ⟨c3, i3, k3⟩ := u_known (C := RX1) (T := TX1) (N := 9) (n := 9) hts (fz_cl_in (ci := 3) rfl) (hts _ (fz_has (n := 2024) rfl rfl))
  obtain ⟨c4, i4, k4⟩ := u_known (C := RX2) (T := TX2) (N := 9) (n := 9) hts (fz_cl_in (ci := 4) rfl) (hts _ (fz_has (n := 1033) rfl rfl))
  obtain ⟨c5, i5, k5⟩ := u_known (C := RX3) (T := TX3) (N := 5) (n := 5) hts (fz_cl_in (ci := 5) rfl) (hts _ (fz_has (n := 1113) rfl rfl))
  obtain ⟨c6, i6, k6⟩ := u_known (C := RX4) (T := TX4) (N := 6) (n := 6) hts (fz_cl_in (ci := 6) rfl) (hts _ (fz_has (n := 1076) rfl rfl))
  obtain ⟨c7, i7, k7⟩ := u_known (C := RX5) (T := TX5) (N := 5) (n := 5) hts (fz_cl_in (ci := 7) rfl) (hts _ (fz_has (n := 1135) rfl rfl))
  obtain ⟨c8, i8, k8⟩ := u_known (C := RX6) (T := TX6) (N := 8) (n := 8) hts (fz_cl_in (ci := 8) rfl) (hts _ (fz_has (n := 1203) rfl rfl))
  obtain ⟨c9, i9, k9⟩ := u_known (C := RX7) (T := TX7) (N := 5) (n := 5) hts (fz_cl_in (ci := 9) rfl) (hts _ (fz_has (n := 2089) rfl rfl))
  obtain ⟨c10, i10, k10⟩ := u_known (C := RX8) (T := TX8) (N := 10) (n := 10) hts (fz_cl_in (ci := 10) rfl) (hts _ (fz_has (n := 1161) rfl rfl))
  obtain ⟨c11, i11, k11⟩ := u_known (C := RX9) (T := TX9) (N := 6) (n := 6) hts (fz_cl_in (ci := 11) rfl) (hts _ (fz_has (n := 2065) rfl rfl))
  obtain ⟨c12, i12, k12⟩ := u_known (C := RX10) (T := TX10) (N := 10) (n := 10) hts (fz_cl_in (ci := 12) rfl) (hts _ (fz_has (n := 1025) rfl rfl))
  refine ⟨fun k => (fz_nth [c0, c1, c2, c3, c4, c5, c6, c7, c8, c9, c10, c11, c12] k).getD c0, fun k => (fz_nth [i0, i1, i2, i3, i4, i5, i6, i7, i8, i9, i10, i11, i12] k).getD i0, fun k q hq => ?_⟩
  match k, hq with
  | 0, hq => cases hq; exact k0
  | 1, hq => cases hq; exact k1
  | 2, hq => cases hq; exact k2
  | 3, hq => cases hq; exact k3
  | 4, hq => cases hq; exact k4
  | 5, hq => cases hq; exact k5
  | 6, hq => cases hq; exact k6
  | 7, hq => cases hq; exact k7
  | 8, hq => cases hq; exact k8
  | 9, hq => cases hq; exact k9
  | 10, hq => cases hq; exact k10
  | 11, hq => cases hq; exact k11
  | 12, hq => cases hq; exact k12
  | k + 13, hq => simp [vwCl] at hq
theorem sn_arr {s : State} {args : Array Value} {ty : FieldType} (hty : ty = .int ∨ ty = .long) (h : (Cond.arrayClass ty).before args s = true) : ∃ c : ClassId, ArrOfT s c ty ∧ va_RA s c ty := by
  obtain ⟨c, k, comp, h1, h2, h3⟩ := Cond.arrayClass_spec h
  refine ⟨c, fun n z => ⟨fun k h => (by cases h), k, h2, comp, h3⟩, ?_⟩
  rcases hty with rfl | rfl
  · exact h1
  · exact h1
def sn_sc (L : Nat) (xs : Nat → Int32) : Nat → Int := fun j => if j = 100000 then (L : Int) else (xs j).toInt
theorem sn_scr {b L : Nat} {xs : Nat → Int32} {s : State} {A : Nat → Prop} (hX : va_X b L xs s s.heap) (hL : L ≤ 3072) (hA : ¬ A b) : va_T .int b (sn_sc L xs 100000).toNat (fun j => .int (Int32.ofInt (sn_sc L xs j))) A s s.heap := by
  obtain ⟨scr, h1, h2, h3, h4, h5⟩ := hX
  have e : (sn_sc L xs 100000).toNat = L := by unfold sn_sc; rw [if_pos rfl]; omega
  rw [e]
  refine ⟨scr, h1, h2, h3, by omega, by rw [h4], fun j hj => ?_, hA⟩
  rw [h5 j hj]
  show _ = some (Value.int (Int32.ofInt (sn_sc L xs j)))
  unfold sn_sc
  rw [if_neg (by omega), Int32.ofInt_toInt]
set_option maxHeartbeats 4000000 in
set_option maxRecDepth 100000 in
theorem whole_start {p : Program} {e : Env} {s : State} {m : MethodId} {below : List Frame} {meth : Method} {c : Code} (l : Launch) (hflags : l.flags = flags0) {b L : Nat} {xs : Nat → Int32} (hL : L ≤ 260) (C0 : lw_At p s m meth c b L xs) : W p l e room_1 s m #[Value.ref b] below meth c s.heap [] 0 0 (lw_Z below #[Value.ref b] s) (entryFrame m ([Value.ref b] : List Value).toArray 16) := by
  obtain ⟨hx, hb, hr, hml, hown, hts0, hX, hbl, hlocks, hgv⟩ := id C0
  have hts : ∀ w ∈ fz_tb, w.before #[Value.ref b] s = true := sn_tb hts0
  have hfl : ∀ c ∈ sn_fl, c.before #[Value.ref b] s = true := flat_of_before _ hgv
  obtain ⟨dC, dI, hKn⟩ := sn_kn hts
  obtain ⟨cI, hI1, hI2⟩ := sn_arr (Or.inl rfl) (hts _ fz_tI)
  obtain ⟨cJ, hJ1, hJ2⟩ := sn_arr (Or.inr rfl) (hts _ fz_tJ)
  obtain ⟨cB, hB1, hB2⟩ := st_arrB (hts _ st_tB)
  have hK : va_K (dC, dI) vwCl (st_ty ((dC, dI), cI, cJ, cB)) s := ⟨hKn, fun k q h => by
    match k, h with
    | 0, h => cases h; exact ⟨hI1, hI2⟩
    | 1, h => cases h; exact ⟨hJ1, hJ2⟩
    | 2, h => cases h; exact ⟨hB1, hB2⟩
    | k + 3, h => simp at h⟩
  have hA0 : ∀ a : Nat, a < s.heap.size → ¬ (fun q : Nat => s.heap.size ≤ q) a := fun a h z => absurd (show s.heap.size ≤ a from z) (by omega)
  obtain ⟨t1, hZ1, hT1⟩ := sn_tab (C := "FameAhead") (n := "LEAST") (l := fz_c201) (A := fun q : Nat => s.heap.size ≤ q) hfl (hts0 _ (fz_has0 (n := 2146) rfl)) (hts _ (fz_has (n := 1001) rfl rfl)) (by decide) (sn_c (k := 5) (by decide +kernel)) (sn_c (k := 6) (by decide +kernel)) (sn_at (n := 9) (P := fun j => 7 + j) (c := fun j => Cond.eq (.elem (sn_st "FameAhead" "LEAST" "[I") (.int (Int32.ofNat j))) (.int (Int32.ofInt ((fz_nth fz_c201 j).getD 0)))) (by decide +kernel)) hA0
  obtain ⟨t2, hZ2, hT2⟩ := sn_tab (C := "FameAhead") (n := "MOST") (l := fz_c202) (A := fun q : Nat => s.heap.size ≤ q) hfl (hts0 _ (fz_has0 (n := 2148) rfl)) (hts _ (fz_has (n := 1001) rfl rfl)) (by decide) (sn_c (k := 17) (by decide +kernel)) (sn_c (k := 18) (by decide +kernel)) (sn_at (n := 9) (P := fun j => 19 + j) (c := fun j => Cond.eq (.elem (sn_st "FameAhead" "MOST" "[I") (.int (Int32.ofNat j))) (.int (Int32.ofInt ((fz_nth fz_c202 j).getD 0)))) (by decide +kernel)) hA0
  obtain ⟨d1, hD1⟩ := sn_tabB (C := "java/lang/Integer") (n := "DigitOnes") (l := sn_ones) (A := fun q : Nat => s.heap.size ≤ q) hfl (hts0 _ (fz_has0 (n := 6006) rfl)) (hts _ (fz_has (n := 1016) rfl rfl)) (by decide) (sn_c (k := 34) (by decide +kernel)) (sn_c (k := 35) (by decide +kernel)) (sn_at (n := 100) (P := fun j => 36 + j) (c := fun j => Cond.eq (.elem (sn_st "java/lang/Integer" "DigitOnes" "[B") (.int (Int32.ofNat j))) (.int (sn_ones.getD j 0))) (by decide +kernel)) (by decide +kernel) hA0
  obtain ⟨d2, hD2⟩ := sn_tabB (C := "java/lang/Integer") (n := "DigitTens") (l := sn_tens) (A := fun q : Nat => s.heap.size ≤ q) hfl (hts0 _ (fz_has0 (n := 6008) rfl)) (hts _ (fz_has (n := 1016) rfl rfl)) (by decide) (sn_c (k := 137) (by decide +kernel)) (sn_c (k := 138) (by decide +kernel)) (sn_at (n := 100) (P := fun j => 139 + j) (c := fun j => Cond.eq (.elem (sn_st "java/lang/Integer" "DigitTens" "[B") (.int (Int32.ofNat j))) (.int (sn_tens.getD j 0))) (by decide +kernel)) (by decide +kernel) hA0
  obtain ⟨ca, cv, hS1, hS2⟩ := sn_strs (A := fun q : Nat => s.heap.size ≤ q) hfl hA0
  have hG1 : va_Z "java/lang/String" "COMPACT_STRINGS" "Z" (.int 1) (fun q : Nat => s.heap.size ≤ q) s s.heap := va_Zof (hts0 _ (fz_has0 (n := 4232) rfl)) (hts _ (fz_has (n := 1019) rfl rfl)) (va_eqt (hfl _ (sn_c (k := 28) (by decide +kernel)))) hA0
  have hG2 : va_Zq "jdk/internal/util/Preconditions" "SIOOBE_FORMATTER" "Ljava/util/function/BiFunction;" (fun q : Nat => s.heap.size ≤ q) s s.heap := va_Zqof (hts0 _ (fz_has0 (n := 5072) rfl)) (hts _ (fz_has (n := 1022) rfl rfl)) (hfl _ (sn_c (k := 29) (by decide +kernel))) hA0
  have hl := lv_entry ([.ref b]) (n := 16) (Nat.le_of_ble_eq_true rfl)
  rw [lg_entry_eq]
  generalize (lg_sl ([.ref b]) ++ List.replicate (16 - (lg_sl ([.ref b])).length) Slot.unset).toArray = lsc at hl ⊢
  have hl : lv_has lsc 16 [(0, .ref b)] := hl
  have hsb : ∀ j, -2147483648 ≤ sn_sc L xs j ∧ sn_sc L xs j ≤ 2147483647 := fun j => by
    have := fz_b32 (xs j)
    unfold sn_sc
    split <;> omega
  have hL2 : 0 ≤ sn_sc L xs 100000 ∧ sn_sc L xs 100000 ≤ 3072 := by
    unfold sn_sc
    rw [if_pos rfl]
    omega
  have C1 : st_Bx ((dC, dI), cI, cJ, cB) 60 1000 600000 mtL0 p room_1 s m #[Value.ref b] meth c := ⟨hx, hb, hr, hml, hown, hts, hlocks, fun h => absurd h (by decide), Nat.le_of_ble_eq_true rfl, Nat.le_of_ble_eq_true rfl, Nat.le_of_ble_eq_true rfl, Nat.le_of_ble_eq_true rfl, hK, fz_nN_of hts0, va_Nw.of rfl (hts0 _ (fz_has0 (n := 5050) rfl))⟩
  have hP0 : va_P (dC, dI) vwCl [] s.heap := fun k q h => by simp at h
  have hD0 : va_D (fun q : Nat => s.heap.size ≤ q) [] := ⟨fun i j p q h => by simp at h, fun k q h => by simp at h⟩
  have hok : st_ok (kss ca cv, kl ca, (d1, d2), b, (sn_sc L xs 100000).toNat, (fun j => Int32.ofInt (sn_sc L xs j)), [("FameAhead", "LEAST", t1, (fz_tbl fz_c201 100000).toNat, fun j => fz_tbl fz_c201 j), ("FameAhead", "MOST", t2, (fz_tbl fz_c202 100000).toNat, fun j => fz_tbl fz_c202 j)]) (fun q : Nat => s.heap.size ≤ q) s s.heap :=
    ⟨⟨hG1, hG2, hD1, hD2⟩, sn_kss hS1, sn_kl hts0 hS2, sn_scr hX (Nat.le_trans hL (by decide)) (hA0 b hbl), List.forall_mem_cons.mpr ⟨⟨hZ1, hT1⟩, List.forall_mem_cons.mpr ⟨⟨hZ2, hT2⟩, fun _ z => by cases z⟩⟩⟩
  refine sn_law ((dC, dI), cI, cJ, cB) _ ca cv (sn_sc L xs) t1 t2 rfl rfl ⟨rfl, rfl, List.mem_cons_self, List.mem_cons_of_mem _ List.mem_cons_self⟩ hsb hL2 p l e room_1 s m #[Value.ref b] below meth c (lw_Z below #[Value.ref b] s) (fun q : Nat => s.heap.size ≤ q) C1 (fun _ h => h) hok (fun ws' v pc' lsc H locs hq hdr hP hD hS => ?_) s.heap [] lsc hP0 hD0 va_S.rf hl
  subst hq
  refine va_forget (fun x hx => hS.2.2 x hx) ?_
  refine W.widen (k := 600000) (n := 7302250) (Nat.le_of_ble_eq_true rfl) (Nat.le_of_ble_eq_true rfl) ?_
  exact lw_ret hx hb hr hlocks hdr.1
