/-! ===== rules: locals, fields, arrays, calls, ends ===== -/
theorem fz_tb_all : ∀ w ∈ fz_tb, goodWord w = true := fun w h => (List.mem_filter.mp h).2
theorem fz_cl_all : ((List.range 12).all fun ci => match fz_nth vwCl ci with
  | some (C, T, N) => (List.range N).all (fun k => decide (fz_wa ((fz_nth ((fz_nth fz_clx ci).getD []) k).getD 0) = some (u_lay C T k)) && goodWord (u_lay C T k))
  | none => true) = true := by decide +kernel
theorem fz_cl_in {ci : Nat} {C : String} {T : u_T} {N : Nat} (h : fz_nth vwCl ci = some (C, T, N)) : ∀ w ∈ u_ws C T N, w ∈ fz_tb := by
  have hl : ci < 12 := by
    rw [fz_nth_eq] at h
    have := (List.getElem?_eq_some_iff.mp h).1
    have e : vwCl.length = 12 := rfl
    omega
  have h1 := List.all_eq_true.mp fz_cl_all ci (List.mem_range.mpr hl)
  rw [h] at h1
  intro w hw
  obtain ⟨k, hk, rfl⟩ := List.mem_map.mp hw
  have h2 := List.all_eq_true.mp h1 k hk
  rw [Bool.and_eq_true] at h2
  exact fz_has (of_decide_eq_true h2.1) h2.2
theorem fz_cl_ty {ci : Nat} {C : String} {T : u_T} {N : Nat} (h : fz_nth vwCl ci = some (C, T, N)) : ∃ ty : Nat → FieldType, ∀ k, k < N → parseFieldDescriptor (T k).2.2.1 = some (ty k) := by
  rw [fz_nth_eq] at h
  have hl : ci < vwCl.length := (List.getElem?_eq_some_iff.mp h).1
  rcases (show ci = 0 ∨ ci = 1 ∨ ci = 2 ∨ ci = 3 ∨ ci = 4 ∨ ci = 5 ∨ ci = 6 ∨ ci = 7 ∨ ci = 8 ∨ ci = 9 ∨ ci = 10 ∨ ci = 11 from (by have : vwCl.length = 12 := rfl; omega)) with rfl | rfl | rfl | rfl | rfl | rfl | rfl | rfl | rfl | rfl | rfl | rfl
  · cases h; exact ⟨_, tyX0_ok⟩
  · cases h; exact ⟨_, tyX1_ok⟩
  · cases h; exact ⟨_, tyX2_ok⟩
  · cases h; exact ⟨_, tyX3_ok⟩
  · cases h; exact ⟨_, tyX4_ok⟩
  · cases h; exact ⟨_, tyX5_ok⟩
  · cases h; exact ⟨_, tyX6_ok⟩
  · cases h; exact ⟨_, tyX7_ok⟩
  · cases h; exact ⟨_, tyX8_ok⟩
  · cases h; exact ⟨_, tyX9_ok⟩
  · cases h; exact ⟨_, tyX10_ok⟩
  · cases h; exact ⟨_, tyX11_ok⟩
theorem fz_cl_nm {ci : Nat} {C : String} {T : u_T} {N : Nat} (h : fz_nth vwCl ci = some (C, T, N)) : ∀ a, a < N → ∀ b, b < N → a ≠ b → (T a).2.1 ≠ (T b).2.1 := by
  rw [fz_nth_eq] at h
  have hl : ci < vwCl.length := (List.getElem?_eq_some_iff.mp h).1
  rcases (show ci = 0 ∨ ci = 1 ∨ ci = 2 ∨ ci = 3 ∨ ci = 4 ∨ ci = 5 ∨ ci = 6 ∨ ci = 7 ∨ ci = 8 ∨ ci = 9 ∨ ci = 10 ∨ ci = 11 from (by have : vwCl.length = 12 := rfl; omega)) with rfl | rfl | rfl | rfl | rfl | rfl | rfl | rfl | rfl | rfl | rfl | rfl
  · cases h; exact nmX0
  · cases h; exact nmX1
  · cases h; exact nmX2
  · cases h; exact nmX3
  · cases h; exact nmX4
  · cases h; exact nmX5
  · cases h; exact nmX6
  · cases h; exact nmX7
  · cases h; exact nmX8
  · cases h; exact nmX9
  · cases h; exact nmX10
  · cases h; exact nmX11
theorem fz_N_200 : fz_N ≤ 200 := by decide +kernel
theorem fz_sh_lt {o : Nat} {q : Nat × Nat × Nat} (h : fz_sh o = q) (hq : q.1 ≠ 9) : o < fz_N := by
  unfold fz_sh at h
  rw [fz_nth_eq] at h
  cases hg : fz_shs[o]? with
  | none =>
    rw [hg] at h
    simp at h
    subst h
    exact absurd rfl hq
  | some v => exact (List.getElem?_eq_some_iff.mp hg).1
theorem fz_up_ne {h : fz_H} {c k : Nat} {x : Int} {i : Nat} (hi : i ≠ c) : fz_up h c k x i = h i := by
  funext j
  simp [fz_up, hi]
theorem fz_ce_eq {E : fz_E} {h h' : fz_H} {i : Nat} (e : h' i = h i) : fz_ce E h' i = fz_ce E h i := by
  have e1 : fz_fv (fz_ad E) h' i = fz_fv (fz_ad E) h i := by
    funext s
    unfold fz_fv
    rw [e]
  unfold fz_ce
  rw [e1, e]
theorem fz_ws_up {E : fz_E} {h h' : fz_H} {c : Nat} (he : ∀ i, i ≠ c → h' i = h i) : fz_ws E h' = (fz_ws E h).set c (fz_ad E c, fz_ce E h' c) := by
  apply List.ext_getElem?
  intro i
  by_cases hi : i = c
  · subst hi
    by_cases hl : i < fz_N
    · rw [List.getElem?_set_self (by simpa [fz_ws] using hl), fz_ws_at E h' hl]
    · rw [List.getElem?_eq_none (by simpa [fz_ws] using hl), List.getElem?_eq_none (by simpa [fz_ws] using hl)]
  · rw [List.getElem?_set_ne (Ne.symm hi)]
    simp only [fz_ws, List.getElem?_map]
    by_cases hl : i < fz_N
    · simp [hl, fz_ce_eq (E := E) (he i hi)]
    · simp [hl]
theorem fz_nh_up {h : fz_H} {c k : Nat} {x : Int} (hn : fz_nh h) (hx : fz_okx c x) : fz_nh (fz_up h c k x) := by
  intro d j
  unfold fz_up
  split
  · next e => rw [e.1]; exact hx
  · exact hn d j
theorem fz_ht_up {E : fz_E} {h : fz_H} {c k : Nat} {x : Int} (hc : c < fz_N) (ht : ∀ id, 200 ≤ id → h id = fz_tc E id) : ∀ id, 200 ≤ id → fz_up h c k x id = fz_tc E id := by
  intro id hid
  rw [fz_up_ne (by have := fz_N_200; omega)]
  exact ht id hid
/-- an object's field: its class, the place, what the table of references says -/
def fz_fo (o ci sl t : Nat) : Bool := Nat.beq (fz_sh o).1 0 && Nat.beq (fz_sh o).2.1 ci && Nat.blt sl (fz_sh o).2.2 && Nat.beq (fz_rf o sl) t
theorem fz_fo_spec {o ci sl t : Nat} (h : fz_fo o ci sl t = true) : (fz_sh o).1 = 0 ∧ (fz_sh o).2.1 = ci ∧ sl < (fz_sh o).2.2 ∧ fz_rf o sl = t ∧ o < fz_N := by
  unfold fz_fo at h
  simp only [Bool.and_eq_true] at h
  have h1 := Nat.eq_of_beq_eq_true h.1.1.1
  exact ⟨h1, Nat.eq_of_beq_eq_true h.1.1.2, by simpa [Nat.blt_eq] using h.1.2, Nat.eq_of_beq_eq_true h.2, fz_sh_lt (q := fz_sh o) rfl (by rw [h1]; decide)⟩
section FZ
variable {d : Nat} {M : fz_M} {pc a b w : Nat} {ls ls' : List (Nat × fz_V)} {st : List fz_V} {h : fz_H} {Q : fz_H → Option fz_V → Prop}
theorem fz_knowh (k : fz_nh h → fz_R d M pc ls st h Q) : fz_R d M pc ls st h Q := by
  intro E p l e R s m args below meth c cells slots Qf C hend H locs lsc hW hs hl hh
  exact k hW.2.2.2.1 E p l e R s m args below meth c cells slots Qf C hend H locs lsc hW hs hl hh
theorem fz_knowl (k : (∀ q ∈ ls, fz_nv q.2) → fz_R d M pc ls st h Q) : fz_R d M pc ls st h Q := by
  intro E p l e R s m args below meth c cells slots Qf C hend H locs lsc hW hs hl hh
  exact k hl E p l e R s m args below meth c cells slots Qf C hend H locs lsc hW hs hl hh
theorem fz_knows (k : (∀ v ∈ st, fz_nv v) → fz_R d M pc ls st h Q) : fz_R d M pc ls st h Q := by
  intro E p l e R s m args below meth c cells slots Qf C hend H locs lsc hW hs hl hh
  exact k hs E p l e R s m args below meth c cells slots Qf C hend H locs lsc hW hs hl hh
theorem fz_post {Q' : fz_H → Option fz_V → Prop} (k : fz_R d M pc ls st h Q') (hq : ∀ h' r, Q' h' r → Q h' r) : fz_R d M pc ls st h Q := by
  intro E p l e R s m args below meth c cells slots Qf C hend H locs lsc hW hs hl hh
  exact k E p l e R s m args below meth c cells slots Qf C (fun h' r pc' lsc H locs hq' => hend h' r pc' lsc H locs (hq h' r hq')) H locs lsc hW hs hl hh
/-- fewer locals -/
theorem fz_sub (hl : ∀ q ∈ ls', q ∈ ls) (k : fz_R d M pc ls' st h Q) : fz_R d M pc ls st h Q := by
  intro E p l e R s m args below meth c cells slots Qf C hend H locs lsc hW hs hn hh
  refine k E p l e R s m args below meth c cells slots Qf C hend H locs lsc hW hs (fun q hq => hn q (hl q hq)) ⟨hh.1, hh.2.1, fun q hq => ?_⟩
  obtain ⟨q0, h1, rfl⟩ := List.mem_map.mp hq
  exact hh.2.2 _ (List.mem_map.mpr ⟨q0, hl q0 h1, rfl⟩)
theorem fz_deeper {d' : Nat} (hd : d' ≤ d) (k : fz_R d' M pc ls st h Q) : fz_R d M pc ls st h Q := by
  intro E p l e R s m args below meth c cells slots Qf C hend H locs lsc hW hs hn hh
  obtain ⟨c1, c2, c3, c4, c5, c6, c7, c8, c9, c10⟩ := C
  exact k E p l e R s m args below meth c cells slots Qf ⟨c1, c2, c3, c4, c5, c6, c7, by omega, by omega, c10⟩ hend H locs lsc hW hs hn hh
theorem fz_load {i : Nat} {v : fz_V} {n : Nat} (hv : fz_lk ls i = some v)
    (hw : ∀ (E : fz_E) (p : Program) (l : Launch) (e : Env) (R : Room) (s : State) (m : MethodId) (args : Array Value) (below : List Frame) (meth : Method) (c : Code) (cells slots : Nat) (Qf : State → Prop) (H : Heap) (locs : List Loc) (lsc : Array Slot),
      p.tables.exec = Jvm.exec → c.code = M.2.1 → lsc[i]? = some (.val (fz_cv (fz_ad E) v)) → W p l e R s m args below meth c H locs cells slots Qf (F0 m (pc + n) lsc (fz_cv (fz_ad E) v :: st.map (fz_cv (fz_ad E)))) → W p l e R s m args below meth c H locs cells slots Qf (F0 m pc lsc (st.map (fz_cv (fz_ad E)))))
    (k : fz_R d M (pc + n) ls (v :: st) h Q) : fz_R d M pc ls st h Q := by
  intro E p l e R s m args below meth c cells slots Qf C hend H locs lsc hW hs hn hh
  have hm := fz_lk_mem hv
  exact hw E p l e R s m args below meth c cells slots Qf H locs lsc C.1 C.2.1 (hh.2.2 _ (List.mem_map.mpr ⟨_, hm, rfl⟩)) (k E p l e R s m args below meth c cells slots Qf C hend H locs lsc hW (fz_n0 (hn _ hm) hs) hn hh)
theorem fz_iload_n {n : Fin 4} {x : Int} (hM : fz_okM M = true) (hc : fz_at M.2.2.2.2 pc = some (.iload_n n, 1, a, b, w)) (hv : fz_lk ls (n : Nat) = some (fz_i x)) (k : fz_R d M (pc + 1) ls (fz_i x :: st) h Q) : fz_R d M pc ls st h Q :=
  fz_load hv (fun E p l e R s m args below meth c cells slots Qf H locs lsc hx hb hs kk => lv_iload_n hx hb (fz_dec hM hc) rfl hs kk) k
theorem fz_iload {i : Nat} {x : Int} (hM : fz_okM M = true) (hc : fz_at M.2.2.2.2 pc = some (.iload i, 2, a, b, w)) (hv : fz_lk ls i = some (fz_i x)) (k : fz_R d M (pc + 2) ls (fz_i x :: st) h Q) : fz_R d M pc ls st h Q :=
  fz_load hv (fun E p l e R s m args below meth c cells slots Qf H locs lsc hx hb hs kk => lv_iload hx hb (fz_dec hM hc) hs kk) k
theorem fz_lload_n {n : Fin 4} {x : Int} (hM : fz_okM M = true) (hc : fz_at M.2.2.2.2 pc = some (.lload_n n, 1, a, b, w)) (hv : fz_lk ls (n : Nat) = some (fz_l x)) (k : fz_R d M (pc + 1) ls (fz_l x :: st) h Q) : fz_R d M pc ls st h Q :=
  fz_load hv (fun E p l e R s m args below meth c cells slots Qf H locs lsc hx hb hs kk => lv_lload_n hx hb (fz_dec hM hc) rfl hs kk) k
theorem fz_lload {i : Nat} {x : Int} (hM : fz_okM M = true) (hc : fz_at M.2.2.2.2 pc = some (.lload i, 2, a, b, w)) (hv : fz_lk ls i = some (fz_l x)) (k : fz_R d M (pc + 2) ls (fz_l x :: st) h Q) : fz_R d M pc ls st h Q :=
  fz_load hv (fun E p l e R s m args below meth c cells slots Qf H locs lsc hx hb hs kk => lv_lload hx hb (fz_dec hM hc) hs kk) k
theorem fz_aload_n {n : Fin 4} {x : Nat} (hM : fz_okM M = true) (hc : fz_at M.2.2.2.2 pc = some (.aload_n n, 1, a, b, w)) (hv : fz_lk ls (n : Nat) = some (fz_r x)) (k : fz_R d M (pc + 1) ls (fz_r x :: st) h Q) : fz_R d M pc ls st h Q :=
  fz_load hv (fun E p l e R s m args below meth c cells slots Qf H locs lsc hx hb hs kk => lv_aload_n hx hb (fz_dec hM hc) rfl hs kk) k
theorem fz_aload {i : Nat} {x : Nat} (hM : fz_okM M = true) (hc : fz_at M.2.2.2.2 pc = some (.aload i, 2, a, b, w)) (hv : fz_lk ls i = some (fz_r x)) (k : fz_R d M (pc + 2) ls (fz_r x :: st) h Q) : fz_R d M pc ls st h Q :=
  fz_load hv (fun E p l e R s m args below meth c cells slots Qf H locs lsc hx hb hs kk => lv_aload hx hb (fz_dec hM hc) hs kk) k
def fz_s1 (i : Nat) (ls : List (Nat × fz_V)) : List (Nat × fz_V) := ls.filter (fun q => !(q.1 == i) && !(q.1 + 1 == i && fz_cat q.2 == 2))
def fz_s2 (i : Nat) (ls : List (Nat × fz_V)) : List (Nat × fz_V) := ls.filter (fun q => !(q.1 == i) && (!(q.1 == i + 1) && !(q.1 + 1 == i && fz_cat q.2 == 2)))
theorem fz_s1_map (E : fz_E) (i : Nat) (ls : List (Nat × fz_V)) : (ls.map (fun q => (q.1, fz_cv (fz_ad E) q.2))).filter (fun q => !(q.1 == i) && !(q.1 + 1 == i && q.2.category == 2)) = (fz_s1 i ls).map (fun q => (q.1, fz_cv (fz_ad E) q.2)) := by
  unfold fz_s1
  rw [List.filter_map]
  congr 2
  funext q
  simp [Function.comp, fz_cat_cv]
theorem fz_s2_map (E : fz_E) (i : Nat) (ls : List (Nat × fz_V)) : (ls.map (fun q => (q.1, fz_cv (fz_ad E) q.2))).filter (fun q => !(q.1 == i) && (!(q.1 == i + 1) && !(q.1 + 1 == i && q.2.category == 2))) = (fz_s2 i ls).map (fun q => (q.1, fz_cv (fz_ad E) q.2)) := by
  unfold fz_s2
  rw [List.filter_map]
  congr 2
  funext q
  simp [Function.comp, fz_cat_cv]
theorem fz_store {i n : Nat} {v : fz_V} (hsub : ∀ q ∈ ls', q ∈ ls ∨ q = (i, v))
    (hw : ∀ (E : fz_E) (p : Program) (l : Launch) (e : Env) (R : Room) (s : State) (m : MethodId) (args : Array Value) (below : List Frame) (meth : Method) (c : Code) (cells slots : Nat) (Qf : State → Prop) (H : Heap) (locs : List Loc) (lsc : Array Slot),
      p.tables.exec = Jvm.exec → c.code = M.2.1 → lv_has lsc M.2.2.1 (ls.map (fun q => (q.1, fz_cv (fz_ad E) q.2))) →
      (∀ lsc : Array Slot, lv_has lsc M.2.2.1 (ls'.map (fun q => (q.1, fz_cv (fz_ad E) q.2))) → W p l e R s m args below meth c H locs cells slots Qf (F0 m (pc + n) lsc (st.map (fz_cv (fz_ad E))))) →
      W p l e R s m args below meth c H locs cells slots Qf (F0 m pc lsc (fz_cv (fz_ad E) v :: st.map (fz_cv (fz_ad E)))))
    (k : fz_R d M (pc + n) ls' st h Q) : fz_R d M pc ls (v :: st) h Q := by
  intro E p l e R s m args below meth c cells slots Qf C hend H locs lsc hW hs hn hh
  refine hw E p l e R s m args below meth c cells slots Qf H locs lsc C.1 C.2.1 hh (fun lsc hh => k E p l e R s m args below meth c cells slots Qf C hend H locs lsc hW (fz_tl hs) (fun q hq => ?_) hh)
  rcases hsub q hq with h1 | h1
  · exact hn q h1
  · rw [h1]; exact fz_h1 hs
theorem fz_s1_sub {i : Nat} {v : fz_V} (hl : (i, v) :: fz_s1 i ls = ls') : ∀ q ∈ ls', q ∈ ls ∨ q = (i, v) := by
  subst hl
  intro q hq
  rcases List.mem_cons.mp hq with h1 | h1
  · exact Or.inr h1
  · exact Or.inl (List.mem_filter.mp h1).1
theorem fz_s2_sub {i : Nat} {v : fz_V} (hl : (i, v) :: fz_s2 i ls = ls') : ∀ q ∈ ls', q ∈ ls ∨ q = (i, v) := by
  subst hl
  intro q hq
  rcases List.mem_cons.mp hq with h1 | h1
  · exact Or.inr h1
  · exact Or.inl (List.mem_filter.mp h1).1
theorem fz_istore_n {n : Fin 4} {x : Int} (hM : fz_okM M = true) (hc : fz_at M.2.2.2.2 pc = some (.istore_n n, 1, a, b, w)) (hi : (n : Nat) < M.2.2.1) (hl : ((n : Nat), fz_i x) :: fz_s1 (n : Nat) ls = ls') (k : fz_R d M (pc + 1) ls' st h Q) : fz_R d M pc ls (fz_i x :: st) h Q :=
  fz_store (fz_s1_sub hl) (fun E p l e R s m args below meth c cells slots Qf H locs lsc hx hb hh kk => lv_istore_n hx hb (fz_dec hM hc) rfl hh hi (by rw [fz_s1_map, ← hl]; rfl) kk) k
theorem fz_istore {i : Nat} {x : Int} (hM : fz_okM M = true) (hc : fz_at M.2.2.2.2 pc = some (.istore i, 2, a, b, w)) (hi : i < M.2.2.1) (hl : (i, fz_i x) :: fz_s1 i ls = ls') (k : fz_R d M (pc + 2) ls' st h Q) : fz_R d M pc ls (fz_i x :: st) h Q :=
  fz_store (fz_s1_sub hl) (fun E p l e R s m args below meth c cells slots Qf H locs lsc hx hb hh kk => lv_istore hx hb (fz_dec hM hc) hh hi (by rw [fz_s1_map, ← hl]; rfl) kk) k
theorem fz_lstore_n {n : Fin 4} {x : Int} (hM : fz_okM M = true) (hc : fz_at M.2.2.2.2 pc = some (.lstore_n n, 1, a, b, w)) (hi : (n : Nat) + 1 < M.2.2.1) (hl : ((n : Nat), fz_l x) :: fz_s2 (n : Nat) ls = ls') (k : fz_R d M (pc + 1) ls' st h Q) : fz_R d M pc ls (fz_l x :: st) h Q :=
  fz_store (fz_s2_sub hl) (fun E p l e R s m args below meth c cells slots Qf H locs lsc hx hb hh kk => lv_lstore_n hx hb (fz_dec hM hc) rfl hh hi (by rw [fz_s2_map, ← hl]; rfl) kk) k
theorem fz_lstore {i : Nat} {x : Int} (hM : fz_okM M = true) (hc : fz_at M.2.2.2.2 pc = some (.lstore i, 2, a, b, w)) (hi : i + 1 < M.2.2.1) (hl : (i, fz_l x) :: fz_s2 i ls = ls') (k : fz_R d M (pc + 2) ls' st h Q) : fz_R d M pc ls (fz_l x :: st) h Q :=
  fz_store (fz_s2_sub hl) (fun E p l e R s m args below meth c cells slots Qf H locs lsc hx hb hh kk => lv_lstore hx hb (fz_dec hM hc) hh hi (by rw [fz_s2_map, ← hl]; rfl) kk) k
theorem fz_iinc {i : Nat} {n x : Int} (hM : fz_okM M = true) (hc : fz_at M.2.2.2.2 pc = some (.iinc i n, 3, a, b, w)) (hi : i < M.2.2.1) (hv : fz_lk ls i = some (fz_i x)) (hl : (i, fz_i (fz_w (x + n))) :: fz_s1 i ls = ls') (k : fz_R d M (pc + 3) ls' st h Q) : fz_R d M pc ls st h Q := by
  intro E p l e R s m args below meth c cells slots Qf C hend H locs lsc hW hs hn hh
  have hm := fz_lk_mem hv
  obtain ⟨j, hj⟩ := List.getElem?_of_mem hm
  refine lv_iinc (lv' := ls'.map (fun q => (q.1, fz_cv (fz_ad E) q.2))) (v := Int32.ofInt (fz_w (x + n))) (k := j) (x := Int32.ofInt x) C.1 C.2.1 (fz_dec hM hc) hh (by rw [List.getElem?_map, hj]; rfl) (fz_e_add x n) hi (by rw [fz_s1_map, ← hl]; rfl) (fun lsc hh => ?_)
  refine k E p l e R s m args below meth c cells slots Qf C hend H locs lsc hW hs (fun q hq => ?_) hh
  rcases fz_s1_sub hl q hq with h1 | h1
  · exact hn q h1
  · rw [h1]; exact fz_w_b _
/-- memory -/
theorem fz_get0 {o ci sl t idx : Nat} (hM : fz_okM M = true) (hc : fz_at M.2.2.2.2 pc = some (.getfield idx, 3, sl, ci, w)) (ho : fz_fo o ci sl t = true) {v : fz_V} (hv : ∀ ad : Nat → Nat, fz_fv ad h o sl = fz_cv ad v) (hn : fz_nh h → fz_nv v) (k : fz_R d M (pc + 3) ls (v :: st) h Q) : fz_R d M pc ls (fz_r o :: st) h Q := by
  intro E p l e R s m args below meth c cells slots Qf C hend H locs lsc hW hs hl hh
  obtain ⟨h1, h2, h3, h4, h5⟩ := fz_fo_spec ho
  have hq := List.all_eq_true.mp hM _ (fz_at_mem hc)
  unfold fz_okI at hq
  rw [Bool.and_eq_true] at hq
  have hq2 := hq.2
  dsimp only at hq2
  cases hcl : fz_nth vwCl ci with
  | none => rw [hcl] at hq2; cases hq2
  | some z =>
    obtain ⟨Cn, T, N⟩ := z
    rw [hcl] at hq2
    simp only [Bool.and_eq_true, decide_eq_true_eq] at hq2
    have hts := C.2.2.2.2.2.1
    have hK := C.2.2.2.2.2.2.2.2.2.1
    have hat := fz_ws_at E h h5
    rw [show fz_ce E h o = .inr (ci, (List.range (fz_sh o).2.2).map (fz_fv (fz_ad E) h o)) by unfold fz_ce; rw [if_pos h1, h2]] at hat
    refine va_get (D := fz_dA E) (ci := ci) (v := fz_cv (fz_ad E) v) (C := Cn) (T := T) (N := N) C.1 C.2.1 hts (fz_cl_in hcl) C.2.2.2.2.1 hK hW.1 o hat (by rw [← fz_nth_eq]; exact hcl) sl hq2.1 (hts _ (fz_isF_spec hq2.2)) (fun _ h9 => h9) ?_ (fz_dec hM hc) ?_
    · rw [← hv]
      simp [h3]
    · exact k E p l e R s m args below meth c cells slots Qf C hend H locs lsc hW (fz_n1 (hn hW.2.2.2.1) hs) hl hh
theorem fz_getI {o ci sl idx : Nat} (hM : fz_okM M = true) (hc : fz_at M.2.2.2.2 pc = some (.getfield idx, 3, sl, ci, w)) (ho : fz_fo o ci sl 0 = true) (k : fz_R d M (pc + 3) ls (fz_i (h o sl) :: st) h Q) : fz_R d M pc ls (fz_r o :: st) h Q := by
  obtain ⟨h1, h2, h3, h4, h5⟩ := fz_fo_spec ho
  refine fz_get0 hM hc ho (fun ad => ?_) (fun hn => ?_) k
  · unfold fz_fv
    rw [h4]
    rfl
  · have := hn o sl
    unfold fz_okx at this
    rw [h1, if_neg (by decide)] at this
    exact this
theorem fz_getR {o ci sl t idx : Nat} (hM : fz_okM M = true) (hc : fz_at M.2.2.2.2 pc = some (.getfield idx, 3, sl, ci, w)) (ho : fz_fo o ci sl (t + 1) = true) (k : fz_R d M (pc + 3) ls (fz_r t :: st) h Q) : fz_R d M pc ls (fz_r o :: st) h Q := by
  obtain ⟨h1, h2, h3, h4, h5⟩ := fz_fo_spec ho
  refine fz_get0 (v := fz_r t) hM hc ho (fun ad => ?_) (fun hn => trivial) k
  unfold fz_fv
  rw [h4]
  rfl
def fz_ds (ci sl : Nat) : String := match fz_nth vwCl ci with
  | some (_, T, _) => (T sl).2.2.1
  | none => ""
theorem fz_put0 {o ci sl idx : Nat} {x : Int} {ty : FieldType} (hM : fz_okM M = true) (hc : fz_at M.2.2.2.2 pc = some (.putfield idx, 3, sl, ci, w)) (ho : fz_fo o ci sl 0 = true) (hd : parseFieldDescriptor (fz_ds ci sl) = some ty) (hnar : narrow ty (.int (Int32.ofInt x)) = .int (Int32.ofInt x)) (hfit : fits ty (.int (Int32.ofInt x)) = true) (k : fz_R d M (pc + 3) ls st (fz_up h o sl x) Q) : fz_R d M pc ls (fz_i x :: fz_r o :: st) h Q := by
  intro E p l e R s m args below meth c cells slots Qf C hend H locs lsc hW hs hl hh
  obtain ⟨h1, h2, h3, h4, h5⟩ := fz_fo_spec ho
  have hq := List.all_eq_true.mp hM _ (fz_at_mem hc)
  unfold fz_okI at hq
  rw [Bool.and_eq_true] at hq
  have hq2 := hq.2
  dsimp only at hq2
  cases hcl : fz_nth vwCl ci with
  | none => rw [hcl] at hq2; cases hq2
  | some z =>
    obtain ⟨Cn, T, N⟩ := z
    rw [hcl] at hq2
    simp only [Bool.and_eq_true, decide_eq_true_eq, Bool.not_eq_true'] at hq2
    have hts := C.2.2.2.2.2.1
    have hK := C.2.2.2.2.2.2.2.2.2.1
    have hat := fz_ws_at E h h5
    rw [show fz_ce E h o = .inr (ci, (List.range (fz_sh o).2.2).map (fz_fv (fz_ad E) h o)) by unfold fz_ce; rw [if_pos h1, h2]] at hat
    obtain ⟨ty0, hty⟩ := fz_cl_ty hcl
    have hd' : parseFieldDescriptor (T sl).2.2.1 = some ty := by
      have : fz_ds ci sl = (T sl).2.2.1 := by unfold fz_ds; rw [hcl]
      rw [← this]; exact hd
    show W p l e R s m args below meth c H locs cells slots Qf (F0 m pc lsc (.int (Int32.ofInt x) :: .ref (fz_ad E o) :: st.map (fz_cv (fz_ad E))))
    refine va_put (D := fz_dA E) (ci := ci) (v := .int (Int32.ofInt x)) (ty := ty) (C := Cn) (T := T) (N := N) C.1 C.2.1 hts (fz_cl_in hcl) ty0 hty (fz_cl_nm hcl) C.2.2.2.2.1 hK hW.1 hW.2.1 hW.2.2.1 o hat (by rw [← fz_nth_eq]; exact hcl) sl hq2.1.1 (hts _ (fz_isF_spec hq2.1.2)) (fun _ h9 => h9) hq2.2 hd' hnar hfit (by simpa using h3) (fz_dec hM hc) (fun H1 locs1 hP hD hS => ?_)
    have hws : (fz_ws E h).set o (fz_ad E o, .inr (ci, ((List.range (fz_sh o).2.2).map (fz_fv (fz_ad E) h o)).set sl (.int (Int32.ofInt x)))) = fz_ws E (fz_up h o sl x) := by
      rw [fz_ws_up (h := h) (h' := fz_up h o sl x) (c := o) (fun i hi => fz_up_ne hi)]
      congr 2
      unfold fz_ce
      rw [if_pos h1, h2]
      congr 2
      apply List.ext_getElem?
      intro j
      by_cases hj : j = sl
      · subst hj
        rw [List.getElem?_set_self (by simpa using h3)]
        simp [h3, fz_fv, h4, fz_up]
      · rw [List.getElem?_set_ne (Ne.symm hj)]
        simp only [List.getElem?_map]
        by_cases hl : j < (fz_sh o).2.2
        · simp [hl, fz_fv, fz_up, hj]
        · simp [hl]
    rw [hws] at hP hD
    refine k E p l e R s m args below meth c cells slots Qf C hend H1 locs1 lsc ⟨hP, hD, hS, fz_nh_up hW.2.2.2.1 ?_, fz_ht_up h5 hW.2.2.2.2⟩ (fz_tl (fz_tl hs)) hl hh
    unfold fz_okx
    rw [h1, if_neg (by decide)]
    exact (fz_h1 hs : fz_nv (fz_i x))
theorem fz_putI {o ci sl idx : Nat} {x : Int} (hM : fz_okM M = true) (hc : fz_at M.2.2.2.2 pc = some (.putfield idx, 3, sl, ci, w)) (ho : fz_fo o ci sl 0 = true) (hd : fz_ds ci sl = "I") (k : fz_R d M (pc + 3) ls st (fz_up h o sl x) Q) : fz_R d M pc ls (fz_i x :: fz_r o :: st) h Q :=
  fz_put0 (ty := .int) hM hc ho (by rw [hd]; decide +kernel) rfl rfl k
theorem fz_putZ {o ci sl idx : Nat} {x : Int} (hM : fz_okM M = true) (hc : fz_at M.2.2.2.2 pc = some (.putfield idx, 3, sl, ci, w)) (ho : fz_fo o ci sl 0 = true) (hd : fz_ds ci sl = "Z") (hx : x = 0 ∨ x = 1) (k : fz_R d M (pc + 3) ls st (fz_up h o sl x) Q) : fz_R d M pc ls (fz_i x :: fz_r o :: st) h Q :=
  fz_put0 (ty := .boolean) hM hc ho (by rw [hd]; decide +kernel) (by rcases hx with rfl | rfl <;> decide) (by rcases hx with rfl | rfl <;> decide) k
end FZ
