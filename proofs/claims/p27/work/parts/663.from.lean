def fz_sc (L : Nat) (xs : Nat → Int32) : Nat → Int := fun j => if j = 100000 then (L : Int) else (xs j).toInt
def fz_adr (qs : List Nat) (b t1 t2 t3 t4 : Nat) : Nat → Nat := fun i => if i = 200 then b else if i = 201 then t1 else if i = 202 then t2 else if i = 203 then t3 else if i = 204 then t4 else (fz_nth qs i).getD 0
theorem lw_scr {b L : Nat} {xs : Nat → Int32} {s : State} {A : Nat → Prop} (hX : va_X b L xs s s.heap) (hL : L ≤ 3072) (hA : ¬ A b) : va_T .int b (fz_sc L xs 100000).toNat (fun j => .int (Int32.ofInt (fz_sc L xs j))) A s s.heap := by
  obtain ⟨scr, h1, h2, h3, h4, h5⟩ := hX
  have e : (fz_sc L xs 100000).toNat = L := by unfold fz_sc; rw [if_pos rfl]; omega
  rw [e]
  refine ⟨scr, h1, h2, h3, by omega, by rw [h4], fun j hj => ?_, hA⟩
  rw [h5 j hj]
  show _ = some (Value.int (Int32.ofInt (fz_sc L xs j)))
  unfold fz_sc
  rw [if_neg (by omega), Int32.ofInt_toInt]
theorem lw_from {E : fz_E} {sc : Nat → Int} {p : Program} {l : Launch} {e : Env} {s : State} {m : MethodId} {below : List Frame} {meth : Method} {c : Code} {b L : Nat} {xs : Nat → Int32} {H : Heap} {locs : List Loc} {lsc : Array Slot} (hL : L ≤ 3072) (hsc : sc = fz_sc L xs)
    (hx : p.tables.exec = Jvm.exec) (hb : c.code = code) (hr : meth.sig.returnType = ret) (hml : c.maxLocals = 4) (hown : s.vm.findClass R_law = some m.cls) (hts : ∀ w ∈ fz_tb, w.before #[Value.ref b] s = true) (hlocks : meth.locks = false) (hK : va_K (fz_dA E) vwCl (fz_ty E) s) (hSt : fz_St E s)
    (hP : va_P (fz_dA E) vwCl (fz_ws E (fz_h0 sc)) H) (hD : va_D (fun q : Nat => s.heap.size ≤ q) (fz_ws E (fz_h0 sc))) (hS : va_S (fun q : Nat => s.heap.size ≤ q) s.heap H locs) (htc : ∀ id, 200 ≤ id → fz_h0 sc id = fz_tc E id) (hl : lv_has lsc 4 [(3, .int (Int32.ofInt 0)), (2, .ref (fz_ad E 53)), (1, .ref (fz_ad E 0)), (0, .ref (fz_ad E 200))]) :
    W p l e room_1 s m #[Value.ref b] below meth c H locs 91 4657 (lw_Z below #[Value.ref b] s) (F0 m 18 lsc []) := by
  have hsb : ∀ j, -2147483648 ≤ sc j ∧ sc j ≤ 2147483647 := fun j => by
    have := fz_b32 (xs j)
    rw [hsc]
    unfold fz_sc
    split <;> omega
  have hA : ∀ q, fz_A E q → s.heap.size ≤ q := by
    rintro q ⟨i, hi, rfl⟩
    exact hD.2 i _ (fz_ws_at _ _ hi)
  have hD' : va_D (fz_A E) (fz_ws E (fz_h0 sc)) := ⟨hD.1, fun k q hk => by
    unfold fz_ws at hk
    rw [List.getElem?_map] at hk
    obtain ⟨i, hi, rfl⟩ := Option.map_eq_some_iff.mp hk
    have h1 := List.mem_range.mp (List.mem_of_getElem? hi)
    exact ⟨i, h1, rfl⟩⟩
  refine va_forget (fun x hx => hS.2.2 x hx) ?_
  have hS' : va_S (fz_A E) s.heap H [] := ⟨hS.1, fun q h1 h2 => hS.2.1 q h1 (fun z => absurd (show s.heap.size ≤ q from z) (by omega)), fun _ z => by cases z⟩
  have hL2 : 0 ≤ sc 100000 ∧ sc 100000 ≤ 3072 := by
    rw [hsc]; unfold fz_sc; rw [if_pos rfl]; omega
  refine lw_loop sc hL2 3074 0 (fz_h0 sc) (fz_h0_G hsb) rfl (by omega) (by decide) E p l e room_1 s m #[Value.ref b] below meth c 91 4657 (lw_Z below #[Value.ref b] s) ⟨hx, hb, hr, hml, hown, hts, hlocks, Nat.le_of_ble_eq_true rfl, Nat.le_of_ble_eq_true rfl, hK, Nat.le_of_ble_eq_true rfl, Nat.le_of_ble_eq_true rfl, hSt⟩ ?_ H [] lsc ⟨hP, hD', hS', fun c i => ?_, htc⟩ (fun _ z => by cases z) ?_ (lv_sub hl [0, 3, 2, 1] rfl)
  · intro h' r pc' lsc' H' locs' hr1 hrok hdr hW
    subst hr1
    refine va_forget (fun x hx => hA _ (hW.2.2.1.2.2 x hx)) ?_
    refine W.widen (k := 600000) (n := 7302250) (Nat.le_of_ble_eq_true rfl) (Nat.le_of_ble_eq_true rfl) ?_
    exact lw_ret hx hb hr hlocks hdr
  · have := fz_h0_b hsb c i
    unfold fz_okx
    split <;> omega
  · intro q hq
    simp only [List.mem_cons, List.not_mem_nil, or_false] at hq
    rcases hq with rfl | rfl | rfl | rfl
    · exact ⟨by decide, by decide⟩
    · trivial
    · trivial
    · trivial
