def fz_st (C n : String) : Term := .static C n "[I"
theorem fz_tab_of {args : Array Value} {s : State} {C n : String} {l : List Int} {A : Nat → Prop} (hs : ∀ c ∈ flatC (Jvm.Cond.and given_1 narrow_1), c.before args s = true) (hlay : (Cond.laysStatic C n "[I").before args s = true) (hini : (Cond.initialized C).before args s = true) (hl : l.length < 1000)
    (h1 : (Cond.arrayOf (fz_st C n) .int) ∈ flatC (Jvm.Cond.and given_1 narrow_1)) (h2 : (Cond.eq (.length (fz_st C n)) (.int (Int32.ofNat l.length))) ∈ flatC (Jvm.Cond.and given_1 narrow_1)) (h3 : ∀ j, j < l.length → (Cond.eq (.elem (fz_st C n) (.int (Int32.ofNat j))) (.int (Int32.ofInt ((fz_nth l j).getD 0)))) ∈ flatC (Jvm.Cond.and given_1 narrow_1)) (hA : ∀ a : Nat, a < s.heap.size → ¬ A a) :
    ∃ t : Nat, va_Z C n "[I" (.ref t) A s s.heap ∧ va_T .int t l.length (fun j => .int (Int32.ofInt (fz_tbl l j))) A s s.heap := by
  obtain ⟨t, ht, hT⟩ := va_Tof (tm := fz_st C n) (ty := .int) (N := l.length) (f := fun j => .int (Int32.ofInt (fz_tbl l j))) (A := A) (by omega) (hs _ h1) (va_eqt (hs _ h2)) (fun j hj => by
    have e : fz_tbl l j = (fz_nth l j).getD 0 := by unfold fz_tbl; rw [if_neg (by omega)]
    rw [e]
    exact va_eqt (hs _ (h3 j hj))) hA
  exact ⟨t, va_Zref hlay hini ht hA, hT⟩
