theorem fz_kn {s : State} {args : Array Value} (hts : ∀ w ∈ fz_tb, w.before args s = true) : ∃ (dC : Nat → ClassId) (dI : Nat → Nat → Nat), ∀ (k : Nat) (q : vw_C), vwCl[k]? = some q → u_Kn s q.1 q.2.1 q.2.2 (dC k) (dI k) := by
  obtain ⟨c0, i0, k0⟩ := u_known (C := RX0) (T := TX0) (N := 6) (n := 6) hts (fz_cl_in (ci := 0) rfl) (hts _ (fz_has (n := 1228) rfl rfl))
  obtain ⟨c1, i1, k1⟩ := u_known (C := RX1) (T := TX1) (N := 9) (n := 9) hts (fz_cl_in (ci := 1) rfl) (hts _ (fz_has (n := 2019) rfl rfl))
  obtain ⟨c2, i2, k2⟩ := u_known (C := RX2) (T := TX2) (N := 9) (n := 9) hts (fz_cl_in (ci := 2) rfl) (hts _ (fz_has (n := 1026) rfl rfl))
  obtain ⟨c3, i3, k3⟩ := u_known (C := RX3) (T := TX3) (N := 5) (n := 5) hts (fz_cl_in (ci := 3) rfl) (hts _ (fz_has (n := 1106) rfl rfl))
  obtain ⟨c4, i4, k4⟩ := u_known (C := RX4) (T := TX4) (N := 6) (n := 6) hts (fz_cl_in (ci := 4) rfl) (hts _ (fz_has (n := 1069) rfl rfl))
  obtain ⟨c5, i5, k5⟩ := u_known (C := RX5) (T := TX5) (N := 5) (n := 5) hts (fz_cl_in (ci := 5) rfl) (hts _ (fz_has (n := 1128) rfl rfl))
  obtain ⟨c6, i6, k6⟩ := u_known (C := RX6) (T := TX6) (N := 8) (n := 8) hts (fz_cl_in (ci := 6) rfl) (hts _ (fz_has (n := 1196) rfl rfl))
  obtain ⟨c7, i7, k7⟩ := u_known (C := RX7) (T := TX7) (N := 5) (n := 5) hts (fz_cl_in (ci := 7) rfl) (hts _ (fz_has (n := 2088) rfl rfl))
  obtain ⟨c8, i8, k8⟩ := u_known (C := RX8) (T := TX8) (N := 10) (n := 10) hts (fz_cl_in (ci := 8) rfl) (hts _ (fz_has (n := 1154) rfl rfl))
  obtain ⟨c9, i9, k9⟩ := u_known (C := RX9) (T := TX9) (N := 6) (n := 6) hts (fz_cl_in (ci := 9) rfl) (hts _ (fz_has (n := 2060) rfl rfl))
  obtain ⟨c10, i10, k10⟩ := u_known (C := RX10) (T := TX10) (N := 10) (n := 10) hts (fz_cl_in (ci := 10) rfl) (hts _ (fz_has (n := 1018) rfl rfl))
  obtain ⟨c11, i11, k11⟩ := u_known (C := RX11) (T := TX11) (N := 58) (n := 58) hts (fz_cl_in (ci := 11) rfl) (hts _ (fz_has (n := 5082) rfl rfl))
  refine ⟨fun k => (fz_nth [c0, c1, c2, c3, c4, c5, c6, c7, c8, c9, c10, c11] k).getD c0, fun k => (fz_nth [i0, i1, i2, i3, i4, i5, i6, i7, i8, i9, i10, i11] k).getD i0, fun k q hq => ?_⟩
  match k, hq with
  | 0, hq => cases hq; exact k0
  | 1, hq => cases hq; exact k1
  | 2, hq => cases hq; exact k2
  | 3, hq => cases hq; exact k3
  | 4, hq => cases hq; exact k4
  | 5, hq => cases hq; exact k5
  | 6, hq => cases hq; exact k6
  | 7, hq => cases hq; exact k7
  | 8, hq => cases hq; exact k8
  | 9, hq => cases hq; exact k9
  | 10, hq => cases hq; exact k10
  | 11, hq => cases hq; exact k11
  | k + 12, hq => simp [vwCl] at hq
theorem fz_arr {s : State} {args : Array Value} {ty : FieldType} (hty : ty = .int ∨ ty = .long) (h : (Cond.arrayClass ty).before args s = true) : ∃ c : ClassId, ArrOfT s c ty ∧ va_RA s c ty := by
  obtain ⟨c, k, comp, h1, h2, h3⟩ := Cond.arrayClass_spec h
  refine ⟨c, fun n z => ⟨fun k h => (by cases h), k, h2, comp, h3⟩, ?_⟩
  rcases hty with rfl | rfl
  · exact h1
  · exact h1
