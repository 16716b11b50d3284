/-! ===== what the methods keep ===== -/
abbrev qX9_ownerFrom_0_0 (h : fz_H) : fz_H → Option fz_V → Prop := fun h' r0 => h' = h ∧ ∃ r : Int, r0 = some (fz_i r) ∧ (0 ≤ r ∧ r ≤ 0)
set_option maxHeartbeats 1000000 in
set_option maxRecDepth 100000 in
theorem sX9_ownerFrom_0_0 (h : fz_H) (hI : fz_Iv h) : fz_R 0 mX9_ownerFrom 0 [(0, fz_i 0), (1, fz_i 0)] [] h (qX9_ownerFrom_0_0 h) := by
  refine fz_iload_n kX9_ownerFrom rfl rfl ?_
  refine fz_istore_n (ls' := [(2, fz_i 0), (0, fz_i 0), (1, fz_i 0)]) kX9_ownerFrom rfl (by decide) rfl ?_
  refine fz_iconst ⟨by decide, by decide⟩ kX9_ownerFrom rfl ?_
  refine fz_istore_n (ls' := [(3, fz_i 0), (2, fz_i 0), (0, fz_i 0), (1, fz_i 0)]) kX9_ownerFrom rfl (by decide) rfl ?_
  refine fz_iload_n kX9_ownerFrom rfl rfl ?_
  refine fz_bipush ⟨by decide, by decide⟩ kX9_ownerFrom rfl ?_
  refine fz_icmp_ge (tgt := 38) kX9_ownerFrom rfl (by decide) (fun c1 => ?_) (fun c1 => ?_)
  · exfalso; omega
  · refine fz_iload_n kX9_ownerFrom rfl rfl ?_
    refine fz_if_le (tgt := 38) kX9_ownerFrom rfl (by decide) (fun c2 => ?_) (fun c2 => ?_)
    · refine fz_iload_n kX9_ownerFrom rfl rfl ?_
      exact fz_iret kX9_ownerFrom rfl rfl (fun _ => ⟨rfl, _, rfl, (by omega)⟩)
    · exfalso; omega

abbrev qX9_ownerFrom_0_1 (h : fz_H) : fz_H → Option fz_V → Prop := fun h' r0 => h' = h ∧ ∃ r : Int, r0 = some (fz_i r) ∧ (0 ≤ r ∧ r ≤ 0)
set_option maxHeartbeats 1000000 in
set_option maxRecDepth 100000 in
theorem sX9_ownerFrom_0_1 (h : fz_H) (hI : fz_Iv h) : fz_R 0 mX9_ownerFrom 0 [(0, fz_i 0), (1, fz_i 1)] [] h (qX9_ownerFrom_0_1 h) := by
  refine fz_iload_n kX9_ownerFrom rfl rfl ?_
  refine fz_istore_n (ls' := [(2, fz_i 0), (0, fz_i 0), (1, fz_i 1)]) kX9_ownerFrom rfl (by decide) rfl ?_
  refine fz_iconst ⟨by decide, by decide⟩ kX9_ownerFrom rfl ?_
  refine fz_istore_n (ls' := [(3, fz_i 0), (2, fz_i 0), (0, fz_i 0), (1, fz_i 1)]) kX9_ownerFrom rfl (by decide) rfl ?_
  refine fz_iload_n kX9_ownerFrom rfl rfl ?_
  refine fz_bipush ⟨by decide, by decide⟩ kX9_ownerFrom rfl ?_
  refine fz_icmp_ge (tgt := 38) kX9_ownerFrom rfl (by decide) (fun c1 => ?_) (fun c1 => ?_)
  · exfalso; omega
  · refine fz_iload_n kX9_ownerFrom rfl rfl ?_
    refine fz_if_le (tgt := 38) kX9_ownerFrom rfl (by decide) (fun c2 => ?_) (fun c2 => ?_)
    · refine fz_iload_n kX9_ownerFrom rfl rfl ?_
      exact fz_iret kX9_ownerFrom rfl rfl (fun _ => ⟨rfl, _, rfl, (by omega)⟩)
    · exfalso; omega

abbrev qX9_ownerFrom_0_2 (h : fz_H) : fz_H → Option fz_V → Prop := fun h' r0 => h' = h ∧ ∃ r : Int, r0 = some (fz_i r) ∧ (0 ≤ r ∧ r ≤ 0)
set_option maxHeartbeats 1000000 in
set_option maxRecDepth 100000 in
theorem sX9_ownerFrom_0_2 (h : fz_H) (hI : fz_Iv h) : fz_R 0 mX9_ownerFrom 0 [(0, fz_i 0), (1, fz_i 2)] [] h (qX9_ownerFrom_0_2 h) := by
  refine fz_iload_n kX9_ownerFrom rfl rfl ?_
  refine fz_istore_n (ls' := [(2, fz_i 0), (0, fz_i 0), (1, fz_i 2)]) kX9_ownerFrom rfl (by decide) rfl ?_
  refine fz_iconst ⟨by decide, by decide⟩ kX9_ownerFrom rfl ?_
  refine fz_istore_n (ls' := [(3, fz_i 0), (2, fz_i 0), (0, fz_i 0), (1, fz_i 2)]) kX9_ownerFrom rfl (by decide) rfl ?_
  refine fz_iload_n kX9_ownerFrom rfl rfl ?_
  refine fz_bipush ⟨by decide, by decide⟩ kX9_ownerFrom rfl ?_
  refine fz_icmp_ge (tgt := 38) kX9_ownerFrom rfl (by decide) (fun c1 => ?_) (fun c1 => ?_)
  · exfalso; omega
  · refine fz_iload_n kX9_ownerFrom rfl rfl ?_
    refine fz_if_le (tgt := 38) kX9_ownerFrom rfl (by decide) (fun c2 => ?_) (fun c2 => ?_)
    · refine fz_iload_n kX9_ownerFrom rfl rfl ?_
      exact fz_iret kX9_ownerFrom rfl rfl (fun _ => ⟨rfl, _, rfl, (by omega)⟩)
    · exfalso; omega

abbrev qX9_ownerFrom_0_3 (h : fz_H) : fz_H → Option fz_V → Prop := fun h' r0 => h' = h ∧ ∃ r : Int, r0 = some (fz_i r) ∧ (0 ≤ r ∧ r ≤ 0)
set_option maxHeartbeats 1000000 in
set_option maxRecDepth 100000 in
theorem sX9_ownerFrom_0_3 (h : fz_H) (hI : fz_Iv h) : fz_R 0 mX9_ownerFrom 0 [(0, fz_i 0), (1, fz_i 3)] [] h (qX9_ownerFrom_0_3 h) := by
  refine fz_iload_n kX9_ownerFrom rfl rfl ?_
  refine fz_istore_n (ls' := [(2, fz_i 0), (0, fz_i 0), (1, fz_i 3)]) kX9_ownerFrom rfl (by decide) rfl ?_
  refine fz_iconst ⟨by decide, by decide⟩ kX9_ownerFrom rfl ?_
  refine fz_istore_n (ls' := [(3, fz_i 0), (2, fz_i 0), (0, fz_i 0), (1, fz_i 3)]) kX9_ownerFrom rfl (by decide) rfl ?_
  refine fz_iload_n kX9_ownerFrom rfl rfl ?_
  refine fz_bipush ⟨by decide, by decide⟩ kX9_ownerFrom rfl ?_
  refine fz_icmp_ge (tgt := 38) kX9_ownerFrom rfl (by decide) (fun c1 => ?_) (fun c1 => ?_)
  · exfalso; omega
  · refine fz_iload_n kX9_ownerFrom rfl rfl ?_
    refine fz_if_le (tgt := 38) kX9_ownerFrom rfl (by decide) (fun c2 => ?_) (fun c2 => ?_)
    · refine fz_iload_n kX9_ownerFrom rfl rfl ?_
      exact fz_iret kX9_ownerFrom rfl rfl (fun _ => ⟨rfl, _, rfl, (by omega)⟩)
    · exfalso; omega

abbrev qX9_ownerFrom_1_0 (h : fz_H) : fz_H → Option fz_V → Prop := fun h' r0 => h' = h ∧ ∃ r : Int, r0 = some (fz_i r) ∧ (1 ≤ r ∧ r ≤ 1)
set_option maxHeartbeats 1000000 in
set_option maxRecDepth 100000 in
theorem sX9_ownerFrom_1_0 (h : fz_H) (hI : fz_Iv h) : fz_R 0 mX9_ownerFrom 0 [(0, fz_i 1), (1, fz_i 0)] [] h (qX9_ownerFrom_1_0 h) := by
  refine fz_iload_n kX9_ownerFrom rfl rfl ?_
  refine fz_istore_n (ls' := [(2, fz_i 1), (0, fz_i 1), (1, fz_i 0)]) kX9_ownerFrom rfl (by decide) rfl ?_
  refine fz_iconst ⟨by decide, by decide⟩ kX9_ownerFrom rfl ?_
  refine fz_istore_n (ls' := [(3, fz_i 0), (2, fz_i 1), (0, fz_i 1), (1, fz_i 0)]) kX9_ownerFrom rfl (by decide) rfl ?_
  refine fz_iload_n kX9_ownerFrom rfl rfl ?_
  refine fz_bipush ⟨by decide, by decide⟩ kX9_ownerFrom rfl ?_
  refine fz_icmp_ge (tgt := 38) kX9_ownerFrom rfl (by decide) (fun c1 => ?_) (fun c1 => ?_)
  · exfalso; omega
  · refine fz_iload_n kX9_ownerFrom rfl rfl ?_
    refine fz_if_le (tgt := 38) kX9_ownerFrom rfl (by decide) (fun c2 => ?_) (fun c2 => ?_)
    · exfalso; omega
    · refine fz_gets kX9_ownerFrom rfl ?_
      refine fz_iload_n kX9_ownerFrom rfl rfl ?_
      refine fz_iconst ⟨by decide, by decide⟩ kX9_ownerFrom rfl ?_
      refine fz_imulN kX9_ownerFrom rfl ⟨by decide, by decide⟩ ?_
      refine fz_eqi (y := 4) rfl ?_
      refine fz_iload_n kX9_ownerFrom rfl rfl ?_
      refine fz_iaddN kX9_ownerFrom rfl ⟨by decide, by decide⟩ ?_
      refine fz_eqi (y := 4) rfl ?_
      refine fz_taldV (v := 20) kX9_ownerFrom rfl ⟨by decide, by decide⟩ (by omega) (by rw [hI.2.2.2.1]; decide) (by rw [hI.2.2.2.1]; rfl) ?_
      refine fz_if_ne (tgt := 38) kX9_ownerFrom rfl (by decide) (fun c5 => ?_) (fun c5 => ?_)
      · refine fz_iload_n kX9_ownerFrom rfl rfl ?_
        exact fz_iret kX9_ownerFrom rfl rfl (fun _ => ⟨rfl, _, rfl, (by omega)⟩)
      · exfalso; omega

abbrev qX9_ownerFrom_1_1 (h : fz_H) : fz_H → Option fz_V → Prop := fun h' r0 => h' = h ∧ ∃ r : Int, r0 = some (fz_i r) ∧ (0 ≤ r ∧ r ≤ 0)
set_option maxHeartbeats 1000000 in
set_option maxRecDepth 100000 in
theorem sX9_ownerFrom_1_1 (h : fz_H) (hI : fz_Iv h) : fz_R 0 mX9_ownerFrom 0 [(0, fz_i 1), (1, fz_i 1)] [] h (qX9_ownerFrom_1_1 h) := by
  refine fz_iload_n kX9_ownerFrom rfl rfl ?_
  refine fz_istore_n (ls' := [(2, fz_i 1), (0, fz_i 1), (1, fz_i 1)]) kX9_ownerFrom rfl (by decide) rfl ?_
  refine fz_iconst ⟨by decide, by decide⟩ kX9_ownerFrom rfl ?_
  refine fz_istore_n (ls' := [(3, fz_i 0), (2, fz_i 1), (0, fz_i 1), (1, fz_i 1)]) kX9_ownerFrom rfl (by decide) rfl ?_
  refine fz_iload_n kX9_ownerFrom rfl rfl ?_
  refine fz_bipush ⟨by decide, by decide⟩ kX9_ownerFrom rfl ?_
  refine fz_icmp_ge (tgt := 38) kX9_ownerFrom rfl (by decide) (fun c1 => ?_) (fun c1 => ?_)
  · exfalso; omega
  · refine fz_iload_n kX9_ownerFrom rfl rfl ?_
    refine fz_if_le (tgt := 38) kX9_ownerFrom rfl (by decide) (fun c2 => ?_) (fun c2 => ?_)
    · exfalso; omega
    · refine fz_gets kX9_ownerFrom rfl ?_
      refine fz_iload_n kX9_ownerFrom rfl rfl ?_
      refine fz_iconst ⟨by decide, by decide⟩ kX9_ownerFrom rfl ?_
      refine fz_imulN kX9_ownerFrom rfl ⟨by decide, by decide⟩ ?_
      refine fz_eqi (y := 4) rfl ?_
      refine fz_iload_n kX9_ownerFrom rfl rfl ?_
      refine fz_iaddN kX9_ownerFrom rfl ⟨by decide, by decide⟩ ?_
      refine fz_eqi (y := 5) rfl ?_
      refine fz_taldV (v := 0) kX9_ownerFrom rfl ⟨by decide, by decide⟩ (by omega) (by rw [hI.2.2.2.1]; decide) (by rw [hI.2.2.2.1]; rfl) ?_
      refine fz_if_ne (tgt := 38) kX9_ownerFrom rfl (by decide) (fun c5 => ?_) (fun c5 => ?_)
      · exfalso; omega
      · refine fz_gets kX9_ownerFrom rfl ?_
        refine fz_iload_n kX9_ownerFrom rfl rfl ?_
        refine fz_taldV (v := 0) kX9_ownerFrom rfl ⟨by decide, by decide⟩ (by omega) (by rw [hI.2.2.2.2]; decide) (by rw [hI.2.2.2.2]; rfl) ?_
        refine fz_istore_n (ls' := [(2, fz_i 0), (3, fz_i 0), (0, fz_i 1), (1, fz_i 1)]) kX9_ownerFrom rfl (by decide) rfl ?_
        refine fz_iincN (ls' := [(3, fz_i (0 + 1)), (2, fz_i 0), (0, fz_i 1), (1, fz_i 1)]) kX9_ownerFrom rfl (by decide) rfl (by omega) rfl ?_
        refine fz_goto (tgt := 4) kX9_ownerFrom rfl (by decide) ?_
        refine fz_iload_n kX9_ownerFrom rfl rfl ?_
        refine fz_bipush ⟨by decide, by decide⟩ kX9_ownerFrom rfl ?_
        refine fz_icmp_ge (tgt := 38) kX9_ownerFrom rfl (by decide) (fun c8 => ?_) (fun c8 => ?_)
        · exfalso; omega
        · refine fz_iload_n kX9_ownerFrom rfl rfl ?_
          refine fz_if_le (tgt := 38) kX9_ownerFrom rfl (by decide) (fun c9 => ?_) (fun c9 => ?_)
          · refine fz_iload_n kX9_ownerFrom rfl rfl ?_
            exact fz_iret kX9_ownerFrom rfl rfl (fun _ => ⟨rfl, _, rfl, (by omega)⟩)
          · exfalso; omega

abbrev qX9_ownerFrom_1_2 (h : fz_H) : fz_H → Option fz_V → Prop := fun h' r0 => h' = h ∧ ∃ r : Int, r0 = some (fz_i r) ∧ (0 ≤ r ∧ r ≤ 0)
set_option maxHeartbeats 1000000 in
set_option maxRecDepth 100000 in
theorem sX9_ownerFrom_1_2 (h : fz_H) (hI : fz_Iv h) : fz_R 0 mX9_ownerFrom 0 [(0, fz_i 1), (1, fz_i 2)] [] h (qX9_ownerFrom_1_2 h) := by
  refine fz_iload_n kX9_ownerFrom rfl rfl ?_
  refine fz_istore_n (ls' := [(2, fz_i 1), (0, fz_i 1), (1, fz_i 2)]) kX9_ownerFrom rfl (by decide) rfl ?_
  refine fz_iconst ⟨by decide, by decide⟩ kX9_ownerFrom rfl ?_
  refine fz_istore_n (ls' := [(3, fz_i 0), (2, fz_i 1), (0, fz_i 1), (1, fz_i 2)]) kX9_ownerFrom rfl (by decide) rfl ?_
  refine fz_iload_n kX9_ownerFrom rfl rfl ?_
  refine fz_bipush ⟨by decide, by decide⟩ kX9_ownerFrom rfl ?_
  refine fz_icmp_ge (tgt := 38) kX9_ownerFrom rfl (by decide) (fun c1 => ?_) (fun c1 => ?_)
  · exfalso; omega
  · refine fz_iload_n kX9_ownerFrom rfl rfl ?_
    refine fz_if_le (tgt := 38) kX9_ownerFrom rfl (by decide) (fun c2 => ?_) (fun c2 => ?_)
    · exfalso; omega
    · refine fz_gets kX9_ownerFrom rfl ?_
      refine fz_iload_n kX9_ownerFrom rfl rfl ?_
      refine fz_iconst ⟨by decide, by decide⟩ kX9_ownerFrom rfl ?_
      refine fz_imulN kX9_ownerFrom rfl ⟨by decide, by decide⟩ ?_
      refine fz_eqi (y := 4) rfl ?_
      refine fz_iload_n kX9_ownerFrom rfl rfl ?_
      refine fz_iaddN kX9_ownerFrom rfl ⟨by decide, by decide⟩ ?_
      refine fz_eqi (y := 6) rfl ?_
      refine fz_taldV (v := 0) kX9_ownerFrom rfl ⟨by decide, by decide⟩ (by omega) (by rw [hI.2.2.2.1]; decide) (by rw [hI.2.2.2.1]; rfl) ?_
      refine fz_if_ne (tgt := 38) kX9_ownerFrom rfl (by decide) (fun c5 => ?_) (fun c5 => ?_)
      · exfalso; omega
      · refine fz_gets kX9_ownerFrom rfl ?_
        refine fz_iload_n kX9_ownerFrom rfl rfl ?_
        refine fz_taldV (v := 0) kX9_ownerFrom rfl ⟨by decide, by decide⟩ (by omega) (by rw [hI.2.2.2.2]; decide) (by rw [hI.2.2.2.2]; rfl) ?_
        refine fz_istore_n (ls' := [(2, fz_i 0), (3, fz_i 0), (0, fz_i 1), (1, fz_i 2)]) kX9_ownerFrom rfl (by decide) rfl ?_
        refine fz_iincN (ls' := [(3, fz_i (0 + 1)), (2, fz_i 0), (0, fz_i 1), (1, fz_i 2)]) kX9_ownerFrom rfl (by decide) rfl (by omega) rfl ?_
        refine fz_goto (tgt := 4) kX9_ownerFrom rfl (by decide) ?_
        refine fz_iload_n kX9_ownerFrom rfl rfl ?_
        refine fz_bipush ⟨by decide, by decide⟩ kX9_ownerFrom rfl ?_
        refine fz_icmp_ge (tgt := 38) kX9_ownerFrom rfl (by decide) (fun c8 => ?_) (fun c8 => ?_)
        · exfalso; omega
        · refine fz_iload_n kX9_ownerFrom rfl rfl ?_
          refine fz_if_le (tgt := 38) kX9_ownerFrom rfl (by decide) (fun c9 => ?_) (fun c9 => ?_)
          · refine fz_iload_n kX9_ownerFrom rfl rfl ?_
            exact fz_iret kX9_ownerFrom rfl rfl (fun _ => ⟨rfl, _, rfl, (by omega)⟩)
          · exfalso; omega

abbrev qX9_ownerFrom_1_3 (h : fz_H) : fz_H → Option fz_V → Prop := fun h' r0 => h' = h ∧ ∃ r : Int, r0 = some (fz_i r) ∧ (0 ≤ r ∧ r ≤ 0)
set_option maxHeartbeats 1000000 in
set_option maxRecDepth 100000 in
theorem sX9_ownerFrom_1_3 (h : fz_H) (hI : fz_Iv h) : fz_R 0 mX9_ownerFrom 0 [(0, fz_i 1), (1, fz_i 3)] [] h (qX9_ownerFrom_1_3 h) := by
  refine fz_iload_n kX9_ownerFrom rfl rfl ?_
  refine fz_istore_n (ls' := [(2, fz_i 1), (0, fz_i 1), (1, fz_i 3)]) kX9_ownerFrom rfl (by decide) rfl ?_
  refine fz_iconst ⟨by decide, by decide⟩ kX9_ownerFrom rfl ?_
  refine fz_istore_n (ls' := [(3, fz_i 0), (2, fz_i 1), (0, fz_i 1), (1, fz_i 3)]) kX9_ownerFrom rfl (by decide) rfl ?_
  refine fz_iload_n kX9_ownerFrom rfl rfl ?_
  refine fz_bipush ⟨by decide, by decide⟩ kX9_ownerFrom rfl ?_
  refine fz_icmp_ge (tgt := 38) kX9_ownerFrom rfl (by decide) (fun c1 => ?_) (fun c1 => ?_)
  · exfalso; omega
  · refine fz_iload_n kX9_ownerFrom rfl rfl ?_
    refine fz_if_le (tgt := 38) kX9_ownerFrom rfl (by decide) (fun c2 => ?_) (fun c2 => ?_)
    · exfalso; omega
    · refine fz_gets kX9_ownerFrom rfl ?_
      refine fz_iload_n kX9_ownerFrom rfl rfl ?_
      refine fz_iconst ⟨by decide, by decide⟩ kX9_ownerFrom rfl ?_
      refine fz_imulN kX9_ownerFrom rfl ⟨by decide, by decide⟩ ?_
      refine fz_eqi (y := 4) rfl ?_
      refine fz_iload_n kX9_ownerFrom rfl rfl ?_
      refine fz_iaddN kX9_ownerFrom rfl ⟨by decide, by decide⟩ ?_
      refine fz_eqi (y := 7) rfl ?_
      refine fz_taldV (v := 0) kX9_ownerFrom rfl ⟨by decide, by decide⟩ (by omega) (by rw [hI.2.2.2.1]; decide) (by rw [hI.2.2.2.1]; rfl) ?_
      refine fz_if_ne (tgt := 38) kX9_ownerFrom rfl (by decide) (fun c5 => ?_) (fun c5 => ?_)
      · exfalso; omega
      · refine fz_gets kX9_ownerFrom rfl ?_
        refine fz_iload_n kX9_ownerFrom rfl rfl ?_
        refine fz_taldV (v := 0) kX9_ownerFrom rfl ⟨by decide, by decide⟩ (by omega) (by rw [hI.2.2.2.2]; decide) (by rw [hI.2.2.2.2]; rfl) ?_
        refine fz_istore_n (ls' := [(2, fz_i 0), (3, fz_i 0), (0, fz_i 1), (1, fz_i 3)]) kX9_ownerFrom rfl (by decide) rfl ?_
        refine fz_iincN (ls' := [(3, fz_i (0 + 1)), (2, fz_i 0), (0, fz_i 1), (1, fz_i 3)]) kX9_ownerFrom rfl (by decide) rfl (by omega) rfl ?_
        refine fz_goto (tgt := 4) kX9_ownerFrom rfl (by decide) ?_
        refine fz_iload_n kX9_ownerFrom rfl rfl ?_
        refine fz_bipush ⟨by decide, by decide⟩ kX9_ownerFrom rfl ?_
        refine fz_icmp_ge (tgt := 38) kX9_ownerFrom rfl (by decide) (fun c8 => ?_) (fun c8 => ?_)
        · exfalso; omega
        · refine fz_iload_n kX9_ownerFrom rfl rfl ?_
          refine fz_if_le (tgt := 38) kX9_ownerFrom rfl (by decide) (fun c9 => ?_) (fun c9 => ?_)
          · refine fz_iload_n kX9_ownerFrom rfl rfl ?_
            exact fz_iret kX9_ownerFrom rfl rfl (fun _ => ⟨rfl, _, rfl, (by omega)⟩)
          · exfalso; omega

abbrev qX9_ownerFrom_2_0 (h : fz_H) : fz_H → Option fz_V → Prop := fun h' r0 => h' = h ∧ ∃ r : Int, r0 = some (fz_i r) ∧ (0 ≤ r ∧ r ≤ 0)
set_option maxHeartbeats 1000000 in
set_option maxRecDepth 100000 in
theorem sX9_ownerFrom_2_0 (h : fz_H) (hI : fz_Iv h) : fz_R 0 mX9_ownerFrom 0 [(0, fz_i 2), (1, fz_i 0)] [] h (qX9_ownerFrom_2_0 h) := by
  refine fz_iload_n kX9_ownerFrom rfl rfl ?_
  refine fz_istore_n (ls' := [(2, fz_i 2), (0, fz_i 2), (1, fz_i 0)]) kX9_ownerFrom rfl (by decide) rfl ?_
  refine fz_iconst ⟨by decide, by decide⟩ kX9_ownerFrom rfl ?_
  refine fz_istore_n (ls' := [(3, fz_i 0), (2, fz_i 2), (0, fz_i 2), (1, fz_i 0)]) kX9_ownerFrom rfl (by decide) rfl ?_
  refine fz_iload_n kX9_ownerFrom rfl rfl ?_
  refine fz_bipush ⟨by decide, by decide⟩ kX9_ownerFrom rfl ?_
  refine fz_icmp_ge (tgt := 38) kX9_ownerFrom rfl (by decide) (fun c1 => ?_) (fun c1 => ?_)
  · exfalso; omega
  · refine fz_iload_n kX9_ownerFrom rfl rfl ?_
    refine fz_if_le (tgt := 38) kX9_ownerFrom rfl (by decide) (fun c2 => ?_) (fun c2 => ?_)
    · exfalso; omega
    · refine fz_gets kX9_ownerFrom rfl ?_
      refine fz_iload_n kX9_ownerFrom rfl rfl ?_
      refine fz_iconst ⟨by decide, by decide⟩ kX9_ownerFrom rfl ?_
      refine fz_imulN kX9_ownerFrom rfl ⟨by decide, by decide⟩ ?_
      refine fz_eqi (y := 8) rfl ?_
      refine fz_iload_n kX9_ownerFrom rfl rfl ?_
      refine fz_iaddN kX9_ownerFrom rfl ⟨by decide, by decide⟩ ?_
      refine fz_eqi (y := 8) rfl ?_
      refine fz_taldV (v := 0) kX9_ownerFrom rfl ⟨by decide, by decide⟩ (by omega) (by rw [hI.2.2.2.1]; decide) (by rw [hI.2.2.2.1]; rfl) ?_
      refine fz_if_ne (tgt := 38) kX9_ownerFrom rfl (by decide) (fun c5 => ?_) (fun c5 => ?_)
      · exfalso; omega
      · refine fz_gets kX9_ownerFrom rfl ?_
        refine fz_iload_n kX9_ownerFrom rfl rfl ?_
        refine fz_taldV (v := 0) kX9_ownerFrom rfl ⟨by decide, by decide⟩ (by omega) (by rw [hI.2.2.2.2]; decide) (by rw [hI.2.2.2.2]; rfl) ?_
        refine fz_istore_n (ls' := [(2, fz_i 0), (3, fz_i 0), (0, fz_i 2), (1, fz_i 0)]) kX9_ownerFrom rfl (by decide) rfl ?_
        refine fz_iincN (ls' := [(3, fz_i (0 + 1)), (2, fz_i 0), (0, fz_i 2), (1, fz_i 0)]) kX9_ownerFrom rfl (by decide) rfl (by omega) rfl ?_
        refine fz_goto (tgt := 4) kX9_ownerFrom rfl (by decide) ?_
        refine fz_iload_n kX9_ownerFrom rfl rfl ?_
        refine fz_bipush ⟨by decide, by decide⟩ kX9_ownerFrom rfl ?_
        refine fz_icmp_ge (tgt := 38) kX9_ownerFrom rfl (by decide) (fun c8 => ?_) (fun c8 => ?_)
        · exfalso; omega
        · refine fz_iload_n kX9_ownerFrom rfl rfl ?_
          refine fz_if_le (tgt := 38) kX9_ownerFrom rfl (by decide) (fun c9 => ?_) (fun c9 => ?_)
          · refine fz_iload_n kX9_ownerFrom rfl rfl ?_
            exact fz_iret kX9_ownerFrom rfl rfl (fun _ => ⟨rfl, _, rfl, (by omega)⟩)
          · exfalso; omega

abbrev qX9_ownerFrom_2_1 (h : fz_H) : fz_H → Option fz_V → Prop := fun h' r0 => h' = h ∧ ∃ r : Int, r0 = some (fz_i r) ∧ (2 ≤ r ∧ r ≤ 2)
set_option maxHeartbeats 1000000 in
set_option maxRecDepth 100000 in
theorem sX9_ownerFrom_2_1 (h : fz_H) (hI : fz_Iv h) : fz_R 0 mX9_ownerFrom 0 [(0, fz_i 2), (1, fz_i 1)] [] h (qX9_ownerFrom_2_1 h) := by
  refine fz_iload_n kX9_ownerFrom rfl rfl ?_
  refine fz_istore_n (ls' := [(2, fz_i 2), (0, fz_i 2), (1, fz_i 1)]) kX9_ownerFrom rfl (by decide) rfl ?_
  refine fz_iconst ⟨by decide, by decide⟩ kX9_ownerFrom rfl ?_
  refine fz_istore_n (ls' := [(3, fz_i 0), (2, fz_i 2), (0, fz_i 2), (1, fz_i 1)]) kX9_ownerFrom rfl (by decide) rfl ?_
  refine fz_iload_n kX9_ownerFrom rfl rfl ?_
  refine fz_bipush ⟨by decide, by decide⟩ kX9_ownerFrom rfl ?_
  refine fz_icmp_ge (tgt := 38) kX9_ownerFrom rfl (by decide) (fun c1 => ?_) (fun c1 => ?_)
  · exfalso; omega
  · refine fz_iload_n kX9_ownerFrom rfl rfl ?_
    refine fz_if_le (tgt := 38) kX9_ownerFrom rfl (by decide) (fun c2 => ?_) (fun c2 => ?_)
    · exfalso; omega
    · refine fz_gets kX9_ownerFrom rfl ?_
      refine fz_iload_n kX9_ownerFrom rfl rfl ?_
      refine fz_iconst ⟨by decide, by decide⟩ kX9_ownerFrom rfl ?_
      refine fz_imulN kX9_ownerFrom rfl ⟨by decide, by decide⟩ ?_
      refine fz_eqi (y := 8) rfl ?_
      refine fz_iload_n kX9_ownerFrom rfl rfl ?_
      refine fz_iaddN kX9_ownerFrom rfl ⟨by decide, by decide⟩ ?_
      refine fz_eqi (y := 9) rfl ?_
      refine fz_taldV (v := 30) kX9_ownerFrom rfl ⟨by decide, by decide⟩ (by omega) (by rw [hI.2.2.2.1]; decide) (by rw [hI.2.2.2.1]; rfl) ?_
      refine fz_if_ne (tgt := 38) kX9_ownerFrom rfl (by decide) (fun c5 => ?_) (fun c5 => ?_)
      · refine fz_iload_n kX9_ownerFrom rfl rfl ?_
        exact fz_iret kX9_ownerFrom rfl rfl (fun _ => ⟨rfl, _, rfl, (by omega)⟩)
      · exfalso; omega

abbrev qX9_ownerFrom_2_2 (h : fz_H) : fz_H → Option fz_V → Prop := fun h' r0 => h' = h ∧ ∃ r : Int, r0 = some (fz_i r) ∧ (0 ≤ r ∧ r ≤ 0)
set_option maxHeartbeats 1000000 in
set_option maxRecDepth 100000 in
theorem sX9_ownerFrom_2_2 (h : fz_H) (hI : fz_Iv h) : fz_R 0 mX9_ownerFrom 0 [(0, fz_i 2), (1, fz_i 2)] [] h (qX9_ownerFrom_2_2 h) := by
  refine fz_iload_n kX9_ownerFrom rfl rfl ?_
  refine fz_istore_n (ls' := [(2, fz_i 2), (0, fz_i 2), (1, fz_i 2)]) kX9_ownerFrom rfl (by decide) rfl ?_
  refine fz_iconst ⟨by decide, by decide⟩ kX9_ownerFrom rfl ?_
  refine fz_istore_n (ls' := [(3, fz_i 0), (2, fz_i 2), (0, fz_i 2), (1, fz_i 2)]) kX9_ownerFrom rfl (by decide) rfl ?_
  refine fz_iload_n kX9_ownerFrom rfl rfl ?_
  refine fz_bipush ⟨by decide, by decide⟩ kX9_ownerFrom rfl ?_
  refine fz_icmp_ge (tgt := 38) kX9_ownerFrom rfl (by decide) (fun c1 => ?_) (fun c1 => ?_)
  · exfalso; omega
  · refine fz_iload_n kX9_ownerFrom rfl rfl ?_
    refine fz_if_le (tgt := 38) kX9_ownerFrom rfl (by decide) (fun c2 => ?_) (fun c2 => ?_)
    · exfalso; omega
    · refine fz_gets kX9_ownerFrom rfl ?_
      refine fz_iload_n kX9_ownerFrom rfl rfl ?_
      refine fz_iconst ⟨by decide, by decide⟩ kX9_ownerFrom rfl ?_
      refine fz_imulN kX9_ownerFrom rfl ⟨by decide, by decide⟩ ?_
      refine fz_eqi (y := 8) rfl ?_
      refine fz_iload_n kX9_ownerFrom rfl rfl ?_
      refine fz_iaddN kX9_ownerFrom rfl ⟨by decide, by decide⟩ ?_
      refine fz_eqi (y := 10) rfl ?_
      refine fz_taldV (v := 0) kX9_ownerFrom rfl ⟨by decide, by decide⟩ (by omega) (by rw [hI.2.2.2.1]; decide) (by rw [hI.2.2.2.1]; rfl) ?_
      refine fz_if_ne (tgt := 38) kX9_ownerFrom rfl (by decide) (fun c5 => ?_) (fun c5 => ?_)
      · exfalso; omega
      · refine fz_gets kX9_ownerFrom rfl ?_
        refine fz_iload_n kX9_ownerFrom rfl rfl ?_
        refine fz_taldV (v := 0) kX9_ownerFrom rfl ⟨by decide, by decide⟩ (by omega) (by rw [hI.2.2.2.2]; decide) (by rw [hI.2.2.2.2]; rfl) ?_
        refine fz_istore_n (ls' := [(2, fz_i 0), (3, fz_i 0), (0, fz_i 2), (1, fz_i 2)]) kX9_ownerFrom rfl (by decide) rfl ?_
        refine fz_iincN (ls' := [(3, fz_i (0 + 1)), (2, fz_i 0), (0, fz_i 2), (1, fz_i 2)]) kX9_ownerFrom rfl (by decide) rfl (by omega) rfl ?_
        refine fz_goto (tgt := 4) kX9_ownerFrom rfl (by decide) ?_
        refine fz_iload_n kX9_ownerFrom rfl rfl ?_
        refine fz_bipush ⟨by decide, by decide⟩ kX9_ownerFrom rfl ?_
        refine fz_icmp_ge (tgt := 38) kX9_ownerFrom rfl (by decide) (fun c8 => ?_) (fun c8 => ?_)
        · exfalso; omega
        · refine fz_iload_n kX9_ownerFrom rfl rfl ?_
          refine fz_if_le (tgt := 38) kX9_ownerFrom rfl (by decide) (fun c9 => ?_) (fun c9 => ?_)
          · refine fz_iload_n kX9_ownerFrom rfl rfl ?_
            exact fz_iret kX9_ownerFrom rfl rfl (fun _ => ⟨rfl, _, rfl, (by omega)⟩)
          · exfalso; omega

abbrev qX9_ownerFrom_2_3 (h : fz_H) : fz_H → Option fz_V → Prop := fun h' r0 => h' = h ∧ ∃ r : Int, r0 = some (fz_i r) ∧ (0 ≤ r ∧ r ≤ 0)
set_option maxHeartbeats 1000000 in
set_option maxRecDepth 100000 in
theorem sX9_ownerFrom_2_3 (h : fz_H) (hI : fz_Iv h) : fz_R 0 mX9_ownerFrom 0 [(0, fz_i 2), (1, fz_i 3)] [] h (qX9_ownerFrom_2_3 h) := by
  refine fz_iload_n kX9_ownerFrom rfl rfl ?_
  refine fz_istore_n (ls' := [(2, fz_i 2), (0, fz_i 2), (1, fz_i 3)]) kX9_ownerFrom rfl (by decide) rfl ?_
  refine fz_iconst ⟨by decide, by decide⟩ kX9_ownerFrom rfl ?_
  refine fz_istore_n (ls' := [(3, fz_i 0), (2, fz_i 2), (0, fz_i 2), (1, fz_i 3)]) kX9_ownerFrom rfl (by decide) rfl ?_
  refine fz_iload_n kX9_ownerFrom rfl rfl ?_
  refine fz_bipush ⟨by decide, by decide⟩ kX9_ownerFrom rfl ?_
  refine fz_icmp_ge (tgt := 38) kX9_ownerFrom rfl (by decide) (fun c1 => ?_) (fun c1 => ?_)
  · exfalso; omega
  · refine fz_iload_n kX9_ownerFrom rfl rfl ?_
    refine fz_if_le (tgt := 38) kX9_ownerFrom rfl (by decide) (fun c2 => ?_) (fun c2 => ?_)
    · exfalso; omega
    · refine fz_gets kX9_ownerFrom rfl ?_
      refine fz_iload_n kX9_ownerFrom rfl rfl ?_
      refine fz_iconst ⟨by decide, by decide⟩ kX9_ownerFrom rfl ?_
      refine fz_imulN kX9_ownerFrom rfl ⟨by decide, by decide⟩ ?_
      refine fz_eqi (y := 8) rfl ?_
      refine fz_iload_n kX9_ownerFrom rfl rfl ?_
      refine fz_iaddN kX9_ownerFrom rfl ⟨by decide, by decide⟩ ?_
      refine fz_eqi (y := 11) rfl ?_
      refine fz_taldV (v := 0) kX9_ownerFrom rfl ⟨by decide, by decide⟩ (by omega) (by rw [hI.2.2.2.1]; decide) (by rw [hI.2.2.2.1]; rfl) ?_
      refine fz_if_ne (tgt := 38) kX9_ownerFrom rfl (by decide) (fun c5 => ?_) (fun c5 => ?_)
      · exfalso; omega
      · refine fz_gets kX9_ownerFrom rfl ?_
        refine fz_iload_n kX9_ownerFrom rfl rfl ?_
        refine fz_taldV (v := 0) kX9_ownerFrom rfl ⟨by decide, by decide⟩ (by omega) (by rw [hI.2.2.2.2]; decide) (by rw [hI.2.2.2.2]; rfl) ?_
        refine fz_istore_n (ls' := [(2, fz_i 0), (3, fz_i 0), (0, fz_i 2), (1, fz_i 3)]) kX9_ownerFrom rfl (by decide) rfl ?_
        refine fz_iincN (ls' := [(3, fz_i (0 + 1)), (2, fz_i 0), (0, fz_i 2), (1, fz_i 3)]) kX9_ownerFrom rfl (by decide) rfl (by omega) rfl ?_
        refine fz_goto (tgt := 4) kX9_ownerFrom rfl (by decide) ?_
        refine fz_iload_n kX9_ownerFrom rfl rfl ?_
        refine fz_bipush ⟨by decide, by decide⟩ kX9_ownerFrom rfl ?_
        refine fz_icmp_ge (tgt := 38) kX9_ownerFrom rfl (by decide) (fun c8 => ?_) (fun c8 => ?_)
        · exfalso; omega
        · refine fz_iload_n kX9_ownerFrom rfl rfl ?_
          refine fz_if_le (tgt := 38) kX9_ownerFrom rfl (by decide) (fun c9 => ?_) (fun c9 => ?_)
          · refine fz_iload_n kX9_ownerFrom rfl rfl ?_
            exact fz_iret kX9_ownerFrom rfl rfl (fun _ => ⟨rfl, _, rfl, (by omega)⟩)
          · exfalso; omega

abbrev qX9_ownerFrom_3_0 (h : fz_H) : fz_H → Option fz_V → Prop := fun h' r0 => h' = h ∧ ∃ r : Int, r0 = some (fz_i r) ∧ (0 ≤ r ∧ r ≤ 0)
set_option maxHeartbeats 1000000 in
set_option maxRecDepth 100000 in
theorem sX9_ownerFrom_3_0 (h : fz_H) (hI : fz_Iv h) : fz_R 0 mX9_ownerFrom 0 [(0, fz_i 3), (1, fz_i 0)] [] h (qX9_ownerFrom_3_0 h) := by
  refine fz_iload_n kX9_ownerFrom rfl rfl ?_
  refine fz_istore_n (ls' := [(2, fz_i 3), (0, fz_i 3), (1, fz_i 0)]) kX9_ownerFrom rfl (by decide) rfl ?_
  refine fz_iconst ⟨by decide, by decide⟩ kX9_ownerFrom rfl ?_
  refine fz_istore_n (ls' := [(3, fz_i 0), (2, fz_i 3), (0, fz_i 3), (1, fz_i 0)]) kX9_ownerFrom rfl (by decide) rfl ?_
  refine fz_iload_n kX9_ownerFrom rfl rfl ?_
  refine fz_bipush ⟨by decide, by decide⟩ kX9_ownerFrom rfl ?_
  refine fz_icmp_ge (tgt := 38) kX9_ownerFrom rfl (by decide) (fun c1 => ?_) (fun c1 => ?_)
  · exfalso; omega
  · refine fz_iload_n kX9_ownerFrom rfl rfl ?_
    refine fz_if_le (tgt := 38) kX9_ownerFrom rfl (by decide) (fun c2 => ?_) (fun c2 => ?_)
    · exfalso; omega
    · refine fz_gets kX9_ownerFrom rfl ?_
      refine fz_iload_n kX9_ownerFrom rfl rfl ?_
      refine fz_iconst ⟨by decide, by decide⟩ kX9_ownerFrom rfl ?_
      refine fz_imulN kX9_ownerFrom rfl ⟨by decide, by decide⟩ ?_
      refine fz_eqi (y := 12) rfl ?_
      refine fz_iload_n kX9_ownerFrom rfl rfl ?_
      refine fz_iaddN kX9_ownerFrom rfl ⟨by decide, by decide⟩ ?_
      refine fz_eqi (y := 12) rfl ?_
      refine fz_taldV (v := 0) kX9_ownerFrom rfl ⟨by decide, by decide⟩ (by omega) (by rw [hI.2.2.2.1]; decide) (by rw [hI.2.2.2.1]; rfl) ?_
      refine fz_if_ne (tgt := 38) kX9_ownerFrom rfl (by decide) (fun c5 => ?_) (fun c5 => ?_)
      · exfalso; omega
      · refine fz_gets kX9_ownerFrom rfl ?_
        refine fz_iload_n kX9_ownerFrom rfl rfl ?_
        refine fz_taldV (v := 2) kX9_ownerFrom rfl ⟨by decide, by decide⟩ (by omega) (by rw [hI.2.2.2.2]; decide) (by rw [hI.2.2.2.2]; rfl) ?_
        refine fz_istore_n (ls' := [(2, fz_i 2), (3, fz_i 0), (0, fz_i 3), (1, fz_i 0)]) kX9_ownerFrom rfl (by decide) rfl ?_
        refine fz_iincN (ls' := [(3, fz_i (0 + 1)), (2, fz_i 2), (0, fz_i 3), (1, fz_i 0)]) kX9_ownerFrom rfl (by decide) rfl (by omega) rfl ?_
        refine fz_goto (tgt := 4) kX9_ownerFrom rfl (by decide) ?_
        refine fz_iload_n kX9_ownerFrom rfl rfl ?_
        refine fz_bipush ⟨by decide, by decide⟩ kX9_ownerFrom rfl ?_
        refine fz_icmp_ge (tgt := 38) kX9_ownerFrom rfl (by decide) (fun c8 => ?_) (fun c8 => ?_)
        · exfalso; omega
        · refine fz_iload_n kX9_ownerFrom rfl rfl ?_
          refine fz_if_le (tgt := 38) kX9_ownerFrom rfl (by decide) (fun c9 => ?_) (fun c9 => ?_)
          · exfalso; omega
          · refine fz_gets kX9_ownerFrom rfl ?_
            refine fz_iload_n kX9_ownerFrom rfl rfl ?_
            refine fz_iconst ⟨by decide, by decide⟩ kX9_ownerFrom rfl ?_
            refine fz_imulN kX9_ownerFrom rfl ⟨by decide, by decide⟩ ?_
            refine fz_eqi (y := 8) rfl ?_
            refine fz_iload_n kX9_ownerFrom rfl rfl ?_
            refine fz_iaddN kX9_ownerFrom rfl ⟨by decide, by decide⟩ ?_
            refine fz_eqi (y := 8) rfl ?_
            refine fz_taldV (v := 0) kX9_ownerFrom rfl ⟨by decide, by decide⟩ (by omega) (by rw [hI.2.2.2.1]; decide) (by rw [hI.2.2.2.1]; rfl) ?_
            refine fz_if_ne (tgt := 38) kX9_ownerFrom rfl (by decide) (fun c12 => ?_) (fun c12 => ?_)
            · exfalso; omega
            · refine fz_gets kX9_ownerFrom rfl ?_
              refine fz_iload_n kX9_ownerFrom rfl rfl ?_
              refine fz_taldV (v := 0) kX9_ownerFrom rfl ⟨by decide, by decide⟩ (by omega) (by rw [hI.2.2.2.2]; decide) (by rw [hI.2.2.2.2]; rfl) ?_
              refine fz_istore_n (ls' := [(2, fz_i 0), (3, fz_i (0 + 1)), (0, fz_i 3), (1, fz_i 0)]) kX9_ownerFrom rfl (by decide) rfl ?_
              refine fz_iincN (ls' := [(3, fz_i ((0 + 1) + 1)), (2, fz_i 0), (0, fz_i 3), (1, fz_i 0)]) kX9_ownerFrom rfl (by decide) rfl (by omega) rfl ?_
              refine fz_goto (tgt := 4) kX9_ownerFrom rfl (by decide) ?_
              refine fz_iload_n kX9_ownerFrom rfl rfl ?_
              refine fz_bipush ⟨by decide, by decide⟩ kX9_ownerFrom rfl ?_
              refine fz_icmp_ge (tgt := 38) kX9_ownerFrom rfl (by decide) (fun c15 => ?_) (fun c15 => ?_)
              · exfalso; omega
              · refine fz_iload_n kX9_ownerFrom rfl rfl ?_
                refine fz_if_le (tgt := 38) kX9_ownerFrom rfl (by decide) (fun c16 => ?_) (fun c16 => ?_)
                · refine fz_iload_n kX9_ownerFrom rfl rfl ?_
                  exact fz_iret kX9_ownerFrom rfl rfl (fun _ => ⟨rfl, _, rfl, (by omega)⟩)
                · exfalso; omega

abbrev qX9_ownerFrom_3_1 (h : fz_H) : fz_H → Option fz_V → Prop := fun h' r0 => h' = h ∧ ∃ r : Int, r0 = some (fz_i r) ∧ (3 ≤ r ∧ r ≤ 3)
set_option maxHeartbeats 1000000 in
set_option maxRecDepth 100000 in
theorem sX9_ownerFrom_3_1 (h : fz_H) (hI : fz_Iv h) : fz_R 0 mX9_ownerFrom 0 [(0, fz_i 3), (1, fz_i 1)] [] h (qX9_ownerFrom_3_1 h) := by
  refine fz_iload_n kX9_ownerFrom rfl rfl ?_
  refine fz_istore_n (ls' := [(2, fz_i 3), (0, fz_i 3), (1, fz_i 1)]) kX9_ownerFrom rfl (by decide) rfl ?_
  refine fz_iconst ⟨by decide, by decide⟩ kX9_ownerFrom rfl ?_
  refine fz_istore_n (ls' := [(3, fz_i 0), (2, fz_i 3), (0, fz_i 3), (1, fz_i 1)]) kX9_ownerFrom rfl (by decide) rfl ?_
  refine fz_iload_n kX9_ownerFrom rfl rfl ?_
  refine fz_bipush ⟨by decide, by decide⟩ kX9_ownerFrom rfl ?_
  refine fz_icmp_ge (tgt := 38) kX9_ownerFrom rfl (by decide) (fun c1 => ?_) (fun c1 => ?_)
  · exfalso; omega
  · refine fz_iload_n kX9_ownerFrom rfl rfl ?_
    refine fz_if_le (tgt := 38) kX9_ownerFrom rfl (by decide) (fun c2 => ?_) (fun c2 => ?_)
    · exfalso; omega
    · refine fz_gets kX9_ownerFrom rfl ?_
      refine fz_iload_n kX9_ownerFrom rfl rfl ?_
      refine fz_iconst ⟨by decide, by decide⟩ kX9_ownerFrom rfl ?_
      refine fz_imulN kX9_ownerFrom rfl ⟨by decide, by decide⟩ ?_
      refine fz_eqi (y := 12) rfl ?_
      refine fz_iload_n kX9_ownerFrom rfl rfl ?_
      refine fz_iaddN kX9_ownerFrom rfl ⟨by decide, by decide⟩ ?_
      refine fz_eqi (y := 13) rfl ?_
      refine fz_taldV (v := 41) kX9_ownerFrom rfl ⟨by decide, by decide⟩ (by omega) (by rw [hI.2.2.2.1]; decide) (by rw [hI.2.2.2.1]; rfl) ?_
      refine fz_if_ne (tgt := 38) kX9_ownerFrom rfl (by decide) (fun c5 => ?_) (fun c5 => ?_)
      · refine fz_iload_n kX9_ownerFrom rfl rfl ?_
        exact fz_iret kX9_ownerFrom rfl rfl (fun _ => ⟨rfl, _, rfl, (by omega)⟩)
      · exfalso; omega

abbrev qX9_ownerFrom_3_2 (h : fz_H) : fz_H → Option fz_V → Prop := fun h' r0 => h' = h ∧ ∃ r : Int, r0 = some (fz_i r) ∧ (3 ≤ r ∧ r ≤ 3)
set_option maxHeartbeats 1000000 in
set_option maxRecDepth 100000 in
theorem sX9_ownerFrom_3_2 (h : fz_H) (hI : fz_Iv h) : fz_R 0 mX9_ownerFrom 0 [(0, fz_i 3), (1, fz_i 2)] [] h (qX9_ownerFrom_3_2 h) := by
  refine fz_iload_n kX9_ownerFrom rfl rfl ?_
  refine fz_istore_n (ls' := [(2, fz_i 3), (0, fz_i 3), (1, fz_i 2)]) kX9_ownerFrom rfl (by decide) rfl ?_
  refine fz_iconst ⟨by decide, by decide⟩ kX9_ownerFrom rfl ?_
  refine fz_istore_n (ls' := [(3, fz_i 0), (2, fz_i 3), (0, fz_i 3), (1, fz_i 2)]) kX9_ownerFrom rfl (by decide) rfl ?_
  refine fz_iload_n kX9_ownerFrom rfl rfl ?_
  refine fz_bipush ⟨by decide, by decide⟩ kX9_ownerFrom rfl ?_
  refine fz_icmp_ge (tgt := 38) kX9_ownerFrom rfl (by decide) (fun c1 => ?_) (fun c1 => ?_)
  · exfalso; omega
  · refine fz_iload_n kX9_ownerFrom rfl rfl ?_
    refine fz_if_le (tgt := 38) kX9_ownerFrom rfl (by decide) (fun c2 => ?_) (fun c2 => ?_)
    · exfalso; omega
    · refine fz_gets kX9_ownerFrom rfl ?_
      refine fz_iload_n kX9_ownerFrom rfl rfl ?_
      refine fz_iconst ⟨by decide, by decide⟩ kX9_ownerFrom rfl ?_
      refine fz_imulN kX9_ownerFrom rfl ⟨by decide, by decide⟩ ?_
      refine fz_eqi (y := 12) rfl ?_
      refine fz_iload_n kX9_ownerFrom rfl rfl ?_
      refine fz_iaddN kX9_ownerFrom rfl ⟨by decide, by decide⟩ ?_
      refine fz_eqi (y := 14) rfl ?_
      refine fz_taldV (v := 40) kX9_ownerFrom rfl ⟨by decide, by decide⟩ (by omega) (by rw [hI.2.2.2.1]; decide) (by rw [hI.2.2.2.1]; rfl) ?_
      refine fz_if_ne (tgt := 38) kX9_ownerFrom rfl (by decide) (fun c5 => ?_) (fun c5 => ?_)
      · refine fz_iload_n kX9_ownerFrom rfl rfl ?_
        exact fz_iret kX9_ownerFrom rfl rfl (fun _ => ⟨rfl, _, rfl, (by omega)⟩)
      · exfalso; omega

abbrev qX9_ownerFrom_3_3 (h : fz_H) : fz_H → Option fz_V → Prop := fun h' r0 => h' = h ∧ ∃ r : Int, r0 = some (fz_i r) ∧ (0 ≤ r ∧ r ≤ 0)
set_option maxHeartbeats 1000000 in
set_option maxRecDepth 100000 in
theorem sX9_ownerFrom_3_3 (h : fz_H) (hI : fz_Iv h) : fz_R 0 mX9_ownerFrom 0 [(0, fz_i 3), (1, fz_i 3)] [] h (qX9_ownerFrom_3_3 h) := by
  refine fz_iload_n kX9_ownerFrom rfl rfl ?_
  refine fz_istore_n (ls' := [(2, fz_i 3), (0, fz_i 3), (1, fz_i 3)]) kX9_ownerFrom rfl (by decide) rfl ?_
  refine fz_iconst ⟨by decide, by decide⟩ kX9_ownerFrom rfl ?_
  refine fz_istore_n (ls' := [(3, fz_i 0), (2, fz_i 3), (0, fz_i 3), (1, fz_i 3)]) kX9_ownerFrom rfl (by decide) rfl ?_
  refine fz_iload_n kX9_ownerFrom rfl rfl ?_
  refine fz_bipush ⟨by decide, by decide⟩ kX9_ownerFrom rfl ?_
  refine fz_icmp_ge (tgt := 38) kX9_ownerFrom rfl (by decide) (fun c1 => ?_) (fun c1 => ?_)
  · exfalso; omega
  · refine fz_iload_n kX9_ownerFrom rfl rfl ?_
    refine fz_if_le (tgt := 38) kX9_ownerFrom rfl (by decide) (fun c2 => ?_) (fun c2 => ?_)
    · exfalso; omega
    · refine fz_gets kX9_ownerFrom rfl ?_
      refine fz_iload_n kX9_ownerFrom rfl rfl ?_
      refine fz_iconst ⟨by decide, by decide⟩ kX9_ownerFrom rfl ?_
      refine fz_imulN kX9_ownerFrom rfl ⟨by decide, by decide⟩ ?_
      refine fz_eqi (y := 12) rfl ?_
      refine fz_iload_n kX9_ownerFrom rfl rfl ?_
      refine fz_iaddN kX9_ownerFrom rfl ⟨by decide, by decide⟩ ?_
      refine fz_eqi (y := 15) rfl ?_
      refine fz_taldV (v := 0) kX9_ownerFrom rfl ⟨by decide, by decide⟩ (by omega) (by rw [hI.2.2.2.1]; decide) (by rw [hI.2.2.2.1]; rfl) ?_
      refine fz_if_ne (tgt := 38) kX9_ownerFrom rfl (by decide) (fun c5 => ?_) (fun c5 => ?_)
      · exfalso; omega
      · refine fz_gets kX9_ownerFrom rfl ?_
        refine fz_iload_n kX9_ownerFrom rfl rfl ?_
        refine fz_taldV (v := 2) kX9_ownerFrom rfl ⟨by decide, by decide⟩ (by omega) (by rw [hI.2.2.2.2]; decide) (by rw [hI.2.2.2.2]; rfl) ?_
        refine fz_istore_n (ls' := [(2, fz_i 2), (3, fz_i 0), (0, fz_i 3), (1, fz_i 3)]) kX9_ownerFrom rfl (by decide) rfl ?_
        refine fz_iincN (ls' := [(3, fz_i (0 + 1)), (2, fz_i 2), (0, fz_i 3), (1, fz_i 3)]) kX9_ownerFrom rfl (by decide) rfl (by omega) rfl ?_
        refine fz_goto (tgt := 4) kX9_ownerFrom rfl (by decide) ?_
        refine fz_iload_n kX9_ownerFrom rfl rfl ?_
        refine fz_bipush ⟨by decide, by decide⟩ kX9_ownerFrom rfl ?_
        refine fz_icmp_ge (tgt := 38) kX9_ownerFrom rfl (by decide) (fun c8 => ?_) (fun c8 => ?_)
        · exfalso; omega
        · refine fz_iload_n kX9_ownerFrom rfl rfl ?_
          refine fz_if_le (tgt := 38) kX9_ownerFrom rfl (by decide) (fun c9 => ?_) (fun c9 => ?_)
          · exfalso; omega
          · refine fz_gets kX9_ownerFrom rfl ?_
            refine fz_iload_n kX9_ownerFrom rfl rfl ?_
            refine fz_iconst ⟨by decide, by decide⟩ kX9_ownerFrom rfl ?_
            refine fz_imulN kX9_ownerFrom rfl ⟨by decide, by decide⟩ ?_
            refine fz_eqi (y := 8) rfl ?_
            refine fz_iload_n kX9_ownerFrom rfl rfl ?_
            refine fz_iaddN kX9_ownerFrom rfl ⟨by decide, by decide⟩ ?_
            refine fz_eqi (y := 11) rfl ?_
            refine fz_taldV (v := 0) kX9_ownerFrom rfl ⟨by decide, by decide⟩ (by omega) (by rw [hI.2.2.2.1]; decide) (by rw [hI.2.2.2.1]; rfl) ?_
            refine fz_if_ne (tgt := 38) kX9_ownerFrom rfl (by decide) (fun c12 => ?_) (fun c12 => ?_)
            · exfalso; omega
            · refine fz_gets kX9_ownerFrom rfl ?_
              refine fz_iload_n kX9_ownerFrom rfl rfl ?_
              refine fz_taldV (v := 0) kX9_ownerFrom rfl ⟨by decide, by decide⟩ (by omega) (by rw [hI.2.2.2.2]; decide) (by rw [hI.2.2.2.2]; rfl) ?_
              refine fz_istore_n (ls' := [(2, fz_i 0), (3, fz_i (0 + 1)), (0, fz_i 3), (1, fz_i 3)]) kX9_ownerFrom rfl (by decide) rfl ?_
              refine fz_iincN (ls' := [(3, fz_i ((0 + 1) + 1)), (2, fz_i 0), (0, fz_i 3), (1, fz_i 3)]) kX9_ownerFrom rfl (by decide) rfl (by omega) rfl ?_
              refine fz_goto (tgt := 4) kX9_ownerFrom rfl (by decide) ?_
              refine fz_iload_n kX9_ownerFrom rfl rfl ?_
              refine fz_bipush ⟨by decide, by decide⟩ kX9_ownerFrom rfl ?_
              refine fz_icmp_ge (tgt := 38) kX9_ownerFrom rfl (by decide) (fun c15 => ?_) (fun c15 => ?_)
              · exfalso; omega
              · refine fz_iload_n kX9_ownerFrom rfl rfl ?_
                refine fz_if_le (tgt := 38) kX9_ownerFrom rfl (by decide) (fun c16 => ?_) (fun c16 => ?_)
                · refine fz_iload_n kX9_ownerFrom rfl rfl ?_
                  exact fz_iret kX9_ownerFrom rfl rfl (fun _ => ⟨rfl, _, rfl, (by omega)⟩)
                · exfalso; omega

abbrev qX9_ownerFrom_4_0 (h : fz_H) : fz_H → Option fz_V → Prop := fun h' r0 => h' = h ∧ ∃ r : Int, r0 = some (fz_i r) ∧ (1 ≤ r ∧ r ≤ 1)
set_option maxHeartbeats 1000000 in
set_option maxRecDepth 100000 in
theorem sX9_ownerFrom_4_0 (h : fz_H) (hI : fz_Iv h) : fz_R 0 mX9_ownerFrom 0 [(0, fz_i 4), (1, fz_i 0)] [] h (qX9_ownerFrom_4_0 h) := by
  refine fz_iload_n kX9_ownerFrom rfl rfl ?_
  refine fz_istore_n (ls' := [(2, fz_i 4), (0, fz_i 4), (1, fz_i 0)]) kX9_ownerFrom rfl (by decide) rfl ?_
  refine fz_iconst ⟨by decide, by decide⟩ kX9_ownerFrom rfl ?_
  refine fz_istore_n (ls' := [(3, fz_i 0), (2, fz_i 4), (0, fz_i 4), (1, fz_i 0)]) kX9_ownerFrom rfl (by decide) rfl ?_
  refine fz_iload_n kX9_ownerFrom rfl rfl ?_
  refine fz_bipush ⟨by decide, by decide⟩ kX9_ownerFrom rfl ?_
  refine fz_icmp_ge (tgt := 38) kX9_ownerFrom rfl (by decide) (fun c1 => ?_) (fun c1 => ?_)
  · exfalso; omega
  · refine fz_iload_n kX9_ownerFrom rfl rfl ?_
    refine fz_if_le (tgt := 38) kX9_ownerFrom rfl (by decide) (fun c2 => ?_) (fun c2 => ?_)
    · exfalso; omega
    · refine fz_gets kX9_ownerFrom rfl ?_
      refine fz_iload_n kX9_ownerFrom rfl rfl ?_
      refine fz_iconst ⟨by decide, by decide⟩ kX9_ownerFrom rfl ?_
      refine fz_imulN kX9_ownerFrom rfl ⟨by decide, by decide⟩ ?_
      refine fz_eqi (y := 16) rfl ?_
      refine fz_iload_n kX9_ownerFrom rfl rfl ?_
      refine fz_iaddN kX9_ownerFrom rfl ⟨by decide, by decide⟩ ?_
      refine fz_eqi (y := 16) rfl ?_
      refine fz_taldV (v := 0) kX9_ownerFrom rfl ⟨by decide, by decide⟩ (by omega) (by rw [hI.2.2.2.1]; decide) (by rw [hI.2.2.2.1]; rfl) ?_
      refine fz_if_ne (tgt := 38) kX9_ownerFrom rfl (by decide) (fun c5 => ?_) (fun c5 => ?_)
      · exfalso; omega
      · refine fz_gets kX9_ownerFrom rfl ?_
        refine fz_iload_n kX9_ownerFrom rfl rfl ?_
        refine fz_taldV (v := 1) kX9_ownerFrom rfl ⟨by decide, by decide⟩ (by omega) (by rw [hI.2.2.2.2]; decide) (by rw [hI.2.2.2.2]; rfl) ?_
        refine fz_istore_n (ls' := [(2, fz_i 1), (3, fz_i 0), (0, fz_i 4), (1, fz_i 0)]) kX9_ownerFrom rfl (by decide) rfl ?_
        refine fz_iincN (ls' := [(3, fz_i (0 + 1)), (2, fz_i 1), (0, fz_i 4), (1, fz_i 0)]) kX9_ownerFrom rfl (by decide) rfl (by omega) rfl ?_
        refine fz_goto (tgt := 4) kX9_ownerFrom rfl (by decide) ?_
        refine fz_iload_n kX9_ownerFrom rfl rfl ?_
        refine fz_bipush ⟨by decide, by decide⟩ kX9_ownerFrom rfl ?_
        refine fz_icmp_ge (tgt := 38) kX9_ownerFrom rfl (by decide) (fun c8 => ?_) (fun c8 => ?_)
        · exfalso; omega
        · refine fz_iload_n kX9_ownerFrom rfl rfl ?_
          refine fz_if_le (tgt := 38) kX9_ownerFrom rfl (by decide) (fun c9 => ?_) (fun c9 => ?_)
          · exfalso; omega
          · refine fz_gets kX9_ownerFrom rfl ?_
            refine fz_iload_n kX9_ownerFrom rfl rfl ?_
            refine fz_iconst ⟨by decide, by decide⟩ kX9_ownerFrom rfl ?_
            refine fz_imulN kX9_ownerFrom rfl ⟨by decide, by decide⟩ ?_
            refine fz_eqi (y := 4) rfl ?_
            refine fz_iload_n kX9_ownerFrom rfl rfl ?_
            refine fz_iaddN kX9_ownerFrom rfl ⟨by decide, by decide⟩ ?_
            refine fz_eqi (y := 4) rfl ?_
            refine fz_taldV (v := 20) kX9_ownerFrom rfl ⟨by decide, by decide⟩ (by omega) (by rw [hI.2.2.2.1]; decide) (by rw [hI.2.2.2.1]; rfl) ?_
            refine fz_if_ne (tgt := 38) kX9_ownerFrom rfl (by decide) (fun c12 => ?_) (fun c12 => ?_)
            · refine fz_iload_n kX9_ownerFrom rfl rfl ?_
              exact fz_iret kX9_ownerFrom rfl rfl (fun _ => ⟨rfl, _, rfl, (by omega)⟩)
            · exfalso; omega

abbrev qX9_ownerFrom_4_1 (h : fz_H) : fz_H → Option fz_V → Prop := fun h' r0 => h' = h ∧ ∃ r : Int, r0 = some (fz_i r) ∧ (0 ≤ r ∧ r ≤ 0)
set_option maxHeartbeats 1000000 in
set_option maxRecDepth 100000 in
theorem sX9_ownerFrom_4_1 (h : fz_H) (hI : fz_Iv h) : fz_R 0 mX9_ownerFrom 0 [(0, fz_i 4), (1, fz_i 1)] [] h (qX9_ownerFrom_4_1 h) := by
  refine fz_iload_n kX9_ownerFrom rfl rfl ?_
  refine fz_istore_n (ls' := [(2, fz_i 4), (0, fz_i 4), (1, fz_i 1)]) kX9_ownerFrom rfl (by decide) rfl ?_
  refine fz_iconst ⟨by decide, by decide⟩ kX9_ownerFrom rfl ?_
  refine fz_istore_n (ls' := [(3, fz_i 0), (2, fz_i 4), (0, fz_i 4), (1, fz_i 1)]) kX9_ownerFrom rfl (by decide) rfl ?_
  refine fz_iload_n kX9_ownerFrom rfl rfl ?_
  refine fz_bipush ⟨by decide, by decide⟩ kX9_ownerFrom rfl ?_
  refine fz_icmp_ge (tgt := 38) kX9_ownerFrom rfl (by decide) (fun c1 => ?_) (fun c1 => ?_)
  · exfalso; omega
  · refine fz_iload_n kX9_ownerFrom rfl rfl ?_
    refine fz_if_le (tgt := 38) kX9_ownerFrom rfl (by decide) (fun c2 => ?_) (fun c2 => ?_)
    · exfalso; omega
    · refine fz_gets kX9_ownerFrom rfl ?_
      refine fz_iload_n kX9_ownerFrom rfl rfl ?_
      refine fz_iconst ⟨by decide, by decide⟩ kX9_ownerFrom rfl ?_
      refine fz_imulN kX9_ownerFrom rfl ⟨by decide, by decide⟩ ?_
      refine fz_eqi (y := 16) rfl ?_
      refine fz_iload_n kX9_ownerFrom rfl rfl ?_
      refine fz_iaddN kX9_ownerFrom rfl ⟨by decide, by decide⟩ ?_
      refine fz_eqi (y := 17) rfl ?_
      refine fz_taldV (v := 0) kX9_ownerFrom rfl ⟨by decide, by decide⟩ (by omega) (by rw [hI.2.2.2.1]; decide) (by rw [hI.2.2.2.1]; rfl) ?_
      refine fz_if_ne (tgt := 38) kX9_ownerFrom rfl (by decide) (fun c5 => ?_) (fun c5 => ?_)
      · exfalso; omega
      · refine fz_gets kX9_ownerFrom rfl ?_
        refine fz_iload_n kX9_ownerFrom rfl rfl ?_
        refine fz_taldV (v := 1) kX9_ownerFrom rfl ⟨by decide, by decide⟩ (by omega) (by rw [hI.2.2.2.2]; decide) (by rw [hI.2.2.2.2]; rfl) ?_
        refine fz_istore_n (ls' := [(2, fz_i 1), (3, fz_i 0), (0, fz_i 4), (1, fz_i 1)]) kX9_ownerFrom rfl (by decide) rfl ?_
        refine fz_iincN (ls' := [(3, fz_i (0 + 1)), (2, fz_i 1), (0, fz_i 4), (1, fz_i 1)]) kX9_ownerFrom rfl (by decide) rfl (by omega) rfl ?_
        refine fz_goto (tgt := 4) kX9_ownerFrom rfl (by decide) ?_
        refine fz_iload_n kX9_ownerFrom rfl rfl ?_
        refine fz_bipush ⟨by decide, by decide⟩ kX9_ownerFrom rfl ?_
        refine fz_icmp_ge (tgt := 38) kX9_ownerFrom rfl (by decide) (fun c8 => ?_) (fun c8 => ?_)
        · exfalso; omega
        · refine fz_iload_n kX9_ownerFrom rfl rfl ?_
          refine fz_if_le (tgt := 38) kX9_ownerFrom rfl (by decide) (fun c9 => ?_) (fun c9 => ?_)
          · exfalso; omega
          · refine fz_gets kX9_ownerFrom rfl ?_
            refine fz_iload_n kX9_ownerFrom rfl rfl ?_
            refine fz_iconst ⟨by decide, by decide⟩ kX9_ownerFrom rfl ?_
            refine fz_imulN kX9_ownerFrom rfl ⟨by decide, by decide⟩ ?_
            refine fz_eqi (y := 4) rfl ?_
            refine fz_iload_n kX9_ownerFrom rfl rfl ?_
            refine fz_iaddN kX9_ownerFrom rfl ⟨by decide, by decide⟩ ?_
            refine fz_eqi (y := 5) rfl ?_
            refine fz_taldV (v := 0) kX9_ownerFrom rfl ⟨by decide, by decide⟩ (by omega) (by rw [hI.2.2.2.1]; decide) (by rw [hI.2.2.2.1]; rfl) ?_
            refine fz_if_ne (tgt := 38) kX9_ownerFrom rfl (by decide) (fun c12 => ?_) (fun c12 => ?_)
            · exfalso; omega
            · refine fz_gets kX9_ownerFrom rfl ?_
              refine fz_iload_n kX9_ownerFrom rfl rfl ?_
              refine fz_taldV (v := 0) kX9_ownerFrom rfl ⟨by decide, by decide⟩ (by omega) (by rw [hI.2.2.2.2]; decide) (by rw [hI.2.2.2.2]; rfl) ?_
              refine fz_istore_n (ls' := [(2, fz_i 0), (3, fz_i (0 + 1)), (0, fz_i 4), (1, fz_i 1)]) kX9_ownerFrom rfl (by decide) rfl ?_
              refine fz_iincN (ls' := [(3, fz_i ((0 + 1) + 1)), (2, fz_i 0), (0, fz_i 4), (1, fz_i 1)]) kX9_ownerFrom rfl (by decide) rfl (by omega) rfl ?_
              refine fz_goto (tgt := 4) kX9_ownerFrom rfl (by decide) ?_
              refine fz_iload_n kX9_ownerFrom rfl rfl ?_
              refine fz_bipush ⟨by decide, by decide⟩ kX9_ownerFrom rfl ?_
              refine fz_icmp_ge (tgt := 38) kX9_ownerFrom rfl (by decide) (fun c15 => ?_) (fun c15 => ?_)
              · exfalso; omega
              · refine fz_iload_n kX9_ownerFrom rfl rfl ?_
                refine fz_if_le (tgt := 38) kX9_ownerFrom rfl (by decide) (fun c16 => ?_) (fun c16 => ?_)
                · refine fz_iload_n kX9_ownerFrom rfl rfl ?_
                  exact fz_iret kX9_ownerFrom rfl rfl (fun _ => ⟨rfl, _, rfl, (by omega)⟩)
                · exfalso; omega

abbrev qX9_ownerFrom_4_2 (h : fz_H) : fz_H → Option fz_V → Prop := fun h' r0 => h' = h ∧ ∃ r : Int, r0 = some (fz_i r) ∧ (4 ≤ r ∧ r ≤ 4)
set_option maxHeartbeats 1000000 in
set_option maxRecDepth 100000 in
theorem sX9_ownerFrom_4_2 (h : fz_H) (hI : fz_Iv h) : fz_R 0 mX9_ownerFrom 0 [(0, fz_i 4), (1, fz_i 2)] [] h (qX9_ownerFrom_4_2 h) := by
  refine fz_iload_n kX9_ownerFrom rfl rfl ?_
  refine fz_istore_n (ls' := [(2, fz_i 4), (0, fz_i 4), (1, fz_i 2)]) kX9_ownerFrom rfl (by decide) rfl ?_
  refine fz_iconst ⟨by decide, by decide⟩ kX9_ownerFrom rfl ?_
  refine fz_istore_n (ls' := [(3, fz_i 0), (2, fz_i 4), (0, fz_i 4), (1, fz_i 2)]) kX9_ownerFrom rfl (by decide) rfl ?_
  refine fz_iload_n kX9_ownerFrom rfl rfl ?_
  refine fz_bipush ⟨by decide, by decide⟩ kX9_ownerFrom rfl ?_
  refine fz_icmp_ge (tgt := 38) kX9_ownerFrom rfl (by decide) (fun c1 => ?_) (fun c1 => ?_)
  · exfalso; omega
  · refine fz_iload_n kX9_ownerFrom rfl rfl ?_
    refine fz_if_le (tgt := 38) kX9_ownerFrom rfl (by decide) (fun c2 => ?_) (fun c2 => ?_)
    · exfalso; omega
    · refine fz_gets kX9_ownerFrom rfl ?_
      refine fz_iload_n kX9_ownerFrom rfl rfl ?_
      refine fz_iconst ⟨by decide, by decide⟩ kX9_ownerFrom rfl ?_
      refine fz_imulN kX9_ownerFrom rfl ⟨by decide, by decide⟩ ?_
      refine fz_eqi (y := 16) rfl ?_
      refine fz_iload_n kX9_ownerFrom rfl rfl ?_
      refine fz_iaddN kX9_ownerFrom rfl ⟨by decide, by decide⟩ ?_
      refine fz_eqi (y := 18) rfl ?_
      refine fz_taldV (v := 50) kX9_ownerFrom rfl ⟨by decide, by decide⟩ (by omega) (by rw [hI.2.2.2.1]; decide) (by rw [hI.2.2.2.1]; rfl) ?_
      refine fz_if_ne (tgt := 38) kX9_ownerFrom rfl (by decide) (fun c5 => ?_) (fun c5 => ?_)
      · refine fz_iload_n kX9_ownerFrom rfl rfl ?_
        exact fz_iret kX9_ownerFrom rfl rfl (fun _ => ⟨rfl, _, rfl, (by omega)⟩)
      · exfalso; omega

abbrev qX9_ownerFrom_4_3 (h : fz_H) : fz_H → Option fz_V → Prop := fun h' r0 => h' = h ∧ ∃ r : Int, r0 = some (fz_i r) ∧ (0 ≤ r ∧ r ≤ 0)
set_option maxHeartbeats 1000000 in
set_option maxRecDepth 100000 in
theorem sX9_ownerFrom_4_3 (h : fz_H) (hI : fz_Iv h) : fz_R 0 mX9_ownerFrom 0 [(0, fz_i 4), (1, fz_i 3)] [] h (qX9_ownerFrom_4_3 h) := by
  refine fz_iload_n kX9_ownerFrom rfl rfl ?_
  refine fz_istore_n (ls' := [(2, fz_i 4), (0, fz_i 4), (1, fz_i 3)]) kX9_ownerFrom rfl (by decide) rfl ?_
  refine fz_iconst ⟨by decide, by decide⟩ kX9_ownerFrom rfl ?_
  refine fz_istore_n (ls' := [(3, fz_i 0), (2, fz_i 4), (0, fz_i 4), (1, fz_i 3)]) kX9_ownerFrom rfl (by decide) rfl ?_
  refine fz_iload_n kX9_ownerFrom rfl rfl ?_
  refine fz_bipush ⟨by decide, by decide⟩ kX9_ownerFrom rfl ?_
  refine fz_icmp_ge (tgt := 38) kX9_ownerFrom rfl (by decide) (fun c1 => ?_) (fun c1 => ?_)
  · exfalso; omega
  · refine fz_iload_n kX9_ownerFrom rfl rfl ?_
    refine fz_if_le (tgt := 38) kX9_ownerFrom rfl (by decide) (fun c2 => ?_) (fun c2 => ?_)
    · exfalso; omega
    · refine fz_gets kX9_ownerFrom rfl ?_
      refine fz_iload_n kX9_ownerFrom rfl rfl ?_
      refine fz_iconst ⟨by decide, by decide⟩ kX9_ownerFrom rfl ?_
      refine fz_imulN kX9_ownerFrom rfl ⟨by decide, by decide⟩ ?_
      refine fz_eqi (y := 16) rfl ?_
      refine fz_iload_n kX9_ownerFrom rfl rfl ?_
      refine fz_iaddN kX9_ownerFrom rfl ⟨by decide, by decide⟩ ?_
      refine fz_eqi (y := 19) rfl ?_
      refine fz_taldV (v := 0) kX9_ownerFrom rfl ⟨by decide, by decide⟩ (by omega) (by rw [hI.2.2.2.1]; decide) (by rw [hI.2.2.2.1]; rfl) ?_
      refine fz_if_ne (tgt := 38) kX9_ownerFrom rfl (by decide) (fun c5 => ?_) (fun c5 => ?_)
      · exfalso; omega
      · refine fz_gets kX9_ownerFrom rfl ?_
        refine fz_iload_n kX9_ownerFrom rfl rfl ?_
        refine fz_taldV (v := 1) kX9_ownerFrom rfl ⟨by decide, by decide⟩ (by omega) (by rw [hI.2.2.2.2]; decide) (by rw [hI.2.2.2.2]; rfl) ?_
        refine fz_istore_n (ls' := [(2, fz_i 1), (3, fz_i 0), (0, fz_i 4), (1, fz_i 3)]) kX9_ownerFrom rfl (by decide) rfl ?_
        refine fz_iincN (ls' := [(3, fz_i (0 + 1)), (2, fz_i 1), (0, fz_i 4), (1, fz_i 3)]) kX9_ownerFrom rfl (by decide) rfl (by omega) rfl ?_
        refine fz_goto (tgt := 4) kX9_ownerFrom rfl (by decide) ?_
        refine fz_iload_n kX9_ownerFrom rfl rfl ?_
        refine fz_bipush ⟨by decide, by decide⟩ kX9_ownerFrom rfl ?_
        refine fz_icmp_ge (tgt := 38) kX9_ownerFrom rfl (by decide) (fun c8 => ?_) (fun c8 => ?_)
        · exfalso; omega
        · refine fz_iload_n kX9_ownerFrom rfl rfl ?_
          refine fz_if_le (tgt := 38) kX9_ownerFrom rfl (by decide) (fun c9 => ?_) (fun c9 => ?_)
          · exfalso; omega
          · refine fz_gets kX9_ownerFrom rfl ?_
            refine fz_iload_n kX9_ownerFrom rfl rfl ?_
            refine fz_iconst ⟨by decide, by decide⟩ kX9_ownerFrom rfl ?_
            refine fz_imulN kX9_ownerFrom rfl ⟨by decide, by decide⟩ ?_
            refine fz_eqi (y := 4) rfl ?_
            refine fz_iload_n kX9_ownerFrom rfl rfl ?_
            refine fz_iaddN kX9_ownerFrom rfl ⟨by decide, by decide⟩ ?_
            refine fz_eqi (y := 7) rfl ?_
            refine fz_taldV (v := 0) kX9_ownerFrom rfl ⟨by decide, by decide⟩ (by omega) (by rw [hI.2.2.2.1]; decide) (by rw [hI.2.2.2.1]; rfl) ?_
            refine fz_if_ne (tgt := 38) kX9_ownerFrom rfl (by decide) (fun c12 => ?_) (fun c12 => ?_)
            · exfalso; omega
            · refine fz_gets kX9_ownerFrom rfl ?_
              refine fz_iload_n kX9_ownerFrom rfl rfl ?_
              refine fz_taldV (v := 0) kX9_ownerFrom rfl ⟨by decide, by decide⟩ (by omega) (by rw [hI.2.2.2.2]; decide) (by rw [hI.2.2.2.2]; rfl) ?_
              refine fz_istore_n (ls' := [(2, fz_i 0), (3, fz_i (0 + 1)), (0, fz_i 4), (1, fz_i 3)]) kX9_ownerFrom rfl (by decide) rfl ?_
              refine fz_iincN (ls' := [(3, fz_i ((0 + 1) + 1)), (2, fz_i 0), (0, fz_i 4), (1, fz_i 3)]) kX9_ownerFrom rfl (by decide) rfl (by omega) rfl ?_
              refine fz_goto (tgt := 4) kX9_ownerFrom rfl (by decide) ?_
              refine fz_iload_n kX9_ownerFrom rfl rfl ?_
              refine fz_bipush ⟨by decide, by decide⟩ kX9_ownerFrom rfl ?_
              refine fz_icmp_ge (tgt := 38) kX9_ownerFrom rfl (by decide) (fun c15 => ?_) (fun c15 => ?_)
              · exfalso; omega
              · refine fz_iload_n kX9_ownerFrom rfl rfl ?_
                refine fz_if_le (tgt := 38) kX9_ownerFrom rfl (by decide) (fun c16 => ?_) (fun c16 => ?_)
                · refine fz_iload_n kX9_ownerFrom rfl rfl ?_
                  exact fz_iret kX9_ownerFrom rfl rfl (fun _ => ⟨rfl, _, rfl, (by omega)⟩)
                · exfalso; omega

abbrev qX9_ownerFrom_5_0 (h : fz_H) : fz_H → Option fz_V → Prop := fun h' r0 => h' = h ∧ ∃ r : Int, r0 = some (fz_i r) ∧ (0 ≤ r ∧ r ≤ 0)
set_option maxHeartbeats 1000000 in
set_option maxRecDepth 100000 in
theorem sX9_ownerFrom_5_0 (h : fz_H) (hI : fz_Iv h) : fz_R 0 mX9_ownerFrom 0 [(0, fz_i 5), (1, fz_i 0)] [] h (qX9_ownerFrom_5_0 h) := by
  refine fz_iload_n kX9_ownerFrom rfl rfl ?_
  refine fz_istore_n (ls' := [(2, fz_i 5), (0, fz_i 5), (1, fz_i 0)]) kX9_ownerFrom rfl (by decide) rfl ?_
  refine fz_iconst ⟨by decide, by decide⟩ kX9_ownerFrom rfl ?_
  refine fz_istore_n (ls' := [(3, fz_i 0), (2, fz_i 5), (0, fz_i 5), (1, fz_i 0)]) kX9_ownerFrom rfl (by decide) rfl ?_
  refine fz_iload_n kX9_ownerFrom rfl rfl ?_
  refine fz_bipush ⟨by decide, by decide⟩ kX9_ownerFrom rfl ?_
  refine fz_icmp_ge (tgt := 38) kX9_ownerFrom rfl (by decide) (fun c1 => ?_) (fun c1 => ?_)
  · exfalso; omega
  · refine fz_iload_n kX9_ownerFrom rfl rfl ?_
    refine fz_if_le (tgt := 38) kX9_ownerFrom rfl (by decide) (fun c2 => ?_) (fun c2 => ?_)
    · exfalso; omega
    · refine fz_gets kX9_ownerFrom rfl ?_
      refine fz_iload_n kX9_ownerFrom rfl rfl ?_
      refine fz_iconst ⟨by decide, by decide⟩ kX9_ownerFrom rfl ?_
      refine fz_imulN kX9_ownerFrom rfl ⟨by decide, by decide⟩ ?_
      refine fz_eqi (y := 20) rfl ?_
      refine fz_iload_n kX9_ownerFrom rfl rfl ?_
      refine fz_iaddN kX9_ownerFrom rfl ⟨by decide, by decide⟩ ?_
      refine fz_eqi (y := 20) rfl ?_
      refine fz_taldV (v := 0) kX9_ownerFrom rfl ⟨by decide, by decide⟩ (by omega) (by rw [hI.2.2.2.1]; decide) (by rw [hI.2.2.2.1]; rfl) ?_
      refine fz_if_ne (tgt := 38) kX9_ownerFrom rfl (by decide) (fun c5 => ?_) (fun c5 => ?_)
      · exfalso; omega
      · refine fz_gets kX9_ownerFrom rfl ?_
        refine fz_iload_n kX9_ownerFrom rfl rfl ?_
        refine fz_taldV (v := 3) kX9_ownerFrom rfl ⟨by decide, by decide⟩ (by omega) (by rw [hI.2.2.2.2]; decide) (by rw [hI.2.2.2.2]; rfl) ?_
        refine fz_istore_n (ls' := [(2, fz_i 3), (3, fz_i 0), (0, fz_i 5), (1, fz_i 0)]) kX9_ownerFrom rfl (by decide) rfl ?_
        refine fz_iincN (ls' := [(3, fz_i (0 + 1)), (2, fz_i 3), (0, fz_i 5), (1, fz_i 0)]) kX9_ownerFrom rfl (by decide) rfl (by omega) rfl ?_
        refine fz_goto (tgt := 4) kX9_ownerFrom rfl (by decide) ?_
        refine fz_iload_n kX9_ownerFrom rfl rfl ?_
        refine fz_bipush ⟨by decide, by decide⟩ kX9_ownerFrom rfl ?_
        refine fz_icmp_ge (tgt := 38) kX9_ownerFrom rfl (by decide) (fun c8 => ?_) (fun c8 => ?_)
        · exfalso; omega
        · refine fz_iload_n kX9_ownerFrom rfl rfl ?_
          refine fz_if_le (tgt := 38) kX9_ownerFrom rfl (by decide) (fun c9 => ?_) (fun c9 => ?_)
          · exfalso; omega
          · refine fz_gets kX9_ownerFrom rfl ?_
            refine fz_iload_n kX9_ownerFrom rfl rfl ?_
            refine fz_iconst ⟨by decide, by decide⟩ kX9_ownerFrom rfl ?_
            refine fz_imulN kX9_ownerFrom rfl ⟨by decide, by decide⟩ ?_
            refine fz_eqi (y := 12) rfl ?_
            refine fz_iload_n kX9_ownerFrom rfl rfl ?_
            refine fz_iaddN kX9_ownerFrom rfl ⟨by decide, by decide⟩ ?_
            refine fz_eqi (y := 12) rfl ?_
            refine fz_taldV (v := 0) kX9_ownerFrom rfl ⟨by decide, by decide⟩ (by omega) (by rw [hI.2.2.2.1]; decide) (by rw [hI.2.2.2.1]; rfl) ?_
            refine fz_if_ne (tgt := 38) kX9_ownerFrom rfl (by decide) (fun c12 => ?_) (fun c12 => ?_)
            · exfalso; omega
            · refine fz_gets kX9_ownerFrom rfl ?_
              refine fz_iload_n kX9_ownerFrom rfl rfl ?_
              refine fz_taldV (v := 2) kX9_ownerFrom rfl ⟨by decide, by decide⟩ (by omega) (by rw [hI.2.2.2.2]; decide) (by rw [hI.2.2.2.2]; rfl) ?_
              refine fz_istore_n (ls' := [(2, fz_i 2), (3, fz_i (0 + 1)), (0, fz_i 5), (1, fz_i 0)]) kX9_ownerFrom rfl (by decide) rfl ?_
              refine fz_iincN (ls' := [(3, fz_i ((0 + 1) + 1)), (2, fz_i 2), (0, fz_i 5), (1, fz_i 0)]) kX9_ownerFrom rfl (by decide) rfl (by omega) rfl ?_
              refine fz_goto (tgt := 4) kX9_ownerFrom rfl (by decide) ?_
              refine fz_iload_n kX9_ownerFrom rfl rfl ?_
              refine fz_bipush ⟨by decide, by decide⟩ kX9_ownerFrom rfl ?_
              refine fz_icmp_ge (tgt := 38) kX9_ownerFrom rfl (by decide) (fun c15 => ?_) (fun c15 => ?_)
              · exfalso; omega
              · refine fz_iload_n kX9_ownerFrom rfl rfl ?_
                refine fz_if_le (tgt := 38) kX9_ownerFrom rfl (by decide) (fun c16 => ?_) (fun c16 => ?_)
                · exfalso; omega
                · refine fz_gets kX9_ownerFrom rfl ?_
                  refine fz_iload_n kX9_ownerFrom rfl rfl ?_
                  refine fz_iconst ⟨by decide, by decide⟩ kX9_ownerFrom rfl ?_
                  refine fz_imulN kX9_ownerFrom rfl ⟨by decide, by decide⟩ ?_
                  refine fz_eqi (y := 8) rfl ?_
                  refine fz_iload_n kX9_ownerFrom rfl rfl ?_
                  refine fz_iaddN kX9_ownerFrom rfl ⟨by decide, by decide⟩ ?_
                  refine fz_eqi (y := 8) rfl ?_
                  refine fz_taldV (v := 0) kX9_ownerFrom rfl ⟨by decide, by decide⟩ (by omega) (by rw [hI.2.2.2.1]; decide) (by rw [hI.2.2.2.1]; rfl) ?_
                  refine fz_if_ne (tgt := 38) kX9_ownerFrom rfl (by decide) (fun c19 => ?_) (fun c19 => ?_)
                  · exfalso; omega
                  · refine fz_gets kX9_ownerFrom rfl ?_
                    refine fz_iload_n kX9_ownerFrom rfl rfl ?_
                    refine fz_taldV (v := 0) kX9_ownerFrom rfl ⟨by decide, by decide⟩ (by omega) (by rw [hI.2.2.2.2]; decide) (by rw [hI.2.2.2.2]; rfl) ?_
                    refine fz_istore_n (ls' := [(2, fz_i 0), (3, fz_i ((0 + 1) + 1)), (0, fz_i 5), (1, fz_i 0)]) kX9_ownerFrom rfl (by decide) rfl ?_
                    refine fz_iincN (ls' := [(3, fz_i (((0 + 1) + 1) + 1)), (2, fz_i 0), (0, fz_i 5), (1, fz_i 0)]) kX9_ownerFrom rfl (by decide) rfl (by omega) rfl ?_
                    refine fz_goto (tgt := 4) kX9_ownerFrom rfl (by decide) ?_
                    refine fz_iload_n kX9_ownerFrom rfl rfl ?_
                    refine fz_bipush ⟨by decide, by decide⟩ kX9_ownerFrom rfl ?_
                    refine fz_icmp_ge (tgt := 38) kX9_ownerFrom rfl (by decide) (fun c22 => ?_) (fun c22 => ?_)
                    · exfalso; omega
                    · refine fz_iload_n kX9_ownerFrom rfl rfl ?_
                      refine fz_if_le (tgt := 38) kX9_ownerFrom rfl (by decide) (fun c23 => ?_) (fun c23 => ?_)
                      · refine fz_iload_n kX9_ownerFrom rfl rfl ?_
                        exact fz_iret kX9_ownerFrom rfl rfl (fun _ => ⟨rfl, _, rfl, (by omega)⟩)
                      · exfalso; omega

abbrev qX9_ownerFrom_5_1 (h : fz_H) : fz_H → Option fz_V → Prop := fun h' r0 => h' = h ∧ ∃ r : Int, r0 = some (fz_i r) ∧ (3 ≤ r ∧ r ≤ 3)
set_option maxHeartbeats 1000000 in
set_option maxRecDepth 100000 in
theorem sX9_ownerFrom_5_1 (h : fz_H) (hI : fz_Iv h) : fz_R 0 mX9_ownerFrom 0 [(0, fz_i 5), (1, fz_i 1)] [] h (qX9_ownerFrom_5_1 h) := by
  refine fz_iload_n kX9_ownerFrom rfl rfl ?_
  refine fz_istore_n (ls' := [(2, fz_i 5), (0, fz_i 5), (1, fz_i 1)]) kX9_ownerFrom rfl (by decide) rfl ?_
  refine fz_iconst ⟨by decide, by decide⟩ kX9_ownerFrom rfl ?_
  refine fz_istore_n (ls' := [(3, fz_i 0), (2, fz_i 5), (0, fz_i 5), (1, fz_i 1)]) kX9_ownerFrom rfl (by decide) rfl ?_
  refine fz_iload_n kX9_ownerFrom rfl rfl ?_
  refine fz_bipush ⟨by decide, by decide⟩ kX9_ownerFrom rfl ?_
  refine fz_icmp_ge (tgt := 38) kX9_ownerFrom rfl (by decide) (fun c1 => ?_) (fun c1 => ?_)
  · exfalso; omega
  · refine fz_iload_n kX9_ownerFrom rfl rfl ?_
    refine fz_if_le (tgt := 38) kX9_ownerFrom rfl (by decide) (fun c2 => ?_) (fun c2 => ?_)
    · exfalso; omega
    · refine fz_gets kX9_ownerFrom rfl ?_
      refine fz_iload_n kX9_ownerFrom rfl rfl ?_
      refine fz_iconst ⟨by decide, by decide⟩ kX9_ownerFrom rfl ?_
      refine fz_imulN kX9_ownerFrom rfl ⟨by decide, by decide⟩ ?_
      refine fz_eqi (y := 20) rfl ?_
      refine fz_iload_n kX9_ownerFrom rfl rfl ?_
      refine fz_iaddN kX9_ownerFrom rfl ⟨by decide, by decide⟩ ?_
      refine fz_eqi (y := 21) rfl ?_
      refine fz_taldV (v := 0) kX9_ownerFrom rfl ⟨by decide, by decide⟩ (by omega) (by rw [hI.2.2.2.1]; decide) (by rw [hI.2.2.2.1]; rfl) ?_
      refine fz_if_ne (tgt := 38) kX9_ownerFrom rfl (by decide) (fun c5 => ?_) (fun c5 => ?_)
      · exfalso; omega
      · refine fz_gets kX9_ownerFrom rfl ?_
        refine fz_iload_n kX9_ownerFrom rfl rfl ?_
        refine fz_taldV (v := 3) kX9_ownerFrom rfl ⟨by decide, by decide⟩ (by omega) (by rw [hI.2.2.2.2]; decide) (by rw [hI.2.2.2.2]; rfl) ?_
        refine fz_istore_n (ls' := [(2, fz_i 3), (3, fz_i 0), (0, fz_i 5), (1, fz_i 1)]) kX9_ownerFrom rfl (by decide) rfl ?_
        refine fz_iincN (ls' := [(3, fz_i (0 + 1)), (2, fz_i 3), (0, fz_i 5), (1, fz_i 1)]) kX9_ownerFrom rfl (by decide) rfl (by omega) rfl ?_
        refine fz_goto (tgt := 4) kX9_ownerFrom rfl (by decide) ?_
        refine fz_iload_n kX9_ownerFrom rfl rfl ?_
        refine fz_bipush ⟨by decide, by decide⟩ kX9_ownerFrom rfl ?_
        refine fz_icmp_ge (tgt := 38) kX9_ownerFrom rfl (by decide) (fun c8 => ?_) (fun c8 => ?_)
        · exfalso; omega
        · refine fz_iload_n kX9_ownerFrom rfl rfl ?_
          refine fz_if_le (tgt := 38) kX9_ownerFrom rfl (by decide) (fun c9 => ?_) (fun c9 => ?_)
          · exfalso; omega
          · refine fz_gets kX9_ownerFrom rfl ?_
            refine fz_iload_n kX9_ownerFrom rfl rfl ?_
            refine fz_iconst ⟨by decide, by decide⟩ kX9_ownerFrom rfl ?_
            refine fz_imulN kX9_ownerFrom rfl ⟨by decide, by decide⟩ ?_
            refine fz_eqi (y := 12) rfl ?_
            refine fz_iload_n kX9_ownerFrom rfl rfl ?_
            refine fz_iaddN kX9_ownerFrom rfl ⟨by decide, by decide⟩ ?_
            refine fz_eqi (y := 13) rfl ?_
            refine fz_taldV (v := 41) kX9_ownerFrom rfl ⟨by decide, by decide⟩ (by omega) (by rw [hI.2.2.2.1]; decide) (by rw [hI.2.2.2.1]; rfl) ?_
            refine fz_if_ne (tgt := 38) kX9_ownerFrom rfl (by decide) (fun c12 => ?_) (fun c12 => ?_)
            · refine fz_iload_n kX9_ownerFrom rfl rfl ?_
              exact fz_iret kX9_ownerFrom rfl rfl (fun _ => ⟨rfl, _, rfl, (by omega)⟩)
            · exfalso; omega

abbrev qX9_ownerFrom_5_2 (h : fz_H) : fz_H → Option fz_V → Prop := fun h' r0 => h' = h ∧ ∃ r : Int, r0 = some (fz_i r) ∧ (3 ≤ r ∧ r ≤ 3)
set_option maxHeartbeats 1000000 in
set_option maxRecDepth 100000 in
theorem sX9_ownerFrom_5_2 (h : fz_H) (hI : fz_Iv h) : fz_R 0 mX9_ownerFrom 0 [(0, fz_i 5), (1, fz_i 2)] [] h (qX9_ownerFrom_5_2 h) := by
  refine fz_iload_n kX9_ownerFrom rfl rfl ?_
  refine fz_istore_n (ls' := [(2, fz_i 5), (0, fz_i 5), (1, fz_i 2)]) kX9_ownerFrom rfl (by decide) rfl ?_
  refine fz_iconst ⟨by decide, by decide⟩ kX9_ownerFrom rfl ?_
  refine fz_istore_n (ls' := [(3, fz_i 0), (2, fz_i 5), (0, fz_i 5), (1, fz_i 2)]) kX9_ownerFrom rfl (by decide) rfl ?_
  refine fz_iload_n kX9_ownerFrom rfl rfl ?_
  refine fz_bipush ⟨by decide, by decide⟩ kX9_ownerFrom rfl ?_
  refine fz_icmp_ge (tgt := 38) kX9_ownerFrom rfl (by decide) (fun c1 => ?_) (fun c1 => ?_)
  · exfalso; omega
  · refine fz_iload_n kX9_ownerFrom rfl rfl ?_
    refine fz_if_le (tgt := 38) kX9_ownerFrom rfl (by decide) (fun c2 => ?_) (fun c2 => ?_)
    · exfalso; omega
    · refine fz_gets kX9_ownerFrom rfl ?_
      refine fz_iload_n kX9_ownerFrom rfl rfl ?_
      refine fz_iconst ⟨by decide, by decide⟩ kX9_ownerFrom rfl ?_
      refine fz_imulN kX9_ownerFrom rfl ⟨by decide, by decide⟩ ?_
      refine fz_eqi (y := 20) rfl ?_
      refine fz_iload_n kX9_ownerFrom rfl rfl ?_
      refine fz_iaddN kX9_ownerFrom rfl ⟨by decide, by decide⟩ ?_
      refine fz_eqi (y := 22) rfl ?_
      refine fz_taldV (v := 0) kX9_ownerFrom rfl ⟨by decide, by decide⟩ (by omega) (by rw [hI.2.2.2.1]; decide) (by rw [hI.2.2.2.1]; rfl) ?_
      refine fz_if_ne (tgt := 38) kX9_ownerFrom rfl (by decide) (fun c5 => ?_) (fun c5 => ?_)
      · exfalso; omega
      · refine fz_gets kX9_ownerFrom rfl ?_
        refine fz_iload_n kX9_ownerFrom rfl rfl ?_
        refine fz_taldV (v := 3) kX9_ownerFrom rfl ⟨by decide, by decide⟩ (by omega) (by rw [hI.2.2.2.2]; decide) (by rw [hI.2.2.2.2]; rfl) ?_
        refine fz_istore_n (ls' := [(2, fz_i 3), (3, fz_i 0), (0, fz_i 5), (1, fz_i 2)]) kX9_ownerFrom rfl (by decide) rfl ?_
        refine fz_iincN (ls' := [(3, fz_i (0 + 1)), (2, fz_i 3), (0, fz_i 5), (1, fz_i 2)]) kX9_ownerFrom rfl (by decide) rfl (by omega) rfl ?_
        refine fz_goto (tgt := 4) kX9_ownerFrom rfl (by decide) ?_
        refine fz_iload_n kX9_ownerFrom rfl rfl ?_
        refine fz_bipush ⟨by decide, by decide⟩ kX9_ownerFrom rfl ?_
        refine fz_icmp_ge (tgt := 38) kX9_ownerFrom rfl (by decide) (fun c8 => ?_) (fun c8 => ?_)
        · exfalso; omega
        · refine fz_iload_n kX9_ownerFrom rfl rfl ?_
          refine fz_if_le (tgt := 38) kX9_ownerFrom rfl (by decide) (fun c9 => ?_) (fun c9 => ?_)
          · exfalso; omega
          · refine fz_gets kX9_ownerFrom rfl ?_
            refine fz_iload_n kX9_ownerFrom rfl rfl ?_
            refine fz_iconst ⟨by decide, by decide⟩ kX9_ownerFrom rfl ?_
            refine fz_imulN kX9_ownerFrom rfl ⟨by decide, by decide⟩ ?_
            refine fz_eqi (y := 12) rfl ?_
            refine fz_iload_n kX9_ownerFrom rfl rfl ?_
            refine fz_iaddN kX9_ownerFrom rfl ⟨by decide, by decide⟩ ?_
            refine fz_eqi (y := 14) rfl ?_
            refine fz_taldV (v := 40) kX9_ownerFrom rfl ⟨by decide, by decide⟩ (by omega) (by rw [hI.2.2.2.1]; decide) (by rw [hI.2.2.2.1]; rfl) ?_
            refine fz_if_ne (tgt := 38) kX9_ownerFrom rfl (by decide) (fun c12 => ?_) (fun c12 => ?_)
            · refine fz_iload_n kX9_ownerFrom rfl rfl ?_
              exact fz_iret kX9_ownerFrom rfl rfl (fun _ => ⟨rfl, _, rfl, (by omega)⟩)
            · exfalso; omega

abbrev qX9_ownerFrom_5_3 (h : fz_H) : fz_H → Option fz_V → Prop := fun h' r0 => h' = h ∧ ∃ r : Int, r0 = some (fz_i r) ∧ (5 ≤ r ∧ r ≤ 5)
set_option maxHeartbeats 1000000 in
set_option maxRecDepth 100000 in
theorem sX9_ownerFrom_5_3 (h : fz_H) (hI : fz_Iv h) : fz_R 0 mX9_ownerFrom 0 [(0, fz_i 5), (1, fz_i 3)] [] h (qX9_ownerFrom_5_3 h) := by
  refine fz_iload_n kX9_ownerFrom rfl rfl ?_
  refine fz_istore_n (ls' := [(2, fz_i 5), (0, fz_i 5), (1, fz_i 3)]) kX9_ownerFrom rfl (by decide) rfl ?_
  refine fz_iconst ⟨by decide, by decide⟩ kX9_ownerFrom rfl ?_
  refine fz_istore_n (ls' := [(3, fz_i 0), (2, fz_i 5), (0, fz_i 5), (1, fz_i 3)]) kX9_ownerFrom rfl (by decide) rfl ?_
  refine fz_iload_n kX9_ownerFrom rfl rfl ?_
  refine fz_bipush ⟨by decide, by decide⟩ kX9_ownerFrom rfl ?_
  refine fz_icmp_ge (tgt := 38) kX9_ownerFrom rfl (by decide) (fun c1 => ?_) (fun c1 => ?_)
  · exfalso; omega
  · refine fz_iload_n kX9_ownerFrom rfl rfl ?_
    refine fz_if_le (tgt := 38) kX9_ownerFrom rfl (by decide) (fun c2 => ?_) (fun c2 => ?_)
    · exfalso; omega
    · refine fz_gets kX9_ownerFrom rfl ?_
      refine fz_iload_n kX9_ownerFrom rfl rfl ?_
      refine fz_iconst ⟨by decide, by decide⟩ kX9_ownerFrom rfl ?_
      refine fz_imulN kX9_ownerFrom rfl ⟨by decide, by decide⟩ ?_
      refine fz_eqi (y := 20) rfl ?_
      refine fz_iload_n kX9_ownerFrom rfl rfl ?_
      refine fz_iaddN kX9_ownerFrom rfl ⟨by decide, by decide⟩ ?_
      refine fz_eqi (y := 23) rfl ?_
      refine fz_taldV (v := 60) kX9_ownerFrom rfl ⟨by decide, by decide⟩ (by omega) (by rw [hI.2.2.2.1]; decide) (by rw [hI.2.2.2.1]; rfl) ?_
      refine fz_if_ne (tgt := 38) kX9_ownerFrom rfl (by decide) (fun c5 => ?_) (fun c5 => ?_)
      · refine fz_iload_n kX9_ownerFrom rfl rfl ?_
        exact fz_iret kX9_ownerFrom rfl rfl (fun _ => ⟨rfl, _, rfl, (by omega)⟩)
      · exfalso; omega

abbrev qX9_ownerFrom_6_0 (h : fz_H) : fz_H → Option fz_V → Prop := fun h' r0 => h' = h ∧ ∃ r : Int, r0 = some (fz_i r) ∧ (6 ≤ r ∧ r ≤ 6)
set_option maxHeartbeats 1000000 in
set_option maxRecDepth 100000 in
theorem sX9_ownerFrom_6_0 (h : fz_H) (hI : fz_Iv h) : fz_R 0 mX9_ownerFrom 0 [(0, fz_i 6), (1, fz_i 0)] [] h (qX9_ownerFrom_6_0 h) := by
  refine fz_iload_n kX9_ownerFrom rfl rfl ?_
  refine fz_istore_n (ls' := [(2, fz_i 6), (0, fz_i 6), (1, fz_i 0)]) kX9_ownerFrom rfl (by decide) rfl ?_
  refine fz_iconst ⟨by decide, by decide⟩ kX9_ownerFrom rfl ?_
  refine fz_istore_n (ls' := [(3, fz_i 0), (2, fz_i 6), (0, fz_i 6), (1, fz_i 0)]) kX9_ownerFrom rfl (by decide) rfl ?_
  refine fz_iload_n kX9_ownerFrom rfl rfl ?_
  refine fz_bipush ⟨by decide, by decide⟩ kX9_ownerFrom rfl ?_
  refine fz_icmp_ge (tgt := 38) kX9_ownerFrom rfl (by decide) (fun c1 => ?_) (fun c1 => ?_)
  · exfalso; omega
  · refine fz_iload_n kX9_ownerFrom rfl rfl ?_
    refine fz_if_le (tgt := 38) kX9_ownerFrom rfl (by decide) (fun c2 => ?_) (fun c2 => ?_)
    · exfalso; omega
    · refine fz_gets kX9_ownerFrom rfl ?_
      refine fz_iload_n kX9_ownerFrom rfl rfl ?_
      refine fz_iconst ⟨by decide, by decide⟩ kX9_ownerFrom rfl ?_
      refine fz_imulN kX9_ownerFrom rfl ⟨by decide, by decide⟩ ?_
      refine fz_eqi (y := 24) rfl ?_
      refine fz_iload_n kX9_ownerFrom rfl rfl ?_
      refine fz_iaddN kX9_ownerFrom rfl ⟨by decide, by decide⟩ ?_
      refine fz_eqi (y := 24) rfl ?_
      refine fz_taldV (v := 70) kX9_ownerFrom rfl ⟨by decide, by decide⟩ (by omega) (by rw [hI.2.2.2.1]; decide) (by rw [hI.2.2.2.1]; rfl) ?_
      refine fz_if_ne (tgt := 38) kX9_ownerFrom rfl (by decide) (fun c5 => ?_) (fun c5 => ?_)
      · refine fz_iload_n kX9_ownerFrom rfl rfl ?_
        exact fz_iret kX9_ownerFrom rfl rfl (fun _ => ⟨rfl, _, rfl, (by omega)⟩)
      · exfalso; omega

abbrev qX9_ownerFrom_6_1 (h : fz_H) : fz_H → Option fz_V → Prop := fun h' r0 => h' = h ∧ ∃ r : Int, r0 = some (fz_i r) ∧ (0 ≤ r ∧ r ≤ 0)
set_option maxHeartbeats 1000000 in
set_option maxRecDepth 100000 in
theorem sX9_ownerFrom_6_1 (h : fz_H) (hI : fz_Iv h) : fz_R 0 mX9_ownerFrom 0 [(0, fz_i 6), (1, fz_i 1)] [] h (qX9_ownerFrom_6_1 h) := by
  refine fz_iload_n kX9_ownerFrom rfl rfl ?_
  refine fz_istore_n (ls' := [(2, fz_i 6), (0, fz_i 6), (1, fz_i 1)]) kX9_ownerFrom rfl (by decide) rfl ?_
  refine fz_iconst ⟨by decide, by decide⟩ kX9_ownerFrom rfl ?_
  refine fz_istore_n (ls' := [(3, fz_i 0), (2, fz_i 6), (0, fz_i 6), (1, fz_i 1)]) kX9_ownerFrom rfl (by decide) rfl ?_
  refine fz_iload_n kX9_ownerFrom rfl rfl ?_
  refine fz_bipush ⟨by decide, by decide⟩ kX9_ownerFrom rfl ?_
  refine fz_icmp_ge (tgt := 38) kX9_ownerFrom rfl (by decide) (fun c1 => ?_) (fun c1 => ?_)
  · exfalso; omega
  · refine fz_iload_n kX9_ownerFrom rfl rfl ?_
    refine fz_if_le (tgt := 38) kX9_ownerFrom rfl (by decide) (fun c2 => ?_) (fun c2 => ?_)
    · exfalso; omega
    · refine fz_gets kX9_ownerFrom rfl ?_
      refine fz_iload_n kX9_ownerFrom rfl rfl ?_
      refine fz_iconst ⟨by decide, by decide⟩ kX9_ownerFrom rfl ?_
      refine fz_imulN kX9_ownerFrom rfl ⟨by decide, by decide⟩ ?_
      refine fz_eqi (y := 24) rfl ?_
      refine fz_iload_n kX9_ownerFrom rfl rfl ?_
      refine fz_iaddN kX9_ownerFrom rfl ⟨by decide, by decide⟩ ?_
      refine fz_eqi (y := 25) rfl ?_
      refine fz_taldV (v := 0) kX9_ownerFrom rfl ⟨by decide, by decide⟩ (by omega) (by rw [hI.2.2.2.1]; decide) (by rw [hI.2.2.2.1]; rfl) ?_
      refine fz_if_ne (tgt := 38) kX9_ownerFrom rfl (by decide) (fun c5 => ?_) (fun c5 => ?_)
      · exfalso; omega
      · refine fz_gets kX9_ownerFrom rfl ?_
        refine fz_iload_n kX9_ownerFrom rfl rfl ?_
        refine fz_taldV (v := 0) kX9_ownerFrom rfl ⟨by decide, by decide⟩ (by omega) (by rw [hI.2.2.2.2]; decide) (by rw [hI.2.2.2.2]; rfl) ?_
        refine fz_istore_n (ls' := [(2, fz_i 0), (3, fz_i 0), (0, fz_i 6), (1, fz_i 1)]) kX9_ownerFrom rfl (by decide) rfl ?_
        refine fz_iincN (ls' := [(3, fz_i (0 + 1)), (2, fz_i 0), (0, fz_i 6), (1, fz_i 1)]) kX9_ownerFrom rfl (by decide) rfl (by omega) rfl ?_
        refine fz_goto (tgt := 4) kX9_ownerFrom rfl (by decide) ?_
        refine fz_iload_n kX9_ownerFrom rfl rfl ?_
        refine fz_bipush ⟨by decide, by decide⟩ kX9_ownerFrom rfl ?_
        refine fz_icmp_ge (tgt := 38) kX9_ownerFrom rfl (by decide) (fun c8 => ?_) (fun c8 => ?_)
        · exfalso; omega
        · refine fz_iload_n kX9_ownerFrom rfl rfl ?_
          refine fz_if_le (tgt := 38) kX9_ownerFrom rfl (by decide) (fun c9 => ?_) (fun c9 => ?_)
          · refine fz_iload_n kX9_ownerFrom rfl rfl ?_
            exact fz_iret kX9_ownerFrom rfl rfl (fun _ => ⟨rfl, _, rfl, (by omega)⟩)
          · exfalso; omega

abbrev qX9_ownerFrom_6_2 (h : fz_H) : fz_H → Option fz_V → Prop := fun h' r0 => h' = h ∧ ∃ r : Int, r0 = some (fz_i r) ∧ (0 ≤ r ∧ r ≤ 0)
set_option maxHeartbeats 1000000 in
set_option maxRecDepth 100000 in
theorem sX9_ownerFrom_6_2 (h : fz_H) (hI : fz_Iv h) : fz_R 0 mX9_ownerFrom 0 [(0, fz_i 6), (1, fz_i 2)] [] h (qX9_ownerFrom_6_2 h) := by
  refine fz_iload_n kX9_ownerFrom rfl rfl ?_
  refine fz_istore_n (ls' := [(2, fz_i 6), (0, fz_i 6), (1, fz_i 2)]) kX9_ownerFrom rfl (by decide) rfl ?_
  refine fz_iconst ⟨by decide, by decide⟩ kX9_ownerFrom rfl ?_
  refine fz_istore_n (ls' := [(3, fz_i 0), (2, fz_i 6), (0, fz_i 6), (1, fz_i 2)]) kX9_ownerFrom rfl (by decide) rfl ?_
  refine fz_iload_n kX9_ownerFrom rfl rfl ?_
  refine fz_bipush ⟨by decide, by decide⟩ kX9_ownerFrom rfl ?_
  refine fz_icmp_ge (tgt := 38) kX9_ownerFrom rfl (by decide) (fun c1 => ?_) (fun c1 => ?_)
  · exfalso; omega
  · refine fz_iload_n kX9_ownerFrom rfl rfl ?_
    refine fz_if_le (tgt := 38) kX9_ownerFrom rfl (by decide) (fun c2 => ?_) (fun c2 => ?_)
    · exfalso; omega
    · refine fz_gets kX9_ownerFrom rfl ?_
      refine fz_iload_n kX9_ownerFrom rfl rfl ?_
      refine fz_iconst ⟨by decide, by decide⟩ kX9_ownerFrom rfl ?_
      refine fz_imulN kX9_ownerFrom rfl ⟨by decide, by decide⟩ ?_
      refine fz_eqi (y := 24) rfl ?_
      refine fz_iload_n kX9_ownerFrom rfl rfl ?_
      refine fz_iaddN kX9_ownerFrom rfl ⟨by decide, by decide⟩ ?_
      refine fz_eqi (y := 26) rfl ?_
      refine fz_taldV (v := 0) kX9_ownerFrom rfl ⟨by decide, by decide⟩ (by omega) (by rw [hI.2.2.2.1]; decide) (by rw [hI.2.2.2.1]; rfl) ?_
      refine fz_if_ne (tgt := 38) kX9_ownerFrom rfl (by decide) (fun c5 => ?_) (fun c5 => ?_)
      · exfalso; omega
      · refine fz_gets kX9_ownerFrom rfl ?_
        refine fz_iload_n kX9_ownerFrom rfl rfl ?_
        refine fz_taldV (v := 0) kX9_ownerFrom rfl ⟨by decide, by decide⟩ (by omega) (by rw [hI.2.2.2.2]; decide) (by rw [hI.2.2.2.2]; rfl) ?_
        refine fz_istore_n (ls' := [(2, fz_i 0), (3, fz_i 0), (0, fz_i 6), (1, fz_i 2)]) kX9_ownerFrom rfl (by decide) rfl ?_
        refine fz_iincN (ls' := [(3, fz_i (0 + 1)), (2, fz_i 0), (0, fz_i 6), (1, fz_i 2)]) kX9_ownerFrom rfl (by decide) rfl (by omega) rfl ?_
        refine fz_goto (tgt := 4) kX9_ownerFrom rfl (by decide) ?_
        refine fz_iload_n kX9_ownerFrom rfl rfl ?_
        refine fz_bipush ⟨by decide, by decide⟩ kX9_ownerFrom rfl ?_
        refine fz_icmp_ge (tgt := 38) kX9_ownerFrom rfl (by decide) (fun c8 => ?_) (fun c8 => ?_)
        · exfalso; omega
        · refine fz_iload_n kX9_ownerFrom rfl rfl ?_
          refine fz_if_le (tgt := 38) kX9_ownerFrom rfl (by decide) (fun c9 => ?_) (fun c9 => ?_)
          · refine fz_iload_n kX9_ownerFrom rfl rfl ?_
            exact fz_iret kX9_ownerFrom rfl rfl (fun _ => ⟨rfl, _, rfl, (by omega)⟩)
          · exfalso; omega

abbrev qX9_ownerFrom_6_3 (h : fz_H) : fz_H → Option fz_V → Prop := fun h' r0 => h' = h ∧ ∃ r : Int, r0 = some (fz_i r) ∧ (0 ≤ r ∧ r ≤ 0)
set_option maxHeartbeats 1000000 in
set_option maxRecDepth 100000 in
theorem sX9_ownerFrom_6_3 (h : fz_H) (hI : fz_Iv h) : fz_R 0 mX9_ownerFrom 0 [(0, fz_i 6), (1, fz_i 3)] [] h (qX9_ownerFrom_6_3 h) := by
  refine fz_iload_n kX9_ownerFrom rfl rfl ?_
  refine fz_istore_n (ls' := [(2, fz_i 6), (0, fz_i 6), (1, fz_i 3)]) kX9_ownerFrom rfl (by decide) rfl ?_
  refine fz_iconst ⟨by decide, by decide⟩ kX9_ownerFrom rfl ?_
  refine fz_istore_n (ls' := [(3, fz_i 0), (2, fz_i 6), (0, fz_i 6), (1, fz_i 3)]) kX9_ownerFrom rfl (by decide) rfl ?_
  refine fz_iload_n kX9_ownerFrom rfl rfl ?_
  refine fz_bipush ⟨by decide, by decide⟩ kX9_ownerFrom rfl ?_
  refine fz_icmp_ge (tgt := 38) kX9_ownerFrom rfl (by decide) (fun c1 => ?_) (fun c1 => ?_)
  · exfalso; omega
  · refine fz_iload_n kX9_ownerFrom rfl rfl ?_
    refine fz_if_le (tgt := 38) kX9_ownerFrom rfl (by decide) (fun c2 => ?_) (fun c2 => ?_)
    · exfalso; omega
    · refine fz_gets kX9_ownerFrom rfl ?_
      refine fz_iload_n kX9_ownerFrom rfl rfl ?_
      refine fz_iconst ⟨by decide, by decide⟩ kX9_ownerFrom rfl ?_
      refine fz_imulN kX9_ownerFrom rfl ⟨by decide, by decide⟩ ?_
      refine fz_eqi (y := 24) rfl ?_
      refine fz_iload_n kX9_ownerFrom rfl rfl ?_
      refine fz_iaddN kX9_ownerFrom rfl ⟨by decide, by decide⟩ ?_
      refine fz_eqi (y := 27) rfl ?_
      refine fz_taldV (v := 0) kX9_ownerFrom rfl ⟨by decide, by decide⟩ (by omega) (by rw [hI.2.2.2.1]; decide) (by rw [hI.2.2.2.1]; rfl) ?_
      refine fz_if_ne (tgt := 38) kX9_ownerFrom rfl (by decide) (fun c5 => ?_) (fun c5 => ?_)
      · exfalso; omega
      · refine fz_gets kX9_ownerFrom rfl ?_
        refine fz_iload_n kX9_ownerFrom rfl rfl ?_
        refine fz_taldV (v := 0) kX9_ownerFrom rfl ⟨by decide, by decide⟩ (by omega) (by rw [hI.2.2.2.2]; decide) (by rw [hI.2.2.2.2]; rfl) ?_
        refine fz_istore_n (ls' := [(2, fz_i 0), (3, fz_i 0), (0, fz_i 6), (1, fz_i 3)]) kX9_ownerFrom rfl (by decide) rfl ?_
        refine fz_iincN (ls' := [(3, fz_i (0 + 1)), (2, fz_i 0), (0, fz_i 6), (1, fz_i 3)]) kX9_ownerFrom rfl (by decide) rfl (by omega) rfl ?_
        refine fz_goto (tgt := 4) kX9_ownerFrom rfl (by decide) ?_
        refine fz_iload_n kX9_ownerFrom rfl rfl ?_
        refine fz_bipush ⟨by decide, by decide⟩ kX9_ownerFrom rfl ?_
        refine fz_icmp_ge (tgt := 38) kX9_ownerFrom rfl (by decide) (fun c8 => ?_) (fun c8 => ?_)
        · exfalso; omega
        · refine fz_iload_n kX9_ownerFrom rfl rfl ?_
          refine fz_if_le (tgt := 38) kX9_ownerFrom rfl (by decide) (fun c9 => ?_) (fun c9 => ?_)
          · refine fz_iload_n kX9_ownerFrom rfl rfl ?_
            exact fz_iret kX9_ownerFrom rfl rfl (fun _ => ⟨rfl, _, rfl, (by omega)⟩)
          · exfalso; omega

abbrev qX9_ownerFrom_7_0 (h : fz_H) : fz_H → Option fz_V → Prop := fun h' r0 => h' = h ∧ ∃ r : Int, r0 = some (fz_i r) ∧ (1 ≤ r ∧ r ≤ 1)
set_option maxHeartbeats 1000000 in
set_option maxRecDepth 100000 in
theorem sX9_ownerFrom_7_0 (h : fz_H) (hI : fz_Iv h) : fz_R 0 mX9_ownerFrom 0 [(0, fz_i 7), (1, fz_i 0)] [] h (qX9_ownerFrom_7_0 h) := by
  refine fz_iload_n kX9_ownerFrom rfl rfl ?_
  refine fz_istore_n (ls' := [(2, fz_i 7), (0, fz_i 7), (1, fz_i 0)]) kX9_ownerFrom rfl (by decide) rfl ?_
  refine fz_iconst ⟨by decide, by decide⟩ kX9_ownerFrom rfl ?_
  refine fz_istore_n (ls' := [(3, fz_i 0), (2, fz_i 7), (0, fz_i 7), (1, fz_i 0)]) kX9_ownerFrom rfl (by decide) rfl ?_
  refine fz_iload_n kX9_ownerFrom rfl rfl ?_
  refine fz_bipush ⟨by decide, by decide⟩ kX9_ownerFrom rfl ?_
  refine fz_icmp_ge (tgt := 38) kX9_ownerFrom rfl (by decide) (fun c1 => ?_) (fun c1 => ?_)
  · exfalso; omega
  · refine fz_iload_n kX9_ownerFrom rfl rfl ?_
    refine fz_if_le (tgt := 38) kX9_ownerFrom rfl (by decide) (fun c2 => ?_) (fun c2 => ?_)
    · exfalso; omega
    · refine fz_gets kX9_ownerFrom rfl ?_
      refine fz_iload_n kX9_ownerFrom rfl rfl ?_
      refine fz_iconst ⟨by decide, by decide⟩ kX9_ownerFrom rfl ?_
      refine fz_imulN kX9_ownerFrom rfl ⟨by decide, by decide⟩ ?_
      refine fz_eqi (y := 28) rfl ?_
      refine fz_iload_n kX9_ownerFrom rfl rfl ?_
      refine fz_iaddN kX9_ownerFrom rfl ⟨by decide, by decide⟩ ?_
      refine fz_eqi (y := 28) rfl ?_
      refine fz_taldV (v := 0) kX9_ownerFrom rfl ⟨by decide, by decide⟩ (by omega) (by rw [hI.2.2.2.1]; decide) (by rw [hI.2.2.2.1]; rfl) ?_
      refine fz_if_ne (tgt := 38) kX9_ownerFrom rfl (by decide) (fun c5 => ?_) (fun c5 => ?_)
      · exfalso; omega
      · refine fz_gets kX9_ownerFrom rfl ?_
        refine fz_iload_n kX9_ownerFrom rfl rfl ?_
        refine fz_taldV (v := 4) kX9_ownerFrom rfl ⟨by decide, by decide⟩ (by omega) (by rw [hI.2.2.2.2]; decide) (by rw [hI.2.2.2.2]; rfl) ?_
        refine fz_istore_n (ls' := [(2, fz_i 4), (3, fz_i 0), (0, fz_i 7), (1, fz_i 0)]) kX9_ownerFrom rfl (by decide) rfl ?_
        refine fz_iincN (ls' := [(3, fz_i (0 + 1)), (2, fz_i 4), (0, fz_i 7), (1, fz_i 0)]) kX9_ownerFrom rfl (by decide) rfl (by omega) rfl ?_
        refine fz_goto (tgt := 4) kX9_ownerFrom rfl (by decide) ?_
        refine fz_iload_n kX9_ownerFrom rfl rfl ?_
        refine fz_bipush ⟨by decide, by decide⟩ kX9_ownerFrom rfl ?_
        refine fz_icmp_ge (tgt := 38) kX9_ownerFrom rfl (by decide) (fun c8 => ?_) (fun c8 => ?_)
        · exfalso; omega
        · refine fz_iload_n kX9_ownerFrom rfl rfl ?_
          refine fz_if_le (tgt := 38) kX9_ownerFrom rfl (by decide) (fun c9 => ?_) (fun c9 => ?_)
          · exfalso; omega
          · refine fz_gets kX9_ownerFrom rfl ?_
            refine fz_iload_n kX9_ownerFrom rfl rfl ?_
            refine fz_iconst ⟨by decide, by decide⟩ kX9_ownerFrom rfl ?_
            refine fz_imulN kX9_ownerFrom rfl ⟨by decide, by decide⟩ ?_
            refine fz_eqi (y := 16) rfl ?_
            refine fz_iload_n kX9_ownerFrom rfl rfl ?_
            refine fz_iaddN kX9_ownerFrom rfl ⟨by decide, by decide⟩ ?_
            refine fz_eqi (y := 16) rfl ?_
            refine fz_taldV (v := 0) kX9_ownerFrom rfl ⟨by decide, by decide⟩ (by omega) (by rw [hI.2.2.2.1]; decide) (by rw [hI.2.2.2.1]; rfl) ?_
            refine fz_if_ne (tgt := 38) kX9_ownerFrom rfl (by decide) (fun c12 => ?_) (fun c12 => ?_)
            · exfalso; omega
            · refine fz_gets kX9_ownerFrom rfl ?_
              refine fz_iload_n kX9_ownerFrom rfl rfl ?_
              refine fz_taldV (v := 1) kX9_ownerFrom rfl ⟨by decide, by decide⟩ (by omega) (by rw [hI.2.2.2.2]; decide) (by rw [hI.2.2.2.2]; rfl) ?_
              refine fz_istore_n (ls' := [(2, fz_i 1), (3, fz_i (0 + 1)), (0, fz_i 7), (1, fz_i 0)]) kX9_ownerFrom rfl (by decide) rfl ?_
              refine fz_iincN (ls' := [(3, fz_i ((0 + 1) + 1)), (2, fz_i 1), (0, fz_i 7), (1, fz_i 0)]) kX9_ownerFrom rfl (by decide) rfl (by omega) rfl ?_
              refine fz_goto (tgt := 4) kX9_ownerFrom rfl (by decide) ?_
              refine fz_iload_n kX9_ownerFrom rfl rfl ?_
              refine fz_bipush ⟨by decide, by decide⟩ kX9_ownerFrom rfl ?_
              refine fz_icmp_ge (tgt := 38) kX9_ownerFrom rfl (by decide) (fun c15 => ?_) (fun c15 => ?_)
              · exfalso; omega
              · refine fz_iload_n kX9_ownerFrom rfl rfl ?_
                refine fz_if_le (tgt := 38) kX9_ownerFrom rfl (by decide) (fun c16 => ?_) (fun c16 => ?_)
                · exfalso; omega
                · refine fz_gets kX9_ownerFrom rfl ?_
                  refine fz_iload_n kX9_ownerFrom rfl rfl ?_
                  refine fz_iconst ⟨by decide, by decide⟩ kX9_ownerFrom rfl ?_
                  refine fz_imulN kX9_ownerFrom rfl ⟨by decide, by decide⟩ ?_
                  refine fz_eqi (y := 4) rfl ?_
                  refine fz_iload_n kX9_ownerFrom rfl rfl ?_
                  refine fz_iaddN kX9_ownerFrom rfl ⟨by decide, by decide⟩ ?_
                  refine fz_eqi (y := 4) rfl ?_
                  refine fz_taldV (v := 20) kX9_ownerFrom rfl ⟨by decide, by decide⟩ (by omega) (by rw [hI.2.2.2.1]; decide) (by rw [hI.2.2.2.1]; rfl) ?_
                  refine fz_if_ne (tgt := 38) kX9_ownerFrom rfl (by decide) (fun c19 => ?_) (fun c19 => ?_)
                  · refine fz_iload_n kX9_ownerFrom rfl rfl ?_
                    exact fz_iret kX9_ownerFrom rfl rfl (fun _ => ⟨rfl, _, rfl, (by omega)⟩)
                  · exfalso; omega

abbrev qX9_ownerFrom_7_1 (h : fz_H) : fz_H → Option fz_V → Prop := fun h' r0 => h' = h ∧ ∃ r : Int, r0 = some (fz_i r) ∧ (7 ≤ r ∧ r ≤ 7)
set_option maxHeartbeats 1000000 in
set_option maxRecDepth 100000 in
theorem sX9_ownerFrom_7_1 (h : fz_H) (hI : fz_Iv h) : fz_R 0 mX9_ownerFrom 0 [(0, fz_i 7), (1, fz_i 1)] [] h (qX9_ownerFrom_7_1 h) := by
  refine fz_iload_n kX9_ownerFrom rfl rfl ?_
  refine fz_istore_n (ls' := [(2, fz_i 7), (0, fz_i 7), (1, fz_i 1)]) kX9_ownerFrom rfl (by decide) rfl ?_
  refine fz_iconst ⟨by decide, by decide⟩ kX9_ownerFrom rfl ?_
  refine fz_istore_n (ls' := [(3, fz_i 0), (2, fz_i 7), (0, fz_i 7), (1, fz_i 1)]) kX9_ownerFrom rfl (by decide) rfl ?_
  refine fz_iload_n kX9_ownerFrom rfl rfl ?_
  refine fz_bipush ⟨by decide, by decide⟩ kX9_ownerFrom rfl ?_
  refine fz_icmp_ge (tgt := 38) kX9_ownerFrom rfl (by decide) (fun c1 => ?_) (fun c1 => ?_)
  · exfalso; omega
  · refine fz_iload_n kX9_ownerFrom rfl rfl ?_
    refine fz_if_le (tgt := 38) kX9_ownerFrom rfl (by decide) (fun c2 => ?_) (fun c2 => ?_)
    · exfalso; omega
    · refine fz_gets kX9_ownerFrom rfl ?_
      refine fz_iload_n kX9_ownerFrom rfl rfl ?_
      refine fz_iconst ⟨by decide, by decide⟩ kX9_ownerFrom rfl ?_
      refine fz_imulN kX9_ownerFrom rfl ⟨by decide, by decide⟩ ?_
      refine fz_eqi (y := 28) rfl ?_
      refine fz_iload_n kX9_ownerFrom rfl rfl ?_
      refine fz_iaddN kX9_ownerFrom rfl ⟨by decide, by decide⟩ ?_
      refine fz_eqi (y := 29) rfl ?_
      refine fz_taldV (v := 80) kX9_ownerFrom rfl ⟨by decide, by decide⟩ (by omega) (by rw [hI.2.2.2.1]; decide) (by rw [hI.2.2.2.1]; rfl) ?_
      refine fz_if_ne (tgt := 38) kX9_ownerFrom rfl (by decide) (fun c5 => ?_) (fun c5 => ?_)
      · refine fz_iload_n kX9_ownerFrom rfl rfl ?_
        exact fz_iret kX9_ownerFrom rfl rfl (fun _ => ⟨rfl, _, rfl, (by omega)⟩)
      · exfalso; omega

abbrev qX9_ownerFrom_7_2 (h : fz_H) : fz_H → Option fz_V → Prop := fun h' r0 => h' = h ∧ ∃ r : Int, r0 = some (fz_i r) ∧ (4 ≤ r ∧ r ≤ 4)
set_option maxHeartbeats 1000000 in
set_option maxRecDepth 100000 in
theorem sX9_ownerFrom_7_2 (h : fz_H) (hI : fz_Iv h) : fz_R 0 mX9_ownerFrom 0 [(0, fz_i 7), (1, fz_i 2)] [] h (qX9_ownerFrom_7_2 h) := by
  refine fz_iload_n kX9_ownerFrom rfl rfl ?_
  refine fz_istore_n (ls' := [(2, fz_i 7), (0, fz_i 7), (1, fz_i 2)]) kX9_ownerFrom rfl (by decide) rfl ?_
  refine fz_iconst ⟨by decide, by decide⟩ kX9_ownerFrom rfl ?_
  refine fz_istore_n (ls' := [(3, fz_i 0), (2, fz_i 7), (0, fz_i 7), (1, fz_i 2)]) kX9_ownerFrom rfl (by decide) rfl ?_
  refine fz_iload_n kX9_ownerFrom rfl rfl ?_
  refine fz_bipush ⟨by decide, by decide⟩ kX9_ownerFrom rfl ?_
  refine fz_icmp_ge (tgt := 38) kX9_ownerFrom rfl (by decide) (fun c1 => ?_) (fun c1 => ?_)
  · exfalso; omega
  · refine fz_iload_n kX9_ownerFrom rfl rfl ?_
    refine fz_if_le (tgt := 38) kX9_ownerFrom rfl (by decide) (fun c2 => ?_) (fun c2 => ?_)
    · exfalso; omega
    · refine fz_gets kX9_ownerFrom rfl ?_
      refine fz_iload_n kX9_ownerFrom rfl rfl ?_
      refine fz_iconst ⟨by decide, by decide⟩ kX9_ownerFrom rfl ?_
      refine fz_imulN kX9_ownerFrom rfl ⟨by decide, by decide⟩ ?_
      refine fz_eqi (y := 28) rfl ?_
      refine fz_iload_n kX9_ownerFrom rfl rfl ?_
      refine fz_iaddN kX9_ownerFrom rfl ⟨by decide, by decide⟩ ?_
      refine fz_eqi (y := 30) rfl ?_
      refine fz_taldV (v := 0) kX9_ownerFrom rfl ⟨by decide, by decide⟩ (by omega) (by rw [hI.2.2.2.1]; decide) (by rw [hI.2.2.2.1]; rfl) ?_
      refine fz_if_ne (tgt := 38) kX9_ownerFrom rfl (by decide) (fun c5 => ?_) (fun c5 => ?_)
      · exfalso; omega
      · refine fz_gets kX9_ownerFrom rfl ?_
        refine fz_iload_n kX9_ownerFrom rfl rfl ?_
        refine fz_taldV (v := 4) kX9_ownerFrom rfl ⟨by decide, by decide⟩ (by omega) (by rw [hI.2.2.2.2]; decide) (by rw [hI.2.2.2.2]; rfl) ?_
        refine fz_istore_n (ls' := [(2, fz_i 4), (3, fz_i 0), (0, fz_i 7), (1, fz_i 2)]) kX9_ownerFrom rfl (by decide) rfl ?_
        refine fz_iincN (ls' := [(3, fz_i (0 + 1)), (2, fz_i 4), (0, fz_i 7), (1, fz_i 2)]) kX9_ownerFrom rfl (by decide) rfl (by omega) rfl ?_
        refine fz_goto (tgt := 4) kX9_ownerFrom rfl (by decide) ?_
        refine fz_iload_n kX9_ownerFrom rfl rfl ?_
        refine fz_bipush ⟨by decide, by decide⟩ kX9_ownerFrom rfl ?_
        refine fz_icmp_ge (tgt := 38) kX9_ownerFrom rfl (by decide) (fun c8 => ?_) (fun c8 => ?_)
        · exfalso; omega
        · refine fz_iload_n kX9_ownerFrom rfl rfl ?_
          refine fz_if_le (tgt := 38) kX9_ownerFrom rfl (by decide) (fun c9 => ?_) (fun c9 => ?_)
          · exfalso; omega
          · refine fz_gets kX9_ownerFrom rfl ?_
            refine fz_iload_n kX9_ownerFrom rfl rfl ?_
            refine fz_iconst ⟨by decide, by decide⟩ kX9_ownerFrom rfl ?_
            refine fz_imulN kX9_ownerFrom rfl ⟨by decide, by decide⟩ ?_
            refine fz_eqi (y := 16) rfl ?_
            refine fz_iload_n kX9_ownerFrom rfl rfl ?_
            refine fz_iaddN kX9_ownerFrom rfl ⟨by decide, by decide⟩ ?_
            refine fz_eqi (y := 18) rfl ?_
            refine fz_taldV (v := 50) kX9_ownerFrom rfl ⟨by decide, by decide⟩ (by omega) (by rw [hI.2.2.2.1]; decide) (by rw [hI.2.2.2.1]; rfl) ?_
            refine fz_if_ne (tgt := 38) kX9_ownerFrom rfl (by decide) (fun c12 => ?_) (fun c12 => ?_)
            · refine fz_iload_n kX9_ownerFrom rfl rfl ?_
              exact fz_iret kX9_ownerFrom rfl rfl (fun _ => ⟨rfl, _, rfl, (by omega)⟩)
            · exfalso; omega

abbrev qX9_ownerFrom_7_3 (h : fz_H) : fz_H → Option fz_V → Prop := fun h' r0 => h' = h ∧ ∃ r : Int, r0 = some (fz_i r) ∧ (7 ≤ r ∧ r ≤ 7)
set_option maxHeartbeats 1000000 in
set_option maxRecDepth 100000 in
theorem sX9_ownerFrom_7_3 (h : fz_H) (hI : fz_Iv h) : fz_R 0 mX9_ownerFrom 0 [(0, fz_i 7), (1, fz_i 3)] [] h (qX9_ownerFrom_7_3 h) := by
  refine fz_iload_n kX9_ownerFrom rfl rfl ?_
  refine fz_istore_n (ls' := [(2, fz_i 7), (0, fz_i 7), (1, fz_i 3)]) kX9_ownerFrom rfl (by decide) rfl ?_
  refine fz_iconst ⟨by decide, by decide⟩ kX9_ownerFrom rfl ?_
  refine fz_istore_n (ls' := [(3, fz_i 0), (2, fz_i 7), (0, fz_i 7), (1, fz_i 3)]) kX9_ownerFrom rfl (by decide) rfl ?_
  refine fz_iload_n kX9_ownerFrom rfl rfl ?_
  refine fz_bipush ⟨by decide, by decide⟩ kX9_ownerFrom rfl ?_
  refine fz_icmp_ge (tgt := 38) kX9_ownerFrom rfl (by decide) (fun c1 => ?_) (fun c1 => ?_)
  · exfalso; omega
  · refine fz_iload_n kX9_ownerFrom rfl rfl ?_
    refine fz_if_le (tgt := 38) kX9_ownerFrom rfl (by decide) (fun c2 => ?_) (fun c2 => ?_)
    · exfalso; omega
    · refine fz_gets kX9_ownerFrom rfl ?_
      refine fz_iload_n kX9_ownerFrom rfl rfl ?_
      refine fz_iconst ⟨by decide, by decide⟩ kX9_ownerFrom rfl ?_
      refine fz_imulN kX9_ownerFrom rfl ⟨by decide, by decide⟩ ?_
      refine fz_eqi (y := 28) rfl ?_
      refine fz_iload_n kX9_ownerFrom rfl rfl ?_
      refine fz_iaddN kX9_ownerFrom rfl ⟨by decide, by decide⟩ ?_
      refine fz_eqi (y := 31) rfl ?_
      refine fz_taldV (v := 81) kX9_ownerFrom rfl ⟨by decide, by decide⟩ (by omega) (by rw [hI.2.2.2.1]; decide) (by rw [hI.2.2.2.1]; rfl) ?_
      refine fz_if_ne (tgt := 38) kX9_ownerFrom rfl (by decide) (fun c5 => ?_) (fun c5 => ?_)
      · refine fz_iload_n kX9_ownerFrom rfl rfl ?_
        exact fz_iret kX9_ownerFrom rfl rfl (fun _ => ⟨rfl, _, rfl, (by omega)⟩)
      · exfalso; omega

abbrev qX9_run_0_0_0 (h : fz_H) (x dp w : Int) : fz_H → Option fz_V → Prop := fun h' r0 => fz_Iv h' ∧ fz_fr [(44, 3), (46, 99999)] h h' ∧ ∃ r : Int, r0 = some (fz_i r) ∧ (h' 44 3 = h 44 3 + 1) ∧ (r = fz_w (x + w)) ∧ (h' 44 3 = h 44 3 + ([1] : List Int).length) ∧ (h' 46 = fz_tr (h 46) (h 44 3) [1])
set_option maxHeartbeats 1000000 in
set_option maxRecDepth 100000 in
theorem sX9_run_0_0_0 (h : fz_H) (hI : fz_Iv h) (x dp w : Int) (hp0 : h 44 5 = 0) (hp1 : 0 ≤ dp ∧ dp ≤ 39) (hp2 : 0 ≤ h 44 3 ∧ h 44 3 ≤ 899) (hp3 : h 44 4 = w) : fz_R 1 mX9_run 0 [(0, fz_r 44), (1, fz_i 0), (2, fz_i 0), (3, fz_i x), (4, fz_i dp)] [] h (qX9_run_0_0_0 h x dp w) := by
  refine fz_knowl (fun hk => ?_)
  have hr_x : -2147483648 ≤ x ∧ x < 2147483648 := hk _ (List.Mem.tail _ (List.Mem.tail _ (List.Mem.tail _ (List.Mem.head _))))
  have hr_dp : -2147483648 ≤ dp ∧ dp < 2147483648 := hk _ (List.Mem.tail _ (List.Mem.tail _ (List.Mem.tail _ (List.Mem.tail _ (List.Mem.head _)))))
  clear hk
  have hf : fz_fr [(44, 3), (46, 99999)] h h := fz_fr_rf
  have b1 : 0 ≤ h 44 5 ∧ h 44 5 ≤ 7 := hI.1 44 _
  have b2 : (-2147483648) ≤ h 44 3 ∧ h 44 3 ≤ 2147483647 := hI.1 44 _
  have b3 : 0 ≤ h 44 4 ∧ h 44 4 ≤ 49 := hI.1 44 _
  refine fz_iload kX9_run rfl rfl ?_
  refine fz_bipush ⟨by decide, by decide⟩ kX9_run rfl ?_
  refine fz_icmp_gt (tgt := 24) kX9_run rfl (by decide) (fun c4 => ?_) (fun c4 => ?_)
  · exfalso; omega
  · refine fz_aload_n kX9_run rfl rfl ?_
    refine fz_iload_n kX9_run rfl rfl ?_
    refine fz_callV (d' := 0) (M' := mX9_isKind) (As := [fz_i 0]) (st := []) kX9_run rfl rfl vX9_isKind rfl rfl rfl rfl (Nat.le_of_ble_eq_true rfl) (Nat.le_of_ble_eq_true rfl) (by decide) (sX9_isKind h hI 0 ) (fun H5 r6 q7 o8 => ?_)
    obtain ⟨e9, y10, rfl, p11⟩ := q7
    subst H5
    clear o8
    rcases p11 with ⟨rfl, c12⟩ | ⟨rfl, c12⟩
    · refine fz_if_eq (tgt := 24) kX9_run rfl (by decide) (fun c13 => ?_) (fun c13 => ?_)
      · exfalso; omega
      · refine fz_iload_n kX9_run rfl rfl ?_
        refine fz_if_lt (tgt := 24) kX9_run rfl (by decide) (fun c14 => ?_) (fun c14 => ?_)
        · exfalso; omega
        · refine fz_iload_n kX9_run rfl rfl ?_
          refine fz_iconst ⟨by decide, by decide⟩ kX9_run rfl ?_
          refine fz_icmp_lt (tgt := 26) kX9_run rfl (by decide) (fun c15 => ?_) (fun c15 => ?_)
          · refine fz_iload_n kX9_run rfl rfl ?_
            refine fz_iload_n kX9_run rfl rfl ?_
            refine fz_callS (d' := 0) (M' := mX9_ownerFrom) (As := [fz_i 0, fz_i 0]) (st := []) kX9_run rfl rfl vX9_ownerFrom rfl rfl (Nat.le_of_ble_eq_true rfl) (Nat.le_of_ble_eq_true rfl) (by decide) (sX9_ownerFrom_0_0 h hI  ) (fun H16 r17 q18 o19 => ?_)
            obtain ⟨e20, y22, rfl, f21⟩ := q18
            subst H16
            clear o19
            refine fz_eqi (show y22 = 0 by omega) ?_
            refine fz_istore (ls' := [(5, fz_i 0), (0, fz_r 44), (1, fz_i 0), (2, fz_i 0), (3, fz_i x), (4, fz_i dp)]) kX9_run rfl (by decide) rfl ?_
            refine fz_gets kX9_run rfl ?_
            refine fz_iload kX9_run rfl rfl ?_
            refine fz_taldV (v := (-1)) kX9_run rfl ⟨by decide, by decide⟩ (by omega) (by rw [hI.2.2.2.2]; decide) (by rw [hI.2.2.2.2]; rfl) ?_
            refine fz_istore (ls' := [(6, fz_i (-1)), (5, fz_i 0), (0, fz_r 44), (1, fz_i 0), (2, fz_i 0), (3, fz_i x), (4, fz_i dp)]) kX9_run rfl (by decide) rfl ?_
            refine fz_iload kX9_run rfl rfl ?_
            refine fz_iconst ⟨by decide, by decide⟩ kX9_run rfl ?_
            refine fz_iaddN kX9_run rfl (by omega) ?_
            refine fz_istore (ls' := [(7, fz_i (dp + 1)), (6, fz_i (-1)), (5, fz_i 0), (0, fz_r 44), (1, fz_i 0), (2, fz_i 0), (3, fz_i x), (4, fz_i dp)]) kX9_run rfl (by decide) rfl ?_
            refine fz_gets kX9_run rfl ?_
            refine fz_iload kX9_run rfl rfl ?_
            refine fz_iconst ⟨by decide, by decide⟩ kX9_run rfl ?_
            refine fz_imulN kX9_run rfl ⟨by decide, by decide⟩ ?_
            refine fz_eqi (y := 0) rfl ?_
            refine fz_iload_n kX9_run rfl rfl ?_
            refine fz_iaddN kX9_run rfl ⟨by decide, by decide⟩ ?_
            refine fz_eqi (y := 0) rfl ?_
            refine fz_taldV (v := 1) kX9_run rfl ⟨by decide, by decide⟩ (by omega) (by rw [hI.2.2.2.1]; decide) (by rw [hI.2.2.2.1]; rfl) ?_
            refine fz_istore (ls' := [(8, fz_i 1), (7, fz_i (dp + 1)), (6, fz_i (-1)), (5, fz_i 0), (0, fz_r 44), (1, fz_i 0), (2, fz_i 0), (3, fz_i x), (4, fz_i dp)]) kX9_run rfl (by decide) rfl ?_
            refine fz_aload_n kX9_run rfl rfl ?_
            refine fz_iload kX9_run rfl rfl ?_
            refine fz_callV (d' := 0) (M' := mX9_note) (As := [fz_i 1]) (st := []) kX9_run rfl rfl vX9_note rfl rfl rfl rfl (Nat.le_of_ble_eq_true rfl) (Nat.le_of_ble_eq_true rfl) (by decide) (sX9_note h hI 1 (by omega)) (fun H27 r28 q29 o30 => ?_)
            obtain ⟨hI31, hf32, rfl, f33, f34⟩ := q29
            clear o30
            have hf35 := fz_fr_tr hf hf32 (show fz_su [(44, 3), (46, 99999)] [(44, 3), (46, 99999)] = true from rfl)
            have t36 : H27 44 4 = h 44 4 := hf32 44 4 rfl
            refine fz_iload kX9_run rfl rfl ?_
            refine fz_lsw (tgt := 180) kX9_run rfl (by decide) (show Op.lookupswitch.offset [(1, 113), (2, 120), (10, 146), (11, 161), (20, 168), (30, 181), (40, 193), (41, 206), (50, 219), (60, 243), (70, 256), (80, 269), (81, 293)] 306 1 = 113 from rfl) (by decide) ?_
            refine fz_iload_n kX9_run rfl rfl ?_
            refine fz_aload_n kX9_run rfl rfl ?_
            refine fz_getV (v := h 44 4) kX9_run rfl rfl (hf35 44 4 rfl) ?_
            have b37 : 0 ≤ h 44 4 ∧ h 44 4 ≤ 49 := hI.1 44 _
            refine fz_iadd kX9_run rfl ?_
            have b38 := fz_w_b (x + (h 44 4))
            exact fz_iret kX9_run rfl rfl (fun _ => ⟨hI31, hf35, _, rfl, (by omega), (by first | rfl | (rw [lost, lost]) | (rw [lost]) | (rw [hp3]) | (exfalso; omega)), (by simp only [List.length_cons, List.length_nil]; omega), (by first | exact fz_tc2 f34 lost lost (by omega) (by simp only [List.length_cons, List.length_nil]; omega) | exact fz_tc1 f34 lost (by omega) | exact fz_tc0 f34 | exact lost | (exfalso; omega))⟩)
          · exfalso; omega
    · refine fz_if_eq (tgt := 24) kX9_run rfl (by decide) (fun c42 => ?_) (fun c42 => ?_)
      · refine fz_iconst ⟨by decide, by decide⟩ kX9_run rfl ?_
        exact fz_iret kX9_run rfl rfl (fun _ => ⟨hI, hf, _, rfl, (by omega), (by first | rfl | (rw [lost, lost]) | (rw [lost]) | (rw [hp3]) | (exfalso; omega)), (by simp only [List.length_cons, List.length_nil]; omega), (by first | exact fz_tc2 lost lost lost (by omega) (by simp only [List.length_cons, List.length_nil]; omega) | exact fz_tc1 lost lost (by omega) | exact fz_tc0 lost | exact lost | (exfalso; omega))⟩)
      · exfalso; omega

abbrev qX9_run_0_0_1 (h : fz_H) (x dp w : Int) : fz_H → Option fz_V → Prop := fun h' r0 => fz_Iv h' ∧ fz_fr [(44, 3), (46, 99999)] h h' ∧ ∃ r : Int, r0 = some (fz_i r) ∧ (h' 44 3 = h 44 3 + 2) ∧ (r = fz_w (fz_w (x + w) * 2)) ∧ (h' 44 3 = h 44 3 + ([10, 1] : List Int).length) ∧ (h' 46 = fz_tr (h 46) (h 44 3) [10, 1])
set_option maxHeartbeats 1000000 in
set_option maxRecDepth 100000 in
theorem sX9_run_0_0_1 (h : fz_H) (hI : fz_Iv h) (x dp w : Int) (hp0 : h 44 5 = 0) (hp1 : 0 ≤ dp ∧ dp ≤ 38) (hp2 : 0 ≤ h 44 3 ∧ h 44 3 ≤ 898) (hp3 : h 44 4 = w) : fz_R 2 mX9_run 0 [(0, fz_r 44), (1, fz_i 0), (2, fz_i 1), (3, fz_i x), (4, fz_i dp)] [] h (qX9_run_0_0_1 h x dp w) := by
  refine fz_knowl (fun hk => ?_)
  have hr_x : -2147483648 ≤ x ∧ x < 2147483648 := hk _ (List.Mem.tail _ (List.Mem.tail _ (List.Mem.tail _ (List.Mem.head _))))
  have hr_dp : -2147483648 ≤ dp ∧ dp < 2147483648 := hk _ (List.Mem.tail _ (List.Mem.tail _ (List.Mem.tail _ (List.Mem.tail _ (List.Mem.head _)))))
  clear hk
  have hf : fz_fr [(44, 3), (46, 99999)] h h := fz_fr_rf
  have b1 : 0 ≤ h 44 5 ∧ h 44 5 ≤ 7 := hI.1 44 _
  have b2 : (-2147483648) ≤ h 44 3 ∧ h 44 3 ≤ 2147483647 := hI.1 44 _
  have b3 : 0 ≤ h 44 4 ∧ h 44 4 ≤ 49 := hI.1 44 _
  refine fz_iload kX9_run rfl rfl ?_
  refine fz_bipush ⟨by decide, by decide⟩ kX9_run rfl ?_
  refine fz_icmp_gt (tgt := 24) kX9_run rfl (by decide) (fun c4 => ?_) (fun c4 => ?_)
  · exfalso; omega
  · refine fz_aload_n kX9_run rfl rfl ?_
    refine fz_iload_n kX9_run rfl rfl ?_
    refine fz_callV (d' := 0) (M' := mX9_isKind) (As := [fz_i 0]) (st := []) kX9_run rfl rfl vX9_isKind rfl rfl rfl rfl (Nat.le_of_ble_eq_true rfl) (Nat.le_of_ble_eq_true rfl) (by decide) (sX9_isKind h hI 0 ) (fun H5 r6 q7 o8 => ?_)
    obtain ⟨e9, y10, rfl, p11⟩ := q7
    subst H5
    clear o8
    rcases p11 with ⟨rfl, c12⟩ | ⟨rfl, c12⟩
    · refine fz_if_eq (tgt := 24) kX9_run rfl (by decide) (fun c13 => ?_) (fun c13 => ?_)
      · exfalso; omega
      · refine fz_iload_n kX9_run rfl rfl ?_
        refine fz_if_lt (tgt := 24) kX9_run rfl (by decide) (fun c14 => ?_) (fun c14 => ?_)
        · exfalso; omega
        · refine fz_iload_n kX9_run rfl rfl ?_
          refine fz_iconst ⟨by decide, by decide⟩ kX9_run rfl ?_
          refine fz_icmp_lt (tgt := 26) kX9_run rfl (by decide) (fun c15 => ?_) (fun c15 => ?_)
          · refine fz_iload_n kX9_run rfl rfl ?_
            refine fz_iload_n kX9_run rfl rfl ?_
            refine fz_callS (d' := 0) (M' := mX9_ownerFrom) (As := [fz_i 0, fz_i 1]) (st := []) kX9_run rfl rfl vX9_ownerFrom rfl rfl (Nat.le_of_ble_eq_true rfl) (Nat.le_of_ble_eq_true rfl) (by decide) (sX9_ownerFrom_0_1 h hI  ) (fun H16 r17 q18 o19 => ?_)
            obtain ⟨e20, y22, rfl, f21⟩ := q18
            subst H16
            clear o19
            refine fz_eqi (show y22 = 0 by omega) ?_
            refine fz_istore (ls' := [(5, fz_i 0), (0, fz_r 44), (1, fz_i 0), (2, fz_i 1), (3, fz_i x), (4, fz_i dp)]) kX9_run rfl (by decide) rfl ?_
            refine fz_gets kX9_run rfl ?_
            refine fz_iload kX9_run rfl rfl ?_
            refine fz_taldV (v := (-1)) kX9_run rfl ⟨by decide, by decide⟩ (by omega) (by rw [hI.2.2.2.2]; decide) (by rw [hI.2.2.2.2]; rfl) ?_
            refine fz_istore (ls' := [(6, fz_i (-1)), (5, fz_i 0), (0, fz_r 44), (1, fz_i 0), (2, fz_i 1), (3, fz_i x), (4, fz_i dp)]) kX9_run rfl (by decide) rfl ?_
            refine fz_iload kX9_run rfl rfl ?_
            refine fz_iconst ⟨by decide, by decide⟩ kX9_run rfl ?_
            refine fz_iaddN kX9_run rfl (by omega) ?_
            refine fz_istore (ls' := [(7, fz_i (dp + 1)), (6, fz_i (-1)), (5, fz_i 0), (0, fz_r 44), (1, fz_i 0), (2, fz_i 1), (3, fz_i x), (4, fz_i dp)]) kX9_run rfl (by decide) rfl ?_
            refine fz_gets kX9_run rfl ?_
            refine fz_iload kX9_run rfl rfl ?_
            refine fz_iconst ⟨by decide, by decide⟩ kX9_run rfl ?_
            refine fz_imulN kX9_run rfl ⟨by decide, by decide⟩ ?_
            refine fz_eqi (y := 0) rfl ?_
            refine fz_iload_n kX9_run rfl rfl ?_
            refine fz_iaddN kX9_run rfl ⟨by decide, by decide⟩ ?_
            refine fz_eqi (y := 1) rfl ?_
            refine fz_taldV (v := 10) kX9_run rfl ⟨by decide, by decide⟩ (by omega) (by rw [hI.2.2.2.1]; decide) (by rw [hI.2.2.2.1]; rfl) ?_
            refine fz_istore (ls' := [(8, fz_i 10), (7, fz_i (dp + 1)), (6, fz_i (-1)), (5, fz_i 0), (0, fz_r 44), (1, fz_i 0), (2, fz_i 1), (3, fz_i x), (4, fz_i dp)]) kX9_run rfl (by decide) rfl ?_
            refine fz_aload_n kX9_run rfl rfl ?_
            refine fz_iload kX9_run rfl rfl ?_
            refine fz_callV (d' := 0) (M' := mX9_note) (As := [fz_i 10]) (st := []) kX9_run rfl rfl vX9_note rfl rfl rfl rfl (Nat.le_of_ble_eq_true rfl) (Nat.le_of_ble_eq_true rfl) (by decide) (sX9_note h hI 10 (by omega)) (fun H27 r28 q29 o30 => ?_)
            obtain ⟨hI31, hf32, rfl, f33, f34⟩ := q29
            clear o30
            have hf35 := fz_fr_tr hf hf32 (show fz_su [(44, 3), (46, 99999)] [(44, 3), (46, 99999)] = true from rfl)
            have t36 : H27 44 4 = h 44 4 := hf32 44 4 rfl
            refine fz_iload kX9_run rfl rfl ?_
            refine fz_lsw (tgt := 213) kX9_run rfl (by decide) (show Op.lookupswitch.offset [(1, 113), (2, 120), (10, 146), (11, 161), (20, 168), (30, 181), (40, 193), (41, 206), (50, 219), (60, 243), (70, 256), (80, 269), (81, 293)] 306 10 = 146 from rfl) (by decide) ?_
            refine fz_aload_n kX9_run rfl rfl ?_
            refine fz_aload_n kX9_run rfl rfl ?_
            refine fz_getV (v := h 44 5) kX9_run rfl rfl (hf35 44 5 rfl) ?_
            have b37 : 0 ≤ h 44 5 ∧ h 44 5 ≤ 7 := hI.1 44 _
            refine fz_eqi (show (h 44 5) = 0 by omega) ?_
            refine fz_iconst ⟨by decide, by decide⟩ kX9_run rfl ?_
            refine fz_iload_n kX9_run rfl rfl ?_
            refine fz_iload kX9_run rfl rfl ?_
            have b38 : (-2147483648) ≤ H27 44 3 ∧ H27 44 3 ≤ 2147483647 := hI31.1 44 _
            have e39 : H27 44 5 = h 44 5 := hf35 44 5 rfl
            have e40 : H27 44 4 = h 44 4 := hf35 44 4 rfl
            refine fz_callV (d' := 1) (M' := mX9_run) (As := [fz_i 0, fz_i 0, fz_i x, fz_i (dp + 1)]) (st := []) kX9_run rfl rfl vX9_run rfl rfl rfl rfl (Nat.le_of_ble_eq_true rfl) (Nat.le_of_ble_eq_true rfl) (by decide) (sX9_run_0_0_0 H27 hI31 x (dp + 1) w (by omega) (by omega) (by omega) (by omega)) (fun H41 r42 q43 o44 => ?_)
            obtain ⟨hI45, hf46, y51, rfl, f47, f48, f49, f50⟩ := q43
            clear o44
            have hf52 := fz_fr_tr hf35 hf46 (show fz_su [(44, 3), (46, 99999)] [(44, 3), (46, 99999)] = true from rfl)
            have t53 : H41 44 4 = H27 44 4 := hf46 44 4 rfl
            refine fz_iconst ⟨by decide, by decide⟩ kX9_run rfl ?_
            refine fz_imul kX9_run rfl ?_
            have b54 := fz_w_b (y51 * 2)
            exact fz_iret kX9_run rfl rfl (fun _ => ⟨hI45, hf52, _, rfl, (by omega), (by first | rfl | (rw [f48, lost]) | (rw [f48]) | (rw [hp3]) | (exfalso; omega)), (by simp only [List.length_cons, List.length_nil]; omega), (by first | exact fz_tc2 f34 f50 lost (by omega) (by simp only [List.length_cons, List.length_nil]; omega) | exact fz_tc1 f34 f50 (by omega) | exact fz_tc0 f34 | exact f50 | (exfalso; omega))⟩)
          · exfalso; omega
    · refine fz_if_eq (tgt := 24) kX9_run rfl (by decide) (fun c58 => ?_) (fun c58 => ?_)
      · refine fz_iconst ⟨by decide, by decide⟩ kX9_run rfl ?_
        exact fz_iret kX9_run rfl rfl (fun _ => ⟨hI, hf, _, rfl, (by omega), (by first | rfl | (rw [lost, lost]) | (rw [lost]) | (rw [hp3]) | (exfalso; omega)), (by simp only [List.length_cons, List.length_nil]; omega), (by first | exact fz_tc2 lost lost lost (by omega) (by simp only [List.length_cons, List.length_nil]; omega) | exact fz_tc1 lost lost (by omega) | exact fz_tc0 lost | exact lost | (exfalso; omega))⟩)
      · exfalso; omega

abbrev qX9_run_0_0_2 (h : fz_H) (x dp w : Int) : fz_H → Option fz_V → Prop := fun h' r0 => fz_Iv h' ∧ fz_fr [(44, 3), (46, 99999)] h h' ∧ ∃ r : Int, r0 = some (fz_i r) ∧ (h' 44 3 = h 44 3 + 1) ∧ (r = fz_xor x w) ∧ (h' 44 3 = h 44 3 + ([11] : List Int).length) ∧ (h' 46 = fz_tr (h 46) (h 44 3) [11])
set_option maxHeartbeats 1000000 in
set_option maxRecDepth 100000 in
theorem sX9_run_0_0_2 (h : fz_H) (hI : fz_Iv h) (x dp w : Int) (hp0 : h 44 5 = 0) (hp1 : 0 ≤ dp ∧ dp ≤ 39) (hp2 : 0 ≤ h 44 3 ∧ h 44 3 ≤ 899) (hp3 : h 44 4 = w) : fz_R 1 mX9_run 0 [(0, fz_r 44), (1, fz_i 0), (2, fz_i 2), (3, fz_i x), (4, fz_i dp)] [] h (qX9_run_0_0_2 h x dp w) := by
  refine fz_knowl (fun hk => ?_)
  have hr_x : -2147483648 ≤ x ∧ x < 2147483648 := hk _ (List.Mem.tail _ (List.Mem.tail _ (List.Mem.tail _ (List.Mem.head _))))
  have hr_dp : -2147483648 ≤ dp ∧ dp < 2147483648 := hk _ (List.Mem.tail _ (List.Mem.tail _ (List.Mem.tail _ (List.Mem.tail _ (List.Mem.head _)))))
  clear hk
  have hf : fz_fr [(44, 3), (46, 99999)] h h := fz_fr_rf
  have b1 : 0 ≤ h 44 5 ∧ h 44 5 ≤ 7 := hI.1 44 _
  have b2 : (-2147483648) ≤ h 44 3 ∧ h 44 3 ≤ 2147483647 := hI.1 44 _
  have b3 : 0 ≤ h 44 4 ∧ h 44 4 ≤ 49 := hI.1 44 _
  refine fz_iload kX9_run rfl rfl ?_
  refine fz_bipush ⟨by decide, by decide⟩ kX9_run rfl ?_
  refine fz_icmp_gt (tgt := 24) kX9_run rfl (by decide) (fun c4 => ?_) (fun c4 => ?_)
  · exfalso; omega
  · refine fz_aload_n kX9_run rfl rfl ?_
    refine fz_iload_n kX9_run rfl rfl ?_
    refine fz_callV (d' := 0) (M' := mX9_isKind) (As := [fz_i 0]) (st := []) kX9_run rfl rfl vX9_isKind rfl rfl rfl rfl (Nat.le_of_ble_eq_true rfl) (Nat.le_of_ble_eq_true rfl) (by decide) (sX9_isKind h hI 0 ) (fun H5 r6 q7 o8 => ?_)
    obtain ⟨e9, y10, rfl, p11⟩ := q7
    subst H5
    clear o8
    rcases p11 with ⟨rfl, c12⟩ | ⟨rfl, c12⟩
    · refine fz_if_eq (tgt := 24) kX9_run rfl (by decide) (fun c13 => ?_) (fun c13 => ?_)
      · exfalso; omega
      · refine fz_iload_n kX9_run rfl rfl ?_
        refine fz_if_lt (tgt := 24) kX9_run rfl (by decide) (fun c14 => ?_) (fun c14 => ?_)
        · exfalso; omega
        · refine fz_iload_n kX9_run rfl rfl ?_
          refine fz_iconst ⟨by decide, by decide⟩ kX9_run rfl ?_
          refine fz_icmp_lt (tgt := 26) kX9_run rfl (by decide) (fun c15 => ?_) (fun c15 => ?_)
          · refine fz_iload_n kX9_run rfl rfl ?_
            refine fz_iload_n kX9_run rfl rfl ?_
            refine fz_callS (d' := 0) (M' := mX9_ownerFrom) (As := [fz_i 0, fz_i 2]) (st := []) kX9_run rfl rfl vX9_ownerFrom rfl rfl (Nat.le_of_ble_eq_true rfl) (Nat.le_of_ble_eq_true rfl) (by decide) (sX9_ownerFrom_0_2 h hI  ) (fun H16 r17 q18 o19 => ?_)
            obtain ⟨e20, y22, rfl, f21⟩ := q18
            subst H16
            clear o19
            refine fz_eqi (show y22 = 0 by omega) ?_
            refine fz_istore (ls' := [(5, fz_i 0), (0, fz_r 44), (1, fz_i 0), (2, fz_i 2), (3, fz_i x), (4, fz_i dp)]) kX9_run rfl (by decide) rfl ?_
            refine fz_gets kX9_run rfl ?_
            refine fz_iload kX9_run rfl rfl ?_
            refine fz_taldV (v := (-1)) kX9_run rfl ⟨by decide, by decide⟩ (by omega) (by rw [hI.2.2.2.2]; decide) (by rw [hI.2.2.2.2]; rfl) ?_
            refine fz_istore (ls' := [(6, fz_i (-1)), (5, fz_i 0), (0, fz_r 44), (1, fz_i 0), (2, fz_i 2), (3, fz_i x), (4, fz_i dp)]) kX9_run rfl (by decide) rfl ?_
            refine fz_iload kX9_run rfl rfl ?_
            refine fz_iconst ⟨by decide, by decide⟩ kX9_run rfl ?_
            refine fz_iaddN kX9_run rfl (by omega) ?_
            refine fz_istore (ls' := [(7, fz_i (dp + 1)), (6, fz_i (-1)), (5, fz_i 0), (0, fz_r 44), (1, fz_i 0), (2, fz_i 2), (3, fz_i x), (4, fz_i dp)]) kX9_run rfl (by decide) rfl ?_
            refine fz_gets kX9_run rfl ?_
            refine fz_iload kX9_run rfl rfl ?_
            refine fz_iconst ⟨by decide, by decide⟩ kX9_run rfl ?_
            refine fz_imulN kX9_run rfl ⟨by decide, by decide⟩ ?_
            refine fz_eqi (y := 0) rfl ?_
            refine fz_iload_n kX9_run rfl rfl ?_
            refine fz_iaddN kX9_run rfl ⟨by decide, by decide⟩ ?_
            refine fz_eqi (y := 2) rfl ?_
            refine fz_taldV (v := 11) kX9_run rfl ⟨by decide, by decide⟩ (by omega) (by rw [hI.2.2.2.1]; decide) (by rw [hI.2.2.2.1]; rfl) ?_
            refine fz_istore (ls' := [(8, fz_i 11), (7, fz_i (dp + 1)), (6, fz_i (-1)), (5, fz_i 0), (0, fz_r 44), (1, fz_i 0), (2, fz_i 2), (3, fz_i x), (4, fz_i dp)]) kX9_run rfl (by decide) rfl ?_
            refine fz_aload_n kX9_run rfl rfl ?_
            refine fz_iload kX9_run rfl rfl ?_
            refine fz_callV (d' := 0) (M' := mX9_note) (As := [fz_i 11]) (st := []) kX9_run rfl rfl vX9_note rfl rfl rfl rfl (Nat.le_of_ble_eq_true rfl) (Nat.le_of_ble_eq_true rfl) (by decide) (sX9_note h hI 11 (by omega)) (fun H27 r28 q29 o30 => ?_)
            obtain ⟨hI31, hf32, rfl, f33, f34⟩ := q29
            clear o30
            have hf35 := fz_fr_tr hf hf32 (show fz_su [(44, 3), (46, 99999)] [(44, 3), (46, 99999)] = true from rfl)
            have t36 : H27 44 4 = h 44 4 := hf32 44 4 rfl
            refine fz_iload kX9_run rfl rfl ?_
            refine fz_lsw (tgt := 228) kX9_run rfl (by decide) (show Op.lookupswitch.offset [(1, 113), (2, 120), (10, 146), (11, 161), (20, 168), (30, 181), (40, 193), (41, 206), (50, 219), (60, 243), (70, 256), (80, 269), (81, 293)] 306 11 = 161 from rfl) (by decide) ?_
            refine fz_iload_n kX9_run rfl rfl ?_
            refine fz_aload_n kX9_run rfl rfl ?_
            refine fz_getV (v := h 44 4) kX9_run rfl rfl (hf35 44 4 rfl) ?_
            have b37 : 0 ≤ h 44 4 ∧ h 44 4 ≤ 49 := hI.1 44 _
            refine fz_ixor kX9_run rfl ?_
            have b38 : -2147483648 ≤ (fz_xor x (h 44 4)) ∧ (fz_xor x (h 44 4)) < 2147483648 := fz_b32 _
            exact fz_iret kX9_run rfl rfl (fun _ => ⟨hI31, hf35, _, rfl, (by omega), (by first | rfl | (rw [lost, lost]) | (rw [lost]) | (rw [hp3]) | (exfalso; omega)), (by simp only [List.length_cons, List.length_nil]; omega), (by first | exact fz_tc2 f34 lost lost (by omega) (by simp only [List.length_cons, List.length_nil]; omega) | exact fz_tc1 f34 lost (by omega) | exact fz_tc0 f34 | exact lost | (exfalso; omega))⟩)
          · exfalso; omega
    · refine fz_if_eq (tgt := 24) kX9_run rfl (by decide) (fun c42 => ?_) (fun c42 => ?_)
      · refine fz_iconst ⟨by decide, by decide⟩ kX9_run rfl ?_
        exact fz_iret kX9_run rfl rfl (fun _ => ⟨hI, hf, _, rfl, (by omega), (by first | rfl | (rw [lost, lost]) | (rw [lost]) | (rw [hp3]) | (exfalso; omega)), (by simp only [List.length_cons, List.length_nil]; omega), (by first | exact fz_tc2 lost lost lost (by omega) (by simp only [List.length_cons, List.length_nil]; omega) | exact fz_tc1 lost lost (by omega) | exact fz_tc0 lost | exact lost | (exfalso; omega))⟩)
      · exfalso; omega

abbrev qX9_run_0_0_3 (h : fz_H) (x dp w : Int) : fz_H → Option fz_V → Prop := fun h' r0 => fz_Iv h' ∧ fz_fr [(44, 3), (46, 99999)] h h' ∧ ∃ r : Int, r0 = some (fz_i r) ∧ (h' 44 3 = h 44 3 + 4) ∧ (r = fz_w (fz_w (fz_w (x + w) * 2) - fz_xor 1 w)) ∧ (h' 44 3 = h 44 3 + ([2, 10, 1, 11] : List Int).length) ∧ (h' 46 = fz_tr (h 46) (h 44 3) [2, 10, 1, 11])
set_option maxHeartbeats 1000000 in
set_option maxRecDepth 100000 in
theorem sX9_run_0_0_3 (h : fz_H) (hI : fz_Iv h) (x dp w : Int) (hp0 : h 44 5 = 0) (hp1 : 0 ≤ dp ∧ dp ≤ 37) (hp2 : 0 ≤ h 44 3 ∧ h 44 3 ≤ 896) (hp3 : h 44 4 = w) : fz_R 3 mX9_run 0 [(0, fz_r 44), (1, fz_i 0), (2, fz_i 3), (3, fz_i x), (4, fz_i dp)] [] h (qX9_run_0_0_3 h x dp w) := by
  refine fz_knowl (fun hk => ?_)
  have hr_x : -2147483648 ≤ x ∧ x < 2147483648 := hk _ (List.Mem.tail _ (List.Mem.tail _ (List.Mem.tail _ (List.Mem.head _))))
  have hr_dp : -2147483648 ≤ dp ∧ dp < 2147483648 := hk _ (List.Mem.tail _ (List.Mem.tail _ (List.Mem.tail _ (List.Mem.tail _ (List.Mem.head _)))))
  clear hk
  have hf : fz_fr [(44, 3), (46, 99999)] h h := fz_fr_rf
  have b1 : 0 ≤ h 44 5 ∧ h 44 5 ≤ 7 := hI.1 44 _
  have b2 : (-2147483648) ≤ h 44 3 ∧ h 44 3 ≤ 2147483647 := hI.1 44 _
  have b3 : 0 ≤ h 44 4 ∧ h 44 4 ≤ 49 := hI.1 44 _
  refine fz_iload kX9_run rfl rfl ?_
  refine fz_bipush ⟨by decide, by decide⟩ kX9_run rfl ?_
  refine fz_icmp_gt (tgt := 24) kX9_run rfl (by decide) (fun c4 => ?_) (fun c4 => ?_)
  · exfalso; omega
  · refine fz_aload_n kX9_run rfl rfl ?_
    refine fz_iload_n kX9_run rfl rfl ?_
    refine fz_callV (d' := 0) (M' := mX9_isKind) (As := [fz_i 0]) (st := []) kX9_run rfl rfl vX9_isKind rfl rfl rfl rfl (Nat.le_of_ble_eq_true rfl) (Nat.le_of_ble_eq_true rfl) (by decide) (sX9_isKind h hI 0 ) (fun H5 r6 q7 o8 => ?_)
    obtain ⟨e9, y10, rfl, p11⟩ := q7
    subst H5
    clear o8
    rcases p11 with ⟨rfl, c12⟩ | ⟨rfl, c12⟩
    · refine fz_if_eq (tgt := 24) kX9_run rfl (by decide) (fun c13 => ?_) (fun c13 => ?_)
      · exfalso; omega
      · refine fz_iload_n kX9_run rfl rfl ?_
        refine fz_if_lt (tgt := 24) kX9_run rfl (by decide) (fun c14 => ?_) (fun c14 => ?_)
        · exfalso; omega
        · refine fz_iload_n kX9_run rfl rfl ?_
          refine fz_iconst ⟨by decide, by decide⟩ kX9_run rfl ?_
          refine fz_icmp_lt (tgt := 26) kX9_run rfl (by decide) (fun c15 => ?_) (fun c15 => ?_)
          · refine fz_iload_n kX9_run rfl rfl ?_
            refine fz_iload_n kX9_run rfl rfl ?_
            refine fz_callS (d' := 0) (M' := mX9_ownerFrom) (As := [fz_i 0, fz_i 3]) (st := []) kX9_run rfl rfl vX9_ownerFrom rfl rfl (Nat.le_of_ble_eq_true rfl) (Nat.le_of_ble_eq_true rfl) (by decide) (sX9_ownerFrom_0_3 h hI  ) (fun H16 r17 q18 o19 => ?_)
            obtain ⟨e20, y22, rfl, f21⟩ := q18
            subst H16
            clear o19
            refine fz_eqi (show y22 = 0 by omega) ?_
            refine fz_istore (ls' := [(5, fz_i 0), (0, fz_r 44), (1, fz_i 0), (2, fz_i 3), (3, fz_i x), (4, fz_i dp)]) kX9_run rfl (by decide) rfl ?_
            refine fz_gets kX9_run rfl ?_
            refine fz_iload kX9_run rfl rfl ?_
            refine fz_taldV (v := (-1)) kX9_run rfl ⟨by decide, by decide⟩ (by omega) (by rw [hI.2.2.2.2]; decide) (by rw [hI.2.2.2.2]; rfl) ?_
            refine fz_istore (ls' := [(6, fz_i (-1)), (5, fz_i 0), (0, fz_r 44), (1, fz_i 0), (2, fz_i 3), (3, fz_i x), (4, fz_i dp)]) kX9_run rfl (by decide) rfl ?_
            refine fz_iload kX9_run rfl rfl ?_
            refine fz_iconst ⟨by decide, by decide⟩ kX9_run rfl ?_
            refine fz_iaddN kX9_run rfl (by omega) ?_
            refine fz_istore (ls' := [(7, fz_i (dp + 1)), (6, fz_i (-1)), (5, fz_i 0), (0, fz_r 44), (1, fz_i 0), (2, fz_i 3), (3, fz_i x), (4, fz_i dp)]) kX9_run rfl (by decide) rfl ?_
            refine fz_gets kX9_run rfl ?_
            refine fz_iload kX9_run rfl rfl ?_
            refine fz_iconst ⟨by decide, by decide⟩ kX9_run rfl ?_
            refine fz_imulN kX9_run rfl ⟨by decide, by decide⟩ ?_
            refine fz_eqi (y := 0) rfl ?_
            refine fz_iload_n kX9_run rfl rfl ?_
            refine fz_iaddN kX9_run rfl ⟨by decide, by decide⟩ ?_
            refine fz_eqi (y := 3) rfl ?_
            refine fz_taldV (v := 2) kX9_run rfl ⟨by decide, by decide⟩ (by omega) (by rw [hI.2.2.2.1]; decide) (by rw [hI.2.2.2.1]; rfl) ?_
            refine fz_istore (ls' := [(8, fz_i 2), (7, fz_i (dp + 1)), (6, fz_i (-1)), (5, fz_i 0), (0, fz_r 44), (1, fz_i 0), (2, fz_i 3), (3, fz_i x), (4, fz_i dp)]) kX9_run rfl (by decide) rfl ?_
            refine fz_aload_n kX9_run rfl rfl ?_
            refine fz_iload kX9_run rfl rfl ?_
            refine fz_callV (d' := 0) (M' := mX9_note) (As := [fz_i 2]) (st := []) kX9_run rfl rfl vX9_note rfl rfl rfl rfl (Nat.le_of_ble_eq_true rfl) (Nat.le_of_ble_eq_true rfl) (by decide) (sX9_note h hI 2 (by omega)) (fun H27 r28 q29 o30 => ?_)
            obtain ⟨hI31, hf32, rfl, f33, f34⟩ := q29
            clear o30
            have hf35 := fz_fr_tr hf hf32 (show fz_su [(44, 3), (46, 99999)] [(44, 3), (46, 99999)] = true from rfl)
            have t36 : H27 44 4 = h 44 4 := hf32 44 4 rfl
            refine fz_iload kX9_run rfl rfl ?_
            refine fz_lsw (tgt := 187) kX9_run rfl (by decide) (show Op.lookupswitch.offset [(1, 113), (2, 120), (10, 146), (11, 161), (20, 168), (30, 181), (40, 193), (41, 206), (50, 219), (60, 243), (70, 256), (80, 269), (81, 293)] 306 2 = 120 from rfl) (by decide) ?_
            refine fz_aload_n kX9_run rfl rfl ?_
            refine fz_aload_n kX9_run rfl rfl ?_
            refine fz_getV (v := h 44 5) kX9_run rfl rfl (hf35 44 5 rfl) ?_
            have b37 : 0 ≤ h 44 5 ∧ h 44 5 ≤ 7 := hI.1 44 _
            refine fz_eqi (show (h 44 5) = 0 by omega) ?_
            refine fz_iconst ⟨by decide, by decide⟩ kX9_run rfl ?_
            refine fz_iload_n kX9_run rfl rfl ?_
            refine fz_iload kX9_run rfl rfl ?_
            have b38 : (-2147483648) ≤ H27 44 3 ∧ H27 44 3 ≤ 2147483647 := hI31.1 44 _
            have e39 : H27 44 5 = h 44 5 := hf35 44 5 rfl
            have e40 : H27 44 4 = h 44 4 := hf35 44 4 rfl
            refine fz_callV (d' := 2) (M' := mX9_run) (As := [fz_i 0, fz_i 1, fz_i x, fz_i (dp + 1)]) (st := []) kX9_run rfl rfl vX9_run rfl rfl rfl rfl (Nat.le_of_ble_eq_true rfl) (Nat.le_of_ble_eq_true rfl) (by decide) (sX9_run_0_0_1 H27 hI31 x (dp + 1) w (by omega) (by omega) (by omega) (by omega)) (fun H41 r42 q43 o44 => ?_)
            obtain ⟨hI45, hf46, y51, rfl, f47, f48, f49, f50⟩ := q43
            clear o44
            have hf52 := fz_fr_tr hf35 hf46 (show fz_su [(44, 3), (46, 99999)] [(44, 3), (46, 99999)] = true from rfl)
            have t53 : H41 44 4 = H27 44 4 := hf46 44 4 rfl
            refine fz_aload_n kX9_run rfl rfl ?_
            refine fz_aload_n kX9_run rfl rfl ?_
            refine fz_getV (v := h 44 5) kX9_run rfl rfl (hf52 44 5 rfl) ?_
            refine fz_eqi (show (h 44 5) = 0 by omega) ?_
            refine fz_iconst ⟨by decide, by decide⟩ kX9_run rfl ?_
            refine fz_iconst ⟨by decide, by decide⟩ kX9_run rfl ?_
            refine fz_iload kX9_run rfl rfl ?_
            have b54 : (-2147483648) ≤ H41 44 3 ∧ H41 44 3 ≤ 2147483647 := hI45.1 44 _
            have e55 : H41 44 5 = h 44 5 := hf52 44 5 rfl
            have e56 : H41 44 4 = h 44 4 := hf52 44 4 rfl
            refine fz_callV (d' := 1) (M' := mX9_run) (As := [fz_i 0, fz_i 2, fz_i 1, fz_i (dp + 1)]) (st := [fz_i y51]) kX9_run rfl rfl vX9_run rfl rfl rfl rfl (Nat.le_of_ble_eq_true rfl) (Nat.le_of_ble_eq_true rfl) (by decide) (sX9_run_0_0_2 H41 hI45 1 (dp + 1) w (by omega) (by omega) (by omega) (by omega)) (fun H57 r58 q59 o60 => ?_)
            obtain ⟨hI61, hf62, y67, rfl, f63, f64, f65, f66⟩ := q59
            clear o60
            have hf68 := fz_fr_tr hf52 hf62 (show fz_su [(44, 3), (46, 99999)] [(44, 3), (46, 99999)] = true from rfl)
            have t69 : H57 44 4 = H41 44 4 := hf62 44 4 rfl
            refine fz_isub kX9_run rfl ?_
            have b70 := fz_w_b (y51 - y67)
            exact fz_iret kX9_run rfl rfl (fun _ => ⟨hI61, hf68, _, rfl, (by omega), (by first | rfl | (rw [f48, f64]) | (rw [f48]) | (rw [hp3]) | (exfalso; omega)), (by simp only [List.length_cons, List.length_nil]; omega), (by first | exact fz_tc2 f34 f50 f66 (by omega) (by simp only [List.length_cons, List.length_nil]; omega) | exact fz_tc1 f34 f50 (by omega) | exact fz_tc0 f34 | exact f50 | (exfalso; omega))⟩)
          · exfalso; omega
    · refine fz_if_eq (tgt := 24) kX9_run rfl (by decide) (fun c74 => ?_) (fun c74 => ?_)
      · refine fz_iconst ⟨by decide, by decide⟩ kX9_run rfl ?_
        exact fz_iret kX9_run rfl rfl (fun _ => ⟨hI, hf, _, rfl, (by omega), (by first | rfl | (rw [lost, lost]) | (rw [lost]) | (rw [hp3]) | (exfalso; omega)), (by simp only [List.length_cons, List.length_nil]; omega), (by first | exact fz_tc2 lost lost lost (by omega) (by simp only [List.length_cons, List.length_nil]; omega) | exact fz_tc1 lost lost (by omega) | exact fz_tc0 lost | exact lost | (exfalso; omega))⟩)
      · exfalso; omega

abbrev qX9_run_1_0_0 (h : fz_H) (x dp w : Int) : fz_H → Option fz_V → Prop := fun h' r0 => fz_Iv h' ∧ fz_fr [(44, 3), (46, 99999)] h h' ∧ ∃ r : Int, r0 = some (fz_i r) ∧ (h' 44 3 = h 44 3 + 1) ∧ (r = fz_w (x + w)) ∧ (h' 44 3 = h 44 3 + ([1] : List Int).length) ∧ (h' 46 = fz_tr (h 46) (h 44 3) [1])
set_option maxHeartbeats 1000000 in
set_option maxRecDepth 100000 in
theorem sX9_run_1_0_0 (h : fz_H) (hI : fz_Iv h) (x dp w : Int) (hp0 : h 44 5 = 1) (hp1 : 0 ≤ dp ∧ dp ≤ 39) (hp2 : 0 ≤ h 44 3 ∧ h 44 3 ≤ 899) (hp3 : h 44 4 = w) : fz_R 1 mX9_run 0 [(0, fz_r 44), (1, fz_i 0), (2, fz_i 0), (3, fz_i x), (4, fz_i dp)] [] h (qX9_run_1_0_0 h x dp w) := by
  refine fz_knowl (fun hk => ?_)
  have hr_x : -2147483648 ≤ x ∧ x < 2147483648 := hk _ (List.Mem.tail _ (List.Mem.tail _ (List.Mem.tail _ (List.Mem.head _))))
  have hr_dp : -2147483648 ≤ dp ∧ dp < 2147483648 := hk _ (List.Mem.tail _ (List.Mem.tail _ (List.Mem.tail _ (List.Mem.tail _ (List.Mem.head _)))))
  clear hk
  have hf : fz_fr [(44, 3), (46, 99999)] h h := fz_fr_rf
  have b1 : 0 ≤ h 44 5 ∧ h 44 5 ≤ 7 := hI.1 44 _
  have b2 : (-2147483648) ≤ h 44 3 ∧ h 44 3 ≤ 2147483647 := hI.1 44 _
  have b3 : 0 ≤ h 44 4 ∧ h 44 4 ≤ 49 := hI.1 44 _
  refine fz_iload kX9_run rfl rfl ?_
  refine fz_bipush ⟨by decide, by decide⟩ kX9_run rfl ?_
  refine fz_icmp_gt (tgt := 24) kX9_run rfl (by decide) (fun c4 => ?_) (fun c4 => ?_)
  · exfalso; omega
  · refine fz_aload_n kX9_run rfl rfl ?_
    refine fz_iload_n kX9_run rfl rfl ?_
    refine fz_callV (d' := 0) (M' := mX9_isKind) (As := [fz_i 0]) (st := []) kX9_run rfl rfl vX9_isKind rfl rfl rfl rfl (Nat.le_of_ble_eq_true rfl) (Nat.le_of_ble_eq_true rfl) (by decide) (sX9_isKind h hI 0 ) (fun H5 r6 q7 o8 => ?_)
    obtain ⟨e9, y10, rfl, p11⟩ := q7
    subst H5
    clear o8
    rcases p11 with ⟨rfl, c12⟩ | ⟨rfl, c12⟩
    · refine fz_if_eq (tgt := 24) kX9_run rfl (by decide) (fun c13 => ?_) (fun c13 => ?_)
      · exfalso; omega
      · refine fz_iload_n kX9_run rfl rfl ?_
        refine fz_if_lt (tgt := 24) kX9_run rfl (by decide) (fun c14 => ?_) (fun c14 => ?_)
        · exfalso; omega
        · refine fz_iload_n kX9_run rfl rfl ?_
          refine fz_iconst ⟨by decide, by decide⟩ kX9_run rfl ?_
          refine fz_icmp_lt (tgt := 26) kX9_run rfl (by decide) (fun c15 => ?_) (fun c15 => ?_)
          · refine fz_iload_n kX9_run rfl rfl ?_
            refine fz_iload_n kX9_run rfl rfl ?_
            refine fz_callS (d' := 0) (M' := mX9_ownerFrom) (As := [fz_i 0, fz_i 0]) (st := []) kX9_run rfl rfl vX9_ownerFrom rfl rfl (Nat.le_of_ble_eq_true rfl) (Nat.le_of_ble_eq_true rfl) (by decide) (sX9_ownerFrom_0_0 h hI  ) (fun H16 r17 q18 o19 => ?_)
            obtain ⟨e20, y22, rfl, f21⟩ := q18
            subst H16
            clear o19
            refine fz_eqi (show y22 = 0 by omega) ?_
            refine fz_istore (ls' := [(5, fz_i 0), (0, fz_r 44), (1, fz_i 0), (2, fz_i 0), (3, fz_i x), (4, fz_i dp)]) kX9_run rfl (by decide) rfl ?_
            refine fz_gets kX9_run rfl ?_
            refine fz_iload kX9_run rfl rfl ?_
            refine fz_taldV (v := (-1)) kX9_run rfl ⟨by decide, by decide⟩ (by omega) (by rw [hI.2.2.2.2]; decide) (by rw [hI.2.2.2.2]; rfl) ?_
            refine fz_istore (ls' := [(6, fz_i (-1)), (5, fz_i 0), (0, fz_r 44), (1, fz_i 0), (2, fz_i 0), (3, fz_i x), (4, fz_i dp)]) kX9_run rfl (by decide) rfl ?_
            refine fz_iload kX9_run rfl rfl ?_
            refine fz_iconst ⟨by decide, by decide⟩ kX9_run rfl ?_
            refine fz_iaddN kX9_run rfl (by omega) ?_
            refine fz_istore (ls' := [(7, fz_i (dp + 1)), (6, fz_i (-1)), (5, fz_i 0), (0, fz_r 44), (1, fz_i 0), (2, fz_i 0), (3, fz_i x), (4, fz_i dp)]) kX9_run rfl (by decide) rfl ?_
            refine fz_gets kX9_run rfl ?_
            refine fz_iload kX9_run rfl rfl ?_
            refine fz_iconst ⟨by decide, by decide⟩ kX9_run rfl ?_
            refine fz_imulN kX9_run rfl ⟨by decide, by decide⟩ ?_
            refine fz_eqi (y := 0) rfl ?_
            refine fz_iload_n kX9_run rfl rfl ?_
            refine fz_iaddN kX9_run rfl ⟨by decide, by decide⟩ ?_
            refine fz_eqi (y := 0) rfl ?_
            refine fz_taldV (v := 1) kX9_run rfl ⟨by decide, by decide⟩ (by omega) (by rw [hI.2.2.2.1]; decide) (by rw [hI.2.2.2.1]; rfl) ?_
            refine fz_istore (ls' := [(8, fz_i 1), (7, fz_i (dp + 1)), (6, fz_i (-1)), (5, fz_i 0), (0, fz_r 44), (1, fz_i 0), (2, fz_i 0), (3, fz_i x), (4, fz_i dp)]) kX9_run rfl (by decide) rfl ?_
            refine fz_aload_n kX9_run rfl rfl ?_
            refine fz_iload kX9_run rfl rfl ?_
            refine fz_callV (d' := 0) (M' := mX9_note) (As := [fz_i 1]) (st := []) kX9_run rfl rfl vX9_note rfl rfl rfl rfl (Nat.le_of_ble_eq_true rfl) (Nat.le_of_ble_eq_true rfl) (by decide) (sX9_note h hI 1 (by omega)) (fun H27 r28 q29 o30 => ?_)
            obtain ⟨hI31, hf32, rfl, f33, f34⟩ := q29
            clear o30
            have hf35 := fz_fr_tr hf hf32 (show fz_su [(44, 3), (46, 99999)] [(44, 3), (46, 99999)] = true from rfl)
            have t36 : H27 44 4 = h 44 4 := hf32 44 4 rfl
            refine fz_iload kX9_run rfl rfl ?_
            refine fz_lsw (tgt := 180) kX9_run rfl (by decide) (show Op.lookupswitch.offset [(1, 113), (2, 120), (10, 146), (11, 161), (20, 168), (30, 181), (40, 193), (41, 206), (50, 219), (60, 243), (70, 256), (80, 269), (81, 293)] 306 1 = 113 from rfl) (by decide) ?_
            refine fz_iload_n kX9_run rfl rfl ?_
            refine fz_aload_n kX9_run rfl rfl ?_
            refine fz_getV (v := h 44 4) kX9_run rfl rfl (hf35 44 4 rfl) ?_
            have b37 : 0 ≤ h 44 4 ∧ h 44 4 ≤ 49 := hI.1 44 _
            refine fz_iadd kX9_run rfl ?_
            have b38 := fz_w_b (x + (h 44 4))
            exact fz_iret kX9_run rfl rfl (fun _ => ⟨hI31, hf35, _, rfl, (by omega), (by first | rfl | (rw [lost, lost]) | (rw [lost]) | (rw [hp3]) | (exfalso; omega)), (by simp only [List.length_cons, List.length_nil]; omega), (by first | exact fz_tc2 f34 lost lost (by omega) (by simp only [List.length_cons, List.length_nil]; omega) | exact fz_tc1 f34 lost (by omega) | exact fz_tc0 f34 | exact lost | (exfalso; omega))⟩)
          · exfalso; omega
    · refine fz_if_eq (tgt := 24) kX9_run rfl (by decide) (fun c42 => ?_) (fun c42 => ?_)
      · refine fz_iconst ⟨by decide, by decide⟩ kX9_run rfl ?_
        exact fz_iret kX9_run rfl rfl (fun _ => ⟨hI, hf, _, rfl, (by omega), (by first | rfl | (rw [lost, lost]) | (rw [lost]) | (rw [hp3]) | (exfalso; omega)), (by simp only [List.length_cons, List.length_nil]; omega), (by first | exact fz_tc2 lost lost lost (by omega) (by simp only [List.length_cons, List.length_nil]; omega) | exact fz_tc1 lost lost (by omega) | exact fz_tc0 lost | exact lost | (exfalso; omega))⟩)
      · exfalso; omega

abbrev qX9_run_1_1_0 (h : fz_H) (x dp w : Int) : fz_H → Option fz_V → Prop := fun h' r0 => fz_Iv h' ∧ fz_fr [(44, 3), (46, 99999)] h h' ∧ ∃ r : Int, r0 = some (fz_i r) ∧ (h' 44 3 = h 44 3 + 2) ∧ (r = fz_w (fz_w (x + w) + 3)) ∧ (h' 44 3 = h 44 3 + ([20, 1] : List Int).length) ∧ (h' 46 = fz_tr (h 46) (h 44 3) [20, 1])
set_option maxHeartbeats 1000000 in
set_option maxRecDepth 100000 in
theorem sX9_run_1_1_0 (h : fz_H) (hI : fz_Iv h) (x dp w : Int) (hp0 : h 44 5 = 1) (hp1 : 0 ≤ dp ∧ dp ≤ 38) (hp2 : 0 ≤ h 44 3 ∧ h 44 3 ≤ 898) (hp3 : h 44 4 = w) : fz_R 2 mX9_run 0 [(0, fz_r 44), (1, fz_i 1), (2, fz_i 0), (3, fz_i x), (4, fz_i dp)] [] h (qX9_run_1_1_0 h x dp w) := by
  refine fz_knowl (fun hk => ?_)
  have hr_x : -2147483648 ≤ x ∧ x < 2147483648 := hk _ (List.Mem.tail _ (List.Mem.tail _ (List.Mem.tail _ (List.Mem.head _))))
  have hr_dp : -2147483648 ≤ dp ∧ dp < 2147483648 := hk _ (List.Mem.tail _ (List.Mem.tail _ (List.Mem.tail _ (List.Mem.tail _ (List.Mem.head _)))))
  clear hk
  have hf : fz_fr [(44, 3), (46, 99999)] h h := fz_fr_rf
  have b1 : 0 ≤ h 44 5 ∧ h 44 5 ≤ 7 := hI.1 44 _
  have b2 : (-2147483648) ≤ h 44 3 ∧ h 44 3 ≤ 2147483647 := hI.1 44 _
  have b3 : 0 ≤ h 44 4 ∧ h 44 4 ≤ 49 := hI.1 44 _
  refine fz_iload kX9_run rfl rfl ?_
  refine fz_bipush ⟨by decide, by decide⟩ kX9_run rfl ?_
  refine fz_icmp_gt (tgt := 24) kX9_run rfl (by decide) (fun c4 => ?_) (fun c4 => ?_)
  · exfalso; omega
  · refine fz_aload_n kX9_run rfl rfl ?_
    refine fz_iload_n kX9_run rfl rfl ?_
    refine fz_callV (d' := 0) (M' := mX9_isKind) (As := [fz_i 1]) (st := []) kX9_run rfl rfl vX9_isKind rfl rfl rfl rfl (Nat.le_of_ble_eq_true rfl) (Nat.le_of_ble_eq_true rfl) (by decide) (sX9_isKind h hI 1 ) (fun H5 r6 q7 o8 => ?_)
    obtain ⟨e9, y10, rfl, p11⟩ := q7
    subst H5
    clear o8
    rcases p11 with ⟨rfl, c12⟩ | ⟨rfl, c12⟩
    · refine fz_if_eq (tgt := 24) kX9_run rfl (by decide) (fun c13 => ?_) (fun c13 => ?_)
      · exfalso; omega
      · refine fz_iload_n kX9_run rfl rfl ?_
        refine fz_if_lt (tgt := 24) kX9_run rfl (by decide) (fun c14 => ?_) (fun c14 => ?_)
        · exfalso; omega
        · refine fz_iload_n kX9_run rfl rfl ?_
          refine fz_iconst ⟨by decide, by decide⟩ kX9_run rfl ?_
          refine fz_icmp_lt (tgt := 26) kX9_run rfl (by decide) (fun c15 => ?_) (fun c15 => ?_)
          · refine fz_iload_n kX9_run rfl rfl ?_
            refine fz_iload_n kX9_run rfl rfl ?_
            refine fz_callS (d' := 0) (M' := mX9_ownerFrom) (As := [fz_i 1, fz_i 0]) (st := []) kX9_run rfl rfl vX9_ownerFrom rfl rfl (Nat.le_of_ble_eq_true rfl) (Nat.le_of_ble_eq_true rfl) (by decide) (sX9_ownerFrom_1_0 h hI  ) (fun H16 r17 q18 o19 => ?_)
            obtain ⟨e20, y22, rfl, f21⟩ := q18
            subst H16
            clear o19
            refine fz_eqi (show y22 = 1 by omega) ?_
            refine fz_istore (ls' := [(5, fz_i 1), (0, fz_r 44), (1, fz_i 1), (2, fz_i 0), (3, fz_i x), (4, fz_i dp)]) kX9_run rfl (by decide) rfl ?_
            refine fz_gets kX9_run rfl ?_
            refine fz_iload kX9_run rfl rfl ?_
            refine fz_taldV (v := 0) kX9_run rfl ⟨by decide, by decide⟩ (by omega) (by rw [hI.2.2.2.2]; decide) (by rw [hI.2.2.2.2]; rfl) ?_
            refine fz_istore (ls' := [(6, fz_i 0), (5, fz_i 1), (0, fz_r 44), (1, fz_i 1), (2, fz_i 0), (3, fz_i x), (4, fz_i dp)]) kX9_run rfl (by decide) rfl ?_
            refine fz_iload kX9_run rfl rfl ?_
            refine fz_iconst ⟨by decide, by decide⟩ kX9_run rfl ?_
            refine fz_iaddN kX9_run rfl (by omega) ?_
            refine fz_istore (ls' := [(7, fz_i (dp + 1)), (6, fz_i 0), (5, fz_i 1), (0, fz_r 44), (1, fz_i 1), (2, fz_i 0), (3, fz_i x), (4, fz_i dp)]) kX9_run rfl (by decide) rfl ?_
            refine fz_gets kX9_run rfl ?_
            refine fz_iload kX9_run rfl rfl ?_
            refine fz_iconst ⟨by decide, by decide⟩ kX9_run rfl ?_
            refine fz_imulN kX9_run rfl ⟨by decide, by decide⟩ ?_
            refine fz_eqi (y := 4) rfl ?_
            refine fz_iload_n kX9_run rfl rfl ?_
            refine fz_iaddN kX9_run rfl ⟨by decide, by decide⟩ ?_
            refine fz_eqi (y := 4) rfl ?_
            refine fz_taldV (v := 20) kX9_run rfl ⟨by decide, by decide⟩ (by omega) (by rw [hI.2.2.2.1]; decide) (by rw [hI.2.2.2.1]; rfl) ?_
            refine fz_istore (ls' := [(8, fz_i 20), (7, fz_i (dp + 1)), (6, fz_i 0), (5, fz_i 1), (0, fz_r 44), (1, fz_i 1), (2, fz_i 0), (3, fz_i x), (4, fz_i dp)]) kX9_run rfl (by decide) rfl ?_
            refine fz_aload_n kX9_run rfl rfl ?_
            refine fz_iload kX9_run rfl rfl ?_
            refine fz_callV (d' := 0) (M' := mX9_note) (As := [fz_i 20]) (st := []) kX9_run rfl rfl vX9_note rfl rfl rfl rfl (Nat.le_of_ble_eq_true rfl) (Nat.le_of_ble_eq_true rfl) (by decide) (sX9_note h hI 20 (by omega)) (fun H27 r28 q29 o30 => ?_)
            obtain ⟨hI31, hf32, rfl, f33, f34⟩ := q29
            clear o30
            have hf35 := fz_fr_tr hf hf32 (show fz_su [(44, 3), (46, 99999)] [(44, 3), (46, 99999)] = true from rfl)
            have t36 : H27 44 4 = h 44 4 := hf32 44 4 rfl
            refine fz_iload kX9_run rfl rfl ?_
            refine fz_lsw (tgt := 235) kX9_run rfl (by decide) (show Op.lookupswitch.offset [(1, 113), (2, 120), (10, 146), (11, 161), (20, 168), (30, 181), (40, 193), (41, 206), (50, 219), (60, 243), (70, 256), (80, 269), (81, 293)] 306 20 = 168 from rfl) (by decide) ?_
            refine fz_aload_n kX9_run rfl rfl ?_
            refine fz_iload kX9_run rfl rfl ?_
            refine fz_iconst ⟨by decide, by decide⟩ kX9_run rfl ?_
            refine fz_iload_n kX9_run rfl rfl ?_
            refine fz_iload kX9_run rfl rfl ?_
            have b37 : (-2147483648) ≤ H27 44 3 ∧ H27 44 3 ≤ 2147483647 := hI31.1 44 _
            have e38 : H27 44 5 = h 44 5 := hf35 44 5 rfl
            have e39 : H27 44 4 = h 44 4 := hf35 44 4 rfl
            refine fz_callV (d' := 1) (M' := mX9_run) (As := [fz_i 0, fz_i 0, fz_i x, fz_i (dp + 1)]) (st := []) kX9_run rfl rfl vX9_run rfl rfl rfl rfl (Nat.le_of_ble_eq_true rfl) (Nat.le_of_ble_eq_true rfl) (by decide) (sX9_run_1_0_0 H27 hI31 x (dp + 1) w (by omega) (by omega) (by omega) (by omega)) (fun H40 r41 q42 o43 => ?_)
            obtain ⟨hI44, hf45, y50, rfl, f46, f47, f48, f49⟩ := q42
            clear o43
            have hf51 := fz_fr_tr hf35 hf45 (show fz_su [(44, 3), (46, 99999)] [(44, 3), (46, 99999)] = true from rfl)
            have t52 : H40 44 4 = H27 44 4 := hf45 44 4 rfl
            refine fz_iconst ⟨by decide, by decide⟩ kX9_run rfl ?_
            refine fz_iadd kX9_run rfl ?_
            have b53 := fz_w_b (y50 + 3)
            exact fz_iret kX9_run rfl rfl (fun _ => ⟨hI44, hf51, _, rfl, (by omega), (by first | rfl | (rw [f47, lost]) | (rw [f47]) | (rw [hp3]) | (exfalso; omega)), (by simp only [List.length_cons, List.length_nil]; omega), (by first | exact fz_tc2 f34 f49 lost (by omega) (by simp only [List.length_cons, List.length_nil]; omega) | exact fz_tc1 f34 f49 (by omega) | exact fz_tc0 f34 | exact f49 | (exfalso; omega))⟩)
          · exfalso; omega
    · refine fz_if_eq (tgt := 24) kX9_run rfl (by decide) (fun c57 => ?_) (fun c57 => ?_)
      · refine fz_iconst ⟨by decide, by decide⟩ kX9_run rfl ?_
        exact fz_iret kX9_run rfl rfl (fun _ => ⟨hI, hf, _, rfl, (by omega), (by first | rfl | (rw [lost, lost]) | (rw [lost]) | (rw [hp3]) | (exfalso; omega)), (by simp only [List.length_cons, List.length_nil]; omega), (by first | exact fz_tc2 lost lost lost (by omega) (by simp only [List.length_cons, List.length_nil]; omega) | exact fz_tc1 lost lost (by omega) | exact fz_tc0 lost | exact lost | (exfalso; omega))⟩)
      · exfalso; omega

abbrev qX9_run_1_1_1 (h : fz_H) (x dp w : Int) : fz_H → Option fz_V → Prop := fun h' r0 => fz_Iv h' ∧ fz_fr [(44, 3), (46, 99999)] h h' ∧ ∃ r : Int, r0 = some (fz_i r) ∧ (h' 44 3 = h 44 3 + 3) ∧ (r = fz_w (fz_w (fz_w (x + w) + 3) * 2)) ∧ (h' 44 3 = h 44 3 + ([10, 20, 1] : List Int).length) ∧ (h' 46 = fz_tr (h 46) (h 44 3) [10, 20, 1])
set_option maxHeartbeats 1000000 in
set_option maxRecDepth 100000 in
theorem sX9_run_1_1_1 (h : fz_H) (hI : fz_Iv h) (x dp w : Int) (hp0 : h 44 5 = 1) (hp1 : 0 ≤ dp ∧ dp ≤ 37) (hp2 : 0 ≤ h 44 3 ∧ h 44 3 ≤ 897) (hp3 : h 44 4 = w) : fz_R 3 mX9_run 0 [(0, fz_r 44), (1, fz_i 1), (2, fz_i 1), (3, fz_i x), (4, fz_i dp)] [] h (qX9_run_1_1_1 h x dp w) := by
  refine fz_knowl (fun hk => ?_)
  have hr_x : -2147483648 ≤ x ∧ x < 2147483648 := hk _ (List.Mem.tail _ (List.Mem.tail _ (List.Mem.tail _ (List.Mem.head _))))
  have hr_dp : -2147483648 ≤ dp ∧ dp < 2147483648 := hk _ (List.Mem.tail _ (List.Mem.tail _ (List.Mem.tail _ (List.Mem.tail _ (List.Mem.head _)))))
  clear hk
  have hf : fz_fr [(44, 3), (46, 99999)] h h := fz_fr_rf
  have b1 : 0 ≤ h 44 5 ∧ h 44 5 ≤ 7 := hI.1 44 _
  have b2 : (-2147483648) ≤ h 44 3 ∧ h 44 3 ≤ 2147483647 := hI.1 44 _
  have b3 : 0 ≤ h 44 4 ∧ h 44 4 ≤ 49 := hI.1 44 _
  refine fz_iload kX9_run rfl rfl ?_
  refine fz_bipush ⟨by decide, by decide⟩ kX9_run rfl ?_
  refine fz_icmp_gt (tgt := 24) kX9_run rfl (by decide) (fun c4 => ?_) (fun c4 => ?_)
  · exfalso; omega
  · refine fz_aload_n kX9_run rfl rfl ?_
    refine fz_iload_n kX9_run rfl rfl ?_
    refine fz_callV (d' := 0) (M' := mX9_isKind) (As := [fz_i 1]) (st := []) kX9_run rfl rfl vX9_isKind rfl rfl rfl rfl (Nat.le_of_ble_eq_true rfl) (Nat.le_of_ble_eq_true rfl) (by decide) (sX9_isKind h hI 1 ) (fun H5 r6 q7 o8 => ?_)
    obtain ⟨e9, y10, rfl, p11⟩ := q7
    subst H5
    clear o8
    rcases p11 with ⟨rfl, c12⟩ | ⟨rfl, c12⟩
    · refine fz_if_eq (tgt := 24) kX9_run rfl (by decide) (fun c13 => ?_) (fun c13 => ?_)
      · exfalso; omega
      · refine fz_iload_n kX9_run rfl rfl ?_
        refine fz_if_lt (tgt := 24) kX9_run rfl (by decide) (fun c14 => ?_) (fun c14 => ?_)
        · exfalso; omega
        · refine fz_iload_n kX9_run rfl rfl ?_
          refine fz_iconst ⟨by decide, by decide⟩ kX9_run rfl ?_
          refine fz_icmp_lt (tgt := 26) kX9_run rfl (by decide) (fun c15 => ?_) (fun c15 => ?_)
          · refine fz_iload_n kX9_run rfl rfl ?_
            refine fz_iload_n kX9_run rfl rfl ?_
            refine fz_callS (d' := 0) (M' := mX9_ownerFrom) (As := [fz_i 1, fz_i 1]) (st := []) kX9_run rfl rfl vX9_ownerFrom rfl rfl (Nat.le_of_ble_eq_true rfl) (Nat.le_of_ble_eq_true rfl) (by decide) (sX9_ownerFrom_1_1 h hI  ) (fun H16 r17 q18 o19 => ?_)
            obtain ⟨e20, y22, rfl, f21⟩ := q18
            subst H16
            clear o19
            refine fz_eqi (show y22 = 0 by omega) ?_
            refine fz_istore (ls' := [(5, fz_i 0), (0, fz_r 44), (1, fz_i 1), (2, fz_i 1), (3, fz_i x), (4, fz_i dp)]) kX9_run rfl (by decide) rfl ?_
            refine fz_gets kX9_run rfl ?_
            refine fz_iload kX9_run rfl rfl ?_
            refine fz_taldV (v := (-1)) kX9_run rfl ⟨by decide, by decide⟩ (by omega) (by rw [hI.2.2.2.2]; decide) (by rw [hI.2.2.2.2]; rfl) ?_
            refine fz_istore (ls' := [(6, fz_i (-1)), (5, fz_i 0), (0, fz_r 44), (1, fz_i 1), (2, fz_i 1), (3, fz_i x), (4, fz_i dp)]) kX9_run rfl (by decide) rfl ?_
            refine fz_iload kX9_run rfl rfl ?_
            refine fz_iconst ⟨by decide, by decide⟩ kX9_run rfl ?_
            refine fz_iaddN kX9_run rfl (by omega) ?_
            refine fz_istore (ls' := [(7, fz_i (dp + 1)), (6, fz_i (-1)), (5, fz_i 0), (0, fz_r 44), (1, fz_i 1), (2, fz_i 1), (3, fz_i x), (4, fz_i dp)]) kX9_run rfl (by decide) rfl ?_
            refine fz_gets kX9_run rfl ?_
            refine fz_iload kX9_run rfl rfl ?_
            refine fz_iconst ⟨by decide, by decide⟩ kX9_run rfl ?_
            refine fz_imulN kX9_run rfl ⟨by decide, by decide⟩ ?_
            refine fz_eqi (y := 0) rfl ?_
            refine fz_iload_n kX9_run rfl rfl ?_
            refine fz_iaddN kX9_run rfl ⟨by decide, by decide⟩ ?_
            refine fz_eqi (y := 1) rfl ?_
            refine fz_taldV (v := 10) kX9_run rfl ⟨by decide, by decide⟩ (by omega) (by rw [hI.2.2.2.1]; decide) (by rw [hI.2.2.2.1]; rfl) ?_
            refine fz_istore (ls' := [(8, fz_i 10), (7, fz_i (dp + 1)), (6, fz_i (-1)), (5, fz_i 0), (0, fz_r 44), (1, fz_i 1), (2, fz_i 1), (3, fz_i x), (4, fz_i dp)]) kX9_run rfl (by decide) rfl ?_
            refine fz_aload_n kX9_run rfl rfl ?_
            refine fz_iload kX9_run rfl rfl ?_
            refine fz_callV (d' := 0) (M' := mX9_note) (As := [fz_i 10]) (st := []) kX9_run rfl rfl vX9_note rfl rfl rfl rfl (Nat.le_of_ble_eq_true rfl) (Nat.le_of_ble_eq_true rfl) (by decide) (sX9_note h hI 10 (by omega)) (fun H27 r28 q29 o30 => ?_)
            obtain ⟨hI31, hf32, rfl, f33, f34⟩ := q29
            clear o30
            have hf35 := fz_fr_tr hf hf32 (show fz_su [(44, 3), (46, 99999)] [(44, 3), (46, 99999)] = true from rfl)
            have t36 : H27 44 4 = h 44 4 := hf32 44 4 rfl
            refine fz_iload kX9_run rfl rfl ?_
            refine fz_lsw (tgt := 213) kX9_run rfl (by decide) (show Op.lookupswitch.offset [(1, 113), (2, 120), (10, 146), (11, 161), (20, 168), (30, 181), (40, 193), (41, 206), (50, 219), (60, 243), (70, 256), (80, 269), (81, 293)] 306 10 = 146 from rfl) (by decide) ?_
            refine fz_aload_n kX9_run rfl rfl ?_
            refine fz_aload_n kX9_run rfl rfl ?_
            refine fz_getV (v := h 44 5) kX9_run rfl rfl (hf35 44 5 rfl) ?_
            have b37 : 0 ≤ h 44 5 ∧ h 44 5 ≤ 7 := hI.1 44 _
            refine fz_eqi (show (h 44 5) = 1 by omega) ?_
            refine fz_iconst ⟨by decide, by decide⟩ kX9_run rfl ?_
            refine fz_iload_n kX9_run rfl rfl ?_
            refine fz_iload kX9_run rfl rfl ?_
            have b38 : (-2147483648) ≤ H27 44 3 ∧ H27 44 3 ≤ 2147483647 := hI31.1 44 _
            have e39 : H27 44 5 = h 44 5 := hf35 44 5 rfl
            have e40 : H27 44 4 = h 44 4 := hf35 44 4 rfl
            refine fz_callV (d' := 2) (M' := mX9_run) (As := [fz_i 1, fz_i 0, fz_i x, fz_i (dp + 1)]) (st := []) kX9_run rfl rfl vX9_run rfl rfl rfl rfl (Nat.le_of_ble_eq_true rfl) (Nat.le_of_ble_eq_true rfl) (by decide) (sX9_run_1_1_0 H27 hI31 x (dp + 1) w (by omega) (by omega) (by omega) (by omega)) (fun H41 r42 q43 o44 => ?_)
            obtain ⟨hI45, hf46, y51, rfl, f47, f48, f49, f50⟩ := q43
            clear o44
            have hf52 := fz_fr_tr hf35 hf46 (show fz_su [(44, 3), (46, 99999)] [(44, 3), (46, 99999)] = true from rfl)
            have t53 : H41 44 4 = H27 44 4 := hf46 44 4 rfl
            refine fz_iconst ⟨by decide, by decide⟩ kX9_run rfl ?_
            refine fz_imul kX9_run rfl ?_
            have b54 := fz_w_b (y51 * 2)
            exact fz_iret kX9_run rfl rfl (fun _ => ⟨hI45, hf52, _, rfl, (by omega), (by first | rfl | (rw [f48, lost]) | (rw [f48]) | (rw [hp3]) | (exfalso; omega)), (by simp only [List.length_cons, List.length_nil]; omega), (by first | exact fz_tc2 f34 f50 lost (by omega) (by simp only [List.length_cons, List.length_nil]; omega) | exact fz_tc1 f34 f50 (by omega) | exact fz_tc0 f34 | exact f50 | (exfalso; omega))⟩)
          · exfalso; omega
    · refine fz_if_eq (tgt := 24) kX9_run rfl (by decide) (fun c58 => ?_) (fun c58 => ?_)
      · refine fz_iconst ⟨by decide, by decide⟩ kX9_run rfl ?_
        exact fz_iret kX9_run rfl rfl (fun _ => ⟨hI, hf, _, rfl, (by omega), (by first | rfl | (rw [lost, lost]) | (rw [lost]) | (rw [hp3]) | (exfalso; omega)), (by simp only [List.length_cons, List.length_nil]; omega), (by first | exact fz_tc2 lost lost lost (by omega) (by simp only [List.length_cons, List.length_nil]; omega) | exact fz_tc1 lost lost (by omega) | exact fz_tc0 lost | exact lost | (exfalso; omega))⟩)
      · exfalso; omega

abbrev qX9_run_1_1_2 (h : fz_H) (x dp w : Int) : fz_H → Option fz_V → Prop := fun h' r0 => fz_Iv h' ∧ fz_fr [(44, 3), (46, 99999)] h h' ∧ ∃ r : Int, r0 = some (fz_i r) ∧ (h' 44 3 = h 44 3 + 1) ∧ (r = fz_xor x w) ∧ (h' 44 3 = h 44 3 + ([11] : List Int).length) ∧ (h' 46 = fz_tr (h 46) (h 44 3) [11])
set_option maxHeartbeats 1000000 in
set_option maxRecDepth 100000 in
theorem sX9_run_1_1_2 (h : fz_H) (hI : fz_Iv h) (x dp w : Int) (hp0 : h 44 5 = 1) (hp1 : 0 ≤ dp ∧ dp ≤ 39) (hp2 : 0 ≤ h 44 3 ∧ h 44 3 ≤ 899) (hp3 : h 44 4 = w) : fz_R 1 mX9_run 0 [(0, fz_r 44), (1, fz_i 1), (2, fz_i 2), (3, fz_i x), (4, fz_i dp)] [] h (qX9_run_1_1_2 h x dp w) := by
  refine fz_knowl (fun hk => ?_)
  have hr_x : -2147483648 ≤ x ∧ x < 2147483648 := hk _ (List.Mem.tail _ (List.Mem.tail _ (List.Mem.tail _ (List.Mem.head _))))
  have hr_dp : -2147483648 ≤ dp ∧ dp < 2147483648 := hk _ (List.Mem.tail _ (List.Mem.tail _ (List.Mem.tail _ (List.Mem.tail _ (List.Mem.head _)))))
  clear hk
  have hf : fz_fr [(44, 3), (46, 99999)] h h := fz_fr_rf
  have b1 : 0 ≤ h 44 5 ∧ h 44 5 ≤ 7 := hI.1 44 _
  have b2 : (-2147483648) ≤ h 44 3 ∧ h 44 3 ≤ 2147483647 := hI.1 44 _
  have b3 : 0 ≤ h 44 4 ∧ h 44 4 ≤ 49 := hI.1 44 _
  refine fz_iload kX9_run rfl rfl ?_
  refine fz_bipush ⟨by decide, by decide⟩ kX9_run rfl ?_
  refine fz_icmp_gt (tgt := 24) kX9_run rfl (by decide) (fun c4 => ?_) (fun c4 => ?_)
  · exfalso; omega
  · refine fz_aload_n kX9_run rfl rfl ?_
    refine fz_iload_n kX9_run rfl rfl ?_
    refine fz_callV (d' := 0) (M' := mX9_isKind) (As := [fz_i 1]) (st := []) kX9_run rfl rfl vX9_isKind rfl rfl rfl rfl (Nat.le_of_ble_eq_true rfl) (Nat.le_of_ble_eq_true rfl) (by decide) (sX9_isKind h hI 1 ) (fun H5 r6 q7 o8 => ?_)
    obtain ⟨e9, y10, rfl, p11⟩ := q7
    subst H5
    clear o8
    rcases p11 with ⟨rfl, c12⟩ | ⟨rfl, c12⟩
    · refine fz_if_eq (tgt := 24) kX9_run rfl (by decide) (fun c13 => ?_) (fun c13 => ?_)
      · exfalso; omega
      · refine fz_iload_n kX9_run rfl rfl ?_
        refine fz_if_lt (tgt := 24) kX9_run rfl (by decide) (fun c14 => ?_) (fun c14 => ?_)
        · exfalso; omega
        · refine fz_iload_n kX9_run rfl rfl ?_
          refine fz_iconst ⟨by decide, by decide⟩ kX9_run rfl ?_
          refine fz_icmp_lt (tgt := 26) kX9_run rfl (by decide) (fun c15 => ?_) (fun c15 => ?_)
          · refine fz_iload_n kX9_run rfl rfl ?_
            refine fz_iload_n kX9_run rfl rfl ?_
            refine fz_callS (d' := 0) (M' := mX9_ownerFrom) (As := [fz_i 1, fz_i 2]) (st := []) kX9_run rfl rfl vX9_ownerFrom rfl rfl (Nat.le_of_ble_eq_true rfl) (Nat.le_of_ble_eq_true rfl) (by decide) (sX9_ownerFrom_1_2 h hI  ) (fun H16 r17 q18 o19 => ?_)
            obtain ⟨e20, y22, rfl, f21⟩ := q18
            subst H16
            clear o19
            refine fz_eqi (show y22 = 0 by omega) ?_
            refine fz_istore (ls' := [(5, fz_i 0), (0, fz_r 44), (1, fz_i 1), (2, fz_i 2), (3, fz_i x), (4, fz_i dp)]) kX9_run rfl (by decide) rfl ?_
            refine fz_gets kX9_run rfl ?_
            refine fz_iload kX9_run rfl rfl ?_
            refine fz_taldV (v := (-1)) kX9_run rfl ⟨by decide, by decide⟩ (by omega) (by rw [hI.2.2.2.2]; decide) (by rw [hI.2.2.2.2]; rfl) ?_
            refine fz_istore (ls' := [(6, fz_i (-1)), (5, fz_i 0), (0, fz_r 44), (1, fz_i 1), (2, fz_i 2), (3, fz_i x), (4, fz_i dp)]) kX9_run rfl (by decide) rfl ?_
            refine fz_iload kX9_run rfl rfl ?_
            refine fz_iconst ⟨by decide, by decide⟩ kX9_run rfl ?_
            refine fz_iaddN kX9_run rfl (by omega) ?_
            refine fz_istore (ls' := [(7, fz_i (dp + 1)), (6, fz_i (-1)), (5, fz_i 0), (0, fz_r 44), (1, fz_i 1), (2, fz_i 2), (3, fz_i x), (4, fz_i dp)]) kX9_run rfl (by decide) rfl ?_
            refine fz_gets kX9_run rfl ?_
            refine fz_iload kX9_run rfl rfl ?_
            refine fz_iconst ⟨by decide, by decide⟩ kX9_run rfl ?_
            refine fz_imulN kX9_run rfl ⟨by decide, by decide⟩ ?_
            refine fz_eqi (y := 0) rfl ?_
            refine fz_iload_n kX9_run rfl rfl ?_
            refine fz_iaddN kX9_run rfl ⟨by decide, by decide⟩ ?_
            refine fz_eqi (y := 2) rfl ?_
            refine fz_taldV (v := 11) kX9_run rfl ⟨by decide, by decide⟩ (by omega) (by rw [hI.2.2.2.1]; decide) (by rw [hI.2.2.2.1]; rfl) ?_
            refine fz_istore (ls' := [(8, fz_i 11), (7, fz_i (dp + 1)), (6, fz_i (-1)), (5, fz_i 0), (0, fz_r 44), (1, fz_i 1), (2, fz_i 2), (3, fz_i x), (4, fz_i dp)]) kX9_run rfl (by decide) rfl ?_
            refine fz_aload_n kX9_run rfl rfl ?_
            refine fz_iload kX9_run rfl rfl ?_
            refine fz_callV (d' := 0) (M' := mX9_note) (As := [fz_i 11]) (st := []) kX9_run rfl rfl vX9_note rfl rfl rfl rfl (Nat.le_of_ble_eq_true rfl) (Nat.le_of_ble_eq_true rfl) (by decide) (sX9_note h hI 11 (by omega)) (fun H27 r28 q29 o30 => ?_)
            obtain ⟨hI31, hf32, rfl, f33, f34⟩ := q29
            clear o30
            have hf35 := fz_fr_tr hf hf32 (show fz_su [(44, 3), (46, 99999)] [(44, 3), (46, 99999)] = true from rfl)
            have t36 : H27 44 4 = h 44 4 := hf32 44 4 rfl
            refine fz_iload kX9_run rfl rfl ?_
            refine fz_lsw (tgt := 228) kX9_run rfl (by decide) (show Op.lookupswitch.offset [(1, 113), (2, 120), (10, 146), (11, 161), (20, 168), (30, 181), (40, 193), (41, 206), (50, 219), (60, 243), (70, 256), (80, 269), (81, 293)] 306 11 = 161 from rfl) (by decide) ?_
            refine fz_iload_n kX9_run rfl rfl ?_
            refine fz_aload_n kX9_run rfl rfl ?_
            refine fz_getV (v := h 44 4) kX9_run rfl rfl (hf35 44 4 rfl) ?_
            have b37 : 0 ≤ h 44 4 ∧ h 44 4 ≤ 49 := hI.1 44 _
            refine fz_ixor kX9_run rfl ?_
            have b38 : -2147483648 ≤ (fz_xor x (h 44 4)) ∧ (fz_xor x (h 44 4)) < 2147483648 := fz_b32 _
            exact fz_iret kX9_run rfl rfl (fun _ => ⟨hI31, hf35, _, rfl, (by omega), (by first | rfl | (rw [lost, lost]) | (rw [lost]) | (rw [hp3]) | (exfalso; omega)), (by simp only [List.length_cons, List.length_nil]; omega), (by first | exact fz_tc2 f34 lost lost (by omega) (by simp only [List.length_cons, List.length_nil]; omega) | exact fz_tc1 f34 lost (by omega) | exact fz_tc0 f34 | exact lost | (exfalso; omega))⟩)
          · exfalso; omega
    · refine fz_if_eq (tgt := 24) kX9_run rfl (by decide) (fun c42 => ?_) (fun c42 => ?_)
      · refine fz_iconst ⟨by decide, by decide⟩ kX9_run rfl ?_
        exact fz_iret kX9_run rfl rfl (fun _ => ⟨hI, hf, _, rfl, (by omega), (by first | rfl | (rw [lost, lost]) | (rw [lost]) | (rw [hp3]) | (exfalso; omega)), (by simp only [List.length_cons, List.length_nil]; omega), (by first | exact fz_tc2 lost lost lost (by omega) (by simp only [List.length_cons, List.length_nil]; omega) | exact fz_tc1 lost lost (by omega) | exact fz_tc0 lost | exact lost | (exfalso; omega))⟩)
      · exfalso; omega

abbrev qX9_run_1_1_3 (h : fz_H) (x dp w : Int) : fz_H → Option fz_V → Prop := fun h' r0 => fz_Iv h' ∧ fz_fr [(44, 3), (46, 99999)] h h' ∧ ∃ r : Int, r0 = some (fz_i r) ∧ (h' 44 3 = h 44 3 + 5) ∧ (r = fz_w (fz_w (fz_w (fz_w (x + w) + 3) * 2) - fz_xor 1 w)) ∧ (h' 44 3 = h 44 3 + ([2, 10, 20, 1, 11] : List Int).length) ∧ (h' 46 = fz_tr (h 46) (h 44 3) [2, 10, 20, 1, 11])
set_option maxHeartbeats 1000000 in
set_option maxRecDepth 100000 in
theorem sX9_run_1_1_3 (h : fz_H) (hI : fz_Iv h) (x dp w : Int) (hp0 : h 44 5 = 1) (hp1 : 0 ≤ dp ∧ dp ≤ 36) (hp2 : 0 ≤ h 44 3 ∧ h 44 3 ≤ 895) (hp3 : h 44 4 = w) : fz_R 4 mX9_run 0 [(0, fz_r 44), (1, fz_i 1), (2, fz_i 3), (3, fz_i x), (4, fz_i dp)] [] h (qX9_run_1_1_3 h x dp w) := by
  refine fz_knowl (fun hk => ?_)
  have hr_x : -2147483648 ≤ x ∧ x < 2147483648 := hk _ (List.Mem.tail _ (List.Mem.tail _ (List.Mem.tail _ (List.Mem.head _))))
  have hr_dp : -2147483648 ≤ dp ∧ dp < 2147483648 := hk _ (List.Mem.tail _ (List.Mem.tail _ (List.Mem.tail _ (List.Mem.tail _ (List.Mem.head _)))))
  clear hk
  have hf : fz_fr [(44, 3), (46, 99999)] h h := fz_fr_rf
  have b1 : 0 ≤ h 44 5 ∧ h 44 5 ≤ 7 := hI.1 44 _
  have b2 : (-2147483648) ≤ h 44 3 ∧ h 44 3 ≤ 2147483647 := hI.1 44 _
  have b3 : 0 ≤ h 44 4 ∧ h 44 4 ≤ 49 := hI.1 44 _
  refine fz_iload kX9_run rfl rfl ?_
  refine fz_bipush ⟨by decide, by decide⟩ kX9_run rfl ?_
  refine fz_icmp_gt (tgt := 24) kX9_run rfl (by decide) (fun c4 => ?_) (fun c4 => ?_)
  · exfalso; omega
  · refine fz_aload_n kX9_run rfl rfl ?_
    refine fz_iload_n kX9_run rfl rfl ?_
    refine fz_callV (d' := 0) (M' := mX9_isKind) (As := [fz_i 1]) (st := []) kX9_run rfl rfl vX9_isKind rfl rfl rfl rfl (Nat.le_of_ble_eq_true rfl) (Nat.le_of_ble_eq_true rfl) (by decide) (sX9_isKind h hI 1 ) (fun H5 r6 q7 o8 => ?_)
    obtain ⟨e9, y10, rfl, p11⟩ := q7
    subst H5
    clear o8
    rcases p11 with ⟨rfl, c12⟩ | ⟨rfl, c12⟩
    · refine fz_if_eq (tgt := 24) kX9_run rfl (by decide) (fun c13 => ?_) (fun c13 => ?_)
      · exfalso; omega
      · refine fz_iload_n kX9_run rfl rfl ?_
        refine fz_if_lt (tgt := 24) kX9_run rfl (by decide) (fun c14 => ?_) (fun c14 => ?_)
        · exfalso; omega
        · refine fz_iload_n kX9_run rfl rfl ?_
          refine fz_iconst ⟨by decide, by decide⟩ kX9_run rfl ?_
          refine fz_icmp_lt (tgt := 26) kX9_run rfl (by decide) (fun c15 => ?_) (fun c15 => ?_)
          · refine fz_iload_n kX9_run rfl rfl ?_
            refine fz_iload_n kX9_run rfl rfl ?_
            refine fz_callS (d' := 0) (M' := mX9_ownerFrom) (As := [fz_i 1, fz_i 3]) (st := []) kX9_run rfl rfl vX9_ownerFrom rfl rfl (Nat.le_of_ble_eq_true rfl) (Nat.le_of_ble_eq_true rfl) (by decide) (sX9_ownerFrom_1_3 h hI  ) (fun H16 r17 q18 o19 => ?_)
            obtain ⟨e20, y22, rfl, f21⟩ := q18
            subst H16
            clear o19
            refine fz_eqi (show y22 = 0 by omega) ?_
            refine fz_istore (ls' := [(5, fz_i 0), (0, fz_r 44), (1, fz_i 1), (2, fz_i 3), (3, fz_i x), (4, fz_i dp)]) kX9_run rfl (by decide) rfl ?_
            refine fz_gets kX9_run rfl ?_
            refine fz_iload kX9_run rfl rfl ?_
            refine fz_taldV (v := (-1)) kX9_run rfl ⟨by decide, by decide⟩ (by omega) (by rw [hI.2.2.2.2]; decide) (by rw [hI.2.2.2.2]; rfl) ?_
            refine fz_istore (ls' := [(6, fz_i (-1)), (5, fz_i 0), (0, fz_r 44), (1, fz_i 1), (2, fz_i 3), (3, fz_i x), (4, fz_i dp)]) kX9_run rfl (by decide) rfl ?_
            refine fz_iload kX9_run rfl rfl ?_
            refine fz_iconst ⟨by decide, by decide⟩ kX9_run rfl ?_
            refine fz_iaddN kX9_run rfl (by omega) ?_
            refine fz_istore (ls' := [(7, fz_i (dp + 1)), (6, fz_i (-1)), (5, fz_i 0), (0, fz_r 44), (1, fz_i 1), (2, fz_i 3), (3, fz_i x), (4, fz_i dp)]) kX9_run rfl (by decide) rfl ?_
            refine fz_gets kX9_run rfl ?_
            refine fz_iload kX9_run rfl rfl ?_
            refine fz_iconst ⟨by decide, by decide⟩ kX9_run rfl ?_
            refine fz_imulN kX9_run rfl ⟨by decide, by decide⟩ ?_
            refine fz_eqi (y := 0) rfl ?_
            refine fz_iload_n kX9_run rfl rfl ?_
            refine fz_iaddN kX9_run rfl ⟨by decide, by decide⟩ ?_
            refine fz_eqi (y := 3) rfl ?_
            refine fz_taldV (v := 2) kX9_run rfl ⟨by decide, by decide⟩ (by omega) (by rw [hI.2.2.2.1]; decide) (by rw [hI.2.2.2.1]; rfl) ?_
            refine fz_istore (ls' := [(8, fz_i 2), (7, fz_i (dp + 1)), (6, fz_i (-1)), (5, fz_i 0), (0, fz_r 44), (1, fz_i 1), (2, fz_i 3), (3, fz_i x), (4, fz_i dp)]) kX9_run rfl (by decide) rfl ?_
            refine fz_aload_n kX9_run rfl rfl ?_
            refine fz_iload kX9_run rfl rfl ?_
            refine fz_callV (d' := 0) (M' := mX9_note) (As := [fz_i 2]) (st := []) kX9_run rfl rfl vX9_note rfl rfl rfl rfl (Nat.le_of_ble_eq_true rfl) (Nat.le_of_ble_eq_true rfl) (by decide) (sX9_note h hI 2 (by omega)) (fun H27 r28 q29 o30 => ?_)
            obtain ⟨hI31, hf32, rfl, f33, f34⟩ := q29
            clear o30
            have hf35 := fz_fr_tr hf hf32 (show fz_su [(44, 3), (46, 99999)] [(44, 3), (46, 99999)] = true from rfl)
            have t36 : H27 44 4 = h 44 4 := hf32 44 4 rfl
            refine fz_iload kX9_run rfl rfl ?_
            refine fz_lsw (tgt := 187) kX9_run rfl (by decide) (show Op.lookupswitch.offset [(1, 113), (2, 120), (10, 146), (11, 161), (20, 168), (30, 181), (40, 193), (41, 206), (50, 219), (60, 243), (70, 256), (80, 269), (81, 293)] 306 2 = 120 from rfl) (by decide) ?_
            refine fz_aload_n kX9_run rfl rfl ?_
            refine fz_aload_n kX9_run rfl rfl ?_
            refine fz_getV (v := h 44 5) kX9_run rfl rfl (hf35 44 5 rfl) ?_
            have b37 : 0 ≤ h 44 5 ∧ h 44 5 ≤ 7 := hI.1 44 _
            refine fz_eqi (show (h 44 5) = 1 by omega) ?_
            refine fz_iconst ⟨by decide, by decide⟩ kX9_run rfl ?_
            refine fz_iload_n kX9_run rfl rfl ?_
            refine fz_iload kX9_run rfl rfl ?_
            have b38 : (-2147483648) ≤ H27 44 3 ∧ H27 44 3 ≤ 2147483647 := hI31.1 44 _
            have e39 : H27 44 5 = h 44 5 := hf35 44 5 rfl
            have e40 : H27 44 4 = h 44 4 := hf35 44 4 rfl
            refine fz_callV (d' := 3) (M' := mX9_run) (As := [fz_i 1, fz_i 1, fz_i x, fz_i (dp + 1)]) (st := []) kX9_run rfl rfl vX9_run rfl rfl rfl rfl (Nat.le_of_ble_eq_true rfl) (Nat.le_of_ble_eq_true rfl) (by decide) (sX9_run_1_1_1 H27 hI31 x (dp + 1) w (by omega) (by omega) (by omega) (by omega)) (fun H41 r42 q43 o44 => ?_)
            obtain ⟨hI45, hf46, y51, rfl, f47, f48, f49, f50⟩ := q43
            clear o44
            have hf52 := fz_fr_tr hf35 hf46 (show fz_su [(44, 3), (46, 99999)] [(44, 3), (46, 99999)] = true from rfl)
            have t53 : H41 44 4 = H27 44 4 := hf46 44 4 rfl
            refine fz_aload_n kX9_run rfl rfl ?_
            refine fz_aload_n kX9_run rfl rfl ?_
            refine fz_getV (v := h 44 5) kX9_run rfl rfl (hf52 44 5 rfl) ?_
            refine fz_eqi (show (h 44 5) = 1 by omega) ?_
            refine fz_iconst ⟨by decide, by decide⟩ kX9_run rfl ?_
            refine fz_iconst ⟨by decide, by decide⟩ kX9_run rfl ?_
            refine fz_iload kX9_run rfl rfl ?_
            have b54 : (-2147483648) ≤ H41 44 3 ∧ H41 44 3 ≤ 2147483647 := hI45.1 44 _
            have e55 : H41 44 5 = h 44 5 := hf52 44 5 rfl
            have e56 : H41 44 4 = h 44 4 := hf52 44 4 rfl
            refine fz_callV (d' := 1) (M' := mX9_run) (As := [fz_i 1, fz_i 2, fz_i 1, fz_i (dp + 1)]) (st := [fz_i y51]) kX9_run rfl rfl vX9_run rfl rfl rfl rfl (Nat.le_of_ble_eq_true rfl) (Nat.le_of_ble_eq_true rfl) (by decide) (sX9_run_1_1_2 H41 hI45 1 (dp + 1) w (by omega) (by omega) (by omega) (by omega)) (fun H57 r58 q59 o60 => ?_)
            obtain ⟨hI61, hf62, y67, rfl, f63, f64, f65, f66⟩ := q59
            clear o60
            have hf68 := fz_fr_tr hf52 hf62 (show fz_su [(44, 3), (46, 99999)] [(44, 3), (46, 99999)] = true from rfl)
            have t69 : H57 44 4 = H41 44 4 := hf62 44 4 rfl
            refine fz_isub kX9_run rfl ?_
            have b70 := fz_w_b (y51 - y67)
            exact fz_iret kX9_run rfl rfl (fun _ => ⟨hI61, hf68, _, rfl, (by omega), (by first | rfl | (rw [f48, f64]) | (rw [f48]) | (rw [hp3]) | (exfalso; omega)), (by simp only [List.length_cons, List.length_nil]; omega), (by first | exact fz_tc2 f34 f50 f66 (by omega) (by simp only [List.length_cons, List.length_nil]; omega) | exact fz_tc1 f34 f50 (by omega) | exact fz_tc0 f34 | exact f50 | (exfalso; omega))⟩)
          · exfalso; omega
    · refine fz_if_eq (tgt := 24) kX9_run rfl (by decide) (fun c74 => ?_) (fun c74 => ?_)
      · refine fz_iconst ⟨by decide, by decide⟩ kX9_run rfl ?_
        exact fz_iret kX9_run rfl rfl (fun _ => ⟨hI, hf, _, rfl, (by omega), (by first | rfl | (rw [lost, lost]) | (rw [lost]) | (rw [hp3]) | (exfalso; omega)), (by simp only [List.length_cons, List.length_nil]; omega), (by first | exact fz_tc2 lost lost lost (by omega) (by simp only [List.length_cons, List.length_nil]; omega) | exact fz_tc1 lost lost (by omega) | exact fz_tc0 lost | exact lost | (exfalso; omega))⟩)
      · exfalso; omega

abbrev qX9_run_2_2_0 (h : fz_H) (x dp w : Int) : fz_H → Option fz_V → Prop := fun h' r0 => fz_Iv h' ∧ fz_fr [(44, 3), (46, 99999)] h h' ∧ ∃ r : Int, r0 = some (fz_i r) ∧ (h' 44 3 = h 44 3 + 1) ∧ (r = fz_w (x + w)) ∧ (h' 44 3 = h 44 3 + ([1] : List Int).length) ∧ (h' 46 = fz_tr (h 46) (h 44 3) [1])
set_option maxHeartbeats 1000000 in
set_option maxRecDepth 100000 in
theorem sX9_run_2_2_0 (h : fz_H) (hI : fz_Iv h) (x dp w : Int) (hp0 : h 44 5 = 2) (hp1 : 0 ≤ dp ∧ dp ≤ 39) (hp2 : 0 ≤ h 44 3 ∧ h 44 3 ≤ 899) (hp3 : h 44 4 = w) : fz_R 1 mX9_run 0 [(0, fz_r 44), (1, fz_i 2), (2, fz_i 0), (3, fz_i x), (4, fz_i dp)] [] h (qX9_run_2_2_0 h x dp w) := by
  refine fz_knowl (fun hk => ?_)
  have hr_x : -2147483648 ≤ x ∧ x < 2147483648 := hk _ (List.Mem.tail _ (List.Mem.tail _ (List.Mem.tail _ (List.Mem.head _))))
  have hr_dp : -2147483648 ≤ dp ∧ dp < 2147483648 := hk _ (List.Mem.tail _ (List.Mem.tail _ (List.Mem.tail _ (List.Mem.tail _ (List.Mem.head _)))))
  clear hk
  have hf : fz_fr [(44, 3), (46, 99999)] h h := fz_fr_rf
  have b1 : 0 ≤ h 44 5 ∧ h 44 5 ≤ 7 := hI.1 44 _
  have b2 : (-2147483648) ≤ h 44 3 ∧ h 44 3 ≤ 2147483647 := hI.1 44 _
  have b3 : 0 ≤ h 44 4 ∧ h 44 4 ≤ 49 := hI.1 44 _
  refine fz_iload kX9_run rfl rfl ?_
  refine fz_bipush ⟨by decide, by decide⟩ kX9_run rfl ?_
  refine fz_icmp_gt (tgt := 24) kX9_run rfl (by decide) (fun c4 => ?_) (fun c4 => ?_)
  · exfalso; omega
  · refine fz_aload_n kX9_run rfl rfl ?_
    refine fz_iload_n kX9_run rfl rfl ?_
    refine fz_callV (d' := 0) (M' := mX9_isKind) (As := [fz_i 2]) (st := []) kX9_run rfl rfl vX9_isKind rfl rfl rfl rfl (Nat.le_of_ble_eq_true rfl) (Nat.le_of_ble_eq_true rfl) (by decide) (sX9_isKind h hI 2 ) (fun H5 r6 q7 o8 => ?_)
    obtain ⟨e9, y10, rfl, p11⟩ := q7
    subst H5
    clear o8
    rcases p11 with ⟨rfl, c12⟩ | ⟨rfl, c12⟩
    · refine fz_if_eq (tgt := 24) kX9_run rfl (by decide) (fun c13 => ?_) (fun c13 => ?_)
      · exfalso; omega
      · refine fz_iload_n kX9_run rfl rfl ?_
        refine fz_if_lt (tgt := 24) kX9_run rfl (by decide) (fun c14 => ?_) (fun c14 => ?_)
        · exfalso; omega
        · refine fz_iload_n kX9_run rfl rfl ?_
          refine fz_iconst ⟨by decide, by decide⟩ kX9_run rfl ?_
          refine fz_icmp_lt (tgt := 26) kX9_run rfl (by decide) (fun c15 => ?_) (fun c15 => ?_)
          · refine fz_iload_n kX9_run rfl rfl ?_
            refine fz_iload_n kX9_run rfl rfl ?_
            refine fz_callS (d' := 0) (M' := mX9_ownerFrom) (As := [fz_i 2, fz_i 0]) (st := []) kX9_run rfl rfl vX9_ownerFrom rfl rfl (Nat.le_of_ble_eq_true rfl) (Nat.le_of_ble_eq_true rfl) (by decide) (sX9_ownerFrom_2_0 h hI  ) (fun H16 r17 q18 o19 => ?_)
            obtain ⟨e20, y22, rfl, f21⟩ := q18
            subst H16
            clear o19
            refine fz_eqi (show y22 = 0 by omega) ?_
            refine fz_istore (ls' := [(5, fz_i 0), (0, fz_r 44), (1, fz_i 2), (2, fz_i 0), (3, fz_i x), (4, fz_i dp)]) kX9_run rfl (by decide) rfl ?_
            refine fz_gets kX9_run rfl ?_
            refine fz_iload kX9_run rfl rfl ?_
            refine fz_taldV (v := (-1)) kX9_run rfl ⟨by decide, by decide⟩ (by omega) (by rw [hI.2.2.2.2]; decide) (by rw [hI.2.2.2.2]; rfl) ?_
            refine fz_istore (ls' := [(6, fz_i (-1)), (5, fz_i 0), (0, fz_r 44), (1, fz_i 2), (2, fz_i 0), (3, fz_i x), (4, fz_i dp)]) kX9_run rfl (by decide) rfl ?_
            refine fz_iload kX9_run rfl rfl ?_
            refine fz_iconst ⟨by decide, by decide⟩ kX9_run rfl ?_
            refine fz_iaddN kX9_run rfl (by omega) ?_
            refine fz_istore (ls' := [(7, fz_i (dp + 1)), (6, fz_i (-1)), (5, fz_i 0), (0, fz_r 44), (1, fz_i 2), (2, fz_i 0), (3, fz_i x), (4, fz_i dp)]) kX9_run rfl (by decide) rfl ?_
            refine fz_gets kX9_run rfl ?_
            refine fz_iload kX9_run rfl rfl ?_
            refine fz_iconst ⟨by decide, by decide⟩ kX9_run rfl ?_
            refine fz_imulN kX9_run rfl ⟨by decide, by decide⟩ ?_
            refine fz_eqi (y := 0) rfl ?_
            refine fz_iload_n kX9_run rfl rfl ?_
            refine fz_iaddN kX9_run rfl ⟨by decide, by decide⟩ ?_
            refine fz_eqi (y := 0) rfl ?_
            refine fz_taldV (v := 1) kX9_run rfl ⟨by decide, by decide⟩ (by omega) (by rw [hI.2.2.2.1]; decide) (by rw [hI.2.2.2.1]; rfl) ?_
            refine fz_istore (ls' := [(8, fz_i 1), (7, fz_i (dp + 1)), (6, fz_i (-1)), (5, fz_i 0), (0, fz_r 44), (1, fz_i 2), (2, fz_i 0), (3, fz_i x), (4, fz_i dp)]) kX9_run rfl (by decide) rfl ?_
            refine fz_aload_n kX9_run rfl rfl ?_
            refine fz_iload kX9_run rfl rfl ?_
            refine fz_callV (d' := 0) (M' := mX9_note) (As := [fz_i 1]) (st := []) kX9_run rfl rfl vX9_note rfl rfl rfl rfl (Nat.le_of_ble_eq_true rfl) (Nat.le_of_ble_eq_true rfl) (by decide) (sX9_note h hI 1 (by omega)) (fun H27 r28 q29 o30 => ?_)
            obtain ⟨hI31, hf32, rfl, f33, f34⟩ := q29
            clear o30
            have hf35 := fz_fr_tr hf hf32 (show fz_su [(44, 3), (46, 99999)] [(44, 3), (46, 99999)] = true from rfl)
            have t36 : H27 44 4 = h 44 4 := hf32 44 4 rfl
            refine fz_iload kX9_run rfl rfl ?_
            refine fz_lsw (tgt := 180) kX9_run rfl (by decide) (show Op.lookupswitch.offset [(1, 113), (2, 120), (10, 146), (11, 161), (20, 168), (30, 181), (40, 193), (41, 206), (50, 219), (60, 243), (70, 256), (80, 269), (81, 293)] 306 1 = 113 from rfl) (by decide) ?_
            refine fz_iload_n kX9_run rfl rfl ?_
            refine fz_aload_n kX9_run rfl rfl ?_
            refine fz_getV (v := h 44 4) kX9_run rfl rfl (hf35 44 4 rfl) ?_
            have b37 : 0 ≤ h 44 4 ∧ h 44 4 ≤ 49 := hI.1 44 _
            refine fz_iadd kX9_run rfl ?_
            have b38 := fz_w_b (x + (h 44 4))
            exact fz_iret kX9_run rfl rfl (fun _ => ⟨hI31, hf35, _, rfl, (by omega), (by first | rfl | (rw [lost, lost]) | (rw [lost]) | (rw [hp3]) | (exfalso; omega)), (by simp only [List.length_cons, List.length_nil]; omega), (by first | exact fz_tc2 f34 lost lost (by omega) (by simp only [List.length_cons, List.length_nil]; omega) | exact fz_tc1 f34 lost (by omega) | exact fz_tc0 f34 | exact lost | (exfalso; omega))⟩)
          · exfalso; omega
    · refine fz_if_eq (tgt := 24) kX9_run rfl (by decide) (fun c42 => ?_) (fun c42 => ?_)
      · refine fz_iconst ⟨by decide, by decide⟩ kX9_run rfl ?_
        exact fz_iret kX9_run rfl rfl (fun _ => ⟨hI, hf, _, rfl, (by omega), (by first | rfl | (rw [lost, lost]) | (rw [lost]) | (rw [hp3]) | (exfalso; omega)), (by simp only [List.length_cons, List.length_nil]; omega), (by first | exact fz_tc2 lost lost lost (by omega) (by simp only [List.length_cons, List.length_nil]; omega) | exact fz_tc1 lost lost (by omega) | exact fz_tc0 lost | exact lost | (exfalso; omega))⟩)
      · exfalso; omega

abbrev qX9_run_2_0_1 (h : fz_H) (x dp w : Int) : fz_H → Option fz_V → Prop := fun h' r0 => fz_Iv h' ∧ fz_fr [(44, 3), (46, 99999)] h h' ∧ ∃ r : Int, r0 = some (fz_i r) ∧ (h' 44 3 = h 44 3 + 2) ∧ (r = fz_w (fz_w (x + w) * 2)) ∧ (h' 44 3 = h 44 3 + ([10, 1] : List Int).length) ∧ (h' 46 = fz_tr (h 46) (h 44 3) [10, 1])
set_option maxHeartbeats 1000000 in
set_option maxRecDepth 100000 in
theorem sX9_run_2_0_1 (h : fz_H) (hI : fz_Iv h) (x dp w : Int) (hp0 : h 44 5 = 2) (hp1 : 0 ≤ dp ∧ dp ≤ 38) (hp2 : 0 ≤ h 44 3 ∧ h 44 3 ≤ 898) (hp3 : h 44 4 = w) : fz_R 2 mX9_run 0 [(0, fz_r 44), (1, fz_i 0), (2, fz_i 1), (3, fz_i x), (4, fz_i dp)] [] h (qX9_run_2_0_1 h x dp w) := by
  refine fz_knowl (fun hk => ?_)
  have hr_x : -2147483648 ≤ x ∧ x < 2147483648 := hk _ (List.Mem.tail _ (List.Mem.tail _ (List.Mem.tail _ (List.Mem.head _))))
  have hr_dp : -2147483648 ≤ dp ∧ dp < 2147483648 := hk _ (List.Mem.tail _ (List.Mem.tail _ (List.Mem.tail _ (List.Mem.tail _ (List.Mem.head _)))))
  clear hk
  have hf : fz_fr [(44, 3), (46, 99999)] h h := fz_fr_rf
  have b1 : 0 ≤ h 44 5 ∧ h 44 5 ≤ 7 := hI.1 44 _
  have b2 : (-2147483648) ≤ h 44 3 ∧ h 44 3 ≤ 2147483647 := hI.1 44 _
  have b3 : 0 ≤ h 44 4 ∧ h 44 4 ≤ 49 := hI.1 44 _
  refine fz_iload kX9_run rfl rfl ?_
  refine fz_bipush ⟨by decide, by decide⟩ kX9_run rfl ?_
  refine fz_icmp_gt (tgt := 24) kX9_run rfl (by decide) (fun c4 => ?_) (fun c4 => ?_)
  · exfalso; omega
  · refine fz_aload_n kX9_run rfl rfl ?_
    refine fz_iload_n kX9_run rfl rfl ?_
    refine fz_callV (d' := 0) (M' := mX9_isKind) (As := [fz_i 0]) (st := []) kX9_run rfl rfl vX9_isKind rfl rfl rfl rfl (Nat.le_of_ble_eq_true rfl) (Nat.le_of_ble_eq_true rfl) (by decide) (sX9_isKind h hI 0 ) (fun H5 r6 q7 o8 => ?_)
    obtain ⟨e9, y10, rfl, p11⟩ := q7
    subst H5
    clear o8
    rcases p11 with ⟨rfl, c12⟩ | ⟨rfl, c12⟩
    · refine fz_if_eq (tgt := 24) kX9_run rfl (by decide) (fun c13 => ?_) (fun c13 => ?_)
      · exfalso; omega
      · refine fz_iload_n kX9_run rfl rfl ?_
        refine fz_if_lt (tgt := 24) kX9_run rfl (by decide) (fun c14 => ?_) (fun c14 => ?_)
        · exfalso; omega
        · refine fz_iload_n kX9_run rfl rfl ?_
          refine fz_iconst ⟨by decide, by decide⟩ kX9_run rfl ?_
          refine fz_icmp_lt (tgt := 26) kX9_run rfl (by decide) (fun c15 => ?_) (fun c15 => ?_)
          · refine fz_iload_n kX9_run rfl rfl ?_
            refine fz_iload_n kX9_run rfl rfl ?_
            refine fz_callS (d' := 0) (M' := mX9_ownerFrom) (As := [fz_i 0, fz_i 1]) (st := []) kX9_run rfl rfl vX9_ownerFrom rfl rfl (Nat.le_of_ble_eq_true rfl) (Nat.le_of_ble_eq_true rfl) (by decide) (sX9_ownerFrom_0_1 h hI  ) (fun H16 r17 q18 o19 => ?_)
            obtain ⟨e20, y22, rfl, f21⟩ := q18
            subst H16
            clear o19
            refine fz_eqi (show y22 = 0 by omega) ?_
            refine fz_istore (ls' := [(5, fz_i 0), (0, fz_r 44), (1, fz_i 0), (2, fz_i 1), (3, fz_i x), (4, fz_i dp)]) kX9_run rfl (by decide) rfl ?_
            refine fz_gets kX9_run rfl ?_
            refine fz_iload kX9_run rfl rfl ?_
            refine fz_taldV (v := (-1)) kX9_run rfl ⟨by decide, by decide⟩ (by omega) (by rw [hI.2.2.2.2]; decide) (by rw [hI.2.2.2.2]; rfl) ?_
            refine fz_istore (ls' := [(6, fz_i (-1)), (5, fz_i 0), (0, fz_r 44), (1, fz_i 0), (2, fz_i 1), (3, fz_i x), (4, fz_i dp)]) kX9_run rfl (by decide) rfl ?_
            refine fz_iload kX9_run rfl rfl ?_
            refine fz_iconst ⟨by decide, by decide⟩ kX9_run rfl ?_
            refine fz_iaddN kX9_run rfl (by omega) ?_
            refine fz_istore (ls' := [(7, fz_i (dp + 1)), (6, fz_i (-1)), (5, fz_i 0), (0, fz_r 44), (1, fz_i 0), (2, fz_i 1), (3, fz_i x), (4, fz_i dp)]) kX9_run rfl (by decide) rfl ?_
            refine fz_gets kX9_run rfl ?_
            refine fz_iload kX9_run rfl rfl ?_
            refine fz_iconst ⟨by decide, by decide⟩ kX9_run rfl ?_
            refine fz_imulN kX9_run rfl ⟨by decide, by decide⟩ ?_
            refine fz_eqi (y := 0) rfl ?_
            refine fz_iload_n kX9_run rfl rfl ?_
            refine fz_iaddN kX9_run rfl ⟨by decide, by decide⟩ ?_
            refine fz_eqi (y := 1) rfl ?_
            refine fz_taldV (v := 10) kX9_run rfl ⟨by decide, by decide⟩ (by omega) (by rw [hI.2.2.2.1]; decide) (by rw [hI.2.2.2.1]; rfl) ?_
            refine fz_istore (ls' := [(8, fz_i 10), (7, fz_i (dp + 1)), (6, fz_i (-1)), (5, fz_i 0), (0, fz_r 44), (1, fz_i 0), (2, fz_i 1), (3, fz_i x), (4, fz_i dp)]) kX9_run rfl (by decide) rfl ?_
            refine fz_aload_n kX9_run rfl rfl ?_
            refine fz_iload kX9_run rfl rfl ?_
            refine fz_callV (d' := 0) (M' := mX9_note) (As := [fz_i 10]) (st := []) kX9_run rfl rfl vX9_note rfl rfl rfl rfl (Nat.le_of_ble_eq_true rfl) (Nat.le_of_ble_eq_true rfl) (by decide) (sX9_note h hI 10 (by omega)) (fun H27 r28 q29 o30 => ?_)
            obtain ⟨hI31, hf32, rfl, f33, f34⟩ := q29
            clear o30
            have hf35 := fz_fr_tr hf hf32 (show fz_su [(44, 3), (46, 99999)] [(44, 3), (46, 99999)] = true from rfl)
            have t36 : H27 44 4 = h 44 4 := hf32 44 4 rfl
            refine fz_iload kX9_run rfl rfl ?_
            refine fz_lsw (tgt := 213) kX9_run rfl (by decide) (show Op.lookupswitch.offset [(1, 113), (2, 120), (10, 146), (11, 161), (20, 168), (30, 181), (40, 193), (41, 206), (50, 219), (60, 243), (70, 256), (80, 269), (81, 293)] 306 10 = 146 from rfl) (by decide) ?_
            refine fz_aload_n kX9_run rfl rfl ?_
            refine fz_aload_n kX9_run rfl rfl ?_
            refine fz_getV (v := h 44 5) kX9_run rfl rfl (hf35 44 5 rfl) ?_
            have b37 : 0 ≤ h 44 5 ∧ h 44 5 ≤ 7 := hI.1 44 _
            refine fz_eqi (show (h 44 5) = 2 by omega) ?_
            refine fz_iconst ⟨by decide, by decide⟩ kX9_run rfl ?_
            refine fz_iload_n kX9_run rfl rfl ?_
            refine fz_iload kX9_run rfl rfl ?_
            have b38 : (-2147483648) ≤ H27 44 3 ∧ H27 44 3 ≤ 2147483647 := hI31.1 44 _
            have e39 : H27 44 5 = h 44 5 := hf35 44 5 rfl
            have e40 : H27 44 4 = h 44 4 := hf35 44 4 rfl
            refine fz_callV (d' := 1) (M' := mX9_run) (As := [fz_i 2, fz_i 0, fz_i x, fz_i (dp + 1)]) (st := []) kX9_run rfl rfl vX9_run rfl rfl rfl rfl (Nat.le_of_ble_eq_true rfl) (Nat.le_of_ble_eq_true rfl) (by decide) (sX9_run_2_2_0 H27 hI31 x (dp + 1) w (by omega) (by omega) (by omega) (by omega)) (fun H41 r42 q43 o44 => ?_)
            obtain ⟨hI45, hf46, y51, rfl, f47, f48, f49, f50⟩ := q43
            clear o44
            have hf52 := fz_fr_tr hf35 hf46 (show fz_su [(44, 3), (46, 99999)] [(44, 3), (46, 99999)] = true from rfl)
            have t53 : H41 44 4 = H27 44 4 := hf46 44 4 rfl
            refine fz_iconst ⟨by decide, by decide⟩ kX9_run rfl ?_
            refine fz_imul kX9_run rfl ?_
            have b54 := fz_w_b (y51 * 2)
            exact fz_iret kX9_run rfl rfl (fun _ => ⟨hI45, hf52, _, rfl, (by omega), (by first | rfl | (rw [f48, lost]) | (rw [f48]) | (rw [hp3]) | (exfalso; omega)), (by simp only [List.length_cons, List.length_nil]; omega), (by first | exact fz_tc2 f34 f50 lost (by omega) (by simp only [List.length_cons, List.length_nil]; omega) | exact fz_tc1 f34 f50 (by omega) | exact fz_tc0 f34 | exact f50 | (exfalso; omega))⟩)
          · exfalso; omega
    · refine fz_if_eq (tgt := 24) kX9_run rfl (by decide) (fun c58 => ?_) (fun c58 => ?_)
      · refine fz_iconst ⟨by decide, by decide⟩ kX9_run rfl ?_
        exact fz_iret kX9_run rfl rfl (fun _ => ⟨hI, hf, _, rfl, (by omega), (by first | rfl | (rw [lost, lost]) | (rw [lost]) | (rw [hp3]) | (exfalso; omega)), (by simp only [List.length_cons, List.length_nil]; omega), (by first | exact fz_tc2 lost lost lost (by omega) (by simp only [List.length_cons, List.length_nil]; omega) | exact fz_tc1 lost lost (by omega) | exact fz_tc0 lost | exact lost | (exfalso; omega))⟩)
      · exfalso; omega

abbrev qX9_run_2_2_1 (h : fz_H) (x dp w : Int) : fz_H → Option fz_V → Prop := fun h' r0 => fz_Iv h' ∧ fz_fr [(44, 3), (46, 99999)] h h' ∧ ∃ r : Int, r0 = some (fz_i r) ∧ (h' 44 3 = h 44 3 + 3) ∧ (r = fz_w (-(fz_w (fz_w (x + w) * 2)))) ∧ (h' 44 3 = h 44 3 + ([30, 10, 1] : List Int).length) ∧ (h' 46 = fz_tr (h 46) (h 44 3) [30, 10, 1])
set_option maxHeartbeats 1000000 in
set_option maxRecDepth 100000 in
theorem sX9_run_2_2_1 (h : fz_H) (hI : fz_Iv h) (x dp w : Int) (hp0 : h 44 5 = 2) (hp1 : 0 ≤ dp ∧ dp ≤ 37) (hp2 : 0 ≤ h 44 3 ∧ h 44 3 ≤ 897) (hp3 : h 44 4 = w) : fz_R 3 mX9_run 0 [(0, fz_r 44), (1, fz_i 2), (2, fz_i 1), (3, fz_i x), (4, fz_i dp)] [] h (qX9_run_2_2_1 h x dp w) := by
  refine fz_knowl (fun hk => ?_)
  have hr_x : -2147483648 ≤ x ∧ x < 2147483648 := hk _ (List.Mem.tail _ (List.Mem.tail _ (List.Mem.tail _ (List.Mem.head _))))
  have hr_dp : -2147483648 ≤ dp ∧ dp < 2147483648 := hk _ (List.Mem.tail _ (List.Mem.tail _ (List.Mem.tail _ (List.Mem.tail _ (List.Mem.head _)))))
  clear hk
  have hf : fz_fr [(44, 3), (46, 99999)] h h := fz_fr_rf
  have b1 : 0 ≤ h 44 5 ∧ h 44 5 ≤ 7 := hI.1 44 _
  have b2 : (-2147483648) ≤ h 44 3 ∧ h 44 3 ≤ 2147483647 := hI.1 44 _
  have b3 : 0 ≤ h 44 4 ∧ h 44 4 ≤ 49 := hI.1 44 _
  refine fz_iload kX9_run rfl rfl ?_
  refine fz_bipush ⟨by decide, by decide⟩ kX9_run rfl ?_
  refine fz_icmp_gt (tgt := 24) kX9_run rfl (by decide) (fun c4 => ?_) (fun c4 => ?_)
  · exfalso; omega
  · refine fz_aload_n kX9_run rfl rfl ?_
    refine fz_iload_n kX9_run rfl rfl ?_
    refine fz_callV (d' := 0) (M' := mX9_isKind) (As := [fz_i 2]) (st := []) kX9_run rfl rfl vX9_isKind rfl rfl rfl rfl (Nat.le_of_ble_eq_true rfl) (Nat.le_of_ble_eq_true rfl) (by decide) (sX9_isKind h hI 2 ) (fun H5 r6 q7 o8 => ?_)
    obtain ⟨e9, y10, rfl, p11⟩ := q7
    subst H5
    clear o8
    rcases p11 with ⟨rfl, c12⟩ | ⟨rfl, c12⟩
    · refine fz_if_eq (tgt := 24) kX9_run rfl (by decide) (fun c13 => ?_) (fun c13 => ?_)
      · exfalso; omega
      · refine fz_iload_n kX9_run rfl rfl ?_
        refine fz_if_lt (tgt := 24) kX9_run rfl (by decide) (fun c14 => ?_) (fun c14 => ?_)
        · exfalso; omega
        · refine fz_iload_n kX9_run rfl rfl ?_
          refine fz_iconst ⟨by decide, by decide⟩ kX9_run rfl ?_
          refine fz_icmp_lt (tgt := 26) kX9_run rfl (by decide) (fun c15 => ?_) (fun c15 => ?_)
          · refine fz_iload_n kX9_run rfl rfl ?_
            refine fz_iload_n kX9_run rfl rfl ?_
            refine fz_callS (d' := 0) (M' := mX9_ownerFrom) (As := [fz_i 2, fz_i 1]) (st := []) kX9_run rfl rfl vX9_ownerFrom rfl rfl (Nat.le_of_ble_eq_true rfl) (Nat.le_of_ble_eq_true rfl) (by decide) (sX9_ownerFrom_2_1 h hI  ) (fun H16 r17 q18 o19 => ?_)
            obtain ⟨e20, y22, rfl, f21⟩ := q18
            subst H16
            clear o19
            refine fz_eqi (show y22 = 2 by omega) ?_
            refine fz_istore (ls' := [(5, fz_i 2), (0, fz_r 44), (1, fz_i 2), (2, fz_i 1), (3, fz_i x), (4, fz_i dp)]) kX9_run rfl (by decide) rfl ?_
            refine fz_gets kX9_run rfl ?_
            refine fz_iload kX9_run rfl rfl ?_
            refine fz_taldV (v := 0) kX9_run rfl ⟨by decide, by decide⟩ (by omega) (by rw [hI.2.2.2.2]; decide) (by rw [hI.2.2.2.2]; rfl) ?_
            refine fz_istore (ls' := [(6, fz_i 0), (5, fz_i 2), (0, fz_r 44), (1, fz_i 2), (2, fz_i 1), (3, fz_i x), (4, fz_i dp)]) kX9_run rfl (by decide) rfl ?_
            refine fz_iload kX9_run rfl rfl ?_
            refine fz_iconst ⟨by decide, by decide⟩ kX9_run rfl ?_
            refine fz_iaddN kX9_run rfl (by omega) ?_
            refine fz_istore (ls' := [(7, fz_i (dp + 1)), (6, fz_i 0), (5, fz_i 2), (0, fz_r 44), (1, fz_i 2), (2, fz_i 1), (3, fz_i x), (4, fz_i dp)]) kX9_run rfl (by decide) rfl ?_
            refine fz_gets kX9_run rfl ?_
            refine fz_iload kX9_run rfl rfl ?_
            refine fz_iconst ⟨by decide, by decide⟩ kX9_run rfl ?_
            refine fz_imulN kX9_run rfl ⟨by decide, by decide⟩ ?_
            refine fz_eqi (y := 8) rfl ?_
            refine fz_iload_n kX9_run rfl rfl ?_
            refine fz_iaddN kX9_run rfl ⟨by decide, by decide⟩ ?_
            refine fz_eqi (y := 9) rfl ?_
            refine fz_taldV (v := 30) kX9_run rfl ⟨by decide, by decide⟩ (by omega) (by rw [hI.2.2.2.1]; decide) (by rw [hI.2.2.2.1]; rfl) ?_
            refine fz_istore (ls' := [(8, fz_i 30), (7, fz_i (dp + 1)), (6, fz_i 0), (5, fz_i 2), (0, fz_r 44), (1, fz_i 2), (2, fz_i 1), (3, fz_i x), (4, fz_i dp)]) kX9_run rfl (by decide) rfl ?_
            refine fz_aload_n kX9_run rfl rfl ?_
            refine fz_iload kX9_run rfl rfl ?_
            refine fz_callV (d' := 0) (M' := mX9_note) (As := [fz_i 30]) (st := []) kX9_run rfl rfl vX9_note rfl rfl rfl rfl (Nat.le_of_ble_eq_true rfl) (Nat.le_of_ble_eq_true rfl) (by decide) (sX9_note h hI 30 (by omega)) (fun H27 r28 q29 o30 => ?_)
            obtain ⟨hI31, hf32, rfl, f33, f34⟩ := q29
            clear o30
            have hf35 := fz_fr_tr hf hf32 (show fz_su [(44, 3), (46, 99999)] [(44, 3), (46, 99999)] = true from rfl)
            have t36 : H27 44 4 = h 44 4 := hf32 44 4 rfl
            refine fz_iload kX9_run rfl rfl ?_
            refine fz_lsw (tgt := 248) kX9_run rfl (by decide) (show Op.lookupswitch.offset [(1, 113), (2, 120), (10, 146), (11, 161), (20, 168), (30, 181), (40, 193), (41, 206), (50, 219), (60, 243), (70, 256), (80, 269), (81, 293)] 306 30 = 181 from rfl) (by decide) ?_
            refine fz_aload_n kX9_run rfl rfl ?_
            refine fz_iload kX9_run rfl rfl ?_
            refine fz_iconst ⟨by decide, by decide⟩ kX9_run rfl ?_
            refine fz_iload_n kX9_run rfl rfl ?_
            refine fz_iload kX9_run rfl rfl ?_
            have b37 : (-2147483648) ≤ H27 44 3 ∧ H27 44 3 ≤ 2147483647 := hI31.1 44 _
            have e38 : H27 44 5 = h 44 5 := hf35 44 5 rfl
            have e39 : H27 44 4 = h 44 4 := hf35 44 4 rfl
            refine fz_callV (d' := 2) (M' := mX9_run) (As := [fz_i 0, fz_i 1, fz_i x, fz_i (dp + 1)]) (st := []) kX9_run rfl rfl vX9_run rfl rfl rfl rfl (Nat.le_of_ble_eq_true rfl) (Nat.le_of_ble_eq_true rfl) (by decide) (sX9_run_2_0_1 H27 hI31 x (dp + 1) w (by omega) (by omega) (by omega) (by omega)) (fun H40 r41 q42 o43 => ?_)
            obtain ⟨hI44, hf45, y50, rfl, f46, f47, f48, f49⟩ := q42
            clear o43
            have hf51 := fz_fr_tr hf35 hf45 (show fz_su [(44, 3), (46, 99999)] [(44, 3), (46, 99999)] = true from rfl)
            have t52 : H40 44 4 = H27 44 4 := hf45 44 4 rfl
            refine fz_ineg kX9_run rfl ?_
            have b53 := fz_w_b (-y50)
            exact fz_iret kX9_run rfl rfl (fun _ => ⟨hI44, hf51, _, rfl, (by omega), (by first | rfl | (rw [f47, lost]) | (rw [f47]) | (rw [hp3]) | (exfalso; omega)), (by simp only [List.length_cons, List.length_nil]; omega), (by first | exact fz_tc2 f34 f49 lost (by omega) (by simp only [List.length_cons, List.length_nil]; omega) | exact fz_tc1 f34 f49 (by omega) | exact fz_tc0 f34 | exact f49 | (exfalso; omega))⟩)
          · exfalso; omega
    · refine fz_if_eq (tgt := 24) kX9_run rfl (by decide) (fun c57 => ?_) (fun c57 => ?_)
      · refine fz_iconst ⟨by decide, by decide⟩ kX9_run rfl ?_
        exact fz_iret kX9_run rfl rfl (fun _ => ⟨hI, hf, _, rfl, (by omega), (by first | rfl | (rw [lost, lost]) | (rw [lost]) | (rw [hp3]) | (exfalso; omega)), (by simp only [List.length_cons, List.length_nil]; omega), (by first | exact fz_tc2 lost lost lost (by omega) (by simp only [List.length_cons, List.length_nil]; omega) | exact fz_tc1 lost lost (by omega) | exact fz_tc0 lost | exact lost | (exfalso; omega))⟩)
      · exfalso; omega

abbrev qX9_run_2_2_2 (h : fz_H) (x dp w : Int) : fz_H → Option fz_V → Prop := fun h' r0 => fz_Iv h' ∧ fz_fr [(44, 3), (46, 99999)] h h' ∧ ∃ r : Int, r0 = some (fz_i r) ∧ (h' 44 3 = h 44 3 + 1) ∧ (r = fz_xor x w) ∧ (h' 44 3 = h 44 3 + ([11] : List Int).length) ∧ (h' 46 = fz_tr (h 46) (h 44 3) [11])
set_option maxHeartbeats 1000000 in
set_option maxRecDepth 100000 in
theorem sX9_run_2_2_2 (h : fz_H) (hI : fz_Iv h) (x dp w : Int) (hp0 : h 44 5 = 2) (hp1 : 0 ≤ dp ∧ dp ≤ 39) (hp2 : 0 ≤ h 44 3 ∧ h 44 3 ≤ 899) (hp3 : h 44 4 = w) : fz_R 1 mX9_run 0 [(0, fz_r 44), (1, fz_i 2), (2, fz_i 2), (3, fz_i x), (4, fz_i dp)] [] h (qX9_run_2_2_2 h x dp w) := by
  refine fz_knowl (fun hk => ?_)
  have hr_x : -2147483648 ≤ x ∧ x < 2147483648 := hk _ (List.Mem.tail _ (List.Mem.tail _ (List.Mem.tail _ (List.Mem.head _))))
  have hr_dp : -2147483648 ≤ dp ∧ dp < 2147483648 := hk _ (List.Mem.tail _ (List.Mem.tail _ (List.Mem.tail _ (List.Mem.tail _ (List.Mem.head _)))))
  clear hk
  have hf : fz_fr [(44, 3), (46, 99999)] h h := fz_fr_rf
  have b1 : 0 ≤ h 44 5 ∧ h 44 5 ≤ 7 := hI.1 44 _
  have b2 : (-2147483648) ≤ h 44 3 ∧ h 44 3 ≤ 2147483647 := hI.1 44 _
  have b3 : 0 ≤ h 44 4 ∧ h 44 4 ≤ 49 := hI.1 44 _
  refine fz_iload kX9_run rfl rfl ?_
  refine fz_bipush ⟨by decide, by decide⟩ kX9_run rfl ?_
  refine fz_icmp_gt (tgt := 24) kX9_run rfl (by decide) (fun c4 => ?_) (fun c4 => ?_)
  · exfalso; omega
  · refine fz_aload_n kX9_run rfl rfl ?_
    refine fz_iload_n kX9_run rfl rfl ?_
    refine fz_callV (d' := 0) (M' := mX9_isKind) (As := [fz_i 2]) (st := []) kX9_run rfl rfl vX9_isKind rfl rfl rfl rfl (Nat.le_of_ble_eq_true rfl) (Nat.le_of_ble_eq_true rfl) (by decide) (sX9_isKind h hI 2 ) (fun H5 r6 q7 o8 => ?_)
    obtain ⟨e9, y10, rfl, p11⟩ := q7
    subst H5
    clear o8
    rcases p11 with ⟨rfl, c12⟩ | ⟨rfl, c12⟩
    · refine fz_if_eq (tgt := 24) kX9_run rfl (by decide) (fun c13 => ?_) (fun c13 => ?_)
      · exfalso; omega
      · refine fz_iload_n kX9_run rfl rfl ?_
        refine fz_if_lt (tgt := 24) kX9_run rfl (by decide) (fun c14 => ?_) (fun c14 => ?_)
        · exfalso; omega
        · refine fz_iload_n kX9_run rfl rfl ?_
          refine fz_iconst ⟨by decide, by decide⟩ kX9_run rfl ?_
          refine fz_icmp_lt (tgt := 26) kX9_run rfl (by decide) (fun c15 => ?_) (fun c15 => ?_)
          · refine fz_iload_n kX9_run rfl rfl ?_
            refine fz_iload_n kX9_run rfl rfl ?_
            refine fz_callS (d' := 0) (M' := mX9_ownerFrom) (As := [fz_i 2, fz_i 2]) (st := []) kX9_run rfl rfl vX9_ownerFrom rfl rfl (Nat.le_of_ble_eq_true rfl) (Nat.le_of_ble_eq_true rfl) (by decide) (sX9_ownerFrom_2_2 h hI  ) (fun H16 r17 q18 o19 => ?_)
            obtain ⟨e20, y22, rfl, f21⟩ := q18
            subst H16
            clear o19
            refine fz_eqi (show y22 = 0 by omega) ?_
            refine fz_istore (ls' := [(5, fz_i 0), (0, fz_r 44), (1, fz_i 2), (2, fz_i 2), (3, fz_i x), (4, fz_i dp)]) kX9_run rfl (by decide) rfl ?_
            refine fz_gets kX9_run rfl ?_
            refine fz_iload kX9_run rfl rfl ?_
            refine fz_taldV (v := (-1)) kX9_run rfl ⟨by decide, by decide⟩ (by omega) (by rw [hI.2.2.2.2]; decide) (by rw [hI.2.2.2.2]; rfl) ?_
            refine fz_istore (ls' := [(6, fz_i (-1)), (5, fz_i 0), (0, fz_r 44), (1, fz_i 2), (2, fz_i 2), (3, fz_i x), (4, fz_i dp)]) kX9_run rfl (by decide) rfl ?_
            refine fz_iload kX9_run rfl rfl ?_
            refine fz_iconst ⟨by decide, by decide⟩ kX9_run rfl ?_
            refine fz_iaddN kX9_run rfl (by omega) ?_
            refine fz_istore (ls' := [(7, fz_i (dp + 1)), (6, fz_i (-1)), (5, fz_i 0), (0, fz_r 44), (1, fz_i 2), (2, fz_i 2), (3, fz_i x), (4, fz_i dp)]) kX9_run rfl (by decide) rfl ?_
            refine fz_gets kX9_run rfl ?_
            refine fz_iload kX9_run rfl rfl ?_
            refine fz_iconst ⟨by decide, by decide⟩ kX9_run rfl ?_
            refine fz_imulN kX9_run rfl ⟨by decide, by decide⟩ ?_
            refine fz_eqi (y := 0) rfl ?_
            refine fz_iload_n kX9_run rfl rfl ?_
            refine fz_iaddN kX9_run rfl ⟨by decide, by decide⟩ ?_
            refine fz_eqi (y := 2) rfl ?_
            refine fz_taldV (v := 11) kX9_run rfl ⟨by decide, by decide⟩ (by omega) (by rw [hI.2.2.2.1]; decide) (by rw [hI.2.2.2.1]; rfl) ?_
            refine fz_istore (ls' := [(8, fz_i 11), (7, fz_i (dp + 1)), (6, fz_i (-1)), (5, fz_i 0), (0, fz_r 44), (1, fz_i 2), (2, fz_i 2), (3, fz_i x), (4, fz_i dp)]) kX9_run rfl (by decide) rfl ?_
            refine fz_aload_n kX9_run rfl rfl ?_
            refine fz_iload kX9_run rfl rfl ?_
            refine fz_callV (d' := 0) (M' := mX9_note) (As := [fz_i 11]) (st := []) kX9_run rfl rfl vX9_note rfl rfl rfl rfl (Nat.le_of_ble_eq_true rfl) (Nat.le_of_ble_eq_true rfl) (by decide) (sX9_note h hI 11 (by omega)) (fun H27 r28 q29 o30 => ?_)
            obtain ⟨hI31, hf32, rfl, f33, f34⟩ := q29
            clear o30
            have hf35 := fz_fr_tr hf hf32 (show fz_su [(44, 3), (46, 99999)] [(44, 3), (46, 99999)] = true from rfl)
            have t36 : H27 44 4 = h 44 4 := hf32 44 4 rfl
            refine fz_iload kX9_run rfl rfl ?_
            refine fz_lsw (tgt := 228) kX9_run rfl (by decide) (show Op.lookupswitch.offset [(1, 113), (2, 120), (10, 146), (11, 161), (20, 168), (30, 181), (40, 193), (41, 206), (50, 219), (60, 243), (70, 256), (80, 269), (81, 293)] 306 11 = 161 from rfl) (by decide) ?_
            refine fz_iload_n kX9_run rfl rfl ?_
            refine fz_aload_n kX9_run rfl rfl ?_
            refine fz_getV (v := h 44 4) kX9_run rfl rfl (hf35 44 4 rfl) ?_
            have b37 : 0 ≤ h 44 4 ∧ h 44 4 ≤ 49 := hI.1 44 _
            refine fz_ixor kX9_run rfl ?_
            have b38 : -2147483648 ≤ (fz_xor x (h 44 4)) ∧ (fz_xor x (h 44 4)) < 2147483648 := fz_b32 _
            exact fz_iret kX9_run rfl rfl (fun _ => ⟨hI31, hf35, _, rfl, (by omega), (by first | rfl | (rw [lost, lost]) | (rw [lost]) | (rw [hp3]) | (exfalso; omega)), (by simp only [List.length_cons, List.length_nil]; omega), (by first | exact fz_tc2 f34 lost lost (by omega) (by simp only [List.length_cons, List.length_nil]; omega) | exact fz_tc1 f34 lost (by omega) | exact fz_tc0 f34 | exact lost | (exfalso; omega))⟩)
          · exfalso; omega
    · refine fz_if_eq (tgt := 24) kX9_run rfl (by decide) (fun c42 => ?_) (fun c42 => ?_)
      · refine fz_iconst ⟨by decide, by decide⟩ kX9_run rfl ?_
        exact fz_iret kX9_run rfl rfl (fun _ => ⟨hI, hf, _, rfl, (by omega), (by first | rfl | (rw [lost, lost]) | (rw [lost]) | (rw [hp3]) | (exfalso; omega)), (by simp only [List.length_cons, List.length_nil]; omega), (by first | exact fz_tc2 lost lost lost (by omega) (by simp only [List.length_cons, List.length_nil]; omega) | exact fz_tc1 lost lost (by omega) | exact fz_tc0 lost | exact lost | (exfalso; omega))⟩)
      · exfalso; omega

abbrev qX9_run_2_2_3 (h : fz_H) (x dp w : Int) : fz_H → Option fz_V → Prop := fun h' r0 => fz_Iv h' ∧ fz_fr [(44, 3), (46, 99999)] h h' ∧ ∃ r : Int, r0 = some (fz_i r) ∧ (h' 44 3 = h 44 3 + 5) ∧ (r = fz_w (fz_w (-(fz_w (fz_w (x + w) * 2))) - fz_xor 1 w)) ∧ (h' 44 3 = h 44 3 + ([2, 30, 10, 1, 11] : List Int).length) ∧ (h' 46 = fz_tr (h 46) (h 44 3) [2, 30, 10, 1, 11])
set_option maxHeartbeats 1000000 in
set_option maxRecDepth 100000 in
theorem sX9_run_2_2_3 (h : fz_H) (hI : fz_Iv h) (x dp w : Int) (hp0 : h 44 5 = 2) (hp1 : 0 ≤ dp ∧ dp ≤ 36) (hp2 : 0 ≤ h 44 3 ∧ h 44 3 ≤ 895) (hp3 : h 44 4 = w) : fz_R 4 mX9_run 0 [(0, fz_r 44), (1, fz_i 2), (2, fz_i 3), (3, fz_i x), (4, fz_i dp)] [] h (qX9_run_2_2_3 h x dp w) := by
  refine fz_knowl (fun hk => ?_)
  have hr_x : -2147483648 ≤ x ∧ x < 2147483648 := hk _ (List.Mem.tail _ (List.Mem.tail _ (List.Mem.tail _ (List.Mem.head _))))
  have hr_dp : -2147483648 ≤ dp ∧ dp < 2147483648 := hk _ (List.Mem.tail _ (List.Mem.tail _ (List.Mem.tail _ (List.Mem.tail _ (List.Mem.head _)))))
  clear hk
  have hf : fz_fr [(44, 3), (46, 99999)] h h := fz_fr_rf
  have b1 : 0 ≤ h 44 5 ∧ h 44 5 ≤ 7 := hI.1 44 _
  have b2 : (-2147483648) ≤ h 44 3 ∧ h 44 3 ≤ 2147483647 := hI.1 44 _
  have b3 : 0 ≤ h 44 4 ∧ h 44 4 ≤ 49 := hI.1 44 _
  refine fz_iload kX9_run rfl rfl ?_
  refine fz_bipush ⟨by decide, by decide⟩ kX9_run rfl ?_
  refine fz_icmp_gt (tgt := 24) kX9_run rfl (by decide) (fun c4 => ?_) (fun c4 => ?_)
  · exfalso; omega
  · refine fz_aload_n kX9_run rfl rfl ?_
    refine fz_iload_n kX9_run rfl rfl ?_
    refine fz_callV (d' := 0) (M' := mX9_isKind) (As := [fz_i 2]) (st := []) kX9_run rfl rfl vX9_isKind rfl rfl rfl rfl (Nat.le_of_ble_eq_true rfl) (Nat.le_of_ble_eq_true rfl) (by decide) (sX9_isKind h hI 2 ) (fun H5 r6 q7 o8 => ?_)
    obtain ⟨e9, y10, rfl, p11⟩ := q7
    subst H5
    clear o8
    rcases p11 with ⟨rfl, c12⟩ | ⟨rfl, c12⟩
    · refine fz_if_eq (tgt := 24) kX9_run rfl (by decide) (fun c13 => ?_) (fun c13 => ?_)
      · exfalso; omega
      · refine fz_iload_n kX9_run rfl rfl ?_
        refine fz_if_lt (tgt := 24) kX9_run rfl (by decide) (fun c14 => ?_) (fun c14 => ?_)
        · exfalso; omega
        · refine fz_iload_n kX9_run rfl rfl ?_
          refine fz_iconst ⟨by decide, by decide⟩ kX9_run rfl ?_
          refine fz_icmp_lt (tgt := 26) kX9_run rfl (by decide) (fun c15 => ?_) (fun c15 => ?_)
          · refine fz_iload_n kX9_run rfl rfl ?_
            refine fz_iload_n kX9_run rfl rfl ?_
            refine fz_callS (d' := 0) (M' := mX9_ownerFrom) (As := [fz_i 2, fz_i 3]) (st := []) kX9_run rfl rfl vX9_ownerFrom rfl rfl (Nat.le_of_ble_eq_true rfl) (Nat.le_of_ble_eq_true rfl) (by decide) (sX9_ownerFrom_2_3 h hI  ) (fun H16 r17 q18 o19 => ?_)
            obtain ⟨e20, y22, rfl, f21⟩ := q18
            subst H16
            clear o19
            refine fz_eqi (show y22 = 0 by omega) ?_
            refine fz_istore (ls' := [(5, fz_i 0), (0, fz_r 44), (1, fz_i 2), (2, fz_i 3), (3, fz_i x), (4, fz_i dp)]) kX9_run rfl (by decide) rfl ?_
            refine fz_gets kX9_run rfl ?_
            refine fz_iload kX9_run rfl rfl ?_
            refine fz_taldV (v := (-1)) kX9_run rfl ⟨by decide, by decide⟩ (by omega) (by rw [hI.2.2.2.2]; decide) (by rw [hI.2.2.2.2]; rfl) ?_
            refine fz_istore (ls' := [(6, fz_i (-1)), (5, fz_i 0), (0, fz_r 44), (1, fz_i 2), (2, fz_i 3), (3, fz_i x), (4, fz_i dp)]) kX9_run rfl (by decide) rfl ?_
            refine fz_iload kX9_run rfl rfl ?_
            refine fz_iconst ⟨by decide, by decide⟩ kX9_run rfl ?_
            refine fz_iaddN kX9_run rfl (by omega) ?_
            refine fz_istore (ls' := [(7, fz_i (dp + 1)), (6, fz_i (-1)), (5, fz_i 0), (0, fz_r 44), (1, fz_i 2), (2, fz_i 3), (3, fz_i x), (4, fz_i dp)]) kX9_run rfl (by decide) rfl ?_
            refine fz_gets kX9_run rfl ?_
            refine fz_iload kX9_run rfl rfl ?_
            refine fz_iconst ⟨by decide, by decide⟩ kX9_run rfl ?_
            refine fz_imulN kX9_run rfl ⟨by decide, by decide⟩ ?_
            refine fz_eqi (y := 0) rfl ?_
            refine fz_iload_n kX9_run rfl rfl ?_
            refine fz_iaddN kX9_run rfl ⟨by decide, by decide⟩ ?_
            refine fz_eqi (y := 3) rfl ?_
            refine fz_taldV (v := 2) kX9_run rfl ⟨by decide, by decide⟩ (by omega) (by rw [hI.2.2.2.1]; decide) (by rw [hI.2.2.2.1]; rfl) ?_
            refine fz_istore (ls' := [(8, fz_i 2), (7, fz_i (dp + 1)), (6, fz_i (-1)), (5, fz_i 0), (0, fz_r 44), (1, fz_i 2), (2, fz_i 3), (3, fz_i x), (4, fz_i dp)]) kX9_run rfl (by decide) rfl ?_
            refine fz_aload_n kX9_run rfl rfl ?_
            refine fz_iload kX9_run rfl rfl ?_
            refine fz_callV (d' := 0) (M' := mX9_note) (As := [fz_i 2]) (st := []) kX9_run rfl rfl vX9_note rfl rfl rfl rfl (Nat.le_of_ble_eq_true rfl) (Nat.le_of_ble_eq_true rfl) (by decide) (sX9_note h hI 2 (by omega)) (fun H27 r28 q29 o30 => ?_)
            obtain ⟨hI31, hf32, rfl, f33, f34⟩ := q29
            clear o30
            have hf35 := fz_fr_tr hf hf32 (show fz_su [(44, 3), (46, 99999)] [(44, 3), (46, 99999)] = true from rfl)
            have t36 : H27 44 4 = h 44 4 := hf32 44 4 rfl
            refine fz_iload kX9_run rfl rfl ?_
            refine fz_lsw (tgt := 187) kX9_run rfl (by decide) (show Op.lookupswitch.offset [(1, 113), (2, 120), (10, 146), (11, 161), (20, 168), (30, 181), (40, 193), (41, 206), (50, 219), (60, 243), (70, 256), (80, 269), (81, 293)] 306 2 = 120 from rfl) (by decide) ?_
            refine fz_aload_n kX9_run rfl rfl ?_
            refine fz_aload_n kX9_run rfl rfl ?_
            refine fz_getV (v := h 44 5) kX9_run rfl rfl (hf35 44 5 rfl) ?_
            have b37 : 0 ≤ h 44 5 ∧ h 44 5 ≤ 7 := hI.1 44 _
            refine fz_eqi (show (h 44 5) = 2 by omega) ?_
            refine fz_iconst ⟨by decide, by decide⟩ kX9_run rfl ?_
            refine fz_iload_n kX9_run rfl rfl ?_
            refine fz_iload kX9_run rfl rfl ?_
            have b38 : (-2147483648) ≤ H27 44 3 ∧ H27 44 3 ≤ 2147483647 := hI31.1 44 _
            have e39 : H27 44 5 = h 44 5 := hf35 44 5 rfl
            have e40 : H27 44 4 = h 44 4 := hf35 44 4 rfl
            refine fz_callV (d' := 3) (M' := mX9_run) (As := [fz_i 2, fz_i 1, fz_i x, fz_i (dp + 1)]) (st := []) kX9_run rfl rfl vX9_run rfl rfl rfl rfl (Nat.le_of_ble_eq_true rfl) (Nat.le_of_ble_eq_true rfl) (by decide) (sX9_run_2_2_1 H27 hI31 x (dp + 1) w (by omega) (by omega) (by omega) (by omega)) (fun H41 r42 q43 o44 => ?_)
            obtain ⟨hI45, hf46, y51, rfl, f47, f48, f49, f50⟩ := q43
            clear o44
            have hf52 := fz_fr_tr hf35 hf46 (show fz_su [(44, 3), (46, 99999)] [(44, 3), (46, 99999)] = true from rfl)
            have t53 : H41 44 4 = H27 44 4 := hf46 44 4 rfl
            refine fz_aload_n kX9_run rfl rfl ?_
            refine fz_aload_n kX9_run rfl rfl ?_
            refine fz_getV (v := h 44 5) kX9_run rfl rfl (hf52 44 5 rfl) ?_
            refine fz_eqi (show (h 44 5) = 2 by omega) ?_
            refine fz_iconst ⟨by decide, by decide⟩ kX9_run rfl ?_
            refine fz_iconst ⟨by decide, by decide⟩ kX9_run rfl ?_
            refine fz_iload kX9_run rfl rfl ?_
            have b54 : (-2147483648) ≤ H41 44 3 ∧ H41 44 3 ≤ 2147483647 := hI45.1 44 _
            have e55 : H41 44 5 = h 44 5 := hf52 44 5 rfl
            have e56 : H41 44 4 = h 44 4 := hf52 44 4 rfl
            refine fz_callV (d' := 1) (M' := mX9_run) (As := [fz_i 2, fz_i 2, fz_i 1, fz_i (dp + 1)]) (st := [fz_i y51]) kX9_run rfl rfl vX9_run rfl rfl rfl rfl (Nat.le_of_ble_eq_true rfl) (Nat.le_of_ble_eq_true rfl) (by decide) (sX9_run_2_2_2 H41 hI45 1 (dp + 1) w (by omega) (by omega) (by omega) (by omega)) (fun H57 r58 q59 o60 => ?_)
            obtain ⟨hI61, hf62, y67, rfl, f63, f64, f65, f66⟩ := q59
            clear o60
            have hf68 := fz_fr_tr hf52 hf62 (show fz_su [(44, 3), (46, 99999)] [(44, 3), (46, 99999)] = true from rfl)
            have t69 : H57 44 4 = H41 44 4 := hf62 44 4 rfl
            refine fz_isub kX9_run rfl ?_
            have b70 := fz_w_b (y51 - y67)
            exact fz_iret kX9_run rfl rfl (fun _ => ⟨hI61, hf68, _, rfl, (by omega), (by first | rfl | (rw [f48, f64]) | (rw [f48]) | (rw [hp3]) | (exfalso; omega)), (by simp only [List.length_cons, List.length_nil]; omega), (by first | exact fz_tc2 f34 f50 f66 (by omega) (by simp only [List.length_cons, List.length_nil]; omega) | exact fz_tc1 f34 f50 (by omega) | exact fz_tc0 f34 | exact f50 | (exfalso; omega))⟩)
          · exfalso; omega
    · refine fz_if_eq (tgt := 24) kX9_run rfl (by decide) (fun c74 => ?_) (fun c74 => ?_)
      · refine fz_iconst ⟨by decide, by decide⟩ kX9_run rfl ?_
        exact fz_iret kX9_run rfl rfl (fun _ => ⟨hI, hf, _, rfl, (by omega), (by first | rfl | (rw [lost, lost]) | (rw [lost]) | (rw [hp3]) | (exfalso; omega)), (by simp only [List.length_cons, List.length_nil]; omega), (by first | exact fz_tc2 lost lost lost (by omega) (by simp only [List.length_cons, List.length_nil]; omega) | exact fz_tc1 lost lost (by omega) | exact fz_tc0 lost | exact lost | (exfalso; omega))⟩)
      · exfalso; omega

abbrev qX9_run_3_3_0 (h : fz_H) (x dp w : Int) : fz_H → Option fz_V → Prop := fun h' r0 => fz_Iv h' ∧ fz_fr [(44, 3), (46, 99999)] h h' ∧ ∃ r : Int, r0 = some (fz_i r) ∧ (h' 44 3 = h 44 3 + 1) ∧ (r = fz_w (x + w)) ∧ (h' 44 3 = h 44 3 + ([1] : List Int).length) ∧ (h' 46 = fz_tr (h 46) (h 44 3) [1])
set_option maxHeartbeats 1000000 in
set_option maxRecDepth 100000 in
theorem sX9_run_3_3_0 (h : fz_H) (hI : fz_Iv h) (x dp w : Int) (hp0 : h 44 5 = 3) (hp1 : 0 ≤ dp ∧ dp ≤ 39) (hp2 : 0 ≤ h 44 3 ∧ h 44 3 ≤ 899) (hp3 : h 44 4 = w) : fz_R 1 mX9_run 0 [(0, fz_r 44), (1, fz_i 3), (2, fz_i 0), (3, fz_i x), (4, fz_i dp)] [] h (qX9_run_3_3_0 h x dp w) := by
  refine fz_knowl (fun hk => ?_)
  have hr_x : -2147483648 ≤ x ∧ x < 2147483648 := hk _ (List.Mem.tail _ (List.Mem.tail _ (List.Mem.tail _ (List.Mem.head _))))
  have hr_dp : -2147483648 ≤ dp ∧ dp < 2147483648 := hk _ (List.Mem.tail _ (List.Mem.tail _ (List.Mem.tail _ (List.Mem.tail _ (List.Mem.head _)))))
  clear hk
  have hf : fz_fr [(44, 3), (46, 99999)] h h := fz_fr_rf
  have b1 : 0 ≤ h 44 5 ∧ h 44 5 ≤ 7 := hI.1 44 _
  have b2 : (-2147483648) ≤ h 44 3 ∧ h 44 3 ≤ 2147483647 := hI.1 44 _
  have b3 : 0 ≤ h 44 4 ∧ h 44 4 ≤ 49 := hI.1 44 _
  refine fz_iload kX9_run rfl rfl ?_
  refine fz_bipush ⟨by decide, by decide⟩ kX9_run rfl ?_
  refine fz_icmp_gt (tgt := 24) kX9_run rfl (by decide) (fun c4 => ?_) (fun c4 => ?_)
  · exfalso; omega
  · refine fz_aload_n kX9_run rfl rfl ?_
    refine fz_iload_n kX9_run rfl rfl ?_
    refine fz_callV (d' := 0) (M' := mX9_isKind) (As := [fz_i 3]) (st := []) kX9_run rfl rfl vX9_isKind rfl rfl rfl rfl (Nat.le_of_ble_eq_true rfl) (Nat.le_of_ble_eq_true rfl) (by decide) (sX9_isKind h hI 3 ) (fun H5 r6 q7 o8 => ?_)
    obtain ⟨e9, y10, rfl, p11⟩ := q7
    subst H5
    clear o8
    rcases p11 with ⟨rfl, c12⟩ | ⟨rfl, c12⟩
    · refine fz_if_eq (tgt := 24) kX9_run rfl (by decide) (fun c13 => ?_) (fun c13 => ?_)
      · exfalso; omega
      · refine fz_iload_n kX9_run rfl rfl ?_
        refine fz_if_lt (tgt := 24) kX9_run rfl (by decide) (fun c14 => ?_) (fun c14 => ?_)
        · exfalso; omega
        · refine fz_iload_n kX9_run rfl rfl ?_
          refine fz_iconst ⟨by decide, by decide⟩ kX9_run rfl ?_
          refine fz_icmp_lt (tgt := 26) kX9_run rfl (by decide) (fun c15 => ?_) (fun c15 => ?_)
          · refine fz_iload_n kX9_run rfl rfl ?_
            refine fz_iload_n kX9_run rfl rfl ?_
            refine fz_callS (d' := 0) (M' := mX9_ownerFrom) (As := [fz_i 3, fz_i 0]) (st := []) kX9_run rfl rfl vX9_ownerFrom rfl rfl (Nat.le_of_ble_eq_true rfl) (Nat.le_of_ble_eq_true rfl) (by decide) (sX9_ownerFrom_3_0 h hI  ) (fun H16 r17 q18 o19 => ?_)
            obtain ⟨e20, y22, rfl, f21⟩ := q18
            subst H16
            clear o19
            refine fz_eqi (show y22 = 0 by omega) ?_
            refine fz_istore (ls' := [(5, fz_i 0), (0, fz_r 44), (1, fz_i 3), (2, fz_i 0), (3, fz_i x), (4, fz_i dp)]) kX9_run rfl (by decide) rfl ?_
            refine fz_gets kX9_run rfl ?_
            refine fz_iload kX9_run rfl rfl ?_
            refine fz_taldV (v := (-1)) kX9_run rfl ⟨by decide, by decide⟩ (by omega) (by rw [hI.2.2.2.2]; decide) (by rw [hI.2.2.2.2]; rfl) ?_
            refine fz_istore (ls' := [(6, fz_i (-1)), (5, fz_i 0), (0, fz_r 44), (1, fz_i 3), (2, fz_i 0), (3, fz_i x), (4, fz_i dp)]) kX9_run rfl (by decide) rfl ?_
            refine fz_iload kX9_run rfl rfl ?_
            refine fz_iconst ⟨by decide, by decide⟩ kX9_run rfl ?_
            refine fz_iaddN kX9_run rfl (by omega) ?_
            refine fz_istore (ls' := [(7, fz_i (dp + 1)), (6, fz_i (-1)), (5, fz_i 0), (0, fz_r 44), (1, fz_i 3), (2, fz_i 0), (3, fz_i x), (4, fz_i dp)]) kX9_run rfl (by decide) rfl ?_
            refine fz_gets kX9_run rfl ?_
            refine fz_iload kX9_run rfl rfl ?_
            refine fz_iconst ⟨by decide, by decide⟩ kX9_run rfl ?_
            refine fz_imulN kX9_run rfl ⟨by decide, by decide⟩ ?_
            refine fz_eqi (y := 0) rfl ?_
            refine fz_iload_n kX9_run rfl rfl ?_
            refine fz_iaddN kX9_run rfl ⟨by decide, by decide⟩ ?_
            refine fz_eqi (y := 0) rfl ?_
            refine fz_taldV (v := 1) kX9_run rfl ⟨by decide, by decide⟩ (by omega) (by rw [hI.2.2.2.1]; decide) (by rw [hI.2.2.2.1]; rfl) ?_
            refine fz_istore (ls' := [(8, fz_i 1), (7, fz_i (dp + 1)), (6, fz_i (-1)), (5, fz_i 0), (0, fz_r 44), (1, fz_i 3), (2, fz_i 0), (3, fz_i x), (4, fz_i dp)]) kX9_run rfl (by decide) rfl ?_
            refine fz_aload_n kX9_run rfl rfl ?_
            refine fz_iload kX9_run rfl rfl ?_
            refine fz_callV (d' := 0) (M' := mX9_note) (As := [fz_i 1]) (st := []) kX9_run rfl rfl vX9_note rfl rfl rfl rfl (Nat.le_of_ble_eq_true rfl) (Nat.le_of_ble_eq_true rfl) (by decide) (sX9_note h hI 1 (by omega)) (fun H27 r28 q29 o30 => ?_)
            obtain ⟨hI31, hf32, rfl, f33, f34⟩ := q29
            clear o30
            have hf35 := fz_fr_tr hf hf32 (show fz_su [(44, 3), (46, 99999)] [(44, 3), (46, 99999)] = true from rfl)
            have t36 : H27 44 4 = h 44 4 := hf32 44 4 rfl
            refine fz_iload kX9_run rfl rfl ?_
            refine fz_lsw (tgt := 180) kX9_run rfl (by decide) (show Op.lookupswitch.offset [(1, 113), (2, 120), (10, 146), (11, 161), (20, 168), (30, 181), (40, 193), (41, 206), (50, 219), (60, 243), (70, 256), (80, 269), (81, 293)] 306 1 = 113 from rfl) (by decide) ?_
            refine fz_iload_n kX9_run rfl rfl ?_
            refine fz_aload_n kX9_run rfl rfl ?_
            refine fz_getV (v := h 44 4) kX9_run rfl rfl (hf35 44 4 rfl) ?_
            have b37 : 0 ≤ h 44 4 ∧ h 44 4 ≤ 49 := hI.1 44 _
            refine fz_iadd kX9_run rfl ?_
            have b38 := fz_w_b (x + (h 44 4))
            exact fz_iret kX9_run rfl rfl (fun _ => ⟨hI31, hf35, _, rfl, (by omega), (by first | rfl | (rw [lost, lost]) | (rw [lost]) | (rw [hp3]) | (exfalso; omega)), (by simp only [List.length_cons, List.length_nil]; omega), (by first | exact fz_tc2 f34 lost lost (by omega) (by simp only [List.length_cons, List.length_nil]; omega) | exact fz_tc1 f34 lost (by omega) | exact fz_tc0 f34 | exact lost | (exfalso; omega))⟩)
          · exfalso; omega
    · refine fz_if_eq (tgt := 24) kX9_run rfl (by decide) (fun c42 => ?_) (fun c42 => ?_)
      · refine fz_iconst ⟨by decide, by decide⟩ kX9_run rfl ?_
        exact fz_iret kX9_run rfl rfl (fun _ => ⟨hI, hf, _, rfl, (by omega), (by first | rfl | (rw [lost, lost]) | (rw [lost]) | (rw [hp3]) | (exfalso; omega)), (by simp only [List.length_cons, List.length_nil]; omega), (by first | exact fz_tc2 lost lost lost (by omega) (by simp only [List.length_cons, List.length_nil]; omega) | exact fz_tc1 lost lost (by omega) | exact fz_tc0 lost | exact lost | (exfalso; omega))⟩)
      · exfalso; omega

abbrev qX9_run_3_0_1 (h : fz_H) (x dp w : Int) : fz_H → Option fz_V → Prop := fun h' r0 => fz_Iv h' ∧ fz_fr [(44, 3), (46, 99999)] h h' ∧ ∃ r : Int, r0 = some (fz_i r) ∧ (h' 44 3 = h 44 3 + 2) ∧ (r = fz_w (fz_w (x + w) * 2)) ∧ (h' 44 3 = h 44 3 + ([10, 1] : List Int).length) ∧ (h' 46 = fz_tr (h 46) (h 44 3) [10, 1])
set_option maxHeartbeats 1000000 in
set_option maxRecDepth 100000 in
theorem sX9_run_3_0_1 (h : fz_H) (hI : fz_Iv h) (x dp w : Int) (hp0 : h 44 5 = 3) (hp1 : 0 ≤ dp ∧ dp ≤ 38) (hp2 : 0 ≤ h 44 3 ∧ h 44 3 ≤ 898) (hp3 : h 44 4 = w) : fz_R 2 mX9_run 0 [(0, fz_r 44), (1, fz_i 0), (2, fz_i 1), (3, fz_i x), (4, fz_i dp)] [] h (qX9_run_3_0_1 h x dp w) := by
  refine fz_knowl (fun hk => ?_)
  have hr_x : -2147483648 ≤ x ∧ x < 2147483648 := hk _ (List.Mem.tail _ (List.Mem.tail _ (List.Mem.tail _ (List.Mem.head _))))
  have hr_dp : -2147483648 ≤ dp ∧ dp < 2147483648 := hk _ (List.Mem.tail _ (List.Mem.tail _ (List.Mem.tail _ (List.Mem.tail _ (List.Mem.head _)))))
  clear hk
  have hf : fz_fr [(44, 3), (46, 99999)] h h := fz_fr_rf
  have b1 : 0 ≤ h 44 5 ∧ h 44 5 ≤ 7 := hI.1 44 _
  have b2 : (-2147483648) ≤ h 44 3 ∧ h 44 3 ≤ 2147483647 := hI.1 44 _
  have b3 : 0 ≤ h 44 4 ∧ h 44 4 ≤ 49 := hI.1 44 _
  refine fz_iload kX9_run rfl rfl ?_
  refine fz_bipush ⟨by decide, by decide⟩ kX9_run rfl ?_
  refine fz_icmp_gt (tgt := 24) kX9_run rfl (by decide) (fun c4 => ?_) (fun c4 => ?_)
  · exfalso; omega
  · refine fz_aload_n kX9_run rfl rfl ?_
    refine fz_iload_n kX9_run rfl rfl ?_
    refine fz_callV (d' := 0) (M' := mX9_isKind) (As := [fz_i 0]) (st := []) kX9_run rfl rfl vX9_isKind rfl rfl rfl rfl (Nat.le_of_ble_eq_true rfl) (Nat.le_of_ble_eq_true rfl) (by decide) (sX9_isKind h hI 0 ) (fun H5 r6 q7 o8 => ?_)
    obtain ⟨e9, y10, rfl, p11⟩ := q7
    subst H5
    clear o8
    rcases p11 with ⟨rfl, c12⟩ | ⟨rfl, c12⟩
    · refine fz_if_eq (tgt := 24) kX9_run rfl (by decide) (fun c13 => ?_) (fun c13 => ?_)
      · exfalso; omega
      · refine fz_iload_n kX9_run rfl rfl ?_
        refine fz_if_lt (tgt := 24) kX9_run rfl (by decide) (fun c14 => ?_) (fun c14 => ?_)
        · exfalso; omega
        · refine fz_iload_n kX9_run rfl rfl ?_
          refine fz_iconst ⟨by decide, by decide⟩ kX9_run rfl ?_
          refine fz_icmp_lt (tgt := 26) kX9_run rfl (by decide) (fun c15 => ?_) (fun c15 => ?_)
          · refine fz_iload_n kX9_run rfl rfl ?_
            refine fz_iload_n kX9_run rfl rfl ?_
            refine fz_callS (d' := 0) (M' := mX9_ownerFrom) (As := [fz_i 0, fz_i 1]) (st := []) kX9_run rfl rfl vX9_ownerFrom rfl rfl (Nat.le_of_ble_eq_true rfl) (Nat.le_of_ble_eq_true rfl) (by decide) (sX9_ownerFrom_0_1 h hI  ) (fun H16 r17 q18 o19 => ?_)
            obtain ⟨e20, y22, rfl, f21⟩ := q18
            subst H16
            clear o19
            refine fz_eqi (show y22 = 0 by omega) ?_
            refine fz_istore (ls' := [(5, fz_i 0), (0, fz_r 44), (1, fz_i 0), (2, fz_i 1), (3, fz_i x), (4, fz_i dp)]) kX9_run rfl (by decide) rfl ?_
            refine fz_gets kX9_run rfl ?_
            refine fz_iload kX9_run rfl rfl ?_
            refine fz_taldV (v := (-1)) kX9_run rfl ⟨by decide, by decide⟩ (by omega) (by rw [hI.2.2.2.2]; decide) (by rw [hI.2.2.2.2]; rfl) ?_
            refine fz_istore (ls' := [(6, fz_i (-1)), (5, fz_i 0), (0, fz_r 44), (1, fz_i 0), (2, fz_i 1), (3, fz_i x), (4, fz_i dp)]) kX9_run rfl (by decide) rfl ?_
            refine fz_iload kX9_run rfl rfl ?_
            refine fz_iconst ⟨by decide, by decide⟩ kX9_run rfl ?_
            refine fz_iaddN kX9_run rfl (by omega) ?_
            refine fz_istore (ls' := [(7, fz_i (dp + 1)), (6, fz_i (-1)), (5, fz_i 0), (0, fz_r 44), (1, fz_i 0), (2, fz_i 1), (3, fz_i x), (4, fz_i dp)]) kX9_run rfl (by decide) rfl ?_
            refine fz_gets kX9_run rfl ?_
            refine fz_iload kX9_run rfl rfl ?_
            refine fz_iconst ⟨by decide, by decide⟩ kX9_run rfl ?_
            refine fz_imulN kX9_run rfl ⟨by decide, by decide⟩ ?_
            refine fz_eqi (y := 0) rfl ?_
            refine fz_iload_n kX9_run rfl rfl ?_
            refine fz_iaddN kX9_run rfl ⟨by decide, by decide⟩ ?_
            refine fz_eqi (y := 1) rfl ?_
            refine fz_taldV (v := 10) kX9_run rfl ⟨by decide, by decide⟩ (by omega) (by rw [hI.2.2.2.1]; decide) (by rw [hI.2.2.2.1]; rfl) ?_
            refine fz_istore (ls' := [(8, fz_i 10), (7, fz_i (dp + 1)), (6, fz_i (-1)), (5, fz_i 0), (0, fz_r 44), (1, fz_i 0), (2, fz_i 1), (3, fz_i x), (4, fz_i dp)]) kX9_run rfl (by decide) rfl ?_
            refine fz_aload_n kX9_run rfl rfl ?_
            refine fz_iload kX9_run rfl rfl ?_
            refine fz_callV (d' := 0) (M' := mX9_note) (As := [fz_i 10]) (st := []) kX9_run rfl rfl vX9_note rfl rfl rfl rfl (Nat.le_of_ble_eq_true rfl) (Nat.le_of_ble_eq_true rfl) (by decide) (sX9_note h hI 10 (by omega)) (fun H27 r28 q29 o30 => ?_)
            obtain ⟨hI31, hf32, rfl, f33, f34⟩ := q29
            clear o30
            have hf35 := fz_fr_tr hf hf32 (show fz_su [(44, 3), (46, 99999)] [(44, 3), (46, 99999)] = true from rfl)
            have t36 : H27 44 4 = h 44 4 := hf32 44 4 rfl
            refine fz_iload kX9_run rfl rfl ?_
            refine fz_lsw (tgt := 213) kX9_run rfl (by decide) (show Op.lookupswitch.offset [(1, 113), (2, 120), (10, 146), (11, 161), (20, 168), (30, 181), (40, 193), (41, 206), (50, 219), (60, 243), (70, 256), (80, 269), (81, 293)] 306 10 = 146 from rfl) (by decide) ?_
            refine fz_aload_n kX9_run rfl rfl ?_
            refine fz_aload_n kX9_run rfl rfl ?_
            refine fz_getV (v := h 44 5) kX9_run rfl rfl (hf35 44 5 rfl) ?_
            have b37 : 0 ≤ h 44 5 ∧ h 44 5 ≤ 7 := hI.1 44 _
            refine fz_eqi (show (h 44 5) = 3 by omega) ?_
            refine fz_iconst ⟨by decide, by decide⟩ kX9_run rfl ?_
            refine fz_iload_n kX9_run rfl rfl ?_
            refine fz_iload kX9_run rfl rfl ?_
            have b38 : (-2147483648) ≤ H27 44 3 ∧ H27 44 3 ≤ 2147483647 := hI31.1 44 _
            have e39 : H27 44 5 = h 44 5 := hf35 44 5 rfl
            have e40 : H27 44 4 = h 44 4 := hf35 44 4 rfl
            refine fz_callV (d' := 1) (M' := mX9_run) (As := [fz_i 3, fz_i 0, fz_i x, fz_i (dp + 1)]) (st := []) kX9_run rfl rfl vX9_run rfl rfl rfl rfl (Nat.le_of_ble_eq_true rfl) (Nat.le_of_ble_eq_true rfl) (by decide) (sX9_run_3_3_0 H27 hI31 x (dp + 1) w (by omega) (by omega) (by omega) (by omega)) (fun H41 r42 q43 o44 => ?_)
            obtain ⟨hI45, hf46, y51, rfl, f47, f48, f49, f50⟩ := q43
            clear o44
            have hf52 := fz_fr_tr hf35 hf46 (show fz_su [(44, 3), (46, 99999)] [(44, 3), (46, 99999)] = true from rfl)
            have t53 : H41 44 4 = H27 44 4 := hf46 44 4 rfl
            refine fz_iconst ⟨by decide, by decide⟩ kX9_run rfl ?_
            refine fz_imul kX9_run rfl ?_
            have b54 := fz_w_b (y51 * 2)
            exact fz_iret kX9_run rfl rfl (fun _ => ⟨hI45, hf52, _, rfl, (by omega), (by first | rfl | (rw [f48, lost]) | (rw [f48]) | (rw [hp3]) | (exfalso; omega)), (by simp only [List.length_cons, List.length_nil]; omega), (by first | exact fz_tc2 f34 f50 lost (by omega) (by simp only [List.length_cons, List.length_nil]; omega) | exact fz_tc1 f34 f50 (by omega) | exact fz_tc0 f34 | exact f50 | (exfalso; omega))⟩)
          · exfalso; omega
    · refine fz_if_eq (tgt := 24) kX9_run rfl (by decide) (fun c58 => ?_) (fun c58 => ?_)
      · refine fz_iconst ⟨by decide, by decide⟩ kX9_run rfl ?_
        exact fz_iret kX9_run rfl rfl (fun _ => ⟨hI, hf, _, rfl, (by omega), (by first | rfl | (rw [lost, lost]) | (rw [lost]) | (rw [hp3]) | (exfalso; omega)), (by simp only [List.length_cons, List.length_nil]; omega), (by first | exact fz_tc2 lost lost lost (by omega) (by simp only [List.length_cons, List.length_nil]; omega) | exact fz_tc1 lost lost (by omega) | exact fz_tc0 lost | exact lost | (exfalso; omega))⟩)
      · exfalso; omega

abbrev qX9_run_3_2_1 (h : fz_H) (x dp w : Int) : fz_H → Option fz_V → Prop := fun h' r0 => fz_Iv h' ∧ fz_fr [(44, 3), (46, 99999)] h h' ∧ ∃ r : Int, r0 = some (fz_i r) ∧ (h' 44 3 = h 44 3 + 3) ∧ (r = fz_w (-(fz_w (fz_w (x + w) * 2)))) ∧ (h' 44 3 = h 44 3 + ([30, 10, 1] : List Int).length) ∧ (h' 46 = fz_tr (h 46) (h 44 3) [30, 10, 1])
set_option maxHeartbeats 1000000 in
set_option maxRecDepth 100000 in
theorem sX9_run_3_2_1 (h : fz_H) (hI : fz_Iv h) (x dp w : Int) (hp0 : h 44 5 = 3) (hp1 : 0 ≤ dp ∧ dp ≤ 37) (hp2 : 0 ≤ h 44 3 ∧ h 44 3 ≤ 897) (hp3 : h 44 4 = w) : fz_R 3 mX9_run 0 [(0, fz_r 44), (1, fz_i 2), (2, fz_i 1), (3, fz_i x), (4, fz_i dp)] [] h (qX9_run_3_2_1 h x dp w) := by
  refine fz_knowl (fun hk => ?_)
  have hr_x : -2147483648 ≤ x ∧ x < 2147483648 := hk _ (List.Mem.tail _ (List.Mem.tail _ (List.Mem.tail _ (List.Mem.head _))))
  have hr_dp : -2147483648 ≤ dp ∧ dp < 2147483648 := hk _ (List.Mem.tail _ (List.Mem.tail _ (List.Mem.tail _ (List.Mem.tail _ (List.Mem.head _)))))
  clear hk
  have hf : fz_fr [(44, 3), (46, 99999)] h h := fz_fr_rf
  have b1 : 0 ≤ h 44 5 ∧ h 44 5 ≤ 7 := hI.1 44 _
  have b2 : (-2147483648) ≤ h 44 3 ∧ h 44 3 ≤ 2147483647 := hI.1 44 _
  have b3 : 0 ≤ h 44 4 ∧ h 44 4 ≤ 49 := hI.1 44 _
  refine fz_iload kX9_run rfl rfl ?_
  refine fz_bipush ⟨by decide, by decide⟩ kX9_run rfl ?_
  refine fz_icmp_gt (tgt := 24) kX9_run rfl (by decide) (fun c4 => ?_) (fun c4 => ?_)
  · exfalso; omega
  · refine fz_aload_n kX9_run rfl rfl ?_
    refine fz_iload_n kX9_run rfl rfl ?_
    refine fz_callV (d' := 0) (M' := mX9_isKind) (As := [fz_i 2]) (st := []) kX9_run rfl rfl vX9_isKind rfl rfl rfl rfl (Nat.le_of_ble_eq_true rfl) (Nat.le_of_ble_eq_true rfl) (by decide) (sX9_isKind h hI 2 ) (fun H5 r6 q7 o8 => ?_)
    obtain ⟨e9, y10, rfl, p11⟩ := q7
    subst H5
    clear o8
    rcases p11 with ⟨rfl, c12⟩ | ⟨rfl, c12⟩
    · refine fz_if_eq (tgt := 24) kX9_run rfl (by decide) (fun c13 => ?_) (fun c13 => ?_)
      · exfalso; omega
      · refine fz_iload_n kX9_run rfl rfl ?_
        refine fz_if_lt (tgt := 24) kX9_run rfl (by decide) (fun c14 => ?_) (fun c14 => ?_)
        · exfalso; omega
        · refine fz_iload_n kX9_run rfl rfl ?_
          refine fz_iconst ⟨by decide, by decide⟩ kX9_run rfl ?_
          refine fz_icmp_lt (tgt := 26) kX9_run rfl (by decide) (fun c15 => ?_) (fun c15 => ?_)
          · refine fz_iload_n kX9_run rfl rfl ?_
            refine fz_iload_n kX9_run rfl rfl ?_
            refine fz_callS (d' := 0) (M' := mX9_ownerFrom) (As := [fz_i 2, fz_i 1]) (st := []) kX9_run rfl rfl vX9_ownerFrom rfl rfl (Nat.le_of_ble_eq_true rfl) (Nat.le_of_ble_eq_true rfl) (by decide) (sX9_ownerFrom_2_1 h hI  ) (fun H16 r17 q18 o19 => ?_)
            obtain ⟨e20, y22, rfl, f21⟩ := q18
            subst H16
            clear o19
            refine fz_eqi (show y22 = 2 by omega) ?_
            refine fz_istore (ls' := [(5, fz_i 2), (0, fz_r 44), (1, fz_i 2), (2, fz_i 1), (3, fz_i x), (4, fz_i dp)]) kX9_run rfl (by decide) rfl ?_
            refine fz_gets kX9_run rfl ?_
            refine fz_iload kX9_run rfl rfl ?_
            refine fz_taldV (v := 0) kX9_run rfl ⟨by decide, by decide⟩ (by omega) (by rw [hI.2.2.2.2]; decide) (by rw [hI.2.2.2.2]; rfl) ?_
            refine fz_istore (ls' := [(6, fz_i 0), (5, fz_i 2), (0, fz_r 44), (1, fz_i 2), (2, fz_i 1), (3, fz_i x), (4, fz_i dp)]) kX9_run rfl (by decide) rfl ?_
            refine fz_iload kX9_run rfl rfl ?_
            refine fz_iconst ⟨by decide, by decide⟩ kX9_run rfl ?_
            refine fz_iaddN kX9_run rfl (by omega) ?_
            refine fz_istore (ls' := [(7, fz_i (dp + 1)), (6, fz_i 0), (5, fz_i 2), (0, fz_r 44), (1, fz_i 2), (2, fz_i 1), (3, fz_i x), (4, fz_i dp)]) kX9_run rfl (by decide) rfl ?_
            refine fz_gets kX9_run rfl ?_
            refine fz_iload kX9_run rfl rfl ?_
            refine fz_iconst ⟨by decide, by decide⟩ kX9_run rfl ?_
            refine fz_imulN kX9_run rfl ⟨by decide, by decide⟩ ?_
            refine fz_eqi (y := 8) rfl ?_
            refine fz_iload_n kX9_run rfl rfl ?_
            refine fz_iaddN kX9_run rfl ⟨by decide, by decide⟩ ?_
            refine fz_eqi (y := 9) rfl ?_
            refine fz_taldV (v := 30) kX9_run rfl ⟨by decide, by decide⟩ (by omega) (by rw [hI.2.2.2.1]; decide) (by rw [hI.2.2.2.1]; rfl) ?_
            refine fz_istore (ls' := [(8, fz_i 30), (7, fz_i (dp + 1)), (6, fz_i 0), (5, fz_i 2), (0, fz_r 44), (1, fz_i 2), (2, fz_i 1), (3, fz_i x), (4, fz_i dp)]) kX9_run rfl (by decide) rfl ?_
            refine fz_aload_n kX9_run rfl rfl ?_
            refine fz_iload kX9_run rfl rfl ?_
            refine fz_callV (d' := 0) (M' := mX9_note) (As := [fz_i 30]) (st := []) kX9_run rfl rfl vX9_note rfl rfl rfl rfl (Nat.le_of_ble_eq_true rfl) (Nat.le_of_ble_eq_true rfl) (by decide) (sX9_note h hI 30 (by omega)) (fun H27 r28 q29 o30 => ?_)
            obtain ⟨hI31, hf32, rfl, f33, f34⟩ := q29
            clear o30
            have hf35 := fz_fr_tr hf hf32 (show fz_su [(44, 3), (46, 99999)] [(44, 3), (46, 99999)] = true from rfl)
            have t36 : H27 44 4 = h 44 4 := hf32 44 4 rfl
            refine fz_iload kX9_run rfl rfl ?_
            refine fz_lsw (tgt := 248) kX9_run rfl (by decide) (show Op.lookupswitch.offset [(1, 113), (2, 120), (10, 146), (11, 161), (20, 168), (30, 181), (40, 193), (41, 206), (50, 219), (60, 243), (70, 256), (80, 269), (81, 293)] 306 30 = 181 from rfl) (by decide) ?_
            refine fz_aload_n kX9_run rfl rfl ?_
            refine fz_iload kX9_run rfl rfl ?_
            refine fz_iconst ⟨by decide, by decide⟩ kX9_run rfl ?_
            refine fz_iload_n kX9_run rfl rfl ?_
            refine fz_iload kX9_run rfl rfl ?_
            have b37 : (-2147483648) ≤ H27 44 3 ∧ H27 44 3 ≤ 2147483647 := hI31.1 44 _
            have e38 : H27 44 5 = h 44 5 := hf35 44 5 rfl
            have e39 : H27 44 4 = h 44 4 := hf35 44 4 rfl
            refine fz_callV (d' := 2) (M' := mX9_run) (As := [fz_i 0, fz_i 1, fz_i x, fz_i (dp + 1)]) (st := []) kX9_run rfl rfl vX9_run rfl rfl rfl rfl (Nat.le_of_ble_eq_true rfl) (Nat.le_of_ble_eq_true rfl) (by decide) (sX9_run_3_0_1 H27 hI31 x (dp + 1) w (by omega) (by omega) (by omega) (by omega)) (fun H40 r41 q42 o43 => ?_)
            obtain ⟨hI44, hf45, y50, rfl, f46, f47, f48, f49⟩ := q42
            clear o43
            have hf51 := fz_fr_tr hf35 hf45 (show fz_su [(44, 3), (46, 99999)] [(44, 3), (46, 99999)] = true from rfl)
            have t52 : H40 44 4 = H27 44 4 := hf45 44 4 rfl
            refine fz_ineg kX9_run rfl ?_
            have b53 := fz_w_b (-y50)
            exact fz_iret kX9_run rfl rfl (fun _ => ⟨hI44, hf51, _, rfl, (by omega), (by first | rfl | (rw [f47, lost]) | (rw [f47]) | (rw [hp3]) | (exfalso; omega)), (by simp only [List.length_cons, List.length_nil]; omega), (by first | exact fz_tc2 f34 f49 lost (by omega) (by simp only [List.length_cons, List.length_nil]; omega) | exact fz_tc1 f34 f49 (by omega) | exact fz_tc0 f34 | exact f49 | (exfalso; omega))⟩)
          · exfalso; omega
    · refine fz_if_eq (tgt := 24) kX9_run rfl (by decide) (fun c57 => ?_) (fun c57 => ?_)
      · refine fz_iconst ⟨by decide, by decide⟩ kX9_run rfl ?_
        exact fz_iret kX9_run rfl rfl (fun _ => ⟨hI, hf, _, rfl, (by omega), (by first | rfl | (rw [lost, lost]) | (rw [lost]) | (rw [hp3]) | (exfalso; omega)), (by simp only [List.length_cons, List.length_nil]; omega), (by first | exact fz_tc2 lost lost lost (by omega) (by simp only [List.length_cons, List.length_nil]; omega) | exact fz_tc1 lost lost (by omega) | exact fz_tc0 lost | exact lost | (exfalso; omega))⟩)
      · exfalso; omega

abbrev qX9_run_3_3_1 (h : fz_H) (x dp w : Int) : fz_H → Option fz_V → Prop := fun h' r0 => fz_Iv h' ∧ fz_fr [(44, 3), (46, 99999)] h h' ∧ ∃ r : Int, r0 = some (fz_i r) ∧ (h' 44 3 = h 44 3 + 4) ∧ (r = fz_w (-(fz_w (fz_w (((fz_w (x + 1))) + w) * 2)))) ∧ (h' 44 3 = h 44 3 + ([41, 30, 10, 1] : List Int).length) ∧ (h' 46 = fz_tr (h 46) (h 44 3) [41, 30, 10, 1])
set_option maxHeartbeats 1000000 in
set_option maxRecDepth 100000 in
theorem sX9_run_3_3_1 (h : fz_H) (hI : fz_Iv h) (x dp w : Int) (hp0 : h 44 5 = 3) (hp1 : 0 ≤ dp ∧ dp ≤ 36) (hp2 : 0 ≤ h 44 3 ∧ h 44 3 ≤ 896) (hp3 : h 44 4 = w) : fz_R 4 mX9_run 0 [(0, fz_r 44), (1, fz_i 3), (2, fz_i 1), (3, fz_i x), (4, fz_i dp)] [] h (qX9_run_3_3_1 h x dp w) := by
  refine fz_knowl (fun hk => ?_)
  have hr_x : -2147483648 ≤ x ∧ x < 2147483648 := hk _ (List.Mem.tail _ (List.Mem.tail _ (List.Mem.tail _ (List.Mem.head _))))
  have hr_dp : -2147483648 ≤ dp ∧ dp < 2147483648 := hk _ (List.Mem.tail _ (List.Mem.tail _ (List.Mem.tail _ (List.Mem.tail _ (List.Mem.head _)))))
  clear hk
  have hf : fz_fr [(44, 3), (46, 99999)] h h := fz_fr_rf
  have b1 : 0 ≤ h 44 5 ∧ h 44 5 ≤ 7 := hI.1 44 _
  have b2 : (-2147483648) ≤ h 44 3 ∧ h 44 3 ≤ 2147483647 := hI.1 44 _
  have b3 : 0 ≤ h 44 4 ∧ h 44 4 ≤ 49 := hI.1 44 _
  refine fz_iload kX9_run rfl rfl ?_
  refine fz_bipush ⟨by decide, by decide⟩ kX9_run rfl ?_
  refine fz_icmp_gt (tgt := 24) kX9_run rfl (by decide) (fun c4 => ?_) (fun c4 => ?_)
  · exfalso; omega
  · refine fz_aload_n kX9_run rfl rfl ?_
    refine fz_iload_n kX9_run rfl rfl ?_
    refine fz_callV (d' := 0) (M' := mX9_isKind) (As := [fz_i 3]) (st := []) kX9_run rfl rfl vX9_isKind rfl rfl rfl rfl (Nat.le_of_ble_eq_true rfl) (Nat.le_of_ble_eq_true rfl) (by decide) (sX9_isKind h hI 3 ) (fun H5 r6 q7 o8 => ?_)
    obtain ⟨e9, y10, rfl, p11⟩ := q7
    subst H5
    clear o8
    rcases p11 with ⟨rfl, c12⟩ | ⟨rfl, c12⟩
    · refine fz_if_eq (tgt := 24) kX9_run rfl (by decide) (fun c13 => ?_) (fun c13 => ?_)
      · exfalso; omega
      · refine fz_iload_n kX9_run rfl rfl ?_
        refine fz_if_lt (tgt := 24) kX9_run rfl (by decide) (fun c14 => ?_) (fun c14 => ?_)
        · exfalso; omega
        · refine fz_iload_n kX9_run rfl rfl ?_
          refine fz_iconst ⟨by decide, by decide⟩ kX9_run rfl ?_
          refine fz_icmp_lt (tgt := 26) kX9_run rfl (by decide) (fun c15 => ?_) (fun c15 => ?_)
          · refine fz_iload_n kX9_run rfl rfl ?_
            refine fz_iload_n kX9_run rfl rfl ?_
            refine fz_callS (d' := 0) (M' := mX9_ownerFrom) (As := [fz_i 3, fz_i 1]) (st := []) kX9_run rfl rfl vX9_ownerFrom rfl rfl (Nat.le_of_ble_eq_true rfl) (Nat.le_of_ble_eq_true rfl) (by decide) (sX9_ownerFrom_3_1 h hI  ) (fun H16 r17 q18 o19 => ?_)
            obtain ⟨e20, y22, rfl, f21⟩ := q18
            subst H16
            clear o19
            refine fz_eqi (show y22 = 3 by omega) ?_
            refine fz_istore (ls' := [(5, fz_i 3), (0, fz_r 44), (1, fz_i 3), (2, fz_i 1), (3, fz_i x), (4, fz_i dp)]) kX9_run rfl (by decide) rfl ?_
            refine fz_gets kX9_run rfl ?_
            refine fz_iload kX9_run rfl rfl ?_
            refine fz_taldV (v := 2) kX9_run rfl ⟨by decide, by decide⟩ (by omega) (by rw [hI.2.2.2.2]; decide) (by rw [hI.2.2.2.2]; rfl) ?_
            refine fz_istore (ls' := [(6, fz_i 2), (5, fz_i 3), (0, fz_r 44), (1, fz_i 3), (2, fz_i 1), (3, fz_i x), (4, fz_i dp)]) kX9_run rfl (by decide) rfl ?_
            refine fz_iload kX9_run rfl rfl ?_
            refine fz_iconst ⟨by decide, by decide⟩ kX9_run rfl ?_
            refine fz_iaddN kX9_run rfl (by omega) ?_
            refine fz_istore (ls' := [(7, fz_i (dp + 1)), (6, fz_i 2), (5, fz_i 3), (0, fz_r 44), (1, fz_i 3), (2, fz_i 1), (3, fz_i x), (4, fz_i dp)]) kX9_run rfl (by decide) rfl ?_
            refine fz_gets kX9_run rfl ?_
            refine fz_iload kX9_run rfl rfl ?_
            refine fz_iconst ⟨by decide, by decide⟩ kX9_run rfl ?_
            refine fz_imulN kX9_run rfl ⟨by decide, by decide⟩ ?_
            refine fz_eqi (y := 12) rfl ?_
            refine fz_iload_n kX9_run rfl rfl ?_
            refine fz_iaddN kX9_run rfl ⟨by decide, by decide⟩ ?_
            refine fz_eqi (y := 13) rfl ?_
            refine fz_taldV (v := 41) kX9_run rfl ⟨by decide, by decide⟩ (by omega) (by rw [hI.2.2.2.1]; decide) (by rw [hI.2.2.2.1]; rfl) ?_
            refine fz_istore (ls' := [(8, fz_i 41), (7, fz_i (dp + 1)), (6, fz_i 2), (5, fz_i 3), (0, fz_r 44), (1, fz_i 3), (2, fz_i 1), (3, fz_i x), (4, fz_i dp)]) kX9_run rfl (by decide) rfl ?_
            refine fz_aload_n kX9_run rfl rfl ?_
            refine fz_iload kX9_run rfl rfl ?_
            refine fz_callV (d' := 0) (M' := mX9_note) (As := [fz_i 41]) (st := []) kX9_run rfl rfl vX9_note rfl rfl rfl rfl (Nat.le_of_ble_eq_true rfl) (Nat.le_of_ble_eq_true rfl) (by decide) (sX9_note h hI 41 (by omega)) (fun H27 r28 q29 o30 => ?_)
            obtain ⟨hI31, hf32, rfl, f33, f34⟩ := q29
            clear o30
            have hf35 := fz_fr_tr hf hf32 (show fz_su [(44, 3), (46, 99999)] [(44, 3), (46, 99999)] = true from rfl)
            have t36 : H27 44 4 = h 44 4 := hf32 44 4 rfl
            refine fz_iload kX9_run rfl rfl ?_
            refine fz_lsw (tgt := 273) kX9_run rfl (by decide) (show Op.lookupswitch.offset [(1, 113), (2, 120), (10, 146), (11, 161), (20, 168), (30, 181), (40, 193), (41, 206), (50, 219), (60, 243), (70, 256), (80, 269), (81, 293)] 306 41 = 206 from rfl) (by decide) ?_
            refine fz_aload_n kX9_run rfl rfl ?_
            refine fz_iload kX9_run rfl rfl ?_
            refine fz_iconst ⟨by decide, by decide⟩ kX9_run rfl ?_
            refine fz_iload_n kX9_run rfl rfl ?_
            refine fz_iconst ⟨by decide, by decide⟩ kX9_run rfl ?_
            refine fz_iadd kX9_run rfl ?_
            have b37 := fz_w_b (x + 1)
            refine fz_iload kX9_run rfl rfl ?_
            have b38 : (-2147483648) ≤ H27 44 3 ∧ H27 44 3 ≤ 2147483647 := hI31.1 44 _
            have e39 : H27 44 5 = h 44 5 := hf35 44 5 rfl
            have e40 : H27 44 4 = h 44 4 := hf35 44 4 rfl
            refine fz_callV (d' := 3) (M' := mX9_run) (As := [fz_i 2, fz_i 1, fz_i (fz_w (x + 1)), fz_i (dp + 1)]) (st := []) kX9_run rfl rfl vX9_run rfl rfl rfl rfl (Nat.le_of_ble_eq_true rfl) (Nat.le_of_ble_eq_true rfl) (by decide) (sX9_run_3_2_1 H27 hI31 (fz_w (x + 1)) (dp + 1) w (by omega) (by omega) (by omega) (by omega)) (fun H41 r42 q43 o44 => ?_)
            obtain ⟨hI45, hf46, y51, rfl, f47, f48, f49, f50⟩ := q43
            clear o44
            have hf52 := fz_fr_tr hf35 hf46 (show fz_su [(44, 3), (46, 99999)] [(44, 3), (46, 99999)] = true from rfl)
            have t53 : H41 44 4 = H27 44 4 := hf46 44 4 rfl
            exact fz_iret kX9_run rfl rfl (fun _ => ⟨hI45, hf52, _, rfl, (by omega), (by first | rfl | (rw [f48, lost]) | (rw [f48]) | (rw [hp3]) | (exfalso; omega)), (by simp only [List.length_cons, List.length_nil]; omega), (by first | exact fz_tc2 f34 f50 lost (by omega) (by simp only [List.length_cons, List.length_nil]; omega) | exact fz_tc1 f34 f50 (by omega) | exact fz_tc0 f34 | exact f50 | (exfalso; omega))⟩)
          · exfalso; omega
    · refine fz_if_eq (tgt := 24) kX9_run rfl (by decide) (fun c57 => ?_) (fun c57 => ?_)
      · refine fz_iconst ⟨by decide, by decide⟩ kX9_run rfl ?_
        exact fz_iret kX9_run rfl rfl (fun _ => ⟨hI, hf, _, rfl, (by omega), (by first | rfl | (rw [lost, lost]) | (rw [lost]) | (rw [hp3]) | (exfalso; omega)), (by simp only [List.length_cons, List.length_nil]; omega), (by first | exact fz_tc2 lost lost lost (by omega) (by simp only [List.length_cons, List.length_nil]; omega) | exact fz_tc1 lost lost (by omega) | exact fz_tc0 lost | exact lost | (exfalso; omega))⟩)
      · exfalso; omega

abbrev qX9_run_3_2_2 (h : fz_H) (x dp w : Int) : fz_H → Option fz_V → Prop := fun h' r0 => fz_Iv h' ∧ fz_fr [(44, 3), (46, 99999)] h h' ∧ ∃ r : Int, r0 = some (fz_i r) ∧ (h' 44 3 = h 44 3 + 1) ∧ (r = fz_xor x w) ∧ (h' 44 3 = h 44 3 + ([11] : List Int).length) ∧ (h' 46 = fz_tr (h 46) (h 44 3) [11])
set_option maxHeartbeats 1000000 in
set_option maxRecDepth 100000 in
theorem sX9_run_3_2_2 (h : fz_H) (hI : fz_Iv h) (x dp w : Int) (hp0 : h 44 5 = 3) (hp1 : 0 ≤ dp ∧ dp ≤ 39) (hp2 : 0 ≤ h 44 3 ∧ h 44 3 ≤ 899) (hp3 : h 44 4 = w) : fz_R 1 mX9_run 0 [(0, fz_r 44), (1, fz_i 2), (2, fz_i 2), (3, fz_i x), (4, fz_i dp)] [] h (qX9_run_3_2_2 h x dp w) := by
  refine fz_knowl (fun hk => ?_)
  have hr_x : -2147483648 ≤ x ∧ x < 2147483648 := hk _ (List.Mem.tail _ (List.Mem.tail _ (List.Mem.tail _ (List.Mem.head _))))
  have hr_dp : -2147483648 ≤ dp ∧ dp < 2147483648 := hk _ (List.Mem.tail _ (List.Mem.tail _ (List.Mem.tail _ (List.Mem.tail _ (List.Mem.head _)))))
  clear hk
  have hf : fz_fr [(44, 3), (46, 99999)] h h := fz_fr_rf
  have b1 : 0 ≤ h 44 5 ∧ h 44 5 ≤ 7 := hI.1 44 _
  have b2 : (-2147483648) ≤ h 44 3 ∧ h 44 3 ≤ 2147483647 := hI.1 44 _
  have b3 : 0 ≤ h 44 4 ∧ h 44 4 ≤ 49 := hI.1 44 _
  refine fz_iload kX9_run rfl rfl ?_
  refine fz_bipush ⟨by decide, by decide⟩ kX9_run rfl ?_
  refine fz_icmp_gt (tgt := 24) kX9_run rfl (by decide) (fun c4 => ?_) (fun c4 => ?_)
  · exfalso; omega
  · refine fz_aload_n kX9_run rfl rfl ?_
    refine fz_iload_n kX9_run rfl rfl ?_
    refine fz_callV (d' := 0) (M' := mX9_isKind) (As := [fz_i 2]) (st := []) kX9_run rfl rfl vX9_isKind rfl rfl rfl rfl (Nat.le_of_ble_eq_true rfl) (Nat.le_of_ble_eq_true rfl) (by decide) (sX9_isKind h hI 2 ) (fun H5 r6 q7 o8 => ?_)
    obtain ⟨e9, y10, rfl, p11⟩ := q7
    subst H5
    clear o8
    rcases p11 with ⟨rfl, c12⟩ | ⟨rfl, c12⟩
    · refine fz_if_eq (tgt := 24) kX9_run rfl (by decide) (fun c13 => ?_) (fun c13 => ?_)
      · exfalso; omega
      · refine fz_iload_n kX9_run rfl rfl ?_
        refine fz_if_lt (tgt := 24) kX9_run rfl (by decide) (fun c14 => ?_) (fun c14 => ?_)
        · exfalso; omega
        · refine fz_iload_n kX9_run rfl rfl ?_
          refine fz_iconst ⟨by decide, by decide⟩ kX9_run rfl ?_
          refine fz_icmp_lt (tgt := 26) kX9_run rfl (by decide) (fun c15 => ?_) (fun c15 => ?_)
          · refine fz_iload_n kX9_run rfl rfl ?_
            refine fz_iload_n kX9_run rfl rfl ?_
            refine fz_callS (d' := 0) (M' := mX9_ownerFrom) (As := [fz_i 2, fz_i 2]) (st := []) kX9_run rfl rfl vX9_ownerFrom rfl rfl (Nat.le_of_ble_eq_true rfl) (Nat.le_of_ble_eq_true rfl) (by decide) (sX9_ownerFrom_2_2 h hI  ) (fun H16 r17 q18 o19 => ?_)
            obtain ⟨e20, y22, rfl, f21⟩ := q18
            subst H16
            clear o19
            refine fz_eqi (show y22 = 0 by omega) ?_
            refine fz_istore (ls' := [(5, fz_i 0), (0, fz_r 44), (1, fz_i 2), (2, fz_i 2), (3, fz_i x), (4, fz_i dp)]) kX9_run rfl (by decide) rfl ?_
            refine fz_gets kX9_run rfl ?_
            refine fz_iload kX9_run rfl rfl ?_
            refine fz_taldV (v := (-1)) kX9_run rfl ⟨by decide, by decide⟩ (by omega) (by rw [hI.2.2.2.2]; decide) (by rw [hI.2.2.2.2]; rfl) ?_
            refine fz_istore (ls' := [(6, fz_i (-1)), (5, fz_i 0), (0, fz_r 44), (1, fz_i 2), (2, fz_i 2), (3, fz_i x), (4, fz_i dp)]) kX9_run rfl (by decide) rfl ?_
            refine fz_iload kX9_run rfl rfl ?_
            refine fz_iconst ⟨by decide, by decide⟩ kX9_run rfl ?_
            refine fz_iaddN kX9_run rfl (by omega) ?_
            refine fz_istore (ls' := [(7, fz_i (dp + 1)), (6, fz_i (-1)), (5, fz_i 0), (0, fz_r 44), (1, fz_i 2), (2, fz_i 2), (3, fz_i x), (4, fz_i dp)]) kX9_run rfl (by decide) rfl ?_
            refine fz_gets kX9_run rfl ?_
            refine fz_iload kX9_run rfl rfl ?_
            refine fz_iconst ⟨by decide, by decide⟩ kX9_run rfl ?_
            refine fz_imulN kX9_run rfl ⟨by decide, by decide⟩ ?_
            refine fz_eqi (y := 0) rfl ?_
            refine fz_iload_n kX9_run rfl rfl ?_
            refine fz_iaddN kX9_run rfl ⟨by decide, by decide⟩ ?_
            refine fz_eqi (y := 2) rfl ?_
            refine fz_taldV (v := 11) kX9_run rfl ⟨by decide, by decide⟩ (by omega) (by rw [hI.2.2.2.1]; decide) (by rw [hI.2.2.2.1]; rfl) ?_
            refine fz_istore (ls' := [(8, fz_i 11), (7, fz_i (dp + 1)), (6, fz_i (-1)), (5, fz_i 0), (0, fz_r 44), (1, fz_i 2), (2, fz_i 2), (3, fz_i x), (4, fz_i dp)]) kX9_run rfl (by decide) rfl ?_
            refine fz_aload_n kX9_run rfl rfl ?_
            refine fz_iload kX9_run rfl rfl ?_
            refine fz_callV (d' := 0) (M' := mX9_note) (As := [fz_i 11]) (st := []) kX9_run rfl rfl vX9_note rfl rfl rfl rfl (Nat.le_of_ble_eq_true rfl) (Nat.le_of_ble_eq_true rfl) (by decide) (sX9_note h hI 11 (by omega)) (fun H27 r28 q29 o30 => ?_)
            obtain ⟨hI31, hf32, rfl, f33, f34⟩ := q29
            clear o30
            have hf35 := fz_fr_tr hf hf32 (show fz_su [(44, 3), (46, 99999)] [(44, 3), (46, 99999)] = true from rfl)
            have t36 : H27 44 4 = h 44 4 := hf32 44 4 rfl
            refine fz_iload kX9_run rfl rfl ?_
            refine fz_lsw (tgt := 228) kX9_run rfl (by decide) (show Op.lookupswitch.offset [(1, 113), (2, 120), (10, 146), (11, 161), (20, 168), (30, 181), (40, 193), (41, 206), (50, 219), (60, 243), (70, 256), (80, 269), (81, 293)] 306 11 = 161 from rfl) (by decide) ?_
            refine fz_iload_n kX9_run rfl rfl ?_
            refine fz_aload_n kX9_run rfl rfl ?_
            refine fz_getV (v := h 44 4) kX9_run rfl rfl (hf35 44 4 rfl) ?_
            have b37 : 0 ≤ h 44 4 ∧ h 44 4 ≤ 49 := hI.1 44 _
            refine fz_ixor kX9_run rfl ?_
            have b38 : -2147483648 ≤ (fz_xor x (h 44 4)) ∧ (fz_xor x (h 44 4)) < 2147483648 := fz_b32 _
            exact fz_iret kX9_run rfl rfl (fun _ => ⟨hI31, hf35, _, rfl, (by omega), (by first | rfl | (rw [lost, lost]) | (rw [lost]) | (rw [hp3]) | (exfalso; omega)), (by simp only [List.length_cons, List.length_nil]; omega), (by first | exact fz_tc2 f34 lost lost (by omega) (by simp only [List.length_cons, List.length_nil]; omega) | exact fz_tc1 f34 lost (by omega) | exact fz_tc0 f34 | exact lost | (exfalso; omega))⟩)
          · exfalso; omega
    · refine fz_if_eq (tgt := 24) kX9_run rfl (by decide) (fun c42 => ?_) (fun c42 => ?_)
      · refine fz_iconst ⟨by decide, by decide⟩ kX9_run rfl ?_
        exact fz_iret kX9_run rfl rfl (fun _ => ⟨hI, hf, _, rfl, (by omega), (by first | rfl | (rw [lost, lost]) | (rw [lost]) | (rw [hp3]) | (exfalso; omega)), (by simp only [List.length_cons, List.length_nil]; omega), (by first | exact fz_tc2 lost lost lost (by omega) (by simp only [List.length_cons, List.length_nil]; omega) | exact fz_tc1 lost lost (by omega) | exact fz_tc0 lost | exact lost | (exfalso; omega))⟩)
      · exfalso; omega

abbrev qX9_run_3_3_2 (h : fz_H) (x dp w : Int) : fz_H → Option fz_V → Prop := fun h' r0 => fz_Iv h' ∧ fz_fr [(44, 3), (46, 99999)] h h' ∧ ∃ r : Int, r0 = some (fz_i r) ∧ (h' 44 3 = h 44 3 + 2) ∧ (r = fz_w (fz_xor x w * 3)) ∧ (h' 44 3 = h 44 3 + ([40, 11] : List Int).length) ∧ (h' 46 = fz_tr (h 46) (h 44 3) [40, 11])
set_option maxHeartbeats 1000000 in
set_option maxRecDepth 100000 in
theorem sX9_run_3_3_2 (h : fz_H) (hI : fz_Iv h) (x dp w : Int) (hp0 : h 44 5 = 3) (hp1 : 0 ≤ dp ∧ dp ≤ 38) (hp2 : 0 ≤ h 44 3 ∧ h 44 3 ≤ 898) (hp3 : h 44 4 = w) : fz_R 2 mX9_run 0 [(0, fz_r 44), (1, fz_i 3), (2, fz_i 2), (3, fz_i x), (4, fz_i dp)] [] h (qX9_run_3_3_2 h x dp w) := by
  refine fz_knowl (fun hk => ?_)
  have hr_x : -2147483648 ≤ x ∧ x < 2147483648 := hk _ (List.Mem.tail _ (List.Mem.tail _ (List.Mem.tail _ (List.Mem.head _))))
  have hr_dp : -2147483648 ≤ dp ∧ dp < 2147483648 := hk _ (List.Mem.tail _ (List.Mem.tail _ (List.Mem.tail _ (List.Mem.tail _ (List.Mem.head _)))))
  clear hk
  have hf : fz_fr [(44, 3), (46, 99999)] h h := fz_fr_rf
  have b1 : 0 ≤ h 44 5 ∧ h 44 5 ≤ 7 := hI.1 44 _
  have b2 : (-2147483648) ≤ h 44 3 ∧ h 44 3 ≤ 2147483647 := hI.1 44 _
  have b3 : 0 ≤ h 44 4 ∧ h 44 4 ≤ 49 := hI.1 44 _
  refine fz_iload kX9_run rfl rfl ?_
  refine fz_bipush ⟨by decide, by decide⟩ kX9_run rfl ?_
  refine fz_icmp_gt (tgt := 24) kX9_run rfl (by decide) (fun c4 => ?_) (fun c4 => ?_)
  · exfalso; omega
  · refine fz_aload_n kX9_run rfl rfl ?_
    refine fz_iload_n kX9_run rfl rfl ?_
    refine fz_callV (d' := 0) (M' := mX9_isKind) (As := [fz_i 3]) (st := []) kX9_run rfl rfl vX9_isKind rfl rfl rfl rfl (Nat.le_of_ble_eq_true rfl) (Nat.le_of_ble_eq_true rfl) (by decide) (sX9_isKind h hI 3 ) (fun H5 r6 q7 o8 => ?_)
    obtain ⟨e9, y10, rfl, p11⟩ := q7
    subst H5
    clear o8
    rcases p11 with ⟨rfl, c12⟩ | ⟨rfl, c12⟩
    · refine fz_if_eq (tgt := 24) kX9_run rfl (by decide) (fun c13 => ?_) (fun c13 => ?_)
      · exfalso; omega
      · refine fz_iload_n kX9_run rfl rfl ?_
        refine fz_if_lt (tgt := 24) kX9_run rfl (by decide) (fun c14 => ?_) (fun c14 => ?_)
        · exfalso; omega
        · refine fz_iload_n kX9_run rfl rfl ?_
          refine fz_iconst ⟨by decide, by decide⟩ kX9_run rfl ?_
          refine fz_icmp_lt (tgt := 26) kX9_run rfl (by decide) (fun c15 => ?_) (fun c15 => ?_)
          · refine fz_iload_n kX9_run rfl rfl ?_
            refine fz_iload_n kX9_run rfl rfl ?_
            refine fz_callS (d' := 0) (M' := mX9_ownerFrom) (As := [fz_i 3, fz_i 2]) (st := []) kX9_run rfl rfl vX9_ownerFrom rfl rfl (Nat.le_of_ble_eq_true rfl) (Nat.le_of_ble_eq_true rfl) (by decide) (sX9_ownerFrom_3_2 h hI  ) (fun H16 r17 q18 o19 => ?_)
            obtain ⟨e20, y22, rfl, f21⟩ := q18
            subst H16
            clear o19
            refine fz_eqi (show y22 = 3 by omega) ?_
            refine fz_istore (ls' := [(5, fz_i 3), (0, fz_r 44), (1, fz_i 3), (2, fz_i 2), (3, fz_i x), (4, fz_i dp)]) kX9_run rfl (by decide) rfl ?_
            refine fz_gets kX9_run rfl ?_
            refine fz_iload kX9_run rfl rfl ?_
            refine fz_taldV (v := 2) kX9_run rfl ⟨by decide, by decide⟩ (by omega) (by rw [hI.2.2.2.2]; decide) (by rw [hI.2.2.2.2]; rfl) ?_
            refine fz_istore (ls' := [(6, fz_i 2), (5, fz_i 3), (0, fz_r 44), (1, fz_i 3), (2, fz_i 2), (3, fz_i x), (4, fz_i dp)]) kX9_run rfl (by decide) rfl ?_
            refine fz_iload kX9_run rfl rfl ?_
            refine fz_iconst ⟨by decide, by decide⟩ kX9_run rfl ?_
            refine fz_iaddN kX9_run rfl (by omega) ?_
            refine fz_istore (ls' := [(7, fz_i (dp + 1)), (6, fz_i 2), (5, fz_i 3), (0, fz_r 44), (1, fz_i 3), (2, fz_i 2), (3, fz_i x), (4, fz_i dp)]) kX9_run rfl (by decide) rfl ?_
            refine fz_gets kX9_run rfl ?_
            refine fz_iload kX9_run rfl rfl ?_
            refine fz_iconst ⟨by decide, by decide⟩ kX9_run rfl ?_
            refine fz_imulN kX9_run rfl ⟨by decide, by decide⟩ ?_
            refine fz_eqi (y := 12) rfl ?_
            refine fz_iload_n kX9_run rfl rfl ?_
            refine fz_iaddN kX9_run rfl ⟨by decide, by decide⟩ ?_
            refine fz_eqi (y := 14) rfl ?_
            refine fz_taldV (v := 40) kX9_run rfl ⟨by decide, by decide⟩ (by omega) (by rw [hI.2.2.2.1]; decide) (by rw [hI.2.2.2.1]; rfl) ?_
            refine fz_istore (ls' := [(8, fz_i 40), (7, fz_i (dp + 1)), (6, fz_i 2), (5, fz_i 3), (0, fz_r 44), (1, fz_i 3), (2, fz_i 2), (3, fz_i x), (4, fz_i dp)]) kX9_run rfl (by decide) rfl ?_
            refine fz_aload_n kX9_run rfl rfl ?_
            refine fz_iload kX9_run rfl rfl ?_
            refine fz_callV (d' := 0) (M' := mX9_note) (As := [fz_i 40]) (st := []) kX9_run rfl rfl vX9_note rfl rfl rfl rfl (Nat.le_of_ble_eq_true rfl) (Nat.le_of_ble_eq_true rfl) (by decide) (sX9_note h hI 40 (by omega)) (fun H27 r28 q29 o30 => ?_)
            obtain ⟨hI31, hf32, rfl, f33, f34⟩ := q29
            clear o30
            have hf35 := fz_fr_tr hf hf32 (show fz_su [(44, 3), (46, 99999)] [(44, 3), (46, 99999)] = true from rfl)
            have t36 : H27 44 4 = h 44 4 := hf32 44 4 rfl
            refine fz_iload kX9_run rfl rfl ?_
            refine fz_lsw (tgt := 260) kX9_run rfl (by decide) (show Op.lookupswitch.offset [(1, 113), (2, 120), (10, 146), (11, 161), (20, 168), (30, 181), (40, 193), (41, 206), (50, 219), (60, 243), (70, 256), (80, 269), (81, 293)] 306 40 = 193 from rfl) (by decide) ?_
            refine fz_aload_n kX9_run rfl rfl ?_
            refine fz_iload kX9_run rfl rfl ?_
            refine fz_iconst ⟨by decide, by decide⟩ kX9_run rfl ?_
            refine fz_iload_n kX9_run rfl rfl ?_
            refine fz_iload kX9_run rfl rfl ?_
            have b37 : (-2147483648) ≤ H27 44 3 ∧ H27 44 3 ≤ 2147483647 := hI31.1 44 _
            have e38 : H27 44 5 = h 44 5 := hf35 44 5 rfl
            have e39 : H27 44 4 = h 44 4 := hf35 44 4 rfl
            refine fz_callV (d' := 1) (M' := mX9_run) (As := [fz_i 2, fz_i 2, fz_i x, fz_i (dp + 1)]) (st := []) kX9_run rfl rfl vX9_run rfl rfl rfl rfl (Nat.le_of_ble_eq_true rfl) (Nat.le_of_ble_eq_true rfl) (by decide) (sX9_run_3_2_2 H27 hI31 x (dp + 1) w (by omega) (by omega) (by omega) (by omega)) (fun H40 r41 q42 o43 => ?_)
            obtain ⟨hI44, hf45, y50, rfl, f46, f47, f48, f49⟩ := q42
            clear o43
            have hf51 := fz_fr_tr hf35 hf45 (show fz_su [(44, 3), (46, 99999)] [(44, 3), (46, 99999)] = true from rfl)
            have t52 : H40 44 4 = H27 44 4 := hf45 44 4 rfl
            refine fz_iconst ⟨by decide, by decide⟩ kX9_run rfl ?_
            refine fz_imul kX9_run rfl ?_
            have b53 := fz_w_b (y50 * 3)
            exact fz_iret kX9_run rfl rfl (fun _ => ⟨hI44, hf51, _, rfl, (by omega), (by first | rfl | (rw [f47, lost]) | (rw [f47]) | (rw [hp3]) | (exfalso; omega)), (by simp only [List.length_cons, List.length_nil]; omega), (by first | exact fz_tc2 f34 f49 lost (by omega) (by simp only [List.length_cons, List.length_nil]; omega) | exact fz_tc1 f34 f49 (by omega) | exact fz_tc0 f34 | exact f49 | (exfalso; omega))⟩)
          · exfalso; omega
    · refine fz_if_eq (tgt := 24) kX9_run rfl (by decide) (fun c57 => ?_) (fun c57 => ?_)
      · refine fz_iconst ⟨by decide, by decide⟩ kX9_run rfl ?_
        exact fz_iret kX9_run rfl rfl (fun _ => ⟨hI, hf, _, rfl, (by omega), (by first | rfl | (rw [lost, lost]) | (rw [lost]) | (rw [hp3]) | (exfalso; omega)), (by simp only [List.length_cons, List.length_nil]; omega), (by first | exact fz_tc2 lost lost lost (by omega) (by simp only [List.length_cons, List.length_nil]; omega) | exact fz_tc1 lost lost (by omega) | exact fz_tc0 lost | exact lost | (exfalso; omega))⟩)
      · exfalso; omega

abbrev qX9_run_3_3_3 (h : fz_H) (x dp w : Int) : fz_H → Option fz_V → Prop := fun h' r0 => fz_Iv h' ∧ fz_fr [(44, 3), (46, 99999)] h h' ∧ ∃ r : Int, r0 = some (fz_i r) ∧ (h' 44 3 = h 44 3 + 7) ∧ (r = fz_w (fz_w (-(fz_w (fz_w (((fz_w (x + 1))) + w) * 2))) - fz_w (fz_xor 1 w * 3))) ∧ (h' 44 3 = h 44 3 + ([2, 41, 30, 10, 1, 40, 11] : List Int).length) ∧ (h' 46 = fz_tr (h 46) (h 44 3) [2, 41, 30, 10, 1, 40, 11])
set_option maxHeartbeats 1000000 in
set_option maxRecDepth 100000 in
theorem sX9_run_3_3_3 (h : fz_H) (hI : fz_Iv h) (x dp w : Int) (hp0 : h 44 5 = 3) (hp1 : 0 ≤ dp ∧ dp ≤ 35) (hp2 : 0 ≤ h 44 3 ∧ h 44 3 ≤ 893) (hp3 : h 44 4 = w) : fz_R 5 mX9_run 0 [(0, fz_r 44), (1, fz_i 3), (2, fz_i 3), (3, fz_i x), (4, fz_i dp)] [] h (qX9_run_3_3_3 h x dp w) := by
  refine fz_knowl (fun hk => ?_)
  have hr_x : -2147483648 ≤ x ∧ x < 2147483648 := hk _ (List.Mem.tail _ (List.Mem.tail _ (List.Mem.tail _ (List.Mem.head _))))
  have hr_dp : -2147483648 ≤ dp ∧ dp < 2147483648 := hk _ (List.Mem.tail _ (List.Mem.tail _ (List.Mem.tail _ (List.Mem.tail _ (List.Mem.head _)))))
  clear hk
  have hf : fz_fr [(44, 3), (46, 99999)] h h := fz_fr_rf
  have b1 : 0 ≤ h 44 5 ∧ h 44 5 ≤ 7 := hI.1 44 _
  have b2 : (-2147483648) ≤ h 44 3 ∧ h 44 3 ≤ 2147483647 := hI.1 44 _
  have b3 : 0 ≤ h 44 4 ∧ h 44 4 ≤ 49 := hI.1 44 _
  refine fz_iload kX9_run rfl rfl ?_
  refine fz_bipush ⟨by decide, by decide⟩ kX9_run rfl ?_
  refine fz_icmp_gt (tgt := 24) kX9_run rfl (by decide) (fun c4 => ?_) (fun c4 => ?_)
  · exfalso; omega
  · refine fz_aload_n kX9_run rfl rfl ?_
    refine fz_iload_n kX9_run rfl rfl ?_
    refine fz_callV (d' := 0) (M' := mX9_isKind) (As := [fz_i 3]) (st := []) kX9_run rfl rfl vX9_isKind rfl rfl rfl rfl (Nat.le_of_ble_eq_true rfl) (Nat.le_of_ble_eq_true rfl) (by decide) (sX9_isKind h hI 3 ) (fun H5 r6 q7 o8 => ?_)
    obtain ⟨e9, y10, rfl, p11⟩ := q7
    subst H5
    clear o8
    rcases p11 with ⟨rfl, c12⟩ | ⟨rfl, c12⟩
    · refine fz_if_eq (tgt := 24) kX9_run rfl (by decide) (fun c13 => ?_) (fun c13 => ?_)
      · exfalso; omega
      · refine fz_iload_n kX9_run rfl rfl ?_
        refine fz_if_lt (tgt := 24) kX9_run rfl (by decide) (fun c14 => ?_) (fun c14 => ?_)
        · exfalso; omega
        · refine fz_iload_n kX9_run rfl rfl ?_
          refine fz_iconst ⟨by decide, by decide⟩ kX9_run rfl ?_
          refine fz_icmp_lt (tgt := 26) kX9_run rfl (by decide) (fun c15 => ?_) (fun c15 => ?_)
          · refine fz_iload_n kX9_run rfl rfl ?_
            refine fz_iload_n kX9_run rfl rfl ?_
            refine fz_callS (d' := 0) (M' := mX9_ownerFrom) (As := [fz_i 3, fz_i 3]) (st := []) kX9_run rfl rfl vX9_ownerFrom rfl rfl (Nat.le_of_ble_eq_true rfl) (Nat.le_of_ble_eq_true rfl) (by decide) (sX9_ownerFrom_3_3 h hI  ) (fun H16 r17 q18 o19 => ?_)
            obtain ⟨e20, y22, rfl, f21⟩ := q18
            subst H16
            clear o19
            refine fz_eqi (show y22 = 0 by omega) ?_
            refine fz_istore (ls' := [(5, fz_i 0), (0, fz_r 44), (1, fz_i 3), (2, fz_i 3), (3, fz_i x), (4, fz_i dp)]) kX9_run rfl (by decide) rfl ?_
            refine fz_gets kX9_run rfl ?_
            refine fz_iload kX9_run rfl rfl ?_
            refine fz_taldV (v := (-1)) kX9_run rfl ⟨by decide, by decide⟩ (by omega) (by rw [hI.2.2.2.2]; decide) (by rw [hI.2.2.2.2]; rfl) ?_
            refine fz_istore (ls' := [(6, fz_i (-1)), (5, fz_i 0), (0, fz_r 44), (1, fz_i 3), (2, fz_i 3), (3, fz_i x), (4, fz_i dp)]) kX9_run rfl (by decide) rfl ?_
            refine fz_iload kX9_run rfl rfl ?_
            refine fz_iconst ⟨by decide, by decide⟩ kX9_run rfl ?_
            refine fz_iaddN kX9_run rfl (by omega) ?_
            refine fz_istore (ls' := [(7, fz_i (dp + 1)), (6, fz_i (-1)), (5, fz_i 0), (0, fz_r 44), (1, fz_i 3), (2, fz_i 3), (3, fz_i x), (4, fz_i dp)]) kX9_run rfl (by decide) rfl ?_
            refine fz_gets kX9_run rfl ?_
            refine fz_iload kX9_run rfl rfl ?_
            refine fz_iconst ⟨by decide, by decide⟩ kX9_run rfl ?_
            refine fz_imulN kX9_run rfl ⟨by decide, by decide⟩ ?_
            refine fz_eqi (y := 0) rfl ?_
            refine fz_iload_n kX9_run rfl rfl ?_
            refine fz_iaddN kX9_run rfl ⟨by decide, by decide⟩ ?_
            refine fz_eqi (y := 3) rfl ?_
            refine fz_taldV (v := 2) kX9_run rfl ⟨by decide, by decide⟩ (by omega) (by rw [hI.2.2.2.1]; decide) (by rw [hI.2.2.2.1]; rfl) ?_
            refine fz_istore (ls' := [(8, fz_i 2), (7, fz_i (dp + 1)), (6, fz_i (-1)), (5, fz_i 0), (0, fz_r 44), (1, fz_i 3), (2, fz_i 3), (3, fz_i x), (4, fz_i dp)]) kX9_run rfl (by decide) rfl ?_
            refine fz_aload_n kX9_run rfl rfl ?_
            refine fz_iload kX9_run rfl rfl ?_
            refine fz_callV (d' := 0) (M' := mX9_note) (As := [fz_i 2]) (st := []) kX9_run rfl rfl vX9_note rfl rfl rfl rfl (Nat.le_of_ble_eq_true rfl) (Nat.le_of_ble_eq_true rfl) (by decide) (sX9_note h hI 2 (by omega)) (fun H27 r28 q29 o30 => ?_)
            obtain ⟨hI31, hf32, rfl, f33, f34⟩ := q29
            clear o30
            have hf35 := fz_fr_tr hf hf32 (show fz_su [(44, 3), (46, 99999)] [(44, 3), (46, 99999)] = true from rfl)
            have t36 : H27 44 4 = h 44 4 := hf32 44 4 rfl
            refine fz_iload kX9_run rfl rfl ?_
            refine fz_lsw (tgt := 187) kX9_run rfl (by decide) (show Op.lookupswitch.offset [(1, 113), (2, 120), (10, 146), (11, 161), (20, 168), (30, 181), (40, 193), (41, 206), (50, 219), (60, 243), (70, 256), (80, 269), (81, 293)] 306 2 = 120 from rfl) (by decide) ?_
            refine fz_aload_n kX9_run rfl rfl ?_
            refine fz_aload_n kX9_run rfl rfl ?_
            refine fz_getV (v := h 44 5) kX9_run rfl rfl (hf35 44 5 rfl) ?_
            have b37 : 0 ≤ h 44 5 ∧ h 44 5 ≤ 7 := hI.1 44 _
            refine fz_eqi (show (h 44 5) = 3 by omega) ?_
            refine fz_iconst ⟨by decide, by decide⟩ kX9_run rfl ?_
            refine fz_iload_n kX9_run rfl rfl ?_
            refine fz_iload kX9_run rfl rfl ?_
            have b38 : (-2147483648) ≤ H27 44 3 ∧ H27 44 3 ≤ 2147483647 := hI31.1 44 _
            have e39 : H27 44 5 = h 44 5 := hf35 44 5 rfl
            have e40 : H27 44 4 = h 44 4 := hf35 44 4 rfl
            refine fz_callV (d' := 4) (M' := mX9_run) (As := [fz_i 3, fz_i 1, fz_i x, fz_i (dp + 1)]) (st := []) kX9_run rfl rfl vX9_run rfl rfl rfl rfl (Nat.le_of_ble_eq_true rfl) (Nat.le_of_ble_eq_true rfl) (by decide) (sX9_run_3_3_1 H27 hI31 x (dp + 1) w (by omega) (by omega) (by omega) (by omega)) (fun H41 r42 q43 o44 => ?_)
            obtain ⟨hI45, hf46, y51, rfl, f47, f48, f49, f50⟩ := q43
            clear o44
            have hf52 := fz_fr_tr hf35 hf46 (show fz_su [(44, 3), (46, 99999)] [(44, 3), (46, 99999)] = true from rfl)
            have t53 : H41 44 4 = H27 44 4 := hf46 44 4 rfl
            refine fz_aload_n kX9_run rfl rfl ?_
            refine fz_aload_n kX9_run rfl rfl ?_
            refine fz_getV (v := h 44 5) kX9_run rfl rfl (hf52 44 5 rfl) ?_
            refine fz_eqi (show (h 44 5) = 3 by omega) ?_
            refine fz_iconst ⟨by decide, by decide⟩ kX9_run rfl ?_
            refine fz_iconst ⟨by decide, by decide⟩ kX9_run rfl ?_
            refine fz_iload kX9_run rfl rfl ?_
            have b54 : (-2147483648) ≤ H41 44 3 ∧ H41 44 3 ≤ 2147483647 := hI45.1 44 _
            have e55 : H41 44 5 = h 44 5 := hf52 44 5 rfl
            have e56 : H41 44 4 = h 44 4 := hf52 44 4 rfl
            refine fz_callV (d' := 2) (M' := mX9_run) (As := [fz_i 3, fz_i 2, fz_i 1, fz_i (dp + 1)]) (st := [fz_i y51]) kX9_run rfl rfl vX9_run rfl rfl rfl rfl (Nat.le_of_ble_eq_true rfl) (Nat.le_of_ble_eq_true rfl) (by decide) (sX9_run_3_3_2 H41 hI45 1 (dp + 1) w (by omega) (by omega) (by omega) (by omega)) (fun H57 r58 q59 o60 => ?_)
            obtain ⟨hI61, hf62, y67, rfl, f63, f64, f65, f66⟩ := q59
            clear o60
            have hf68 := fz_fr_tr hf52 hf62 (show fz_su [(44, 3), (46, 99999)] [(44, 3), (46, 99999)] = true from rfl)
            have t69 : H57 44 4 = H41 44 4 := hf62 44 4 rfl
            refine fz_isub kX9_run rfl ?_
            have b70 := fz_w_b (y51 - y67)
            exact fz_iret kX9_run rfl rfl (fun _ => ⟨hI61, hf68, _, rfl, (by omega), (by first | rfl | (rw [f48, f64]) | (rw [f48]) | (rw [hp3]) | (exfalso; omega)), (by simp only [List.length_cons, List.length_nil]; omega), (by first | exact fz_tc2 f34 f50 f66 (by omega) (by simp only [List.length_cons, List.length_nil]; omega) | exact fz_tc1 f34 f50 (by omega) | exact fz_tc0 f34 | exact f50 | (exfalso; omega))⟩)
          · exfalso; omega
    · refine fz_if_eq (tgt := 24) kX9_run rfl (by decide) (fun c74 => ?_) (fun c74 => ?_)
      · refine fz_iconst ⟨by decide, by decide⟩ kX9_run rfl ?_
        exact fz_iret kX9_run rfl rfl (fun _ => ⟨hI, hf, _, rfl, (by omega), (by first | rfl | (rw [lost, lost]) | (rw [lost]) | (rw [hp3]) | (exfalso; omega)), (by simp only [List.length_cons, List.length_nil]; omega), (by first | exact fz_tc2 lost lost lost (by omega) (by simp only [List.length_cons, List.length_nil]; omega) | exact fz_tc1 lost lost (by omega) | exact fz_tc0 lost | exact lost | (exfalso; omega))⟩)
      · exfalso; omega

abbrev qX9_run_4_0_0 (h : fz_H) (x dp w : Int) : fz_H → Option fz_V → Prop := fun h' r0 => fz_Iv h' ∧ fz_fr [(44, 3), (46, 99999)] h h' ∧ ∃ r : Int, r0 = some (fz_i r) ∧ (h' 44 3 = h 44 3 + 1) ∧ (r = fz_w (x + w)) ∧ (h' 44 3 = h 44 3 + ([1] : List Int).length) ∧ (h' 46 = fz_tr (h 46) (h 44 3) [1])
set_option maxHeartbeats 1000000 in
set_option maxRecDepth 100000 in
theorem sX9_run_4_0_0 (h : fz_H) (hI : fz_Iv h) (x dp w : Int) (hp0 : h 44 5 = 4) (hp1 : 0 ≤ dp ∧ dp ≤ 39) (hp2 : 0 ≤ h 44 3 ∧ h 44 3 ≤ 899) (hp3 : h 44 4 = w) : fz_R 1 mX9_run 0 [(0, fz_r 44), (1, fz_i 0), (2, fz_i 0), (3, fz_i x), (4, fz_i dp)] [] h (qX9_run_4_0_0 h x dp w) := by
  refine fz_knowl (fun hk => ?_)
  have hr_x : -2147483648 ≤ x ∧ x < 2147483648 := hk _ (List.Mem.tail _ (List.Mem.tail _ (List.Mem.tail _ (List.Mem.head _))))
  have hr_dp : -2147483648 ≤ dp ∧ dp < 2147483648 := hk _ (List.Mem.tail _ (List.Mem.tail _ (List.Mem.tail _ (List.Mem.tail _ (List.Mem.head _)))))
  clear hk
  have hf : fz_fr [(44, 3), (46, 99999)] h h := fz_fr_rf
  have b1 : 0 ≤ h 44 5 ∧ h 44 5 ≤ 7 := hI.1 44 _
  have b2 : (-2147483648) ≤ h 44 3 ∧ h 44 3 ≤ 2147483647 := hI.1 44 _
  have b3 : 0 ≤ h 44 4 ∧ h 44 4 ≤ 49 := hI.1 44 _
  refine fz_iload kX9_run rfl rfl ?_
  refine fz_bipush ⟨by decide, by decide⟩ kX9_run rfl ?_
  refine fz_icmp_gt (tgt := 24) kX9_run rfl (by decide) (fun c4 => ?_) (fun c4 => ?_)
  · exfalso; omega
  · refine fz_aload_n kX9_run rfl rfl ?_
    refine fz_iload_n kX9_run rfl rfl ?_
    refine fz_callV (d' := 0) (M' := mX9_isKind) (As := [fz_i 0]) (st := []) kX9_run rfl rfl vX9_isKind rfl rfl rfl rfl (Nat.le_of_ble_eq_true rfl) (Nat.le_of_ble_eq_true rfl) (by decide) (sX9_isKind h hI 0 ) (fun H5 r6 q7 o8 => ?_)
    obtain ⟨e9, y10, rfl, p11⟩ := q7
    subst H5
    clear o8
    rcases p11 with ⟨rfl, c12⟩ | ⟨rfl, c12⟩
    · refine fz_if_eq (tgt := 24) kX9_run rfl (by decide) (fun c13 => ?_) (fun c13 => ?_)
      · exfalso; omega
      · refine fz_iload_n kX9_run rfl rfl ?_
        refine fz_if_lt (tgt := 24) kX9_run rfl (by decide) (fun c14 => ?_) (fun c14 => ?_)
        · exfalso; omega
        · refine fz_iload_n kX9_run rfl rfl ?_
          refine fz_iconst ⟨by decide, by decide⟩ kX9_run rfl ?_
          refine fz_icmp_lt (tgt := 26) kX9_run rfl (by decide) (fun c15 => ?_) (fun c15 => ?_)
          · refine fz_iload_n kX9_run rfl rfl ?_
            refine fz_iload_n kX9_run rfl rfl ?_
            refine fz_callS (d' := 0) (M' := mX9_ownerFrom) (As := [fz_i 0, fz_i 0]) (st := []) kX9_run rfl rfl vX9_ownerFrom rfl rfl (Nat.le_of_ble_eq_true rfl) (Nat.le_of_ble_eq_true rfl) (by decide) (sX9_ownerFrom_0_0 h hI  ) (fun H16 r17 q18 o19 => ?_)
            obtain ⟨e20, y22, rfl, f21⟩ := q18
            subst H16
            clear o19
            refine fz_eqi (show y22 = 0 by omega) ?_
            refine fz_istore (ls' := [(5, fz_i 0), (0, fz_r 44), (1, fz_i 0), (2, fz_i 0), (3, fz_i x), (4, fz_i dp)]) kX9_run rfl (by decide) rfl ?_
            refine fz_gets kX9_run rfl ?_
            refine fz_iload kX9_run rfl rfl ?_
            refine fz_taldV (v := (-1)) kX9_run rfl ⟨by decide, by decide⟩ (by omega) (by rw [hI.2.2.2.2]; decide) (by rw [hI.2.2.2.2]; rfl) ?_
            refine fz_istore (ls' := [(6, fz_i (-1)), (5, fz_i 0), (0, fz_r 44), (1, fz_i 0), (2, fz_i 0), (3, fz_i x), (4, fz_i dp)]) kX9_run rfl (by decide) rfl ?_
            refine fz_iload kX9_run rfl rfl ?_
            refine fz_iconst ⟨by decide, by decide⟩ kX9_run rfl ?_
            refine fz_iaddN kX9_run rfl (by omega) ?_
            refine fz_istore (ls' := [(7, fz_i (dp + 1)), (6, fz_i (-1)), (5, fz_i 0), (0, fz_r 44), (1, fz_i 0), (2, fz_i 0), (3, fz_i x), (4, fz_i dp)]) kX9_run rfl (by decide) rfl ?_
            refine fz_gets kX9_run rfl ?_
            refine fz_iload kX9_run rfl rfl ?_
            refine fz_iconst ⟨by decide, by decide⟩ kX9_run rfl ?_
            refine fz_imulN kX9_run rfl ⟨by decide, by decide⟩ ?_
            refine fz_eqi (y := 0) rfl ?_
            refine fz_iload_n kX9_run rfl rfl ?_
            refine fz_iaddN kX9_run rfl ⟨by decide, by decide⟩ ?_
            refine fz_eqi (y := 0) rfl ?_
            refine fz_taldV (v := 1) kX9_run rfl ⟨by decide, by decide⟩ (by omega) (by rw [hI.2.2.2.1]; decide) (by rw [hI.2.2.2.1]; rfl) ?_
            refine fz_istore (ls' := [(8, fz_i 1), (7, fz_i (dp + 1)), (6, fz_i (-1)), (5, fz_i 0), (0, fz_r 44), (1, fz_i 0), (2, fz_i 0), (3, fz_i x), (4, fz_i dp)]) kX9_run rfl (by decide) rfl ?_
            refine fz_aload_n kX9_run rfl rfl ?_
            refine fz_iload kX9_run rfl rfl ?_
            refine fz_callV (d' := 0) (M' := mX9_note) (As := [fz_i 1]) (st := []) kX9_run rfl rfl vX9_note rfl rfl rfl rfl (Nat.le_of_ble_eq_true rfl) (Nat.le_of_ble_eq_true rfl) (by decide) (sX9_note h hI 1 (by omega)) (fun H27 r28 q29 o30 => ?_)
            obtain ⟨hI31, hf32, rfl, f33, f34⟩ := q29
            clear o30
            have hf35 := fz_fr_tr hf hf32 (show fz_su [(44, 3), (46, 99999)] [(44, 3), (46, 99999)] = true from rfl)
            have t36 : H27 44 4 = h 44 4 := hf32 44 4 rfl
            refine fz_iload kX9_run rfl rfl ?_
            refine fz_lsw (tgt := 180) kX9_run rfl (by decide) (show Op.lookupswitch.offset [(1, 113), (2, 120), (10, 146), (11, 161), (20, 168), (30, 181), (40, 193), (41, 206), (50, 219), (60, 243), (70, 256), (80, 269), (81, 293)] 306 1 = 113 from rfl) (by decide) ?_
            refine fz_iload_n kX9_run rfl rfl ?_
            refine fz_aload_n kX9_run rfl rfl ?_
            refine fz_getV (v := h 44 4) kX9_run rfl rfl (hf35 44 4 rfl) ?_
            have b37 : 0 ≤ h 44 4 ∧ h 44 4 ≤ 49 := hI.1 44 _
            refine fz_iadd kX9_run rfl ?_
            have b38 := fz_w_b (x + (h 44 4))
            exact fz_iret kX9_run rfl rfl (fun _ => ⟨hI31, hf35, _, rfl, (by omega), (by first | rfl | (rw [lost, lost]) | (rw [lost]) | (rw [hp3]) | (exfalso; omega)), (by simp only [List.length_cons, List.length_nil]; omega), (by first | exact fz_tc2 f34 lost lost (by omega) (by simp only [List.length_cons, List.length_nil]; omega) | exact fz_tc1 f34 lost (by omega) | exact fz_tc0 f34 | exact lost | (exfalso; omega))⟩)
          · exfalso; omega
    · refine fz_if_eq (tgt := 24) kX9_run rfl (by decide) (fun c42 => ?_) (fun c42 => ?_)
      · refine fz_iconst ⟨by decide, by decide⟩ kX9_run rfl ?_
        exact fz_iret kX9_run rfl rfl (fun _ => ⟨hI, hf, _, rfl, (by omega), (by first | rfl | (rw [lost, lost]) | (rw [lost]) | (rw [hp3]) | (exfalso; omega)), (by simp only [List.length_cons, List.length_nil]; omega), (by first | exact fz_tc2 lost lost lost (by omega) (by simp only [List.length_cons, List.length_nil]; omega) | exact fz_tc1 lost lost (by omega) | exact fz_tc0 lost | exact lost | (exfalso; omega))⟩)
      · exfalso; omega

abbrev qX9_run_4_4_0 (h : fz_H) (x dp w : Int) : fz_H → Option fz_V → Prop := fun h' r0 => fz_Iv h' ∧ fz_fr [(44, 3), (46, 99999)] h h' ∧ ∃ r : Int, r0 = some (fz_i r) ∧ (h' 44 3 = h 44 3 + 2) ∧ (r = fz_w (fz_w (x + w) + 3)) ∧ (h' 44 3 = h 44 3 + ([20, 1] : List Int).length) ∧ (h' 46 = fz_tr (h 46) (h 44 3) [20, 1])
set_option maxHeartbeats 1000000 in
set_option maxRecDepth 100000 in
theorem sX9_run_4_4_0 (h : fz_H) (hI : fz_Iv h) (x dp w : Int) (hp0 : h 44 5 = 4) (hp1 : 0 ≤ dp ∧ dp ≤ 38) (hp2 : 0 ≤ h 44 3 ∧ h 44 3 ≤ 898) (hp3 : h 44 4 = w) : fz_R 2 mX9_run 0 [(0, fz_r 44), (1, fz_i 4), (2, fz_i 0), (3, fz_i x), (4, fz_i dp)] [] h (qX9_run_4_4_0 h x dp w) := by
  refine fz_knowl (fun hk => ?_)
  have hr_x : -2147483648 ≤ x ∧ x < 2147483648 := hk _ (List.Mem.tail _ (List.Mem.tail _ (List.Mem.tail _ (List.Mem.head _))))
  have hr_dp : -2147483648 ≤ dp ∧ dp < 2147483648 := hk _ (List.Mem.tail _ (List.Mem.tail _ (List.Mem.tail _ (List.Mem.tail _ (List.Mem.head _)))))
  clear hk
  have hf : fz_fr [(44, 3), (46, 99999)] h h := fz_fr_rf
  have b1 : 0 ≤ h 44 5 ∧ h 44 5 ≤ 7 := hI.1 44 _
  have b2 : (-2147483648) ≤ h 44 3 ∧ h 44 3 ≤ 2147483647 := hI.1 44 _
  have b3 : 0 ≤ h 44 4 ∧ h 44 4 ≤ 49 := hI.1 44 _
  refine fz_iload kX9_run rfl rfl ?_
  refine fz_bipush ⟨by decide, by decide⟩ kX9_run rfl ?_
  refine fz_icmp_gt (tgt := 24) kX9_run rfl (by decide) (fun c4 => ?_) (fun c4 => ?_)
  · exfalso; omega
  · refine fz_aload_n kX9_run rfl rfl ?_
    refine fz_iload_n kX9_run rfl rfl ?_
    refine fz_callV (d' := 0) (M' := mX9_isKind) (As := [fz_i 4]) (st := []) kX9_run rfl rfl vX9_isKind rfl rfl rfl rfl (Nat.le_of_ble_eq_true rfl) (Nat.le_of_ble_eq_true rfl) (by decide) (sX9_isKind h hI 4 ) (fun H5 r6 q7 o8 => ?_)
    obtain ⟨e9, y10, rfl, p11⟩ := q7
    subst H5
    clear o8
    rcases p11 with ⟨rfl, c12⟩ | ⟨rfl, c12⟩
    · refine fz_if_eq (tgt := 24) kX9_run rfl (by decide) (fun c13 => ?_) (fun c13 => ?_)
      · exfalso; omega
      · refine fz_iload_n kX9_run rfl rfl ?_
        refine fz_if_lt (tgt := 24) kX9_run rfl (by decide) (fun c14 => ?_) (fun c14 => ?_)
        · exfalso; omega
        · refine fz_iload_n kX9_run rfl rfl ?_
          refine fz_iconst ⟨by decide, by decide⟩ kX9_run rfl ?_
          refine fz_icmp_lt (tgt := 26) kX9_run rfl (by decide) (fun c15 => ?_) (fun c15 => ?_)
          · refine fz_iload_n kX9_run rfl rfl ?_
            refine fz_iload_n kX9_run rfl rfl ?_
            refine fz_callS (d' := 0) (M' := mX9_ownerFrom) (As := [fz_i 4, fz_i 0]) (st := []) kX9_run rfl rfl vX9_ownerFrom rfl rfl (Nat.le_of_ble_eq_true rfl) (Nat.le_of_ble_eq_true rfl) (by decide) (sX9_ownerFrom_4_0 h hI  ) (fun H16 r17 q18 o19 => ?_)
            obtain ⟨e20, y22, rfl, f21⟩ := q18
            subst H16
            clear o19
            refine fz_eqi (show y22 = 1 by omega) ?_
            refine fz_istore (ls' := [(5, fz_i 1), (0, fz_r 44), (1, fz_i 4), (2, fz_i 0), (3, fz_i x), (4, fz_i dp)]) kX9_run rfl (by decide) rfl ?_
            refine fz_gets kX9_run rfl ?_
            refine fz_iload kX9_run rfl rfl ?_
            refine fz_taldV (v := 0) kX9_run rfl ⟨by decide, by decide⟩ (by omega) (by rw [hI.2.2.2.2]; decide) (by rw [hI.2.2.2.2]; rfl) ?_
            refine fz_istore (ls' := [(6, fz_i 0), (5, fz_i 1), (0, fz_r 44), (1, fz_i 4), (2, fz_i 0), (3, fz_i x), (4, fz_i dp)]) kX9_run rfl (by decide) rfl ?_
            refine fz_iload kX9_run rfl rfl ?_
            refine fz_iconst ⟨by decide, by decide⟩ kX9_run rfl ?_
            refine fz_iaddN kX9_run rfl (by omega) ?_
            refine fz_istore (ls' := [(7, fz_i (dp + 1)), (6, fz_i 0), (5, fz_i 1), (0, fz_r 44), (1, fz_i 4), (2, fz_i 0), (3, fz_i x), (4, fz_i dp)]) kX9_run rfl (by decide) rfl ?_
            refine fz_gets kX9_run rfl ?_
            refine fz_iload kX9_run rfl rfl ?_
            refine fz_iconst ⟨by decide, by decide⟩ kX9_run rfl ?_
            refine fz_imulN kX9_run rfl ⟨by decide, by decide⟩ ?_
            refine fz_eqi (y := 4) rfl ?_
            refine fz_iload_n kX9_run rfl rfl ?_
            refine fz_iaddN kX9_run rfl ⟨by decide, by decide⟩ ?_
            refine fz_eqi (y := 4) rfl ?_
            refine fz_taldV (v := 20) kX9_run rfl ⟨by decide, by decide⟩ (by omega) (by rw [hI.2.2.2.1]; decide) (by rw [hI.2.2.2.1]; rfl) ?_
            refine fz_istore (ls' := [(8, fz_i 20), (7, fz_i (dp + 1)), (6, fz_i 0), (5, fz_i 1), (0, fz_r 44), (1, fz_i 4), (2, fz_i 0), (3, fz_i x), (4, fz_i dp)]) kX9_run rfl (by decide) rfl ?_
            refine fz_aload_n kX9_run rfl rfl ?_
            refine fz_iload kX9_run rfl rfl ?_
            refine fz_callV (d' := 0) (M' := mX9_note) (As := [fz_i 20]) (st := []) kX9_run rfl rfl vX9_note rfl rfl rfl rfl (Nat.le_of_ble_eq_true rfl) (Nat.le_of_ble_eq_true rfl) (by decide) (sX9_note h hI 20 (by omega)) (fun H27 r28 q29 o30 => ?_)
            obtain ⟨hI31, hf32, rfl, f33, f34⟩ := q29
            clear o30
            have hf35 := fz_fr_tr hf hf32 (show fz_su [(44, 3), (46, 99999)] [(44, 3), (46, 99999)] = true from rfl)
            have t36 : H27 44 4 = h 44 4 := hf32 44 4 rfl
            refine fz_iload kX9_run rfl rfl ?_
            refine fz_lsw (tgt := 235) kX9_run rfl (by decide) (show Op.lookupswitch.offset [(1, 113), (2, 120), (10, 146), (11, 161), (20, 168), (30, 181), (40, 193), (41, 206), (50, 219), (60, 243), (70, 256), (80, 269), (81, 293)] 306 20 = 168 from rfl) (by decide) ?_
            refine fz_aload_n kX9_run rfl rfl ?_
            refine fz_iload kX9_run rfl rfl ?_
            refine fz_iconst ⟨by decide, by decide⟩ kX9_run rfl ?_
            refine fz_iload_n kX9_run rfl rfl ?_
            refine fz_iload kX9_run rfl rfl ?_
            have b37 : (-2147483648) ≤ H27 44 3 ∧ H27 44 3 ≤ 2147483647 := hI31.1 44 _
            have e38 : H27 44 5 = h 44 5 := hf35 44 5 rfl
            have e39 : H27 44 4 = h 44 4 := hf35 44 4 rfl
            refine fz_callV (d' := 1) (M' := mX9_run) (As := [fz_i 0, fz_i 0, fz_i x, fz_i (dp + 1)]) (st := []) kX9_run rfl rfl vX9_run rfl rfl rfl rfl (Nat.le_of_ble_eq_true rfl) (Nat.le_of_ble_eq_true rfl) (by decide) (sX9_run_4_0_0 H27 hI31 x (dp + 1) w (by omega) (by omega) (by omega) (by omega)) (fun H40 r41 q42 o43 => ?_)
            obtain ⟨hI44, hf45, y50, rfl, f46, f47, f48, f49⟩ := q42
            clear o43
            have hf51 := fz_fr_tr hf35 hf45 (show fz_su [(44, 3), (46, 99999)] [(44, 3), (46, 99999)] = true from rfl)
            have t52 : H40 44 4 = H27 44 4 := hf45 44 4 rfl
            refine fz_iconst ⟨by decide, by decide⟩ kX9_run rfl ?_
            refine fz_iadd kX9_run rfl ?_
            have b53 := fz_w_b (y50 + 3)
            exact fz_iret kX9_run rfl rfl (fun _ => ⟨hI44, hf51, _, rfl, (by omega), (by first | rfl | (rw [f47, lost]) | (rw [f47]) | (rw [hp3]) | (exfalso; omega)), (by simp only [List.length_cons, List.length_nil]; omega), (by first | exact fz_tc2 f34 f49 lost (by omega) (by simp only [List.length_cons, List.length_nil]; omega) | exact fz_tc1 f34 f49 (by omega) | exact fz_tc0 f34 | exact f49 | (exfalso; omega))⟩)
          · exfalso; omega
    · refine fz_if_eq (tgt := 24) kX9_run rfl (by decide) (fun c57 => ?_) (fun c57 => ?_)
      · refine fz_iconst ⟨by decide, by decide⟩ kX9_run rfl ?_
        exact fz_iret kX9_run rfl rfl (fun _ => ⟨hI, hf, _, rfl, (by omega), (by first | rfl | (rw [lost, lost]) | (rw [lost]) | (rw [hp3]) | (exfalso; omega)), (by simp only [List.length_cons, List.length_nil]; omega), (by first | exact fz_tc2 lost lost lost (by omega) (by simp only [List.length_cons, List.length_nil]; omega) | exact fz_tc1 lost lost (by omega) | exact fz_tc0 lost | exact lost | (exfalso; omega))⟩)
      · exfalso; omega

abbrev qX9_run_4_4_1 (h : fz_H) (x dp w : Int) : fz_H → Option fz_V → Prop := fun h' r0 => fz_Iv h' ∧ fz_fr [(44, 3), (46, 99999)] h h' ∧ ∃ r : Int, r0 = some (fz_i r) ∧ (h' 44 3 = h 44 3 + 3) ∧ (r = fz_w (fz_w (fz_w (x + w) + 3) * 2)) ∧ (h' 44 3 = h 44 3 + ([10, 20, 1] : List Int).length) ∧ (h' 46 = fz_tr (h 46) (h 44 3) [10, 20, 1])
set_option maxHeartbeats 1000000 in
set_option maxRecDepth 100000 in
theorem sX9_run_4_4_1 (h : fz_H) (hI : fz_Iv h) (x dp w : Int) (hp0 : h 44 5 = 4) (hp1 : 0 ≤ dp ∧ dp ≤ 37) (hp2 : 0 ≤ h 44 3 ∧ h 44 3 ≤ 897) (hp3 : h 44 4 = w) : fz_R 3 mX9_run 0 [(0, fz_r 44), (1, fz_i 4), (2, fz_i 1), (3, fz_i x), (4, fz_i dp)] [] h (qX9_run_4_4_1 h x dp w) := by
  refine fz_knowl (fun hk => ?_)
  have hr_x : -2147483648 ≤ x ∧ x < 2147483648 := hk _ (List.Mem.tail _ (List.Mem.tail _ (List.Mem.tail _ (List.Mem.head _))))
  have hr_dp : -2147483648 ≤ dp ∧ dp < 2147483648 := hk _ (List.Mem.tail _ (List.Mem.tail _ (List.Mem.tail _ (List.Mem.tail _ (List.Mem.head _)))))
  clear hk
  have hf : fz_fr [(44, 3), (46, 99999)] h h := fz_fr_rf
  have b1 : 0 ≤ h 44 5 ∧ h 44 5 ≤ 7 := hI.1 44 _
  have b2 : (-2147483648) ≤ h 44 3 ∧ h 44 3 ≤ 2147483647 := hI.1 44 _
  have b3 : 0 ≤ h 44 4 ∧ h 44 4 ≤ 49 := hI.1 44 _
  refine fz_iload kX9_run rfl rfl ?_
  refine fz_bipush ⟨by decide, by decide⟩ kX9_run rfl ?_
  refine fz_icmp_gt (tgt := 24) kX9_run rfl (by decide) (fun c4 => ?_) (fun c4 => ?_)
  · exfalso; omega
  · refine fz_aload_n kX9_run rfl rfl ?_
    refine fz_iload_n kX9_run rfl rfl ?_
    refine fz_callV (d' := 0) (M' := mX9_isKind) (As := [fz_i 4]) (st := []) kX9_run rfl rfl vX9_isKind rfl rfl rfl rfl (Nat.le_of_ble_eq_true rfl) (Nat.le_of_ble_eq_true rfl) (by decide) (sX9_isKind h hI 4 ) (fun H5 r6 q7 o8 => ?_)
    obtain ⟨e9, y10, rfl, p11⟩ := q7
    subst H5
    clear o8
    rcases p11 with ⟨rfl, c12⟩ | ⟨rfl, c12⟩
    · refine fz_if_eq (tgt := 24) kX9_run rfl (by decide) (fun c13 => ?_) (fun c13 => ?_)
      · exfalso; omega
      · refine fz_iload_n kX9_run rfl rfl ?_
        refine fz_if_lt (tgt := 24) kX9_run rfl (by decide) (fun c14 => ?_) (fun c14 => ?_)
        · exfalso; omega
        · refine fz_iload_n kX9_run rfl rfl ?_
          refine fz_iconst ⟨by decide, by decide⟩ kX9_run rfl ?_
          refine fz_icmp_lt (tgt := 26) kX9_run rfl (by decide) (fun c15 => ?_) (fun c15 => ?_)
          · refine fz_iload_n kX9_run rfl rfl ?_
            refine fz_iload_n kX9_run rfl rfl ?_
            refine fz_callS (d' := 0) (M' := mX9_ownerFrom) (As := [fz_i 4, fz_i 1]) (st := []) kX9_run rfl rfl vX9_ownerFrom rfl rfl (Nat.le_of_ble_eq_true rfl) (Nat.le_of_ble_eq_true rfl) (by decide) (sX9_ownerFrom_4_1 h hI  ) (fun H16 r17 q18 o19 => ?_)
            obtain ⟨e20, y22, rfl, f21⟩ := q18
            subst H16
            clear o19
            refine fz_eqi (show y22 = 0 by omega) ?_
            refine fz_istore (ls' := [(5, fz_i 0), (0, fz_r 44), (1, fz_i 4), (2, fz_i 1), (3, fz_i x), (4, fz_i dp)]) kX9_run rfl (by decide) rfl ?_
            refine fz_gets kX9_run rfl ?_
            refine fz_iload kX9_run rfl rfl ?_
            refine fz_taldV (v := (-1)) kX9_run rfl ⟨by decide, by decide⟩ (by omega) (by rw [hI.2.2.2.2]; decide) (by rw [hI.2.2.2.2]; rfl) ?_
            refine fz_istore (ls' := [(6, fz_i (-1)), (5, fz_i 0), (0, fz_r 44), (1, fz_i 4), (2, fz_i 1), (3, fz_i x), (4, fz_i dp)]) kX9_run rfl (by decide) rfl ?_
            refine fz_iload kX9_run rfl rfl ?_
            refine fz_iconst ⟨by decide, by decide⟩ kX9_run rfl ?_
            refine fz_iaddN kX9_run rfl (by omega) ?_
            refine fz_istore (ls' := [(7, fz_i (dp + 1)), (6, fz_i (-1)), (5, fz_i 0), (0, fz_r 44), (1, fz_i 4), (2, fz_i 1), (3, fz_i x), (4, fz_i dp)]) kX9_run rfl (by decide) rfl ?_
            refine fz_gets kX9_run rfl ?_
            refine fz_iload kX9_run rfl rfl ?_
            refine fz_iconst ⟨by decide, by decide⟩ kX9_run rfl ?_
            refine fz_imulN kX9_run rfl ⟨by decide, by decide⟩ ?_
            refine fz_eqi (y := 0) rfl ?_
            refine fz_iload_n kX9_run rfl rfl ?_
            refine fz_iaddN kX9_run rfl ⟨by decide, by decide⟩ ?_
            refine fz_eqi (y := 1) rfl ?_
            refine fz_taldV (v := 10) kX9_run rfl ⟨by decide, by decide⟩ (by omega) (by rw [hI.2.2.2.1]; decide) (by rw [hI.2.2.2.1]; rfl) ?_
            refine fz_istore (ls' := [(8, fz_i 10), (7, fz_i (dp + 1)), (6, fz_i (-1)), (5, fz_i 0), (0, fz_r 44), (1, fz_i 4), (2, fz_i 1), (3, fz_i x), (4, fz_i dp)]) kX9_run rfl (by decide) rfl ?_
            refine fz_aload_n kX9_run rfl rfl ?_
            refine fz_iload kX9_run rfl rfl ?_
            refine fz_callV (d' := 0) (M' := mX9_note) (As := [fz_i 10]) (st := []) kX9_run rfl rfl vX9_note rfl rfl rfl rfl (Nat.le_of_ble_eq_true rfl) (Nat.le_of_ble_eq_true rfl) (by decide) (sX9_note h hI 10 (by omega)) (fun H27 r28 q29 o30 => ?_)
            obtain ⟨hI31, hf32, rfl, f33, f34⟩ := q29
            clear o30
            have hf35 := fz_fr_tr hf hf32 (show fz_su [(44, 3), (46, 99999)] [(44, 3), (46, 99999)] = true from rfl)
            have t36 : H27 44 4 = h 44 4 := hf32 44 4 rfl
            refine fz_iload kX9_run rfl rfl ?_
            refine fz_lsw (tgt := 213) kX9_run rfl (by decide) (show Op.lookupswitch.offset [(1, 113), (2, 120), (10, 146), (11, 161), (20, 168), (30, 181), (40, 193), (41, 206), (50, 219), (60, 243), (70, 256), (80, 269), (81, 293)] 306 10 = 146 from rfl) (by decide) ?_
            refine fz_aload_n kX9_run rfl rfl ?_
            refine fz_aload_n kX9_run rfl rfl ?_
            refine fz_getV (v := h 44 5) kX9_run rfl rfl (hf35 44 5 rfl) ?_
            have b37 : 0 ≤ h 44 5 ∧ h 44 5 ≤ 7 := hI.1 44 _
            refine fz_eqi (show (h 44 5) = 4 by omega) ?_
            refine fz_iconst ⟨by decide, by decide⟩ kX9_run rfl ?_
            refine fz_iload_n kX9_run rfl rfl ?_
            refine fz_iload kX9_run rfl rfl ?_
            have b38 : (-2147483648) ≤ H27 44 3 ∧ H27 44 3 ≤ 2147483647 := hI31.1 44 _
            have e39 : H27 44 5 = h 44 5 := hf35 44 5 rfl
            have e40 : H27 44 4 = h 44 4 := hf35 44 4 rfl
            refine fz_callV (d' := 2) (M' := mX9_run) (As := [fz_i 4, fz_i 0, fz_i x, fz_i (dp + 1)]) (st := []) kX9_run rfl rfl vX9_run rfl rfl rfl rfl (Nat.le_of_ble_eq_true rfl) (Nat.le_of_ble_eq_true rfl) (by decide) (sX9_run_4_4_0 H27 hI31 x (dp + 1) w (by omega) (by omega) (by omega) (by omega)) (fun H41 r42 q43 o44 => ?_)
            obtain ⟨hI45, hf46, y51, rfl, f47, f48, f49, f50⟩ := q43
            clear o44
            have hf52 := fz_fr_tr hf35 hf46 (show fz_su [(44, 3), (46, 99999)] [(44, 3), (46, 99999)] = true from rfl)
            have t53 : H41 44 4 = H27 44 4 := hf46 44 4 rfl
            refine fz_iconst ⟨by decide, by decide⟩ kX9_run rfl ?_
            refine fz_imul kX9_run rfl ?_
            have b54 := fz_w_b (y51 * 2)
            exact fz_iret kX9_run rfl rfl (fun _ => ⟨hI45, hf52, _, rfl, (by omega), (by first | rfl | (rw [f48, lost]) | (rw [f48]) | (rw [hp3]) | (exfalso; omega)), (by simp only [List.length_cons, List.length_nil]; omega), (by first | exact fz_tc2 f34 f50 lost (by omega) (by simp only [List.length_cons, List.length_nil]; omega) | exact fz_tc1 f34 f50 (by omega) | exact fz_tc0 f34 | exact f50 | (exfalso; omega))⟩)
          · exfalso; omega
    · refine fz_if_eq (tgt := 24) kX9_run rfl (by decide) (fun c58 => ?_) (fun c58 => ?_)
      · refine fz_iconst ⟨by decide, by decide⟩ kX9_run rfl ?_
        exact fz_iret kX9_run rfl rfl (fun _ => ⟨hI, hf, _, rfl, (by omega), (by first | rfl | (rw [lost, lost]) | (rw [lost]) | (rw [hp3]) | (exfalso; omega)), (by simp only [List.length_cons, List.length_nil]; omega), (by first | exact fz_tc2 lost lost lost (by omega) (by simp only [List.length_cons, List.length_nil]; omega) | exact fz_tc1 lost lost (by omega) | exact fz_tc0 lost | exact lost | (exfalso; omega))⟩)
      · exfalso; omega

abbrev qX9_run_4_1_2 (h : fz_H) (x dp w : Int) : fz_H → Option fz_V → Prop := fun h' r0 => fz_Iv h' ∧ fz_fr [(44, 3), (46, 99999)] h h' ∧ ∃ r : Int, r0 = some (fz_i r) ∧ (h' 44 3 = h 44 3 + 1) ∧ (r = fz_xor x w) ∧ (h' 44 3 = h 44 3 + ([11] : List Int).length) ∧ (h' 46 = fz_tr (h 46) (h 44 3) [11])
set_option maxHeartbeats 1000000 in
set_option maxRecDepth 100000 in
theorem sX9_run_4_1_2 (h : fz_H) (hI : fz_Iv h) (x dp w : Int) (hp0 : h 44 5 = 4) (hp1 : 0 ≤ dp ∧ dp ≤ 39) (hp2 : 0 ≤ h 44 3 ∧ h 44 3 ≤ 899) (hp3 : h 44 4 = w) : fz_R 1 mX9_run 0 [(0, fz_r 44), (1, fz_i 1), (2, fz_i 2), (3, fz_i x), (4, fz_i dp)] [] h (qX9_run_4_1_2 h x dp w) := by
  refine fz_knowl (fun hk => ?_)
  have hr_x : -2147483648 ≤ x ∧ x < 2147483648 := hk _ (List.Mem.tail _ (List.Mem.tail _ (List.Mem.tail _ (List.Mem.head _))))
  have hr_dp : -2147483648 ≤ dp ∧ dp < 2147483648 := hk _ (List.Mem.tail _ (List.Mem.tail _ (List.Mem.tail _ (List.Mem.tail _ (List.Mem.head _)))))
  clear hk
  have hf : fz_fr [(44, 3), (46, 99999)] h h := fz_fr_rf
  have b1 : 0 ≤ h 44 5 ∧ h 44 5 ≤ 7 := hI.1 44 _
  have b2 : (-2147483648) ≤ h 44 3 ∧ h 44 3 ≤ 2147483647 := hI.1 44 _
  have b3 : 0 ≤ h 44 4 ∧ h 44 4 ≤ 49 := hI.1 44 _
  refine fz_iload kX9_run rfl rfl ?_
  refine fz_bipush ⟨by decide, by decide⟩ kX9_run rfl ?_
  refine fz_icmp_gt (tgt := 24) kX9_run rfl (by decide) (fun c4 => ?_) (fun c4 => ?_)
  · exfalso; omega
  · refine fz_aload_n kX9_run rfl rfl ?_
    refine fz_iload_n kX9_run rfl rfl ?_
    refine fz_callV (d' := 0) (M' := mX9_isKind) (As := [fz_i 1]) (st := []) kX9_run rfl rfl vX9_isKind rfl rfl rfl rfl (Nat.le_of_ble_eq_true rfl) (Nat.le_of_ble_eq_true rfl) (by decide) (sX9_isKind h hI 1 ) (fun H5 r6 q7 o8 => ?_)
    obtain ⟨e9, y10, rfl, p11⟩ := q7
    subst H5
    clear o8
    rcases p11 with ⟨rfl, c12⟩ | ⟨rfl, c12⟩
    · refine fz_if_eq (tgt := 24) kX9_run rfl (by decide) (fun c13 => ?_) (fun c13 => ?_)
      · exfalso; omega
      · refine fz_iload_n kX9_run rfl rfl ?_
        refine fz_if_lt (tgt := 24) kX9_run rfl (by decide) (fun c14 => ?_) (fun c14 => ?_)
        · exfalso; omega
        · refine fz_iload_n kX9_run rfl rfl ?_
          refine fz_iconst ⟨by decide, by decide⟩ kX9_run rfl ?_
          refine fz_icmp_lt (tgt := 26) kX9_run rfl (by decide) (fun c15 => ?_) (fun c15 => ?_)
          · refine fz_iload_n kX9_run rfl rfl ?_
            refine fz_iload_n kX9_run rfl rfl ?_
            refine fz_callS (d' := 0) (M' := mX9_ownerFrom) (As := [fz_i 1, fz_i 2]) (st := []) kX9_run rfl rfl vX9_ownerFrom rfl rfl (Nat.le_of_ble_eq_true rfl) (Nat.le_of_ble_eq_true rfl) (by decide) (sX9_ownerFrom_1_2 h hI  ) (fun H16 r17 q18 o19 => ?_)
            obtain ⟨e20, y22, rfl, f21⟩ := q18
            subst H16
            clear o19
            refine fz_eqi (show y22 = 0 by omega) ?_
            refine fz_istore (ls' := [(5, fz_i 0), (0, fz_r 44), (1, fz_i 1), (2, fz_i 2), (3, fz_i x), (4, fz_i dp)]) kX9_run rfl (by decide) rfl ?_
            refine fz_gets kX9_run rfl ?_
            refine fz_iload kX9_run rfl rfl ?_
            refine fz_taldV (v := (-1)) kX9_run rfl ⟨by decide, by decide⟩ (by omega) (by rw [hI.2.2.2.2]; decide) (by rw [hI.2.2.2.2]; rfl) ?_
            refine fz_istore (ls' := [(6, fz_i (-1)), (5, fz_i 0), (0, fz_r 44), (1, fz_i 1), (2, fz_i 2), (3, fz_i x), (4, fz_i dp)]) kX9_run rfl (by decide) rfl ?_
            refine fz_iload kX9_run rfl rfl ?_
            refine fz_iconst ⟨by decide, by decide⟩ kX9_run rfl ?_
            refine fz_iaddN kX9_run rfl (by omega) ?_
            refine fz_istore (ls' := [(7, fz_i (dp + 1)), (6, fz_i (-1)), (5, fz_i 0), (0, fz_r 44), (1, fz_i 1), (2, fz_i 2), (3, fz_i x), (4, fz_i dp)]) kX9_run rfl (by decide) rfl ?_
            refine fz_gets kX9_run rfl ?_
            refine fz_iload kX9_run rfl rfl ?_
            refine fz_iconst ⟨by decide, by decide⟩ kX9_run rfl ?_
            refine fz_imulN kX9_run rfl ⟨by decide, by decide⟩ ?_
            refine fz_eqi (y := 0) rfl ?_
            refine fz_iload_n kX9_run rfl rfl ?_
            refine fz_iaddN kX9_run rfl ⟨by decide, by decide⟩ ?_
            refine fz_eqi (y := 2) rfl ?_
            refine fz_taldV (v := 11) kX9_run rfl ⟨by decide, by decide⟩ (by omega) (by rw [hI.2.2.2.1]; decide) (by rw [hI.2.2.2.1]; rfl) ?_
            refine fz_istore (ls' := [(8, fz_i 11), (7, fz_i (dp + 1)), (6, fz_i (-1)), (5, fz_i 0), (0, fz_r 44), (1, fz_i 1), (2, fz_i 2), (3, fz_i x), (4, fz_i dp)]) kX9_run rfl (by decide) rfl ?_
            refine fz_aload_n kX9_run rfl rfl ?_
            refine fz_iload kX9_run rfl rfl ?_
            refine fz_callV (d' := 0) (M' := mX9_note) (As := [fz_i 11]) (st := []) kX9_run rfl rfl vX9_note rfl rfl rfl rfl (Nat.le_of_ble_eq_true rfl) (Nat.le_of_ble_eq_true rfl) (by decide) (sX9_note h hI 11 (by omega)) (fun H27 r28 q29 o30 => ?_)
            obtain ⟨hI31, hf32, rfl, f33, f34⟩ := q29
            clear o30
            have hf35 := fz_fr_tr hf hf32 (show fz_su [(44, 3), (46, 99999)] [(44, 3), (46, 99999)] = true from rfl)
            have t36 : H27 44 4 = h 44 4 := hf32 44 4 rfl
            refine fz_iload kX9_run rfl rfl ?_
            refine fz_lsw (tgt := 228) kX9_run rfl (by decide) (show Op.lookupswitch.offset [(1, 113), (2, 120), (10, 146), (11, 161), (20, 168), (30, 181), (40, 193), (41, 206), (50, 219), (60, 243), (70, 256), (80, 269), (81, 293)] 306 11 = 161 from rfl) (by decide) ?_
            refine fz_iload_n kX9_run rfl rfl ?_
            refine fz_aload_n kX9_run rfl rfl ?_
            refine fz_getV (v := h 44 4) kX9_run rfl rfl (hf35 44 4 rfl) ?_
            have b37 : 0 ≤ h 44 4 ∧ h 44 4 ≤ 49 := hI.1 44 _
            refine fz_ixor kX9_run rfl ?_
            have b38 : -2147483648 ≤ (fz_xor x (h 44 4)) ∧ (fz_xor x (h 44 4)) < 2147483648 := fz_b32 _
            exact fz_iret kX9_run rfl rfl (fun _ => ⟨hI31, hf35, _, rfl, (by omega), (by first | rfl | (rw [lost, lost]) | (rw [lost]) | (rw [hp3]) | (exfalso; omega)), (by simp only [List.length_cons, List.length_nil]; omega), (by first | exact fz_tc2 f34 lost lost (by omega) (by simp only [List.length_cons, List.length_nil]; omega) | exact fz_tc1 f34 lost (by omega) | exact fz_tc0 f34 | exact lost | (exfalso; omega))⟩)
          · exfalso; omega
    · refine fz_if_eq (tgt := 24) kX9_run rfl (by decide) (fun c42 => ?_) (fun c42 => ?_)
      · refine fz_iconst ⟨by decide, by decide⟩ kX9_run rfl ?_
        exact fz_iret kX9_run rfl rfl (fun _ => ⟨hI, hf, _, rfl, (by omega), (by first | rfl | (rw [lost, lost]) | (rw [lost]) | (rw [hp3]) | (exfalso; omega)), (by simp only [List.length_cons, List.length_nil]; omega), (by first | exact fz_tc2 lost lost lost (by omega) (by simp only [List.length_cons, List.length_nil]; omega) | exact fz_tc1 lost lost (by omega) | exact fz_tc0 lost | exact lost | (exfalso; omega))⟩)
      · exfalso; omega

abbrev qX9_run_4_4_2 (h : fz_H) (x dp w : Int) : fz_H → Option fz_V → Prop := fun h' r0 => fz_Iv h' ∧ fz_fr [(44, 3), (46, 99999)] h h' ∧ ∃ r : Int, r0 = some (fz_i r) ∧ (h' 44 3 = h 44 3 + 4) ∧ (r = fz_w (fz_xor x w - fz_w (fz_w (2 + w) + 3))) ∧ (h' 44 3 = h 44 3 + ([50, 11, 20, 1] : List Int).length) ∧ (h' 46 = fz_tr (h 46) (h 44 3) [50, 11, 20, 1])
set_option maxHeartbeats 1000000 in
set_option maxRecDepth 100000 in
theorem sX9_run_4_4_2 (h : fz_H) (hI : fz_Iv h) (x dp w : Int) (hp0 : h 44 5 = 4) (hp1 : 0 ≤ dp ∧ dp ≤ 37) (hp2 : 0 ≤ h 44 3 ∧ h 44 3 ≤ 896) (hp3 : h 44 4 = w) : fz_R 3 mX9_run 0 [(0, fz_r 44), (1, fz_i 4), (2, fz_i 2), (3, fz_i x), (4, fz_i dp)] [] h (qX9_run_4_4_2 h x dp w) := by
  refine fz_knowl (fun hk => ?_)
  have hr_x : -2147483648 ≤ x ∧ x < 2147483648 := hk _ (List.Mem.tail _ (List.Mem.tail _ (List.Mem.tail _ (List.Mem.head _))))
  have hr_dp : -2147483648 ≤ dp ∧ dp < 2147483648 := hk _ (List.Mem.tail _ (List.Mem.tail _ (List.Mem.tail _ (List.Mem.tail _ (List.Mem.head _)))))
  clear hk
  have hf : fz_fr [(44, 3), (46, 99999)] h h := fz_fr_rf
  have b1 : 0 ≤ h 44 5 ∧ h 44 5 ≤ 7 := hI.1 44 _
  have b2 : (-2147483648) ≤ h 44 3 ∧ h 44 3 ≤ 2147483647 := hI.1 44 _
  have b3 : 0 ≤ h 44 4 ∧ h 44 4 ≤ 49 := hI.1 44 _
  refine fz_iload kX9_run rfl rfl ?_
  refine fz_bipush ⟨by decide, by decide⟩ kX9_run rfl ?_
  refine fz_icmp_gt (tgt := 24) kX9_run rfl (by decide) (fun c4 => ?_) (fun c4 => ?_)
  · exfalso; omega
  · refine fz_aload_n kX9_run rfl rfl ?_
    refine fz_iload_n kX9_run rfl rfl ?_
    refine fz_callV (d' := 0) (M' := mX9_isKind) (As := [fz_i 4]) (st := []) kX9_run rfl rfl vX9_isKind rfl rfl rfl rfl (Nat.le_of_ble_eq_true rfl) (Nat.le_of_ble_eq_true rfl) (by decide) (sX9_isKind h hI 4 ) (fun H5 r6 q7 o8 => ?_)
    obtain ⟨e9, y10, rfl, p11⟩ := q7
    subst H5
    clear o8
    rcases p11 with ⟨rfl, c12⟩ | ⟨rfl, c12⟩
    · refine fz_if_eq (tgt := 24) kX9_run rfl (by decide) (fun c13 => ?_) (fun c13 => ?_)
      · exfalso; omega
      · refine fz_iload_n kX9_run rfl rfl ?_
        refine fz_if_lt (tgt := 24) kX9_run rfl (by decide) (fun c14 => ?_) (fun c14 => ?_)
        · exfalso; omega
        · refine fz_iload_n kX9_run rfl rfl ?_
          refine fz_iconst ⟨by decide, by decide⟩ kX9_run rfl ?_
          refine fz_icmp_lt (tgt := 26) kX9_run rfl (by decide) (fun c15 => ?_) (fun c15 => ?_)
          · refine fz_iload_n kX9_run rfl rfl ?_
            refine fz_iload_n kX9_run rfl rfl ?_
            refine fz_callS (d' := 0) (M' := mX9_ownerFrom) (As := [fz_i 4, fz_i 2]) (st := []) kX9_run rfl rfl vX9_ownerFrom rfl rfl (Nat.le_of_ble_eq_true rfl) (Nat.le_of_ble_eq_true rfl) (by decide) (sX9_ownerFrom_4_2 h hI  ) (fun H16 r17 q18 o19 => ?_)
            obtain ⟨e20, y22, rfl, f21⟩ := q18
            subst H16
            clear o19
            refine fz_eqi (show y22 = 4 by omega) ?_
            refine fz_istore (ls' := [(5, fz_i 4), (0, fz_r 44), (1, fz_i 4), (2, fz_i 2), (3, fz_i x), (4, fz_i dp)]) kX9_run rfl (by decide) rfl ?_
            refine fz_gets kX9_run rfl ?_
            refine fz_iload kX9_run rfl rfl ?_
            refine fz_taldV (v := 1) kX9_run rfl ⟨by decide, by decide⟩ (by omega) (by rw [hI.2.2.2.2]; decide) (by rw [hI.2.2.2.2]; rfl) ?_
            refine fz_istore (ls' := [(6, fz_i 1), (5, fz_i 4), (0, fz_r 44), (1, fz_i 4), (2, fz_i 2), (3, fz_i x), (4, fz_i dp)]) kX9_run rfl (by decide) rfl ?_
            refine fz_iload kX9_run rfl rfl ?_
            refine fz_iconst ⟨by decide, by decide⟩ kX9_run rfl ?_
            refine fz_iaddN kX9_run rfl (by omega) ?_
            refine fz_istore (ls' := [(7, fz_i (dp + 1)), (6, fz_i 1), (5, fz_i 4), (0, fz_r 44), (1, fz_i 4), (2, fz_i 2), (3, fz_i x), (4, fz_i dp)]) kX9_run rfl (by decide) rfl ?_
            refine fz_gets kX9_run rfl ?_
            refine fz_iload kX9_run rfl rfl ?_
            refine fz_iconst ⟨by decide, by decide⟩ kX9_run rfl ?_
            refine fz_imulN kX9_run rfl ⟨by decide, by decide⟩ ?_
            refine fz_eqi (y := 16) rfl ?_
            refine fz_iload_n kX9_run rfl rfl ?_
            refine fz_iaddN kX9_run rfl ⟨by decide, by decide⟩ ?_
            refine fz_eqi (y := 18) rfl ?_
            refine fz_taldV (v := 50) kX9_run rfl ⟨by decide, by decide⟩ (by omega) (by rw [hI.2.2.2.1]; decide) (by rw [hI.2.2.2.1]; rfl) ?_
            refine fz_istore (ls' := [(8, fz_i 50), (7, fz_i (dp + 1)), (6, fz_i 1), (5, fz_i 4), (0, fz_r 44), (1, fz_i 4), (2, fz_i 2), (3, fz_i x), (4, fz_i dp)]) kX9_run rfl (by decide) rfl ?_
            refine fz_aload_n kX9_run rfl rfl ?_
            refine fz_iload kX9_run rfl rfl ?_
            refine fz_callV (d' := 0) (M' := mX9_note) (As := [fz_i 50]) (st := []) kX9_run rfl rfl vX9_note rfl rfl rfl rfl (Nat.le_of_ble_eq_true rfl) (Nat.le_of_ble_eq_true rfl) (by decide) (sX9_note h hI 50 (by omega)) (fun H27 r28 q29 o30 => ?_)
            obtain ⟨hI31, hf32, rfl, f33, f34⟩ := q29
            clear o30
            have hf35 := fz_fr_tr hf hf32 (show fz_su [(44, 3), (46, 99999)] [(44, 3), (46, 99999)] = true from rfl)
            have t36 : H27 44 4 = h 44 4 := hf32 44 4 rfl
            refine fz_iload kX9_run rfl rfl ?_
            refine fz_lsw (tgt := 286) kX9_run rfl (by decide) (show Op.lookupswitch.offset [(1, 113), (2, 120), (10, 146), (11, 161), (20, 168), (30, 181), (40, 193), (41, 206), (50, 219), (60, 243), (70, 256), (80, 269), (81, 293)] 306 50 = 219 from rfl) (by decide) ?_
            refine fz_aload_n kX9_run rfl rfl ?_
            refine fz_iload kX9_run rfl rfl ?_
            refine fz_iconst ⟨by decide, by decide⟩ kX9_run rfl ?_
            refine fz_iload_n kX9_run rfl rfl ?_
            refine fz_iload kX9_run rfl rfl ?_
            have b37 : (-2147483648) ≤ H27 44 3 ∧ H27 44 3 ≤ 2147483647 := hI31.1 44 _
            have e38 : H27 44 5 = h 44 5 := hf35 44 5 rfl
            have e39 : H27 44 4 = h 44 4 := hf35 44 4 rfl
            refine fz_callV (d' := 1) (M' := mX9_run) (As := [fz_i 1, fz_i 2, fz_i x, fz_i (dp + 1)]) (st := []) kX9_run rfl rfl vX9_run rfl rfl rfl rfl (Nat.le_of_ble_eq_true rfl) (Nat.le_of_ble_eq_true rfl) (by decide) (sX9_run_4_1_2 H27 hI31 x (dp + 1) w (by omega) (by omega) (by omega) (by omega)) (fun H40 r41 q42 o43 => ?_)
            obtain ⟨hI44, hf45, y50, rfl, f46, f47, f48, f49⟩ := q42
            clear o43
            have hf51 := fz_fr_tr hf35 hf45 (show fz_su [(44, 3), (46, 99999)] [(44, 3), (46, 99999)] = true from rfl)
            have t52 : H40 44 4 = H27 44 4 := hf45 44 4 rfl
            refine fz_aload_n kX9_run rfl rfl ?_
            refine fz_aload_n kX9_run rfl rfl ?_
            refine fz_getV (v := h 44 5) kX9_run rfl rfl (hf51 44 5 rfl) ?_
            have b53 : 0 ≤ h 44 5 ∧ h 44 5 ≤ 7 := hI.1 44 _
            refine fz_eqi (show (h 44 5) = 4 by omega) ?_
            refine fz_iconst ⟨by decide, by decide⟩ kX9_run rfl ?_
            refine fz_iconst ⟨by decide, by decide⟩ kX9_run rfl ?_
            refine fz_iload kX9_run rfl rfl ?_
            have b54 : (-2147483648) ≤ H40 44 3 ∧ H40 44 3 ≤ 2147483647 := hI44.1 44 _
            have e55 : H40 44 5 = h 44 5 := hf51 44 5 rfl
            have e56 : H40 44 4 = h 44 4 := hf51 44 4 rfl
            refine fz_callV (d' := 2) (M' := mX9_run) (As := [fz_i 4, fz_i 0, fz_i 2, fz_i (dp + 1)]) (st := [fz_i y50]) kX9_run rfl rfl vX9_run rfl rfl rfl rfl (Nat.le_of_ble_eq_true rfl) (Nat.le_of_ble_eq_true rfl) (by decide) (sX9_run_4_4_0 H40 hI44 2 (dp + 1) w (by omega) (by omega) (by omega) (by omega)) (fun H57 r58 q59 o60 => ?_)
            obtain ⟨hI61, hf62, y67, rfl, f63, f64, f65, f66⟩ := q59
            clear o60
            have hf68 := fz_fr_tr hf51 hf62 (show fz_su [(44, 3), (46, 99999)] [(44, 3), (46, 99999)] = true from rfl)
            have t69 : H57 44 4 = H40 44 4 := hf62 44 4 rfl
            refine fz_isub kX9_run rfl ?_
            have b70 := fz_w_b (y50 - y67)
            exact fz_iret kX9_run rfl rfl (fun _ => ⟨hI61, hf68, _, rfl, (by omega), (by first | rfl | (rw [f47, f64]) | (rw [f47]) | (rw [hp3]) | (exfalso; omega)), (by simp only [List.length_cons, List.length_nil]; omega), (by first | exact fz_tc2 f34 f49 f66 (by omega) (by simp only [List.length_cons, List.length_nil]; omega) | exact fz_tc1 f34 f49 (by omega) | exact fz_tc0 f34 | exact f49 | (exfalso; omega))⟩)
          · exfalso; omega
    · refine fz_if_eq (tgt := 24) kX9_run rfl (by decide) (fun c74 => ?_) (fun c74 => ?_)
      · refine fz_iconst ⟨by decide, by decide⟩ kX9_run rfl ?_
        exact fz_iret kX9_run rfl rfl (fun _ => ⟨hI, hf, _, rfl, (by omega), (by first | rfl | (rw [lost, lost]) | (rw [lost]) | (rw [hp3]) | (exfalso; omega)), (by simp only [List.length_cons, List.length_nil]; omega), (by first | exact fz_tc2 lost lost lost (by omega) (by simp only [List.length_cons, List.length_nil]; omega) | exact fz_tc1 lost lost (by omega) | exact fz_tc0 lost | exact lost | (exfalso; omega))⟩)
      · exfalso; omega

abbrev qX9_run_4_4_3 (h : fz_H) (x dp w : Int) : fz_H → Option fz_V → Prop := fun h' r0 => fz_Iv h' ∧ fz_fr [(44, 3), (46, 99999)] h h' ∧ ∃ r : Int, r0 = some (fz_i r) ∧ (h' 44 3 = h 44 3 + 8) ∧ (r = fz_w (fz_w (fz_w (fz_w (x + w) + 3) * 2) - fz_w (fz_xor 1 w - fz_w (fz_w (2 + w) + 3)))) ∧ (h' 44 3 = h 44 3 + ([2, 10, 20, 1, 50, 11, 20, 1] : List Int).length) ∧ (h' 46 = fz_tr (h 46) (h 44 3) [2, 10, 20, 1, 50, 11, 20, 1])
set_option maxHeartbeats 1000000 in
set_option maxRecDepth 100000 in
theorem sX9_run_4_4_3 (h : fz_H) (hI : fz_Iv h) (x dp w : Int) (hp0 : h 44 5 = 4) (hp1 : 0 ≤ dp ∧ dp ≤ 36) (hp2 : 0 ≤ h 44 3 ∧ h 44 3 ≤ 892) (hp3 : h 44 4 = w) : fz_R 4 mX9_run 0 [(0, fz_r 44), (1, fz_i 4), (2, fz_i 3), (3, fz_i x), (4, fz_i dp)] [] h (qX9_run_4_4_3 h x dp w) := by
  refine fz_knowl (fun hk => ?_)
  have hr_x : -2147483648 ≤ x ∧ x < 2147483648 := hk _ (List.Mem.tail _ (List.Mem.tail _ (List.Mem.tail _ (List.Mem.head _))))
  have hr_dp : -2147483648 ≤ dp ∧ dp < 2147483648 := hk _ (List.Mem.tail _ (List.Mem.tail _ (List.Mem.tail _ (List.Mem.tail _ (List.Mem.head _)))))
  clear hk
  have hf : fz_fr [(44, 3), (46, 99999)] h h := fz_fr_rf
  have b1 : 0 ≤ h 44 5 ∧ h 44 5 ≤ 7 := hI.1 44 _
  have b2 : (-2147483648) ≤ h 44 3 ∧ h 44 3 ≤ 2147483647 := hI.1 44 _
  have b3 : 0 ≤ h 44 4 ∧ h 44 4 ≤ 49 := hI.1 44 _
  refine fz_iload kX9_run rfl rfl ?_
  refine fz_bipush ⟨by decide, by decide⟩ kX9_run rfl ?_
  refine fz_icmp_gt (tgt := 24) kX9_run rfl (by decide) (fun c4 => ?_) (fun c4 => ?_)
  · exfalso; omega
  · refine fz_aload_n kX9_run rfl rfl ?_
    refine fz_iload_n kX9_run rfl rfl ?_
    refine fz_callV (d' := 0) (M' := mX9_isKind) (As := [fz_i 4]) (st := []) kX9_run rfl rfl vX9_isKind rfl rfl rfl rfl (Nat.le_of_ble_eq_true rfl) (Nat.le_of_ble_eq_true rfl) (by decide) (sX9_isKind h hI 4 ) (fun H5 r6 q7 o8 => ?_)
    obtain ⟨e9, y10, rfl, p11⟩ := q7
    subst H5
    clear o8
    rcases p11 with ⟨rfl, c12⟩ | ⟨rfl, c12⟩
    · refine fz_if_eq (tgt := 24) kX9_run rfl (by decide) (fun c13 => ?_) (fun c13 => ?_)
      · exfalso; omega
      · refine fz_iload_n kX9_run rfl rfl ?_
        refine fz_if_lt (tgt := 24) kX9_run rfl (by decide) (fun c14 => ?_) (fun c14 => ?_)
        · exfalso; omega
        · refine fz_iload_n kX9_run rfl rfl ?_
          refine fz_iconst ⟨by decide, by decide⟩ kX9_run rfl ?_
          refine fz_icmp_lt (tgt := 26) kX9_run rfl (by decide) (fun c15 => ?_) (fun c15 => ?_)
          · refine fz_iload_n kX9_run rfl rfl ?_
            refine fz_iload_n kX9_run rfl rfl ?_
            refine fz_callS (d' := 0) (M' := mX9_ownerFrom) (As := [fz_i 4, fz_i 3]) (st := []) kX9_run rfl rfl vX9_ownerFrom rfl rfl (Nat.le_of_ble_eq_true rfl) (Nat.le_of_ble_eq_true rfl) (by decide) (sX9_ownerFrom_4_3 h hI  ) (fun H16 r17 q18 o19 => ?_)
            obtain ⟨e20, y22, rfl, f21⟩ := q18
            subst H16
            clear o19
            refine fz_eqi (show y22 = 0 by omega) ?_
            refine fz_istore (ls' := [(5, fz_i 0), (0, fz_r 44), (1, fz_i 4), (2, fz_i 3), (3, fz_i x), (4, fz_i dp)]) kX9_run rfl (by decide) rfl ?_
            refine fz_gets kX9_run rfl ?_
            refine fz_iload kX9_run rfl rfl ?_
            refine fz_taldV (v := (-1)) kX9_run rfl ⟨by decide, by decide⟩ (by omega) (by rw [hI.2.2.2.2]; decide) (by rw [hI.2.2.2.2]; rfl) ?_
            refine fz_istore (ls' := [(6, fz_i (-1)), (5, fz_i 0), (0, fz_r 44), (1, fz_i 4), (2, fz_i 3), (3, fz_i x), (4, fz_i dp)]) kX9_run rfl (by decide) rfl ?_
            refine fz_iload kX9_run rfl rfl ?_
            refine fz_iconst ⟨by decide, by decide⟩ kX9_run rfl ?_
            refine fz_iaddN kX9_run rfl (by omega) ?_
            refine fz_istore (ls' := [(7, fz_i (dp + 1)), (6, fz_i (-1)), (5, fz_i 0), (0, fz_r 44), (1, fz_i 4), (2, fz_i 3), (3, fz_i x), (4, fz_i dp)]) kX9_run rfl (by decide) rfl ?_
            refine fz_gets kX9_run rfl ?_
            refine fz_iload kX9_run rfl rfl ?_
            refine fz_iconst ⟨by decide, by decide⟩ kX9_run rfl ?_
            refine fz_imulN kX9_run rfl ⟨by decide, by decide⟩ ?_
            refine fz_eqi (y := 0) rfl ?_
            refine fz_iload_n kX9_run rfl rfl ?_
            refine fz_iaddN kX9_run rfl ⟨by decide, by decide⟩ ?_
            refine fz_eqi (y := 3) rfl ?_
            refine fz_taldV (v := 2) kX9_run rfl ⟨by decide, by decide⟩ (by omega) (by rw [hI.2.2.2.1]; decide) (by rw [hI.2.2.2.1]; rfl) ?_
            refine fz_istore (ls' := [(8, fz_i 2), (7, fz_i (dp + 1)), (6, fz_i (-1)), (5, fz_i 0), (0, fz_r 44), (1, fz_i 4), (2, fz_i 3), (3, fz_i x), (4, fz_i dp)]) kX9_run rfl (by decide) rfl ?_
            refine fz_aload_n kX9_run rfl rfl ?_
            refine fz_iload kX9_run rfl rfl ?_
            refine fz_callV (d' := 0) (M' := mX9_note) (As := [fz_i 2]) (st := []) kX9_run rfl rfl vX9_note rfl rfl rfl rfl (Nat.le_of_ble_eq_true rfl) (Nat.le_of_ble_eq_true rfl) (by decide) (sX9_note h hI 2 (by omega)) (fun H27 r28 q29 o30 => ?_)
            obtain ⟨hI31, hf32, rfl, f33, f34⟩ := q29
            clear o30
            have hf35 := fz_fr_tr hf hf32 (show fz_su [(44, 3), (46, 99999)] [(44, 3), (46, 99999)] = true from rfl)
            have t36 : H27 44 4 = h 44 4 := hf32 44 4 rfl
            refine fz_iload kX9_run rfl rfl ?_
            refine fz_lsw (tgt := 187) kX9_run rfl (by decide) (show Op.lookupswitch.offset [(1, 113), (2, 120), (10, 146), (11, 161), (20, 168), (30, 181), (40, 193), (41, 206), (50, 219), (60, 243), (70, 256), (80, 269), (81, 293)] 306 2 = 120 from rfl) (by decide) ?_
            refine fz_aload_n kX9_run rfl rfl ?_
            refine fz_aload_n kX9_run rfl rfl ?_
            refine fz_getV (v := h 44 5) kX9_run rfl rfl (hf35 44 5 rfl) ?_
            have b37 : 0 ≤ h 44 5 ∧ h 44 5 ≤ 7 := hI.1 44 _
            refine fz_eqi (show (h 44 5) = 4 by omega) ?_
            refine fz_iconst ⟨by decide, by decide⟩ kX9_run rfl ?_
            refine fz_iload_n kX9_run rfl rfl ?_
            refine fz_iload kX9_run rfl rfl ?_
            have b38 : (-2147483648) ≤ H27 44 3 ∧ H27 44 3 ≤ 2147483647 := hI31.1 44 _
            have e39 : H27 44 5 = h 44 5 := hf35 44 5 rfl
            have e40 : H27 44 4 = h 44 4 := hf35 44 4 rfl
            refine fz_callV (d' := 3) (M' := mX9_run) (As := [fz_i 4, fz_i 1, fz_i x, fz_i (dp + 1)]) (st := []) kX9_run rfl rfl vX9_run rfl rfl rfl rfl (Nat.le_of_ble_eq_true rfl) (Nat.le_of_ble_eq_true rfl) (by decide) (sX9_run_4_4_1 H27 hI31 x (dp + 1) w (by omega) (by omega) (by omega) (by omega)) (fun H41 r42 q43 o44 => ?_)
            obtain ⟨hI45, hf46, y51, rfl, f47, f48, f49, f50⟩ := q43
            clear o44
            have hf52 := fz_fr_tr hf35 hf46 (show fz_su [(44, 3), (46, 99999)] [(44, 3), (46, 99999)] = true from rfl)
            have t53 : H41 44 4 = H27 44 4 := hf46 44 4 rfl
            refine fz_aload_n kX9_run rfl rfl ?_
            refine fz_aload_n kX9_run rfl rfl ?_
            refine fz_getV (v := h 44 5) kX9_run rfl rfl (hf52 44 5 rfl) ?_
            refine fz_eqi (show (h 44 5) = 4 by omega) ?_
            refine fz_iconst ⟨by decide, by decide⟩ kX9_run rfl ?_
            refine fz_iconst ⟨by decide, by decide⟩ kX9_run rfl ?_
            refine fz_iload kX9_run rfl rfl ?_
            have b54 : (-2147483648) ≤ H41 44 3 ∧ H41 44 3 ≤ 2147483647 := hI45.1 44 _
            have e55 : H41 44 5 = h 44 5 := hf52 44 5 rfl
            have e56 : H41 44 4 = h 44 4 := hf52 44 4 rfl
            refine fz_callV (d' := 3) (M' := mX9_run) (As := [fz_i 4, fz_i 2, fz_i 1, fz_i (dp + 1)]) (st := [fz_i y51]) kX9_run rfl rfl vX9_run rfl rfl rfl rfl (Nat.le_of_ble_eq_true rfl) (Nat.le_of_ble_eq_true rfl) (by decide) (sX9_run_4_4_2 H41 hI45 1 (dp + 1) w (by omega) (by omega) (by omega) (by omega)) (fun H57 r58 q59 o60 => ?_)
            obtain ⟨hI61, hf62, y67, rfl, f63, f64, f65, f66⟩ := q59
            clear o60
            have hf68 := fz_fr_tr hf52 hf62 (show fz_su [(44, 3), (46, 99999)] [(44, 3), (46, 99999)] = true from rfl)
            have t69 : H57 44 4 = H41 44 4 := hf62 44 4 rfl
            refine fz_isub kX9_run rfl ?_
            have b70 := fz_w_b (y51 - y67)
            exact fz_iret kX9_run rfl rfl (fun _ => ⟨hI61, hf68, _, rfl, (by omega), (by first | rfl | (rw [f48, f64]) | (rw [f48]) | (rw [hp3]) | (exfalso; omega)), (by simp only [List.length_cons, List.length_nil]; omega), (by first | exact fz_tc2 f34 f50 f66 (by omega) (by simp only [List.length_cons, List.length_nil]; omega) | exact fz_tc1 f34 f50 (by omega) | exact fz_tc0 f34 | exact f50 | (exfalso; omega))⟩)
          · exfalso; omega
    · refine fz_if_eq (tgt := 24) kX9_run rfl (by decide) (fun c74 => ?_) (fun c74 => ?_)
      · refine fz_iconst ⟨by decide, by decide⟩ kX9_run rfl ?_
        exact fz_iret kX9_run rfl rfl (fun _ => ⟨hI, hf, _, rfl, (by omega), (by first | rfl | (rw [lost, lost]) | (rw [lost]) | (rw [hp3]) | (exfalso; omega)), (by simp only [List.length_cons, List.length_nil]; omega), (by first | exact fz_tc2 lost lost lost (by omega) (by simp only [List.length_cons, List.length_nil]; omega) | exact fz_tc1 lost lost (by omega) | exact fz_tc0 lost | exact lost | (exfalso; omega))⟩)
      · exfalso; omega

abbrev qX9_run_5_5_0 (h : fz_H) (x dp w : Int) : fz_H → Option fz_V → Prop := fun h' r0 => fz_Iv h' ∧ fz_fr [(44, 3), (46, 99999)] h h' ∧ ∃ r : Int, r0 = some (fz_i r) ∧ (h' 44 3 = h 44 3 + 1) ∧ (r = fz_w (x + w)) ∧ (h' 44 3 = h 44 3 + ([1] : List Int).length) ∧ (h' 46 = fz_tr (h 46) (h 44 3) [1])
set_option maxHeartbeats 1000000 in
set_option maxRecDepth 100000 in
theorem sX9_run_5_5_0 (h : fz_H) (hI : fz_Iv h) (x dp w : Int) (hp0 : h 44 5 = 5) (hp1 : 0 ≤ dp ∧ dp ≤ 39) (hp2 : 0 ≤ h 44 3 ∧ h 44 3 ≤ 899) (hp3 : h 44 4 = w) : fz_R 1 mX9_run 0 [(0, fz_r 44), (1, fz_i 5), (2, fz_i 0), (3, fz_i x), (4, fz_i dp)] [] h (qX9_run_5_5_0 h x dp w) := by
  refine fz_knowl (fun hk => ?_)
  have hr_x : -2147483648 ≤ x ∧ x < 2147483648 := hk _ (List.Mem.tail _ (List.Mem.tail _ (List.Mem.tail _ (List.Mem.head _))))
  have hr_dp : -2147483648 ≤ dp ∧ dp < 2147483648 := hk _ (List.Mem.tail _ (List.Mem.tail _ (List.Mem.tail _ (List.Mem.tail _ (List.Mem.head _)))))
  clear hk
  have hf : fz_fr [(44, 3), (46, 99999)] h h := fz_fr_rf
  have b1 : 0 ≤ h 44 5 ∧ h 44 5 ≤ 7 := hI.1 44 _
  have b2 : (-2147483648) ≤ h 44 3 ∧ h 44 3 ≤ 2147483647 := hI.1 44 _
  have b3 : 0 ≤ h 44 4 ∧ h 44 4 ≤ 49 := hI.1 44 _
  refine fz_iload kX9_run rfl rfl ?_
  refine fz_bipush ⟨by decide, by decide⟩ kX9_run rfl ?_
  refine fz_icmp_gt (tgt := 24) kX9_run rfl (by decide) (fun c4 => ?_) (fun c4 => ?_)
  · exfalso; omega
  · refine fz_aload_n kX9_run rfl rfl ?_
    refine fz_iload_n kX9_run rfl rfl ?_
    refine fz_callV (d' := 0) (M' := mX9_isKind) (As := [fz_i 5]) (st := []) kX9_run rfl rfl vX9_isKind rfl rfl rfl rfl (Nat.le_of_ble_eq_true rfl) (Nat.le_of_ble_eq_true rfl) (by decide) (sX9_isKind h hI 5 ) (fun H5 r6 q7 o8 => ?_)
    obtain ⟨e9, y10, rfl, p11⟩ := q7
    subst H5
    clear o8
    rcases p11 with ⟨rfl, c12⟩ | ⟨rfl, c12⟩
    · refine fz_if_eq (tgt := 24) kX9_run rfl (by decide) (fun c13 => ?_) (fun c13 => ?_)
      · exfalso; omega
      · refine fz_iload_n kX9_run rfl rfl ?_
        refine fz_if_lt (tgt := 24) kX9_run rfl (by decide) (fun c14 => ?_) (fun c14 => ?_)
        · exfalso; omega
        · refine fz_iload_n kX9_run rfl rfl ?_
          refine fz_iconst ⟨by decide, by decide⟩ kX9_run rfl ?_
          refine fz_icmp_lt (tgt := 26) kX9_run rfl (by decide) (fun c15 => ?_) (fun c15 => ?_)
          · refine fz_iload_n kX9_run rfl rfl ?_
            refine fz_iload_n kX9_run rfl rfl ?_
            refine fz_callS (d' := 0) (M' := mX9_ownerFrom) (As := [fz_i 5, fz_i 0]) (st := []) kX9_run rfl rfl vX9_ownerFrom rfl rfl (Nat.le_of_ble_eq_true rfl) (Nat.le_of_ble_eq_true rfl) (by decide) (sX9_ownerFrom_5_0 h hI  ) (fun H16 r17 q18 o19 => ?_)
            obtain ⟨e20, y22, rfl, f21⟩ := q18
            subst H16
            clear o19
            refine fz_eqi (show y22 = 0 by omega) ?_
            refine fz_istore (ls' := [(5, fz_i 0), (0, fz_r 44), (1, fz_i 5), (2, fz_i 0), (3, fz_i x), (4, fz_i dp)]) kX9_run rfl (by decide) rfl ?_
            refine fz_gets kX9_run rfl ?_
            refine fz_iload kX9_run rfl rfl ?_
            refine fz_taldV (v := (-1)) kX9_run rfl ⟨by decide, by decide⟩ (by omega) (by rw [hI.2.2.2.2]; decide) (by rw [hI.2.2.2.2]; rfl) ?_
            refine fz_istore (ls' := [(6, fz_i (-1)), (5, fz_i 0), (0, fz_r 44), (1, fz_i 5), (2, fz_i 0), (3, fz_i x), (4, fz_i dp)]) kX9_run rfl (by decide) rfl ?_
            refine fz_iload kX9_run rfl rfl ?_
            refine fz_iconst ⟨by decide, by decide⟩ kX9_run rfl ?_
            refine fz_iaddN kX9_run rfl (by omega) ?_
            refine fz_istore (ls' := [(7, fz_i (dp + 1)), (6, fz_i (-1)), (5, fz_i 0), (0, fz_r 44), (1, fz_i 5), (2, fz_i 0), (3, fz_i x), (4, fz_i dp)]) kX9_run rfl (by decide) rfl ?_
            refine fz_gets kX9_run rfl ?_
            refine fz_iload kX9_run rfl rfl ?_
            refine fz_iconst ⟨by decide, by decide⟩ kX9_run rfl ?_
            refine fz_imulN kX9_run rfl ⟨by decide, by decide⟩ ?_
            refine fz_eqi (y := 0) rfl ?_
            refine fz_iload_n kX9_run rfl rfl ?_
            refine fz_iaddN kX9_run rfl ⟨by decide, by decide⟩ ?_
            refine fz_eqi (y := 0) rfl ?_
            refine fz_taldV (v := 1) kX9_run rfl ⟨by decide, by decide⟩ (by omega) (by rw [hI.2.2.2.1]; decide) (by rw [hI.2.2.2.1]; rfl) ?_
            refine fz_istore (ls' := [(8, fz_i 1), (7, fz_i (dp + 1)), (6, fz_i (-1)), (5, fz_i 0), (0, fz_r 44), (1, fz_i 5), (2, fz_i 0), (3, fz_i x), (4, fz_i dp)]) kX9_run rfl (by decide) rfl ?_
            refine fz_aload_n kX9_run rfl rfl ?_
            refine fz_iload kX9_run rfl rfl ?_
            refine fz_callV (d' := 0) (M' := mX9_note) (As := [fz_i 1]) (st := []) kX9_run rfl rfl vX9_note rfl rfl rfl rfl (Nat.le_of_ble_eq_true rfl) (Nat.le_of_ble_eq_true rfl) (by decide) (sX9_note h hI 1 (by omega)) (fun H27 r28 q29 o30 => ?_)
            obtain ⟨hI31, hf32, rfl, f33, f34⟩ := q29
            clear o30
            have hf35 := fz_fr_tr hf hf32 (show fz_su [(44, 3), (46, 99999)] [(44, 3), (46, 99999)] = true from rfl)
            have t36 : H27 44 4 = h 44 4 := hf32 44 4 rfl
            refine fz_iload kX9_run rfl rfl ?_
            refine fz_lsw (tgt := 180) kX9_run rfl (by decide) (show Op.lookupswitch.offset [(1, 113), (2, 120), (10, 146), (11, 161), (20, 168), (30, 181), (40, 193), (41, 206), (50, 219), (60, 243), (70, 256), (80, 269), (81, 293)] 306 1 = 113 from rfl) (by decide) ?_
            refine fz_iload_n kX9_run rfl rfl ?_
            refine fz_aload_n kX9_run rfl rfl ?_
            refine fz_getV (v := h 44 4) kX9_run rfl rfl (hf35 44 4 rfl) ?_
            have b37 : 0 ≤ h 44 4 ∧ h 44 4 ≤ 49 := hI.1 44 _
            refine fz_iadd kX9_run rfl ?_
            have b38 := fz_w_b (x + (h 44 4))
            exact fz_iret kX9_run rfl rfl (fun _ => ⟨hI31, hf35, _, rfl, (by omega), (by first | rfl | (rw [lost, lost]) | (rw [lost]) | (rw [hp3]) | (exfalso; omega)), (by simp only [List.length_cons, List.length_nil]; omega), (by first | exact fz_tc2 f34 lost lost (by omega) (by simp only [List.length_cons, List.length_nil]; omega) | exact fz_tc1 f34 lost (by omega) | exact fz_tc0 f34 | exact lost | (exfalso; omega))⟩)
          · exfalso; omega
    · refine fz_if_eq (tgt := 24) kX9_run rfl (by decide) (fun c42 => ?_) (fun c42 => ?_)
      · refine fz_iconst ⟨by decide, by decide⟩ kX9_run rfl ?_
        exact fz_iret kX9_run rfl rfl (fun _ => ⟨hI, hf, _, rfl, (by omega), (by first | rfl | (rw [lost, lost]) | (rw [lost]) | (rw [hp3]) | (exfalso; omega)), (by simp only [List.length_cons, List.length_nil]; omega), (by first | exact fz_tc2 lost lost lost (by omega) (by simp only [List.length_cons, List.length_nil]; omega) | exact fz_tc1 lost lost (by omega) | exact fz_tc0 lost | exact lost | (exfalso; omega))⟩)
      · exfalso; omega

abbrev qX9_run_5_0_1 (h : fz_H) (x dp w : Int) : fz_H → Option fz_V → Prop := fun h' r0 => fz_Iv h' ∧ fz_fr [(44, 3), (46, 99999)] h h' ∧ ∃ r : Int, r0 = some (fz_i r) ∧ (h' 44 3 = h 44 3 + 2) ∧ (r = fz_w (fz_w (x + w) * 2)) ∧ (h' 44 3 = h 44 3 + ([10, 1] : List Int).length) ∧ (h' 46 = fz_tr (h 46) (h 44 3) [10, 1])
set_option maxHeartbeats 1000000 in
set_option maxRecDepth 100000 in
theorem sX9_run_5_0_1 (h : fz_H) (hI : fz_Iv h) (x dp w : Int) (hp0 : h 44 5 = 5) (hp1 : 0 ≤ dp ∧ dp ≤ 38) (hp2 : 0 ≤ h 44 3 ∧ h 44 3 ≤ 898) (hp3 : h 44 4 = w) : fz_R 2 mX9_run 0 [(0, fz_r 44), (1, fz_i 0), (2, fz_i 1), (3, fz_i x), (4, fz_i dp)] [] h (qX9_run_5_0_1 h x dp w) := by
  refine fz_knowl (fun hk => ?_)
  have hr_x : -2147483648 ≤ x ∧ x < 2147483648 := hk _ (List.Mem.tail _ (List.Mem.tail _ (List.Mem.tail _ (List.Mem.head _))))
  have hr_dp : -2147483648 ≤ dp ∧ dp < 2147483648 := hk _ (List.Mem.tail _ (List.Mem.tail _ (List.Mem.tail _ (List.Mem.tail _ (List.Mem.head _)))))
  clear hk
  have hf : fz_fr [(44, 3), (46, 99999)] h h := fz_fr_rf
  have b1 : 0 ≤ h 44 5 ∧ h 44 5 ≤ 7 := hI.1 44 _
  have b2 : (-2147483648) ≤ h 44 3 ∧ h 44 3 ≤ 2147483647 := hI.1 44 _
  have b3 : 0 ≤ h 44 4 ∧ h 44 4 ≤ 49 := hI.1 44 _
  refine fz_iload kX9_run rfl rfl ?_
  refine fz_bipush ⟨by decide, by decide⟩ kX9_run rfl ?_
  refine fz_icmp_gt (tgt := 24) kX9_run rfl (by decide) (fun c4 => ?_) (fun c4 => ?_)
  · exfalso; omega
  · refine fz_aload_n kX9_run rfl rfl ?_
    refine fz_iload_n kX9_run rfl rfl ?_
    refine fz_callV (d' := 0) (M' := mX9_isKind) (As := [fz_i 0]) (st := []) kX9_run rfl rfl vX9_isKind rfl rfl rfl rfl (Nat.le_of_ble_eq_true rfl) (Nat.le_of_ble_eq_true rfl) (by decide) (sX9_isKind h hI 0 ) (fun H5 r6 q7 o8 => ?_)
    obtain ⟨e9, y10, rfl, p11⟩ := q7
    subst H5
    clear o8
    rcases p11 with ⟨rfl, c12⟩ | ⟨rfl, c12⟩
    · refine fz_if_eq (tgt := 24) kX9_run rfl (by decide) (fun c13 => ?_) (fun c13 => ?_)
      · exfalso; omega
      · refine fz_iload_n kX9_run rfl rfl ?_
        refine fz_if_lt (tgt := 24) kX9_run rfl (by decide) (fun c14 => ?_) (fun c14 => ?_)
        · exfalso; omega
        · refine fz_iload_n kX9_run rfl rfl ?_
          refine fz_iconst ⟨by decide, by decide⟩ kX9_run rfl ?_
          refine fz_icmp_lt (tgt := 26) kX9_run rfl (by decide) (fun c15 => ?_) (fun c15 => ?_)
          · refine fz_iload_n kX9_run rfl rfl ?_
            refine fz_iload_n kX9_run rfl rfl ?_
            refine fz_callS (d' := 0) (M' := mX9_ownerFrom) (As := [fz_i 0, fz_i 1]) (st := []) kX9_run rfl rfl vX9_ownerFrom rfl rfl (Nat.le_of_ble_eq_true rfl) (Nat.le_of_ble_eq_true rfl) (by decide) (sX9_ownerFrom_0_1 h hI  ) (fun H16 r17 q18 o19 => ?_)
            obtain ⟨e20, y22, rfl, f21⟩ := q18
            subst H16
            clear o19
            refine fz_eqi (show y22 = 0 by omega) ?_
            refine fz_istore (ls' := [(5, fz_i 0), (0, fz_r 44), (1, fz_i 0), (2, fz_i 1), (3, fz_i x), (4, fz_i dp)]) kX9_run rfl (by decide) rfl ?_
            refine fz_gets kX9_run rfl ?_
            refine fz_iload kX9_run rfl rfl ?_
            refine fz_taldV (v := (-1)) kX9_run rfl ⟨by decide, by decide⟩ (by omega) (by rw [hI.2.2.2.2]; decide) (by rw [hI.2.2.2.2]; rfl) ?_
            refine fz_istore (ls' := [(6, fz_i (-1)), (5, fz_i 0), (0, fz_r 44), (1, fz_i 0), (2, fz_i 1), (3, fz_i x), (4, fz_i dp)]) kX9_run rfl (by decide) rfl ?_
            refine fz_iload kX9_run rfl rfl ?_
            refine fz_iconst ⟨by decide, by decide⟩ kX9_run rfl ?_
            refine fz_iaddN kX9_run rfl (by omega) ?_
            refine fz_istore (ls' := [(7, fz_i (dp + 1)), (6, fz_i (-1)), (5, fz_i 0), (0, fz_r 44), (1, fz_i 0), (2, fz_i 1), (3, fz_i x), (4, fz_i dp)]) kX9_run rfl (by decide) rfl ?_
            refine fz_gets kX9_run rfl ?_
            refine fz_iload kX9_run rfl rfl ?_
            refine fz_iconst ⟨by decide, by decide⟩ kX9_run rfl ?_
            refine fz_imulN kX9_run rfl ⟨by decide, by decide⟩ ?_
            refine fz_eqi (y := 0) rfl ?_
            refine fz_iload_n kX9_run rfl rfl ?_
            refine fz_iaddN kX9_run rfl ⟨by decide, by decide⟩ ?_
            refine fz_eqi (y := 1) rfl ?_
            refine fz_taldV (v := 10) kX9_run rfl ⟨by decide, by decide⟩ (by omega) (by rw [hI.2.2.2.1]; decide) (by rw [hI.2.2.2.1]; rfl) ?_
            refine fz_istore (ls' := [(8, fz_i 10), (7, fz_i (dp + 1)), (6, fz_i (-1)), (5, fz_i 0), (0, fz_r 44), (1, fz_i 0), (2, fz_i 1), (3, fz_i x), (4, fz_i dp)]) kX9_run rfl (by decide) rfl ?_
            refine fz_aload_n kX9_run rfl rfl ?_
            refine fz_iload kX9_run rfl rfl ?_
            refine fz_callV (d' := 0) (M' := mX9_note) (As := [fz_i 10]) (st := []) kX9_run rfl rfl vX9_note rfl rfl rfl rfl (Nat.le_of_ble_eq_true rfl) (Nat.le_of_ble_eq_true rfl) (by decide) (sX9_note h hI 10 (by omega)) (fun H27 r28 q29 o30 => ?_)
            obtain ⟨hI31, hf32, rfl, f33, f34⟩ := q29
            clear o30
            have hf35 := fz_fr_tr hf hf32 (show fz_su [(44, 3), (46, 99999)] [(44, 3), (46, 99999)] = true from rfl)
            have t36 : H27 44 4 = h 44 4 := hf32 44 4 rfl
            refine fz_iload kX9_run rfl rfl ?_
            refine fz_lsw (tgt := 213) kX9_run rfl (by decide) (show Op.lookupswitch.offset [(1, 113), (2, 120), (10, 146), (11, 161), (20, 168), (30, 181), (40, 193), (41, 206), (50, 219), (60, 243), (70, 256), (80, 269), (81, 293)] 306 10 = 146 from rfl) (by decide) ?_
            refine fz_aload_n kX9_run rfl rfl ?_
            refine fz_aload_n kX9_run rfl rfl ?_
            refine fz_getV (v := h 44 5) kX9_run rfl rfl (hf35 44 5 rfl) ?_
            have b37 : 0 ≤ h 44 5 ∧ h 44 5 ≤ 7 := hI.1 44 _
            refine fz_eqi (show (h 44 5) = 5 by omega) ?_
            refine fz_iconst ⟨by decide, by decide⟩ kX9_run rfl ?_
            refine fz_iload_n kX9_run rfl rfl ?_
            refine fz_iload kX9_run rfl rfl ?_
            have b38 : (-2147483648) ≤ H27 44 3 ∧ H27 44 3 ≤ 2147483647 := hI31.1 44 _
            have e39 : H27 44 5 = h 44 5 := hf35 44 5 rfl
            have e40 : H27 44 4 = h 44 4 := hf35 44 4 rfl
            refine fz_callV (d' := 1) (M' := mX9_run) (As := [fz_i 5, fz_i 0, fz_i x, fz_i (dp + 1)]) (st := []) kX9_run rfl rfl vX9_run rfl rfl rfl rfl (Nat.le_of_ble_eq_true rfl) (Nat.le_of_ble_eq_true rfl) (by decide) (sX9_run_5_5_0 H27 hI31 x (dp + 1) w (by omega) (by omega) (by omega) (by omega)) (fun H41 r42 q43 o44 => ?_)
            obtain ⟨hI45, hf46, y51, rfl, f47, f48, f49, f50⟩ := q43
            clear o44
            have hf52 := fz_fr_tr hf35 hf46 (show fz_su [(44, 3), (46, 99999)] [(44, 3), (46, 99999)] = true from rfl)
            have t53 : H41 44 4 = H27 44 4 := hf46 44 4 rfl
            refine fz_iconst ⟨by decide, by decide⟩ kX9_run rfl ?_
            refine fz_imul kX9_run rfl ?_
            have b54 := fz_w_b (y51 * 2)
            exact fz_iret kX9_run rfl rfl (fun _ => ⟨hI45, hf52, _, rfl, (by omega), (by first | rfl | (rw [f48, lost]) | (rw [f48]) | (rw [hp3]) | (exfalso; omega)), (by simp only [List.length_cons, List.length_nil]; omega), (by first | exact fz_tc2 f34 f50 lost (by omega) (by simp only [List.length_cons, List.length_nil]; omega) | exact fz_tc1 f34 f50 (by omega) | exact fz_tc0 f34 | exact f50 | (exfalso; omega))⟩)
          · exfalso; omega
    · refine fz_if_eq (tgt := 24) kX9_run rfl (by decide) (fun c58 => ?_) (fun c58 => ?_)
      · refine fz_iconst ⟨by decide, by decide⟩ kX9_run rfl ?_
        exact fz_iret kX9_run rfl rfl (fun _ => ⟨hI, hf, _, rfl, (by omega), (by first | rfl | (rw [lost, lost]) | (rw [lost]) | (rw [hp3]) | (exfalso; omega)), (by simp only [List.length_cons, List.length_nil]; omega), (by first | exact fz_tc2 lost lost lost (by omega) (by simp only [List.length_cons, List.length_nil]; omega) | exact fz_tc1 lost lost (by omega) | exact fz_tc0 lost | exact lost | (exfalso; omega))⟩)
      · exfalso; omega

abbrev qX9_run_5_2_1 (h : fz_H) (x dp w : Int) : fz_H → Option fz_V → Prop := fun h' r0 => fz_Iv h' ∧ fz_fr [(44, 3), (46, 99999)] h h' ∧ ∃ r : Int, r0 = some (fz_i r) ∧ (h' 44 3 = h 44 3 + 3) ∧ (r = fz_w (-(fz_w (fz_w (x + w) * 2)))) ∧ (h' 44 3 = h 44 3 + ([30, 10, 1] : List Int).length) ∧ (h' 46 = fz_tr (h 46) (h 44 3) [30, 10, 1])
set_option maxHeartbeats 1000000 in
set_option maxRecDepth 100000 in
theorem sX9_run_5_2_1 (h : fz_H) (hI : fz_Iv h) (x dp w : Int) (hp0 : h 44 5 = 5) (hp1 : 0 ≤ dp ∧ dp ≤ 37) (hp2 : 0 ≤ h 44 3 ∧ h 44 3 ≤ 897) (hp3 : h 44 4 = w) : fz_R 3 mX9_run 0 [(0, fz_r 44), (1, fz_i 2), (2, fz_i 1), (3, fz_i x), (4, fz_i dp)] [] h (qX9_run_5_2_1 h x dp w) := by
  refine fz_knowl (fun hk => ?_)
  have hr_x : -2147483648 ≤ x ∧ x < 2147483648 := hk _ (List.Mem.tail _ (List.Mem.tail _ (List.Mem.tail _ (List.Mem.head _))))
  have hr_dp : -2147483648 ≤ dp ∧ dp < 2147483648 := hk _ (List.Mem.tail _ (List.Mem.tail _ (List.Mem.tail _ (List.Mem.tail _ (List.Mem.head _)))))
  clear hk
  have hf : fz_fr [(44, 3), (46, 99999)] h h := fz_fr_rf
  have b1 : 0 ≤ h 44 5 ∧ h 44 5 ≤ 7 := hI.1 44 _
  have b2 : (-2147483648) ≤ h 44 3 ∧ h 44 3 ≤ 2147483647 := hI.1 44 _
  have b3 : 0 ≤ h 44 4 ∧ h 44 4 ≤ 49 := hI.1 44 _
  refine fz_iload kX9_run rfl rfl ?_
  refine fz_bipush ⟨by decide, by decide⟩ kX9_run rfl ?_
  refine fz_icmp_gt (tgt := 24) kX9_run rfl (by decide) (fun c4 => ?_) (fun c4 => ?_)
  · exfalso; omega
  · refine fz_aload_n kX9_run rfl rfl ?_
    refine fz_iload_n kX9_run rfl rfl ?_
    refine fz_callV (d' := 0) (M' := mX9_isKind) (As := [fz_i 2]) (st := []) kX9_run rfl rfl vX9_isKind rfl rfl rfl rfl (Nat.le_of_ble_eq_true rfl) (Nat.le_of_ble_eq_true rfl) (by decide) (sX9_isKind h hI 2 ) (fun H5 r6 q7 o8 => ?_)
    obtain ⟨e9, y10, rfl, p11⟩ := q7
    subst H5
    clear o8
    rcases p11 with ⟨rfl, c12⟩ | ⟨rfl, c12⟩
    · refine fz_if_eq (tgt := 24) kX9_run rfl (by decide) (fun c13 => ?_) (fun c13 => ?_)
      · exfalso; omega
      · refine fz_iload_n kX9_run rfl rfl ?_
        refine fz_if_lt (tgt := 24) kX9_run rfl (by decide) (fun c14 => ?_) (fun c14 => ?_)
        · exfalso; omega
        · refine fz_iload_n kX9_run rfl rfl ?_
          refine fz_iconst ⟨by decide, by decide⟩ kX9_run rfl ?_
          refine fz_icmp_lt (tgt := 26) kX9_run rfl (by decide) (fun c15 => ?_) (fun c15 => ?_)
          · refine fz_iload_n kX9_run rfl rfl ?_
            refine fz_iload_n kX9_run rfl rfl ?_
            refine fz_callS (d' := 0) (M' := mX9_ownerFrom) (As := [fz_i 2, fz_i 1]) (st := []) kX9_run rfl rfl vX9_ownerFrom rfl rfl (Nat.le_of_ble_eq_true rfl) (Nat.le_of_ble_eq_true rfl) (by decide) (sX9_ownerFrom_2_1 h hI  ) (fun H16 r17 q18 o19 => ?_)
            obtain ⟨e20, y22, rfl, f21⟩ := q18
            subst H16
            clear o19
            refine fz_eqi (show y22 = 2 by omega) ?_
            refine fz_istore (ls' := [(5, fz_i 2), (0, fz_r 44), (1, fz_i 2), (2, fz_i 1), (3, fz_i x), (4, fz_i dp)]) kX9_run rfl (by decide) rfl ?_
            refine fz_gets kX9_run rfl ?_
            refine fz_iload kX9_run rfl rfl ?_
            refine fz_taldV (v := 0) kX9_run rfl ⟨by decide, by decide⟩ (by omega) (by rw [hI.2.2.2.2]; decide) (by rw [hI.2.2.2.2]; rfl) ?_
            refine fz_istore (ls' := [(6, fz_i 0), (5, fz_i 2), (0, fz_r 44), (1, fz_i 2), (2, fz_i 1), (3, fz_i x), (4, fz_i dp)]) kX9_run rfl (by decide) rfl ?_
            refine fz_iload kX9_run rfl rfl ?_
            refine fz_iconst ⟨by decide, by decide⟩ kX9_run rfl ?_
            refine fz_iaddN kX9_run rfl (by omega) ?_
            refine fz_istore (ls' := [(7, fz_i (dp + 1)), (6, fz_i 0), (5, fz_i 2), (0, fz_r 44), (1, fz_i 2), (2, fz_i 1), (3, fz_i x), (4, fz_i dp)]) kX9_run rfl (by decide) rfl ?_
            refine fz_gets kX9_run rfl ?_
            refine fz_iload kX9_run rfl rfl ?_
            refine fz_iconst ⟨by decide, by decide⟩ kX9_run rfl ?_
            refine fz_imulN kX9_run rfl ⟨by decide, by decide⟩ ?_
            refine fz_eqi (y := 8) rfl ?_
            refine fz_iload_n kX9_run rfl rfl ?_
            refine fz_iaddN kX9_run rfl ⟨by decide, by decide⟩ ?_
            refine fz_eqi (y := 9) rfl ?_
            refine fz_taldV (v := 30) kX9_run rfl ⟨by decide, by decide⟩ (by omega) (by rw [hI.2.2.2.1]; decide) (by rw [hI.2.2.2.1]; rfl) ?_
            refine fz_istore (ls' := [(8, fz_i 30), (7, fz_i (dp + 1)), (6, fz_i 0), (5, fz_i 2), (0, fz_r 44), (1, fz_i 2), (2, fz_i 1), (3, fz_i x), (4, fz_i dp)]) kX9_run rfl (by decide) rfl ?_
            refine fz_aload_n kX9_run rfl rfl ?_
            refine fz_iload kX9_run rfl rfl ?_
            refine fz_callV (d' := 0) (M' := mX9_note) (As := [fz_i 30]) (st := []) kX9_run rfl rfl vX9_note rfl rfl rfl rfl (Nat.le_of_ble_eq_true rfl) (Nat.le_of_ble_eq_true rfl) (by decide) (sX9_note h hI 30 (by omega)) (fun H27 r28 q29 o30 => ?_)
            obtain ⟨hI31, hf32, rfl, f33, f34⟩ := q29
            clear o30
            have hf35 := fz_fr_tr hf hf32 (show fz_su [(44, 3), (46, 99999)] [(44, 3), (46, 99999)] = true from rfl)
            have t36 : H27 44 4 = h 44 4 := hf32 44 4 rfl
            refine fz_iload kX9_run rfl rfl ?_
            refine fz_lsw (tgt := 248) kX9_run rfl (by decide) (show Op.lookupswitch.offset [(1, 113), (2, 120), (10, 146), (11, 161), (20, 168), (30, 181), (40, 193), (41, 206), (50, 219), (60, 243), (70, 256), (80, 269), (81, 293)] 306 30 = 181 from rfl) (by decide) ?_
            refine fz_aload_n kX9_run rfl rfl ?_
            refine fz_iload kX9_run rfl rfl ?_
            refine fz_iconst ⟨by decide, by decide⟩ kX9_run rfl ?_
            refine fz_iload_n kX9_run rfl rfl ?_
            refine fz_iload kX9_run rfl rfl ?_
            have b37 : (-2147483648) ≤ H27 44 3 ∧ H27 44 3 ≤ 2147483647 := hI31.1 44 _
            have e38 : H27 44 5 = h 44 5 := hf35 44 5 rfl
            have e39 : H27 44 4 = h 44 4 := hf35 44 4 rfl
            refine fz_callV (d' := 2) (M' := mX9_run) (As := [fz_i 0, fz_i 1, fz_i x, fz_i (dp + 1)]) (st := []) kX9_run rfl rfl vX9_run rfl rfl rfl rfl (Nat.le_of_ble_eq_true rfl) (Nat.le_of_ble_eq_true rfl) (by decide) (sX9_run_5_0_1 H27 hI31 x (dp + 1) w (by omega) (by omega) (by omega) (by omega)) (fun H40 r41 q42 o43 => ?_)
            obtain ⟨hI44, hf45, y50, rfl, f46, f47, f48, f49⟩ := q42
            clear o43
            have hf51 := fz_fr_tr hf35 hf45 (show fz_su [(44, 3), (46, 99999)] [(44, 3), (46, 99999)] = true from rfl)
            have t52 : H40 44 4 = H27 44 4 := hf45 44 4 rfl
            refine fz_ineg kX9_run rfl ?_
            have b53 := fz_w_b (-y50)
            exact fz_iret kX9_run rfl rfl (fun _ => ⟨hI44, hf51, _, rfl, (by omega), (by first | rfl | (rw [f47, lost]) | (rw [f47]) | (rw [hp3]) | (exfalso; omega)), (by simp only [List.length_cons, List.length_nil]; omega), (by first | exact fz_tc2 f34 f49 lost (by omega) (by simp only [List.length_cons, List.length_nil]; omega) | exact fz_tc1 f34 f49 (by omega) | exact fz_tc0 f34 | exact f49 | (exfalso; omega))⟩)
          · exfalso; omega
    · refine fz_if_eq (tgt := 24) kX9_run rfl (by decide) (fun c57 => ?_) (fun c57 => ?_)
      · refine fz_iconst ⟨by decide, by decide⟩ kX9_run rfl ?_
        exact fz_iret kX9_run rfl rfl (fun _ => ⟨hI, hf, _, rfl, (by omega), (by first | rfl | (rw [lost, lost]) | (rw [lost]) | (rw [hp3]) | (exfalso; omega)), (by simp only [List.length_cons, List.length_nil]; omega), (by first | exact fz_tc2 lost lost lost (by omega) (by simp only [List.length_cons, List.length_nil]; omega) | exact fz_tc1 lost lost (by omega) | exact fz_tc0 lost | exact lost | (exfalso; omega))⟩)
      · exfalso; omega

abbrev qX9_run_5_5_1 (h : fz_H) (x dp w : Int) : fz_H → Option fz_V → Prop := fun h' r0 => fz_Iv h' ∧ fz_fr [(44, 3), (46, 99999)] h h' ∧ ∃ r : Int, r0 = some (fz_i r) ∧ (h' 44 3 = h 44 3 + 4) ∧ (r = fz_w (-(fz_w (fz_w (((fz_w (x + 1))) + w) * 2)))) ∧ (h' 44 3 = h 44 3 + ([41, 30, 10, 1] : List Int).length) ∧ (h' 46 = fz_tr (h 46) (h 44 3) [41, 30, 10, 1])
set_option maxHeartbeats 1000000 in
set_option maxRecDepth 100000 in
theorem sX9_run_5_5_1 (h : fz_H) (hI : fz_Iv h) (x dp w : Int) (hp0 : h 44 5 = 5) (hp1 : 0 ≤ dp ∧ dp ≤ 36) (hp2 : 0 ≤ h 44 3 ∧ h 44 3 ≤ 896) (hp3 : h 44 4 = w) : fz_R 4 mX9_run 0 [(0, fz_r 44), (1, fz_i 5), (2, fz_i 1), (3, fz_i x), (4, fz_i dp)] [] h (qX9_run_5_5_1 h x dp w) := by
  refine fz_knowl (fun hk => ?_)
  have hr_x : -2147483648 ≤ x ∧ x < 2147483648 := hk _ (List.Mem.tail _ (List.Mem.tail _ (List.Mem.tail _ (List.Mem.head _))))
  have hr_dp : -2147483648 ≤ dp ∧ dp < 2147483648 := hk _ (List.Mem.tail _ (List.Mem.tail _ (List.Mem.tail _ (List.Mem.tail _ (List.Mem.head _)))))
  clear hk
  have hf : fz_fr [(44, 3), (46, 99999)] h h := fz_fr_rf
  have b1 : 0 ≤ h 44 5 ∧ h 44 5 ≤ 7 := hI.1 44 _
  have b2 : (-2147483648) ≤ h 44 3 ∧ h 44 3 ≤ 2147483647 := hI.1 44 _
  have b3 : 0 ≤ h 44 4 ∧ h 44 4 ≤ 49 := hI.1 44 _
  refine fz_iload kX9_run rfl rfl ?_
  refine fz_bipush ⟨by decide, by decide⟩ kX9_run rfl ?_
  refine fz_icmp_gt (tgt := 24) kX9_run rfl (by decide) (fun c4 => ?_) (fun c4 => ?_)
  · exfalso; omega
  · refine fz_aload_n kX9_run rfl rfl ?_
    refine fz_iload_n kX9_run rfl rfl ?_
    refine fz_callV (d' := 0) (M' := mX9_isKind) (As := [fz_i 5]) (st := []) kX9_run rfl rfl vX9_isKind rfl rfl rfl rfl (Nat.le_of_ble_eq_true rfl) (Nat.le_of_ble_eq_true rfl) (by decide) (sX9_isKind h hI 5 ) (fun H5 r6 q7 o8 => ?_)
    obtain ⟨e9, y10, rfl, p11⟩ := q7
    subst H5
    clear o8
    rcases p11 with ⟨rfl, c12⟩ | ⟨rfl, c12⟩
    · refine fz_if_eq (tgt := 24) kX9_run rfl (by decide) (fun c13 => ?_) (fun c13 => ?_)
      · exfalso; omega
      · refine fz_iload_n kX9_run rfl rfl ?_
        refine fz_if_lt (tgt := 24) kX9_run rfl (by decide) (fun c14 => ?_) (fun c14 => ?_)
        · exfalso; omega
        · refine fz_iload_n kX9_run rfl rfl ?_
          refine fz_iconst ⟨by decide, by decide⟩ kX9_run rfl ?_
          refine fz_icmp_lt (tgt := 26) kX9_run rfl (by decide) (fun c15 => ?_) (fun c15 => ?_)
          · refine fz_iload_n kX9_run rfl rfl ?_
            refine fz_iload_n kX9_run rfl rfl ?_
            refine fz_callS (d' := 0) (M' := mX9_ownerFrom) (As := [fz_i 5, fz_i 1]) (st := []) kX9_run rfl rfl vX9_ownerFrom rfl rfl (Nat.le_of_ble_eq_true rfl) (Nat.le_of_ble_eq_true rfl) (by decide) (sX9_ownerFrom_5_1 h hI  ) (fun H16 r17 q18 o19 => ?_)
            obtain ⟨e20, y22, rfl, f21⟩ := q18
            subst H16
            clear o19
            refine fz_eqi (show y22 = 3 by omega) ?_
            refine fz_istore (ls' := [(5, fz_i 3), (0, fz_r 44), (1, fz_i 5), (2, fz_i 1), (3, fz_i x), (4, fz_i dp)]) kX9_run rfl (by decide) rfl ?_
            refine fz_gets kX9_run rfl ?_
            refine fz_iload kX9_run rfl rfl ?_
            refine fz_taldV (v := 2) kX9_run rfl ⟨by decide, by decide⟩ (by omega) (by rw [hI.2.2.2.2]; decide) (by rw [hI.2.2.2.2]; rfl) ?_
            refine fz_istore (ls' := [(6, fz_i 2), (5, fz_i 3), (0, fz_r 44), (1, fz_i 5), (2, fz_i 1), (3, fz_i x), (4, fz_i dp)]) kX9_run rfl (by decide) rfl ?_
            refine fz_iload kX9_run rfl rfl ?_
            refine fz_iconst ⟨by decide, by decide⟩ kX9_run rfl ?_
            refine fz_iaddN kX9_run rfl (by omega) ?_
            refine fz_istore (ls' := [(7, fz_i (dp + 1)), (6, fz_i 2), (5, fz_i 3), (0, fz_r 44), (1, fz_i 5), (2, fz_i 1), (3, fz_i x), (4, fz_i dp)]) kX9_run rfl (by decide) rfl ?_
            refine fz_gets kX9_run rfl ?_
            refine fz_iload kX9_run rfl rfl ?_
            refine fz_iconst ⟨by decide, by decide⟩ kX9_run rfl ?_
            refine fz_imulN kX9_run rfl ⟨by decide, by decide⟩ ?_
            refine fz_eqi (y := 12) rfl ?_
            refine fz_iload_n kX9_run rfl rfl ?_
            refine fz_iaddN kX9_run rfl ⟨by decide, by decide⟩ ?_
            refine fz_eqi (y := 13) rfl ?_
            refine fz_taldV (v := 41) kX9_run rfl ⟨by decide, by decide⟩ (by omega) (by rw [hI.2.2.2.1]; decide) (by rw [hI.2.2.2.1]; rfl) ?_
            refine fz_istore (ls' := [(8, fz_i 41), (7, fz_i (dp + 1)), (6, fz_i 2), (5, fz_i 3), (0, fz_r 44), (1, fz_i 5), (2, fz_i 1), (3, fz_i x), (4, fz_i dp)]) kX9_run rfl (by decide) rfl ?_
            refine fz_aload_n kX9_run rfl rfl ?_
            refine fz_iload kX9_run rfl rfl ?_
            refine fz_callV (d' := 0) (M' := mX9_note) (As := [fz_i 41]) (st := []) kX9_run rfl rfl vX9_note rfl rfl rfl rfl (Nat.le_of_ble_eq_true rfl) (Nat.le_of_ble_eq_true rfl) (by decide) (sX9_note h hI 41 (by omega)) (fun H27 r28 q29 o30 => ?_)
            obtain ⟨hI31, hf32, rfl, f33, f34⟩ := q29
            clear o30
            have hf35 := fz_fr_tr hf hf32 (show fz_su [(44, 3), (46, 99999)] [(44, 3), (46, 99999)] = true from rfl)
            have t36 : H27 44 4 = h 44 4 := hf32 44 4 rfl
            refine fz_iload kX9_run rfl rfl ?_
            refine fz_lsw (tgt := 273) kX9_run rfl (by decide) (show Op.lookupswitch.offset [(1, 113), (2, 120), (10, 146), (11, 161), (20, 168), (30, 181), (40, 193), (41, 206), (50, 219), (60, 243), (70, 256), (80, 269), (81, 293)] 306 41 = 206 from rfl) (by decide) ?_
            refine fz_aload_n kX9_run rfl rfl ?_
            refine fz_iload kX9_run rfl rfl ?_
            refine fz_iconst ⟨by decide, by decide⟩ kX9_run rfl ?_
            refine fz_iload_n kX9_run rfl rfl ?_
            refine fz_iconst ⟨by decide, by decide⟩ kX9_run rfl ?_
            refine fz_iadd kX9_run rfl ?_
            have b37 := fz_w_b (x + 1)
            refine fz_iload kX9_run rfl rfl ?_
            have b38 : (-2147483648) ≤ H27 44 3 ∧ H27 44 3 ≤ 2147483647 := hI31.1 44 _
            have e39 : H27 44 5 = h 44 5 := hf35 44 5 rfl
            have e40 : H27 44 4 = h 44 4 := hf35 44 4 rfl
            refine fz_callV (d' := 3) (M' := mX9_run) (As := [fz_i 2, fz_i 1, fz_i (fz_w (x + 1)), fz_i (dp + 1)]) (st := []) kX9_run rfl rfl vX9_run rfl rfl rfl rfl (Nat.le_of_ble_eq_true rfl) (Nat.le_of_ble_eq_true rfl) (by decide) (sX9_run_5_2_1 H27 hI31 (fz_w (x + 1)) (dp + 1) w (by omega) (by omega) (by omega) (by omega)) (fun H41 r42 q43 o44 => ?_)
            obtain ⟨hI45, hf46, y51, rfl, f47, f48, f49, f50⟩ := q43
            clear o44
            have hf52 := fz_fr_tr hf35 hf46 (show fz_su [(44, 3), (46, 99999)] [(44, 3), (46, 99999)] = true from rfl)
            have t53 : H41 44 4 = H27 44 4 := hf46 44 4 rfl
            exact fz_iret kX9_run rfl rfl (fun _ => ⟨hI45, hf52, _, rfl, (by omega), (by first | rfl | (rw [f48, lost]) | (rw [f48]) | (rw [hp3]) | (exfalso; omega)), (by simp only [List.length_cons, List.length_nil]; omega), (by first | exact fz_tc2 f34 f50 lost (by omega) (by simp only [List.length_cons, List.length_nil]; omega) | exact fz_tc1 f34 f50 (by omega) | exact fz_tc0 f34 | exact f50 | (exfalso; omega))⟩)
          · exfalso; omega
    · refine fz_if_eq (tgt := 24) kX9_run rfl (by decide) (fun c57 => ?_) (fun c57 => ?_)
      · refine fz_iconst ⟨by decide, by decide⟩ kX9_run rfl ?_
        exact fz_iret kX9_run rfl rfl (fun _ => ⟨hI, hf, _, rfl, (by omega), (by first | rfl | (rw [lost, lost]) | (rw [lost]) | (rw [hp3]) | (exfalso; omega)), (by simp only [List.length_cons, List.length_nil]; omega), (by first | exact fz_tc2 lost lost lost (by omega) (by simp only [List.length_cons, List.length_nil]; omega) | exact fz_tc1 lost lost (by omega) | exact fz_tc0 lost | exact lost | (exfalso; omega))⟩)
      · exfalso; omega

abbrev qX9_run_5_2_2 (h : fz_H) (x dp w : Int) : fz_H → Option fz_V → Prop := fun h' r0 => fz_Iv h' ∧ fz_fr [(44, 3), (46, 99999)] h h' ∧ ∃ r : Int, r0 = some (fz_i r) ∧ (h' 44 3 = h 44 3 + 1) ∧ (r = fz_xor x w) ∧ (h' 44 3 = h 44 3 + ([11] : List Int).length) ∧ (h' 46 = fz_tr (h 46) (h 44 3) [11])
set_option maxHeartbeats 1000000 in
set_option maxRecDepth 100000 in
theorem sX9_run_5_2_2 (h : fz_H) (hI : fz_Iv h) (x dp w : Int) (hp0 : h 44 5 = 5) (hp1 : 0 ≤ dp ∧ dp ≤ 39) (hp2 : 0 ≤ h 44 3 ∧ h 44 3 ≤ 899) (hp3 : h 44 4 = w) : fz_R 1 mX9_run 0 [(0, fz_r 44), (1, fz_i 2), (2, fz_i 2), (3, fz_i x), (4, fz_i dp)] [] h (qX9_run_5_2_2 h x dp w) := by
  refine fz_knowl (fun hk => ?_)
  have hr_x : -2147483648 ≤ x ∧ x < 2147483648 := hk _ (List.Mem.tail _ (List.Mem.tail _ (List.Mem.tail _ (List.Mem.head _))))
  have hr_dp : -2147483648 ≤ dp ∧ dp < 2147483648 := hk _ (List.Mem.tail _ (List.Mem.tail _ (List.Mem.tail _ (List.Mem.tail _ (List.Mem.head _)))))
  clear hk
  have hf : fz_fr [(44, 3), (46, 99999)] h h := fz_fr_rf
  have b1 : 0 ≤ h 44 5 ∧ h 44 5 ≤ 7 := hI.1 44 _
  have b2 : (-2147483648) ≤ h 44 3 ∧ h 44 3 ≤ 2147483647 := hI.1 44 _
  have b3 : 0 ≤ h 44 4 ∧ h 44 4 ≤ 49 := hI.1 44 _
  refine fz_iload kX9_run rfl rfl ?_
  refine fz_bipush ⟨by decide, by decide⟩ kX9_run rfl ?_
  refine fz_icmp_gt (tgt := 24) kX9_run rfl (by decide) (fun c4 => ?_) (fun c4 => ?_)
  · exfalso; omega
  · refine fz_aload_n kX9_run rfl rfl ?_
    refine fz_iload_n kX9_run rfl rfl ?_
    refine fz_callV (d' := 0) (M' := mX9_isKind) (As := [fz_i 2]) (st := []) kX9_run rfl rfl vX9_isKind rfl rfl rfl rfl (Nat.le_of_ble_eq_true rfl) (Nat.le_of_ble_eq_true rfl) (by decide) (sX9_isKind h hI 2 ) (fun H5 r6 q7 o8 => ?_)
    obtain ⟨e9, y10, rfl, p11⟩ := q7
    subst H5
    clear o8
    rcases p11 with ⟨rfl, c12⟩ | ⟨rfl, c12⟩
    · refine fz_if_eq (tgt := 24) kX9_run rfl (by decide) (fun c13 => ?_) (fun c13 => ?_)
      · exfalso; omega
      · refine fz_iload_n kX9_run rfl rfl ?_
        refine fz_if_lt (tgt := 24) kX9_run rfl (by decide) (fun c14 => ?_) (fun c14 => ?_)
        · exfalso; omega
        · refine fz_iload_n kX9_run rfl rfl ?_
          refine fz_iconst ⟨by decide, by decide⟩ kX9_run rfl ?_
          refine fz_icmp_lt (tgt := 26) kX9_run rfl (by decide) (fun c15 => ?_) (fun c15 => ?_)
          · refine fz_iload_n kX9_run rfl rfl ?_
            refine fz_iload_n kX9_run rfl rfl ?_
            refine fz_callS (d' := 0) (M' := mX9_ownerFrom) (As := [fz_i 2, fz_i 2]) (st := []) kX9_run rfl rfl vX9_ownerFrom rfl rfl (Nat.le_of_ble_eq_true rfl) (Nat.le_of_ble_eq_true rfl) (by decide) (sX9_ownerFrom_2_2 h hI  ) (fun H16 r17 q18 o19 => ?_)
            obtain ⟨e20, y22, rfl, f21⟩ := q18
            subst H16
            clear o19
            refine fz_eqi (show y22 = 0 by omega) ?_
            refine fz_istore (ls' := [(5, fz_i 0), (0, fz_r 44), (1, fz_i 2), (2, fz_i 2), (3, fz_i x), (4, fz_i dp)]) kX9_run rfl (by decide) rfl ?_
            refine fz_gets kX9_run rfl ?_
            refine fz_iload kX9_run rfl rfl ?_
            refine fz_taldV (v := (-1)) kX9_run rfl ⟨by decide, by decide⟩ (by omega) (by rw [hI.2.2.2.2]; decide) (by rw [hI.2.2.2.2]; rfl) ?_
            refine fz_istore (ls' := [(6, fz_i (-1)), (5, fz_i 0), (0, fz_r 44), (1, fz_i 2), (2, fz_i 2), (3, fz_i x), (4, fz_i dp)]) kX9_run rfl (by decide) rfl ?_
            refine fz_iload kX9_run rfl rfl ?_
            refine fz_iconst ⟨by decide, by decide⟩ kX9_run rfl ?_
            refine fz_iaddN kX9_run rfl (by omega) ?_
            refine fz_istore (ls' := [(7, fz_i (dp + 1)), (6, fz_i (-1)), (5, fz_i 0), (0, fz_r 44), (1, fz_i 2), (2, fz_i 2), (3, fz_i x), (4, fz_i dp)]) kX9_run rfl (by decide) rfl ?_
            refine fz_gets kX9_run rfl ?_
            refine fz_iload kX9_run rfl rfl ?_
            refine fz_iconst ⟨by decide, by decide⟩ kX9_run rfl ?_
            refine fz_imulN kX9_run rfl ⟨by decide, by decide⟩ ?_
            refine fz_eqi (y := 0) rfl ?_
            refine fz_iload_n kX9_run rfl rfl ?_
            refine fz_iaddN kX9_run rfl ⟨by decide, by decide⟩ ?_
            refine fz_eqi (y := 2) rfl ?_
            refine fz_taldV (v := 11) kX9_run rfl ⟨by decide, by decide⟩ (by omega) (by rw [hI.2.2.2.1]; decide) (by rw [hI.2.2.2.1]; rfl) ?_
            refine fz_istore (ls' := [(8, fz_i 11), (7, fz_i (dp + 1)), (6, fz_i (-1)), (5, fz_i 0), (0, fz_r 44), (1, fz_i 2), (2, fz_i 2), (3, fz_i x), (4, fz_i dp)]) kX9_run rfl (by decide) rfl ?_
            refine fz_aload_n kX9_run rfl rfl ?_
            refine fz_iload kX9_run rfl rfl ?_
            refine fz_callV (d' := 0) (M' := mX9_note) (As := [fz_i 11]) (st := []) kX9_run rfl rfl vX9_note rfl rfl rfl rfl (Nat.le_of_ble_eq_true rfl) (Nat.le_of_ble_eq_true rfl) (by decide) (sX9_note h hI 11 (by omega)) (fun H27 r28 q29 o30 => ?_)
            obtain ⟨hI31, hf32, rfl, f33, f34⟩ := q29
            clear o30
            have hf35 := fz_fr_tr hf hf32 (show fz_su [(44, 3), (46, 99999)] [(44, 3), (46, 99999)] = true from rfl)
            have t36 : H27 44 4 = h 44 4 := hf32 44 4 rfl
            refine fz_iload kX9_run rfl rfl ?_
            refine fz_lsw (tgt := 228) kX9_run rfl (by decide) (show Op.lookupswitch.offset [(1, 113), (2, 120), (10, 146), (11, 161), (20, 168), (30, 181), (40, 193), (41, 206), (50, 219), (60, 243), (70, 256), (80, 269), (81, 293)] 306 11 = 161 from rfl) (by decide) ?_
            refine fz_iload_n kX9_run rfl rfl ?_
            refine fz_aload_n kX9_run rfl rfl ?_
            refine fz_getV (v := h 44 4) kX9_run rfl rfl (hf35 44 4 rfl) ?_
            have b37 : 0 ≤ h 44 4 ∧ h 44 4 ≤ 49 := hI.1 44 _
            refine fz_ixor kX9_run rfl ?_
            have b38 : -2147483648 ≤ (fz_xor x (h 44 4)) ∧ (fz_xor x (h 44 4)) < 2147483648 := fz_b32 _
            exact fz_iret kX9_run rfl rfl (fun _ => ⟨hI31, hf35, _, rfl, (by omega), (by first | rfl | (rw [lost, lost]) | (rw [lost]) | (rw [hp3]) | (exfalso; omega)), (by simp only [List.length_cons, List.length_nil]; omega), (by first | exact fz_tc2 f34 lost lost (by omega) (by simp only [List.length_cons, List.length_nil]; omega) | exact fz_tc1 f34 lost (by omega) | exact fz_tc0 f34 | exact lost | (exfalso; omega))⟩)
          · exfalso; omega
    · refine fz_if_eq (tgt := 24) kX9_run rfl (by decide) (fun c42 => ?_) (fun c42 => ?_)
      · refine fz_iconst ⟨by decide, by decide⟩ kX9_run rfl ?_
        exact fz_iret kX9_run rfl rfl (fun _ => ⟨hI, hf, _, rfl, (by omega), (by first | rfl | (rw [lost, lost]) | (rw [lost]) | (rw [hp3]) | (exfalso; omega)), (by simp only [List.length_cons, List.length_nil]; omega), (by first | exact fz_tc2 lost lost lost (by omega) (by simp only [List.length_cons, List.length_nil]; omega) | exact fz_tc1 lost lost (by omega) | exact fz_tc0 lost | exact lost | (exfalso; omega))⟩)
      · exfalso; omega

abbrev qX9_run_5_5_2 (h : fz_H) (x dp w : Int) : fz_H → Option fz_V → Prop := fun h' r0 => fz_Iv h' ∧ fz_fr [(44, 3), (46, 99999)] h h' ∧ ∃ r : Int, r0 = some (fz_i r) ∧ (h' 44 3 = h 44 3 + 2) ∧ (r = fz_w (fz_xor x w * 3)) ∧ (h' 44 3 = h 44 3 + ([40, 11] : List Int).length) ∧ (h' 46 = fz_tr (h 46) (h 44 3) [40, 11])
set_option maxHeartbeats 1000000 in
set_option maxRecDepth 100000 in
theorem sX9_run_5_5_2 (h : fz_H) (hI : fz_Iv h) (x dp w : Int) (hp0 : h 44 5 = 5) (hp1 : 0 ≤ dp ∧ dp ≤ 38) (hp2 : 0 ≤ h 44 3 ∧ h 44 3 ≤ 898) (hp3 : h 44 4 = w) : fz_R 2 mX9_run 0 [(0, fz_r 44), (1, fz_i 5), (2, fz_i 2), (3, fz_i x), (4, fz_i dp)] [] h (qX9_run_5_5_2 h x dp w) := by
  refine fz_knowl (fun hk => ?_)
  have hr_x : -2147483648 ≤ x ∧ x < 2147483648 := hk _ (List.Mem.tail _ (List.Mem.tail _ (List.Mem.tail _ (List.Mem.head _))))
  have hr_dp : -2147483648 ≤ dp ∧ dp < 2147483648 := hk _ (List.Mem.tail _ (List.Mem.tail _ (List.Mem.tail _ (List.Mem.tail _ (List.Mem.head _)))))
  clear hk
  have hf : fz_fr [(44, 3), (46, 99999)] h h := fz_fr_rf
  have b1 : 0 ≤ h 44 5 ∧ h 44 5 ≤ 7 := hI.1 44 _
  have b2 : (-2147483648) ≤ h 44 3 ∧ h 44 3 ≤ 2147483647 := hI.1 44 _
  have b3 : 0 ≤ h 44 4 ∧ h 44 4 ≤ 49 := hI.1 44 _
  refine fz_iload kX9_run rfl rfl ?_
  refine fz_bipush ⟨by decide, by decide⟩ kX9_run rfl ?_
  refine fz_icmp_gt (tgt := 24) kX9_run rfl (by decide) (fun c4 => ?_) (fun c4 => ?_)
  · exfalso; omega
  · refine fz_aload_n kX9_run rfl rfl ?_
    refine fz_iload_n kX9_run rfl rfl ?_
    refine fz_callV (d' := 0) (M' := mX9_isKind) (As := [fz_i 5]) (st := []) kX9_run rfl rfl vX9_isKind rfl rfl rfl rfl (Nat.le_of_ble_eq_true rfl) (Nat.le_of_ble_eq_true rfl) (by decide) (sX9_isKind h hI 5 ) (fun H5 r6 q7 o8 => ?_)
    obtain ⟨e9, y10, rfl, p11⟩ := q7
    subst H5
    clear o8
    rcases p11 with ⟨rfl, c12⟩ | ⟨rfl, c12⟩
    · refine fz_if_eq (tgt := 24) kX9_run rfl (by decide) (fun c13 => ?_) (fun c13 => ?_)
      · exfalso; omega
      · refine fz_iload_n kX9_run rfl rfl ?_
        refine fz_if_lt (tgt := 24) kX9_run rfl (by decide) (fun c14 => ?_) (fun c14 => ?_)
        · exfalso; omega
        · refine fz_iload_n kX9_run rfl rfl ?_
          refine fz_iconst ⟨by decide, by decide⟩ kX9_run rfl ?_
          refine fz_icmp_lt (tgt := 26) kX9_run rfl (by decide) (fun c15 => ?_) (fun c15 => ?_)
          · refine fz_iload_n kX9_run rfl rfl ?_
            refine fz_iload_n kX9_run rfl rfl ?_
            refine fz_callS (d' := 0) (M' := mX9_ownerFrom) (As := [fz_i 5, fz_i 2]) (st := []) kX9_run rfl rfl vX9_ownerFrom rfl rfl (Nat.le_of_ble_eq_true rfl) (Nat.le_of_ble_eq_true rfl) (by decide) (sX9_ownerFrom_5_2 h hI  ) (fun H16 r17 q18 o19 => ?_)
            obtain ⟨e20, y22, rfl, f21⟩ := q18
            subst H16
            clear o19
            refine fz_eqi (show y22 = 3 by omega) ?_
            refine fz_istore (ls' := [(5, fz_i 3), (0, fz_r 44), (1, fz_i 5), (2, fz_i 2), (3, fz_i x), (4, fz_i dp)]) kX9_run rfl (by decide) rfl ?_
            refine fz_gets kX9_run rfl ?_
            refine fz_iload kX9_run rfl rfl ?_
            refine fz_taldV (v := 2) kX9_run rfl ⟨by decide, by decide⟩ (by omega) (by rw [hI.2.2.2.2]; decide) (by rw [hI.2.2.2.2]; rfl) ?_
            refine fz_istore (ls' := [(6, fz_i 2), (5, fz_i 3), (0, fz_r 44), (1, fz_i 5), (2, fz_i 2), (3, fz_i x), (4, fz_i dp)]) kX9_run rfl (by decide) rfl ?_
            refine fz_iload kX9_run rfl rfl ?_
            refine fz_iconst ⟨by decide, by decide⟩ kX9_run rfl ?_
            refine fz_iaddN kX9_run rfl (by omega) ?_
            refine fz_istore (ls' := [(7, fz_i (dp + 1)), (6, fz_i 2), (5, fz_i 3), (0, fz_r 44), (1, fz_i 5), (2, fz_i 2), (3, fz_i x), (4, fz_i dp)]) kX9_run rfl (by decide) rfl ?_
            refine fz_gets kX9_run rfl ?_
            refine fz_iload kX9_run rfl rfl ?_
            refine fz_iconst ⟨by decide, by decide⟩ kX9_run rfl ?_
            refine fz_imulN kX9_run rfl ⟨by decide, by decide⟩ ?_
            refine fz_eqi (y := 12) rfl ?_
            refine fz_iload_n kX9_run rfl rfl ?_
            refine fz_iaddN kX9_run rfl ⟨by decide, by decide⟩ ?_
            refine fz_eqi (y := 14) rfl ?_
            refine fz_taldV (v := 40) kX9_run rfl ⟨by decide, by decide⟩ (by omega) (by rw [hI.2.2.2.1]; decide) (by rw [hI.2.2.2.1]; rfl) ?_
            refine fz_istore (ls' := [(8, fz_i 40), (7, fz_i (dp + 1)), (6, fz_i 2), (5, fz_i 3), (0, fz_r 44), (1, fz_i 5), (2, fz_i 2), (3, fz_i x), (4, fz_i dp)]) kX9_run rfl (by decide) rfl ?_
            refine fz_aload_n kX9_run rfl rfl ?_
            refine fz_iload kX9_run rfl rfl ?_
            refine fz_callV (d' := 0) (M' := mX9_note) (As := [fz_i 40]) (st := []) kX9_run rfl rfl vX9_note rfl rfl rfl rfl (Nat.le_of_ble_eq_true rfl) (Nat.le_of_ble_eq_true rfl) (by decide) (sX9_note h hI 40 (by omega)) (fun H27 r28 q29 o30 => ?_)
            obtain ⟨hI31, hf32, rfl, f33, f34⟩ := q29
            clear o30
            have hf35 := fz_fr_tr hf hf32 (show fz_su [(44, 3), (46, 99999)] [(44, 3), (46, 99999)] = true from rfl)
            have t36 : H27 44 4 = h 44 4 := hf32 44 4 rfl
            refine fz_iload kX9_run rfl rfl ?_
            refine fz_lsw (tgt := 260) kX9_run rfl (by decide) (show Op.lookupswitch.offset [(1, 113), (2, 120), (10, 146), (11, 161), (20, 168), (30, 181), (40, 193), (41, 206), (50, 219), (60, 243), (70, 256), (80, 269), (81, 293)] 306 40 = 193 from rfl) (by decide) ?_
            refine fz_aload_n kX9_run rfl rfl ?_
            refine fz_iload kX9_run rfl rfl ?_
            refine fz_iconst ⟨by decide, by decide⟩ kX9_run rfl ?_
            refine fz_iload_n kX9_run rfl rfl ?_
            refine fz_iload kX9_run rfl rfl ?_
            have b37 : (-2147483648) ≤ H27 44 3 ∧ H27 44 3 ≤ 2147483647 := hI31.1 44 _
            have e38 : H27 44 5 = h 44 5 := hf35 44 5 rfl
            have e39 : H27 44 4 = h 44 4 := hf35 44 4 rfl
            refine fz_callV (d' := 1) (M' := mX9_run) (As := [fz_i 2, fz_i 2, fz_i x, fz_i (dp + 1)]) (st := []) kX9_run rfl rfl vX9_run rfl rfl rfl rfl (Nat.le_of_ble_eq_true rfl) (Nat.le_of_ble_eq_true rfl) (by decide) (sX9_run_5_2_2 H27 hI31 x (dp + 1) w (by omega) (by omega) (by omega) (by omega)) (fun H40 r41 q42 o43 => ?_)
            obtain ⟨hI44, hf45, y50, rfl, f46, f47, f48, f49⟩ := q42
            clear o43
            have hf51 := fz_fr_tr hf35 hf45 (show fz_su [(44, 3), (46, 99999)] [(44, 3), (46, 99999)] = true from rfl)
            have t52 : H40 44 4 = H27 44 4 := hf45 44 4 rfl
            refine fz_iconst ⟨by decide, by decide⟩ kX9_run rfl ?_
            refine fz_imul kX9_run rfl ?_
            have b53 := fz_w_b (y50 * 3)
            exact fz_iret kX9_run rfl rfl (fun _ => ⟨hI44, hf51, _, rfl, (by omega), (by first | rfl | (rw [f47, lost]) | (rw [f47]) | (rw [hp3]) | (exfalso; omega)), (by simp only [List.length_cons, List.length_nil]; omega), (by first | exact fz_tc2 f34 f49 lost (by omega) (by simp only [List.length_cons, List.length_nil]; omega) | exact fz_tc1 f34 f49 (by omega) | exact fz_tc0 f34 | exact f49 | (exfalso; omega))⟩)
          · exfalso; omega
    · refine fz_if_eq (tgt := 24) kX9_run rfl (by decide) (fun c57 => ?_) (fun c57 => ?_)
      · refine fz_iconst ⟨by decide, by decide⟩ kX9_run rfl ?_
        exact fz_iret kX9_run rfl rfl (fun _ => ⟨hI, hf, _, rfl, (by omega), (by first | rfl | (rw [lost, lost]) | (rw [lost]) | (rw [hp3]) | (exfalso; omega)), (by simp only [List.length_cons, List.length_nil]; omega), (by first | exact fz_tc2 lost lost lost (by omega) (by simp only [List.length_cons, List.length_nil]; omega) | exact fz_tc1 lost lost (by omega) | exact fz_tc0 lost | exact lost | (exfalso; omega))⟩)
      · exfalso; omega

abbrev qX9_run_5_3_3 (h : fz_H) (x dp w : Int) : fz_H → Option fz_V → Prop := fun h' r0 => fz_Iv h' ∧ fz_fr [(44, 3), (46, 99999)] h h' ∧ ∃ r : Int, r0 = some (fz_i r) ∧ (h' 44 3 = h 44 3 + 7) ∧ (r = fz_w (fz_w (-(fz_w (fz_w (((fz_w (x + 1))) + w) * 2))) - fz_w (fz_xor 1 w * 3))) ∧ (h' 44 3 = h 44 3 + ([2, 41, 30, 10, 1, 40, 11] : List Int).length) ∧ (h' 46 = fz_tr (h 46) (h 44 3) [2, 41, 30, 10, 1, 40, 11])
set_option maxHeartbeats 1000000 in
set_option maxRecDepth 100000 in
theorem sX9_run_5_3_3 (h : fz_H) (hI : fz_Iv h) (x dp w : Int) (hp0 : h 44 5 = 5) (hp1 : 0 ≤ dp ∧ dp ≤ 35) (hp2 : 0 ≤ h 44 3 ∧ h 44 3 ≤ 893) (hp3 : h 44 4 = w) : fz_R 5 mX9_run 0 [(0, fz_r 44), (1, fz_i 3), (2, fz_i 3), (3, fz_i x), (4, fz_i dp)] [] h (qX9_run_5_3_3 h x dp w) := by
  refine fz_knowl (fun hk => ?_)
  have hr_x : -2147483648 ≤ x ∧ x < 2147483648 := hk _ (List.Mem.tail _ (List.Mem.tail _ (List.Mem.tail _ (List.Mem.head _))))
  have hr_dp : -2147483648 ≤ dp ∧ dp < 2147483648 := hk _ (List.Mem.tail _ (List.Mem.tail _ (List.Mem.tail _ (List.Mem.tail _ (List.Mem.head _)))))
  clear hk
  have hf : fz_fr [(44, 3), (46, 99999)] h h := fz_fr_rf
  have b1 : 0 ≤ h 44 5 ∧ h 44 5 ≤ 7 := hI.1 44 _
  have b2 : (-2147483648) ≤ h 44 3 ∧ h 44 3 ≤ 2147483647 := hI.1 44 _
  have b3 : 0 ≤ h 44 4 ∧ h 44 4 ≤ 49 := hI.1 44 _
  refine fz_iload kX9_run rfl rfl ?_
  refine fz_bipush ⟨by decide, by decide⟩ kX9_run rfl ?_
  refine fz_icmp_gt (tgt := 24) kX9_run rfl (by decide) (fun c4 => ?_) (fun c4 => ?_)
  · exfalso; omega
  · refine fz_aload_n kX9_run rfl rfl ?_
    refine fz_iload_n kX9_run rfl rfl ?_
    refine fz_callV (d' := 0) (M' := mX9_isKind) (As := [fz_i 3]) (st := []) kX9_run rfl rfl vX9_isKind rfl rfl rfl rfl (Nat.le_of_ble_eq_true rfl) (Nat.le_of_ble_eq_true rfl) (by decide) (sX9_isKind h hI 3 ) (fun H5 r6 q7 o8 => ?_)
    obtain ⟨e9, y10, rfl, p11⟩ := q7
    subst H5
    clear o8
    rcases p11 with ⟨rfl, c12⟩ | ⟨rfl, c12⟩
    · refine fz_if_eq (tgt := 24) kX9_run rfl (by decide) (fun c13 => ?_) (fun c13 => ?_)
      · exfalso; omega
      · refine fz_iload_n kX9_run rfl rfl ?_
        refine fz_if_lt (tgt := 24) kX9_run rfl (by decide) (fun c14 => ?_) (fun c14 => ?_)
        · exfalso; omega
        · refine fz_iload_n kX9_run rfl rfl ?_
          refine fz_iconst ⟨by decide, by decide⟩ kX9_run rfl ?_
          refine fz_icmp_lt (tgt := 26) kX9_run rfl (by decide) (fun c15 => ?_) (fun c15 => ?_)
          · refine fz_iload_n kX9_run rfl rfl ?_
            refine fz_iload_n kX9_run rfl rfl ?_
            refine fz_callS (d' := 0) (M' := mX9_ownerFrom) (As := [fz_i 3, fz_i 3]) (st := []) kX9_run rfl rfl vX9_ownerFrom rfl rfl (Nat.le_of_ble_eq_true rfl) (Nat.le_of_ble_eq_true rfl) (by decide) (sX9_ownerFrom_3_3 h hI  ) (fun H16 r17 q18 o19 => ?_)
            obtain ⟨e20, y22, rfl, f21⟩ := q18
            subst H16
            clear o19
            refine fz_eqi (show y22 = 0 by omega) ?_
            refine fz_istore (ls' := [(5, fz_i 0), (0, fz_r 44), (1, fz_i 3), (2, fz_i 3), (3, fz_i x), (4, fz_i dp)]) kX9_run rfl (by decide) rfl ?_
            refine fz_gets kX9_run rfl ?_
            refine fz_iload kX9_run rfl rfl ?_
            refine fz_taldV (v := (-1)) kX9_run rfl ⟨by decide, by decide⟩ (by omega) (by rw [hI.2.2.2.2]; decide) (by rw [hI.2.2.2.2]; rfl) ?_
            refine fz_istore (ls' := [(6, fz_i (-1)), (5, fz_i 0), (0, fz_r 44), (1, fz_i 3), (2, fz_i 3), (3, fz_i x), (4, fz_i dp)]) kX9_run rfl (by decide) rfl ?_
            refine fz_iload kX9_run rfl rfl ?_
            refine fz_iconst ⟨by decide, by decide⟩ kX9_run rfl ?_
            refine fz_iaddN kX9_run rfl (by omega) ?_
            refine fz_istore (ls' := [(7, fz_i (dp + 1)), (6, fz_i (-1)), (5, fz_i 0), (0, fz_r 44), (1, fz_i 3), (2, fz_i 3), (3, fz_i x), (4, fz_i dp)]) kX9_run rfl (by decide) rfl ?_
            refine fz_gets kX9_run rfl ?_
            refine fz_iload kX9_run rfl rfl ?_
            refine fz_iconst ⟨by decide, by decide⟩ kX9_run rfl ?_
            refine fz_imulN kX9_run rfl ⟨by decide, by decide⟩ ?_
            refine fz_eqi (y := 0) rfl ?_
            refine fz_iload_n kX9_run rfl rfl ?_
            refine fz_iaddN kX9_run rfl ⟨by decide, by decide⟩ ?_
            refine fz_eqi (y := 3) rfl ?_
            refine fz_taldV (v := 2) kX9_run rfl ⟨by decide, by decide⟩ (by omega) (by rw [hI.2.2.2.1]; decide) (by rw [hI.2.2.2.1]; rfl) ?_
            refine fz_istore (ls' := [(8, fz_i 2), (7, fz_i (dp + 1)), (6, fz_i (-1)), (5, fz_i 0), (0, fz_r 44), (1, fz_i 3), (2, fz_i 3), (3, fz_i x), (4, fz_i dp)]) kX9_run rfl (by decide) rfl ?_
            refine fz_aload_n kX9_run rfl rfl ?_
            refine fz_iload kX9_run rfl rfl ?_
            refine fz_callV (d' := 0) (M' := mX9_note) (As := [fz_i 2]) (st := []) kX9_run rfl rfl vX9_note rfl rfl rfl rfl (Nat.le_of_ble_eq_true rfl) (Nat.le_of_ble_eq_true rfl) (by decide) (sX9_note h hI 2 (by omega)) (fun H27 r28 q29 o30 => ?_)
            obtain ⟨hI31, hf32, rfl, f33, f34⟩ := q29
            clear o30
            have hf35 := fz_fr_tr hf hf32 (show fz_su [(44, 3), (46, 99999)] [(44, 3), (46, 99999)] = true from rfl)
            have t36 : H27 44 4 = h 44 4 := hf32 44 4 rfl
            refine fz_iload kX9_run rfl rfl ?_
            refine fz_lsw (tgt := 187) kX9_run rfl (by decide) (show Op.lookupswitch.offset [(1, 113), (2, 120), (10, 146), (11, 161), (20, 168), (30, 181), (40, 193), (41, 206), (50, 219), (60, 243), (70, 256), (80, 269), (81, 293)] 306 2 = 120 from rfl) (by decide) ?_
            refine fz_aload_n kX9_run rfl rfl ?_
            refine fz_aload_n kX9_run rfl rfl ?_
            refine fz_getV (v := h 44 5) kX9_run rfl rfl (hf35 44 5 rfl) ?_
            have b37 : 0 ≤ h 44 5 ∧ h 44 5 ≤ 7 := hI.1 44 _
            refine fz_eqi (show (h 44 5) = 5 by omega) ?_
            refine fz_iconst ⟨by decide, by decide⟩ kX9_run rfl ?_
            refine fz_iload_n kX9_run rfl rfl ?_
            refine fz_iload kX9_run rfl rfl ?_
            have b38 : (-2147483648) ≤ H27 44 3 ∧ H27 44 3 ≤ 2147483647 := hI31.1 44 _
            have e39 : H27 44 5 = h 44 5 := hf35 44 5 rfl
            have e40 : H27 44 4 = h 44 4 := hf35 44 4 rfl
            refine fz_callV (d' := 4) (M' := mX9_run) (As := [fz_i 5, fz_i 1, fz_i x, fz_i (dp + 1)]) (st := []) kX9_run rfl rfl vX9_run rfl rfl rfl rfl (Nat.le_of_ble_eq_true rfl) (Nat.le_of_ble_eq_true rfl) (by decide) (sX9_run_5_5_1 H27 hI31 x (dp + 1) w (by omega) (by omega) (by omega) (by omega)) (fun H41 r42 q43 o44 => ?_)
            obtain ⟨hI45, hf46, y51, rfl, f47, f48, f49, f50⟩ := q43
            clear o44
            have hf52 := fz_fr_tr hf35 hf46 (show fz_su [(44, 3), (46, 99999)] [(44, 3), (46, 99999)] = true from rfl)
            have t53 : H41 44 4 = H27 44 4 := hf46 44 4 rfl
            refine fz_aload_n kX9_run rfl rfl ?_
            refine fz_aload_n kX9_run rfl rfl ?_
            refine fz_getV (v := h 44 5) kX9_run rfl rfl (hf52 44 5 rfl) ?_
            refine fz_eqi (show (h 44 5) = 5 by omega) ?_
            refine fz_iconst ⟨by decide, by decide⟩ kX9_run rfl ?_
            refine fz_iconst ⟨by decide, by decide⟩ kX9_run rfl ?_
            refine fz_iload kX9_run rfl rfl ?_
            have b54 : (-2147483648) ≤ H41 44 3 ∧ H41 44 3 ≤ 2147483647 := hI45.1 44 _
            have e55 : H41 44 5 = h 44 5 := hf52 44 5 rfl
            have e56 : H41 44 4 = h 44 4 := hf52 44 4 rfl
            refine fz_callV (d' := 2) (M' := mX9_run) (As := [fz_i 5, fz_i 2, fz_i 1, fz_i (dp + 1)]) (st := [fz_i y51]) kX9_run rfl rfl vX9_run rfl rfl rfl rfl (Nat.le_of_ble_eq_true rfl) (Nat.le_of_ble_eq_true rfl) (by decide) (sX9_run_5_5_2 H41 hI45 1 (dp + 1) w (by omega) (by omega) (by omega) (by omega)) (fun H57 r58 q59 o60 => ?_)
            obtain ⟨hI61, hf62, y67, rfl, f63, f64, f65, f66⟩ := q59
            clear o60
            have hf68 := fz_fr_tr hf52 hf62 (show fz_su [(44, 3), (46, 99999)] [(44, 3), (46, 99999)] = true from rfl)
            have t69 : H57 44 4 = H41 44 4 := hf62 44 4 rfl
            refine fz_isub kX9_run rfl ?_
            have b70 := fz_w_b (y51 - y67)
            exact fz_iret kX9_run rfl rfl (fun _ => ⟨hI61, hf68, _, rfl, (by omega), (by first | rfl | (rw [f48, f64]) | (rw [f48]) | (rw [hp3]) | (exfalso; omega)), (by simp only [List.length_cons, List.length_nil]; omega), (by first | exact fz_tc2 f34 f50 f66 (by omega) (by simp only [List.length_cons, List.length_nil]; omega) | exact fz_tc1 f34 f50 (by omega) | exact fz_tc0 f34 | exact f50 | (exfalso; omega))⟩)
          · exfalso; omega
    · refine fz_if_eq (tgt := 24) kX9_run rfl (by decide) (fun c74 => ?_) (fun c74 => ?_)
      · refine fz_iconst ⟨by decide, by decide⟩ kX9_run rfl ?_
        exact fz_iret kX9_run rfl rfl (fun _ => ⟨hI, hf, _, rfl, (by omega), (by first | rfl | (rw [lost, lost]) | (rw [lost]) | (rw [hp3]) | (exfalso; omega)), (by simp only [List.length_cons, List.length_nil]; omega), (by first | exact fz_tc2 lost lost lost (by omega) (by simp only [List.length_cons, List.length_nil]; omega) | exact fz_tc1 lost lost (by omega) | exact fz_tc0 lost | exact lost | (exfalso; omega))⟩)
      · exfalso; omega

abbrev qX9_run_5_5_3 (h : fz_H) (x dp w : Int) : fz_H → Option fz_V → Prop := fun h' r0 => fz_Iv h' ∧ fz_fr [(44, 3), (46, 99999)] h h' ∧ ∃ r : Int, r0 = some (fz_i r) ∧ (h' 44 3 = h 44 3 + 8) ∧ (r = fz_xor (fz_w (fz_w (-(fz_w (fz_w (((fz_w (x + 1))) + w) * 2))) - fz_w (fz_xor 1 w * 3))) 5) ∧ (h' 44 3 = h 44 3 + ([60, 2, 41, 30, 10, 1, 40, 11] : List Int).length) ∧ (h' 46 = fz_tr (h 46) (h 44 3) [60, 2, 41, 30, 10, 1, 40, 11])
set_option maxHeartbeats 1000000 in
set_option maxRecDepth 100000 in
theorem sX9_run_5_5_3 (h : fz_H) (hI : fz_Iv h) (x dp w : Int) (hp0 : h 44 5 = 5) (hp1 : 0 ≤ dp ∧ dp ≤ 34) (hp2 : 0 ≤ h 44 3 ∧ h 44 3 ≤ 892) (hp3 : h 44 4 = w) : fz_R 6 mX9_run 0 [(0, fz_r 44), (1, fz_i 5), (2, fz_i 3), (3, fz_i x), (4, fz_i dp)] [] h (qX9_run_5_5_3 h x dp w) := by
  refine fz_knowl (fun hk => ?_)
  have hr_x : -2147483648 ≤ x ∧ x < 2147483648 := hk _ (List.Mem.tail _ (List.Mem.tail _ (List.Mem.tail _ (List.Mem.head _))))
  have hr_dp : -2147483648 ≤ dp ∧ dp < 2147483648 := hk _ (List.Mem.tail _ (List.Mem.tail _ (List.Mem.tail _ (List.Mem.tail _ (List.Mem.head _)))))
  clear hk
  have hf : fz_fr [(44, 3), (46, 99999)] h h := fz_fr_rf
  have b1 : 0 ≤ h 44 5 ∧ h 44 5 ≤ 7 := hI.1 44 _
  have b2 : (-2147483648) ≤ h 44 3 ∧ h 44 3 ≤ 2147483647 := hI.1 44 _
  have b3 : 0 ≤ h 44 4 ∧ h 44 4 ≤ 49 := hI.1 44 _
  refine fz_iload kX9_run rfl rfl ?_
  refine fz_bipush ⟨by decide, by decide⟩ kX9_run rfl ?_
  refine fz_icmp_gt (tgt := 24) kX9_run rfl (by decide) (fun c4 => ?_) (fun c4 => ?_)
  · exfalso; omega
  · refine fz_aload_n kX9_run rfl rfl ?_
    refine fz_iload_n kX9_run rfl rfl ?_
    refine fz_callV (d' := 0) (M' := mX9_isKind) (As := [fz_i 5]) (st := []) kX9_run rfl rfl vX9_isKind rfl rfl rfl rfl (Nat.le_of_ble_eq_true rfl) (Nat.le_of_ble_eq_true rfl) (by decide) (sX9_isKind h hI 5 ) (fun H5 r6 q7 o8 => ?_)
    obtain ⟨e9, y10, rfl, p11⟩ := q7
    subst H5
    clear o8
    rcases p11 with ⟨rfl, c12⟩ | ⟨rfl, c12⟩
    · refine fz_if_eq (tgt := 24) kX9_run rfl (by decide) (fun c13 => ?_) (fun c13 => ?_)
      · exfalso; omega
      · refine fz_iload_n kX9_run rfl rfl ?_
        refine fz_if_lt (tgt := 24) kX9_run rfl (by decide) (fun c14 => ?_) (fun c14 => ?_)
        · exfalso; omega
        · refine fz_iload_n kX9_run rfl rfl ?_
          refine fz_iconst ⟨by decide, by decide⟩ kX9_run rfl ?_
          refine fz_icmp_lt (tgt := 26) kX9_run rfl (by decide) (fun c15 => ?_) (fun c15 => ?_)
          · refine fz_iload_n kX9_run rfl rfl ?_
            refine fz_iload_n kX9_run rfl rfl ?_
            refine fz_callS (d' := 0) (M' := mX9_ownerFrom) (As := [fz_i 5, fz_i 3]) (st := []) kX9_run rfl rfl vX9_ownerFrom rfl rfl (Nat.le_of_ble_eq_true rfl) (Nat.le_of_ble_eq_true rfl) (by decide) (sX9_ownerFrom_5_3 h hI  ) (fun H16 r17 q18 o19 => ?_)
            obtain ⟨e20, y22, rfl, f21⟩ := q18
            subst H16
            clear o19
            refine fz_eqi (show y22 = 5 by omega) ?_
            refine fz_istore (ls' := [(5, fz_i 5), (0, fz_r 44), (1, fz_i 5), (2, fz_i 3), (3, fz_i x), (4, fz_i dp)]) kX9_run rfl (by decide) rfl ?_
            refine fz_gets kX9_run rfl ?_
            refine fz_iload kX9_run rfl rfl ?_
            refine fz_taldV (v := 3) kX9_run rfl ⟨by decide, by decide⟩ (by omega) (by rw [hI.2.2.2.2]; decide) (by rw [hI.2.2.2.2]; rfl) ?_
            refine fz_istore (ls' := [(6, fz_i 3), (5, fz_i 5), (0, fz_r 44), (1, fz_i 5), (2, fz_i 3), (3, fz_i x), (4, fz_i dp)]) kX9_run rfl (by decide) rfl ?_
            refine fz_iload kX9_run rfl rfl ?_
            refine fz_iconst ⟨by decide, by decide⟩ kX9_run rfl ?_
            refine fz_iaddN kX9_run rfl (by omega) ?_
            refine fz_istore (ls' := [(7, fz_i (dp + 1)), (6, fz_i 3), (5, fz_i 5), (0, fz_r 44), (1, fz_i 5), (2, fz_i 3), (3, fz_i x), (4, fz_i dp)]) kX9_run rfl (by decide) rfl ?_
            refine fz_gets kX9_run rfl ?_
            refine fz_iload kX9_run rfl rfl ?_
            refine fz_iconst ⟨by decide, by decide⟩ kX9_run rfl ?_
            refine fz_imulN kX9_run rfl ⟨by decide, by decide⟩ ?_
            refine fz_eqi (y := 20) rfl ?_
            refine fz_iload_n kX9_run rfl rfl ?_
            refine fz_iaddN kX9_run rfl ⟨by decide, by decide⟩ ?_
            refine fz_eqi (y := 23) rfl ?_
            refine fz_taldV (v := 60) kX9_run rfl ⟨by decide, by decide⟩ (by omega) (by rw [hI.2.2.2.1]; decide) (by rw [hI.2.2.2.1]; rfl) ?_
            refine fz_istore (ls' := [(8, fz_i 60), (7, fz_i (dp + 1)), (6, fz_i 3), (5, fz_i 5), (0, fz_r 44), (1, fz_i 5), (2, fz_i 3), (3, fz_i x), (4, fz_i dp)]) kX9_run rfl (by decide) rfl ?_
            refine fz_aload_n kX9_run rfl rfl ?_
            refine fz_iload kX9_run rfl rfl ?_
            refine fz_callV (d' := 0) (M' := mX9_note) (As := [fz_i 60]) (st := []) kX9_run rfl rfl vX9_note rfl rfl rfl rfl (Nat.le_of_ble_eq_true rfl) (Nat.le_of_ble_eq_true rfl) (by decide) (sX9_note h hI 60 (by omega)) (fun H27 r28 q29 o30 => ?_)
            obtain ⟨hI31, hf32, rfl, f33, f34⟩ := q29
            clear o30
            have hf35 := fz_fr_tr hf hf32 (show fz_su [(44, 3), (46, 99999)] [(44, 3), (46, 99999)] = true from rfl)
            have t36 : H27 44 4 = h 44 4 := hf32 44 4 rfl
            refine fz_iload kX9_run rfl rfl ?_
            refine fz_lsw (tgt := 310) kX9_run rfl (by decide) (show Op.lookupswitch.offset [(1, 113), (2, 120), (10, 146), (11, 161), (20, 168), (30, 181), (40, 193), (41, 206), (50, 219), (60, 243), (70, 256), (80, 269), (81, 293)] 306 60 = 243 from rfl) (by decide) ?_
            refine fz_aload_n kX9_run rfl rfl ?_
            refine fz_iload kX9_run rfl rfl ?_
            refine fz_iconst ⟨by decide, by decide⟩ kX9_run rfl ?_
            refine fz_iload_n kX9_run rfl rfl ?_
            refine fz_iload kX9_run rfl rfl ?_
            have b37 : (-2147483648) ≤ H27 44 3 ∧ H27 44 3 ≤ 2147483647 := hI31.1 44 _
            have e38 : H27 44 5 = h 44 5 := hf35 44 5 rfl
            have e39 : H27 44 4 = h 44 4 := hf35 44 4 rfl
            refine fz_callV (d' := 5) (M' := mX9_run) (As := [fz_i 3, fz_i 3, fz_i x, fz_i (dp + 1)]) (st := []) kX9_run rfl rfl vX9_run rfl rfl rfl rfl (Nat.le_of_ble_eq_true rfl) (Nat.le_of_ble_eq_true rfl) (by decide) (sX9_run_5_3_3 H27 hI31 x (dp + 1) w (by omega) (by omega) (by omega) (by omega)) (fun H40 r41 q42 o43 => ?_)
            obtain ⟨hI44, hf45, y50, rfl, f46, f47, f48, f49⟩ := q42
            clear o43
            have hf51 := fz_fr_tr hf35 hf45 (show fz_su [(44, 3), (46, 99999)] [(44, 3), (46, 99999)] = true from rfl)
            have t52 : H40 44 4 = H27 44 4 := hf45 44 4 rfl
            refine fz_iconst ⟨by decide, by decide⟩ kX9_run rfl ?_
            refine fz_ixor kX9_run rfl ?_
            have b53 : -2147483648 ≤ (fz_xor y50 5) ∧ (fz_xor y50 5) < 2147483648 := fz_b32 _
            exact fz_iret kX9_run rfl rfl (fun _ => ⟨hI44, hf51, _, rfl, (by omega), (by first | rfl | (rw [f47, lost]) | (rw [f47]) | (rw [hp3]) | (exfalso; omega)), (by simp only [List.length_cons, List.length_nil]; omega), (by first | exact fz_tc2 f34 f49 lost (by omega) (by simp only [List.length_cons, List.length_nil]; omega) | exact fz_tc1 f34 f49 (by omega) | exact fz_tc0 f34 | exact f49 | (exfalso; omega))⟩)
          · exfalso; omega
    · refine fz_if_eq (tgt := 24) kX9_run rfl (by decide) (fun c57 => ?_) (fun c57 => ?_)
      · refine fz_iconst ⟨by decide, by decide⟩ kX9_run rfl ?_
        exact fz_iret kX9_run rfl rfl (fun _ => ⟨hI, hf, _, rfl, (by omega), (by first | rfl | (rw [lost, lost]) | (rw [lost]) | (rw [hp3]) | (exfalso; omega)), (by simp only [List.length_cons, List.length_nil]; omega), (by first | exact fz_tc2 lost lost lost (by omega) (by simp only [List.length_cons, List.length_nil]; omega) | exact fz_tc1 lost lost (by omega) | exact fz_tc0 lost | exact lost | (exfalso; omega))⟩)
      · exfalso; omega

abbrev qX9_run_6_0_0 (h : fz_H) (x dp w : Int) : fz_H → Option fz_V → Prop := fun h' r0 => fz_Iv h' ∧ fz_fr [(44, 3), (46, 99999)] h h' ∧ ∃ r : Int, r0 = some (fz_i r) ∧ (h' 44 3 = h 44 3 + 1) ∧ (r = fz_w (x + w)) ∧ (h' 44 3 = h 44 3 + ([1] : List Int).length) ∧ (h' 46 = fz_tr (h 46) (h 44 3) [1])
set_option maxHeartbeats 1000000 in
set_option maxRecDepth 100000 in
theorem sX9_run_6_0_0 (h : fz_H) (hI : fz_Iv h) (x dp w : Int) (hp0 : h 44 5 = 6) (hp1 : 0 ≤ dp ∧ dp ≤ 39) (hp2 : 0 ≤ h 44 3 ∧ h 44 3 ≤ 899) (hp3 : h 44 4 = w) : fz_R 1 mX9_run 0 [(0, fz_r 44), (1, fz_i 0), (2, fz_i 0), (3, fz_i x), (4, fz_i dp)] [] h (qX9_run_6_0_0 h x dp w) := by
  refine fz_knowl (fun hk => ?_)
  have hr_x : -2147483648 ≤ x ∧ x < 2147483648 := hk _ (List.Mem.tail _ (List.Mem.tail _ (List.Mem.tail _ (List.Mem.head _))))
  have hr_dp : -2147483648 ≤ dp ∧ dp < 2147483648 := hk _ (List.Mem.tail _ (List.Mem.tail _ (List.Mem.tail _ (List.Mem.tail _ (List.Mem.head _)))))
  clear hk
  have hf : fz_fr [(44, 3), (46, 99999)] h h := fz_fr_rf
  have b1 : 0 ≤ h 44 5 ∧ h 44 5 ≤ 7 := hI.1 44 _
  have b2 : (-2147483648) ≤ h 44 3 ∧ h 44 3 ≤ 2147483647 := hI.1 44 _
  have b3 : 0 ≤ h 44 4 ∧ h 44 4 ≤ 49 := hI.1 44 _
  refine fz_iload kX9_run rfl rfl ?_
  refine fz_bipush ⟨by decide, by decide⟩ kX9_run rfl ?_
  refine fz_icmp_gt (tgt := 24) kX9_run rfl (by decide) (fun c4 => ?_) (fun c4 => ?_)
  · exfalso; omega
  · refine fz_aload_n kX9_run rfl rfl ?_
    refine fz_iload_n kX9_run rfl rfl ?_
    refine fz_callV (d' := 0) (M' := mX9_isKind) (As := [fz_i 0]) (st := []) kX9_run rfl rfl vX9_isKind rfl rfl rfl rfl (Nat.le_of_ble_eq_true rfl) (Nat.le_of_ble_eq_true rfl) (by decide) (sX9_isKind h hI 0 ) (fun H5 r6 q7 o8 => ?_)
    obtain ⟨e9, y10, rfl, p11⟩ := q7
    subst H5
    clear o8
    rcases p11 with ⟨rfl, c12⟩ | ⟨rfl, c12⟩
    · refine fz_if_eq (tgt := 24) kX9_run rfl (by decide) (fun c13 => ?_) (fun c13 => ?_)
      · exfalso; omega
      · refine fz_iload_n kX9_run rfl rfl ?_
        refine fz_if_lt (tgt := 24) kX9_run rfl (by decide) (fun c14 => ?_) (fun c14 => ?_)
        · exfalso; omega
        · refine fz_iload_n kX9_run rfl rfl ?_
          refine fz_iconst ⟨by decide, by decide⟩ kX9_run rfl ?_
          refine fz_icmp_lt (tgt := 26) kX9_run rfl (by decide) (fun c15 => ?_) (fun c15 => ?_)
          · refine fz_iload_n kX9_run rfl rfl ?_
            refine fz_iload_n kX9_run rfl rfl ?_
            refine fz_callS (d' := 0) (M' := mX9_ownerFrom) (As := [fz_i 0, fz_i 0]) (st := []) kX9_run rfl rfl vX9_ownerFrom rfl rfl (Nat.le_of_ble_eq_true rfl) (Nat.le_of_ble_eq_true rfl) (by decide) (sX9_ownerFrom_0_0 h hI  ) (fun H16 r17 q18 o19 => ?_)
            obtain ⟨e20, y22, rfl, f21⟩ := q18
            subst H16
            clear o19
            refine fz_eqi (show y22 = 0 by omega) ?_
            refine fz_istore (ls' := [(5, fz_i 0), (0, fz_r 44), (1, fz_i 0), (2, fz_i 0), (3, fz_i x), (4, fz_i dp)]) kX9_run rfl (by decide) rfl ?_
            refine fz_gets kX9_run rfl ?_
            refine fz_iload kX9_run rfl rfl ?_
            refine fz_taldV (v := (-1)) kX9_run rfl ⟨by decide, by decide⟩ (by omega) (by rw [hI.2.2.2.2]; decide) (by rw [hI.2.2.2.2]; rfl) ?_
            refine fz_istore (ls' := [(6, fz_i (-1)), (5, fz_i 0), (0, fz_r 44), (1, fz_i 0), (2, fz_i 0), (3, fz_i x), (4, fz_i dp)]) kX9_run rfl (by decide) rfl ?_
            refine fz_iload kX9_run rfl rfl ?_
            refine fz_iconst ⟨by decide, by decide⟩ kX9_run rfl ?_
            refine fz_iaddN kX9_run rfl (by omega) ?_
            refine fz_istore (ls' := [(7, fz_i (dp + 1)), (6, fz_i (-1)), (5, fz_i 0), (0, fz_r 44), (1, fz_i 0), (2, fz_i 0), (3, fz_i x), (4, fz_i dp)]) kX9_run rfl (by decide) rfl ?_
            refine fz_gets kX9_run rfl ?_
            refine fz_iload kX9_run rfl rfl ?_
            refine fz_iconst ⟨by decide, by decide⟩ kX9_run rfl ?_
            refine fz_imulN kX9_run rfl ⟨by decide, by decide⟩ ?_
            refine fz_eqi (y := 0) rfl ?_
            refine fz_iload_n kX9_run rfl rfl ?_
            refine fz_iaddN kX9_run rfl ⟨by decide, by decide⟩ ?_
            refine fz_eqi (y := 0) rfl ?_
            refine fz_taldV (v := 1) kX9_run rfl ⟨by decide, by decide⟩ (by omega) (by rw [hI.2.2.2.1]; decide) (by rw [hI.2.2.2.1]; rfl) ?_
            refine fz_istore (ls' := [(8, fz_i 1), (7, fz_i (dp + 1)), (6, fz_i (-1)), (5, fz_i 0), (0, fz_r 44), (1, fz_i 0), (2, fz_i 0), (3, fz_i x), (4, fz_i dp)]) kX9_run rfl (by decide) rfl ?_
            refine fz_aload_n kX9_run rfl rfl ?_
            refine fz_iload kX9_run rfl rfl ?_
            refine fz_callV (d' := 0) (M' := mX9_note) (As := [fz_i 1]) (st := []) kX9_run rfl rfl vX9_note rfl rfl rfl rfl (Nat.le_of_ble_eq_true rfl) (Nat.le_of_ble_eq_true rfl) (by decide) (sX9_note h hI 1 (by omega)) (fun H27 r28 q29 o30 => ?_)
            obtain ⟨hI31, hf32, rfl, f33, f34⟩ := q29
            clear o30
            have hf35 := fz_fr_tr hf hf32 (show fz_su [(44, 3), (46, 99999)] [(44, 3), (46, 99999)] = true from rfl)
            have t36 : H27 44 4 = h 44 4 := hf32 44 4 rfl
            refine fz_iload kX9_run rfl rfl ?_
            refine fz_lsw (tgt := 180) kX9_run rfl (by decide) (show Op.lookupswitch.offset [(1, 113), (2, 120), (10, 146), (11, 161), (20, 168), (30, 181), (40, 193), (41, 206), (50, 219), (60, 243), (70, 256), (80, 269), (81, 293)] 306 1 = 113 from rfl) (by decide) ?_
            refine fz_iload_n kX9_run rfl rfl ?_
            refine fz_aload_n kX9_run rfl rfl ?_
            refine fz_getV (v := h 44 4) kX9_run rfl rfl (hf35 44 4 rfl) ?_
            have b37 : 0 ≤ h 44 4 ∧ h 44 4 ≤ 49 := hI.1 44 _
            refine fz_iadd kX9_run rfl ?_
            have b38 := fz_w_b (x + (h 44 4))
            exact fz_iret kX9_run rfl rfl (fun _ => ⟨hI31, hf35, _, rfl, (by omega), (by first | rfl | (rw [lost, lost]) | (rw [lost]) | (rw [hp3]) | (exfalso; omega)), (by simp only [List.length_cons, List.length_nil]; omega), (by first | exact fz_tc2 f34 lost lost (by omega) (by simp only [List.length_cons, List.length_nil]; omega) | exact fz_tc1 f34 lost (by omega) | exact fz_tc0 f34 | exact lost | (exfalso; omega))⟩)
          · exfalso; omega
    · refine fz_if_eq (tgt := 24) kX9_run rfl (by decide) (fun c42 => ?_) (fun c42 => ?_)
      · refine fz_iconst ⟨by decide, by decide⟩ kX9_run rfl ?_
        exact fz_iret kX9_run rfl rfl (fun _ => ⟨hI, hf, _, rfl, (by omega), (by first | rfl | (rw [lost, lost]) | (rw [lost]) | (rw [hp3]) | (exfalso; omega)), (by simp only [List.length_cons, List.length_nil]; omega), (by first | exact fz_tc2 lost lost lost (by omega) (by simp only [List.length_cons, List.length_nil]; omega) | exact fz_tc1 lost lost (by omega) | exact fz_tc0 lost | exact lost | (exfalso; omega))⟩)
      · exfalso; omega

abbrev qX9_run_6_6_0 (h : fz_H) (x dp w : Int) : fz_H → Option fz_V → Prop := fun h' r0 => fz_Iv h' ∧ fz_fr [(44, 3), (46, 99999)] h h' ∧ ∃ r : Int, r0 = some (fz_i r) ∧ (h' 44 3 = h 44 3 + 2) ∧ (r = fz_w (fz_w (x + w) * 2)) ∧ (h' 44 3 = h 44 3 + ([70, 1] : List Int).length) ∧ (h' 46 = fz_tr (h 46) (h 44 3) [70, 1])
set_option maxHeartbeats 1000000 in
set_option maxRecDepth 100000 in
theorem sX9_run_6_6_0 (h : fz_H) (hI : fz_Iv h) (x dp w : Int) (hp0 : h 44 5 = 6) (hp1 : 0 ≤ dp ∧ dp ≤ 38) (hp2 : 0 ≤ h 44 3 ∧ h 44 3 ≤ 898) (hp3 : h 44 4 = w) : fz_R 2 mX9_run 0 [(0, fz_r 44), (1, fz_i 6), (2, fz_i 0), (3, fz_i x), (4, fz_i dp)] [] h (qX9_run_6_6_0 h x dp w) := by
  refine fz_knowl (fun hk => ?_)
  have hr_x : -2147483648 ≤ x ∧ x < 2147483648 := hk _ (List.Mem.tail _ (List.Mem.tail _ (List.Mem.tail _ (List.Mem.head _))))
  have hr_dp : -2147483648 ≤ dp ∧ dp < 2147483648 := hk _ (List.Mem.tail _ (List.Mem.tail _ (List.Mem.tail _ (List.Mem.tail _ (List.Mem.head _)))))
  clear hk
  have hf : fz_fr [(44, 3), (46, 99999)] h h := fz_fr_rf
  have b1 : 0 ≤ h 44 5 ∧ h 44 5 ≤ 7 := hI.1 44 _
  have b2 : (-2147483648) ≤ h 44 3 ∧ h 44 3 ≤ 2147483647 := hI.1 44 _
  have b3 : 0 ≤ h 44 4 ∧ h 44 4 ≤ 49 := hI.1 44 _
  refine fz_iload kX9_run rfl rfl ?_
  refine fz_bipush ⟨by decide, by decide⟩ kX9_run rfl ?_
  refine fz_icmp_gt (tgt := 24) kX9_run rfl (by decide) (fun c4 => ?_) (fun c4 => ?_)
  · exfalso; omega
  · refine fz_aload_n kX9_run rfl rfl ?_
    refine fz_iload_n kX9_run rfl rfl ?_
    refine fz_callV (d' := 0) (M' := mX9_isKind) (As := [fz_i 6]) (st := []) kX9_run rfl rfl vX9_isKind rfl rfl rfl rfl (Nat.le_of_ble_eq_true rfl) (Nat.le_of_ble_eq_true rfl) (by decide) (sX9_isKind h hI 6 ) (fun H5 r6 q7 o8 => ?_)
    obtain ⟨e9, y10, rfl, p11⟩ := q7
    subst H5
    clear o8
    rcases p11 with ⟨rfl, c12⟩ | ⟨rfl, c12⟩
    · refine fz_if_eq (tgt := 24) kX9_run rfl (by decide) (fun c13 => ?_) (fun c13 => ?_)
      · exfalso; omega
      · refine fz_iload_n kX9_run rfl rfl ?_
        refine fz_if_lt (tgt := 24) kX9_run rfl (by decide) (fun c14 => ?_) (fun c14 => ?_)
        · exfalso; omega
        · refine fz_iload_n kX9_run rfl rfl ?_
          refine fz_iconst ⟨by decide, by decide⟩ kX9_run rfl ?_
          refine fz_icmp_lt (tgt := 26) kX9_run rfl (by decide) (fun c15 => ?_) (fun c15 => ?_)
          · refine fz_iload_n kX9_run rfl rfl ?_
            refine fz_iload_n kX9_run rfl rfl ?_
            refine fz_callS (d' := 0) (M' := mX9_ownerFrom) (As := [fz_i 6, fz_i 0]) (st := []) kX9_run rfl rfl vX9_ownerFrom rfl rfl (Nat.le_of_ble_eq_true rfl) (Nat.le_of_ble_eq_true rfl) (by decide) (sX9_ownerFrom_6_0 h hI  ) (fun H16 r17 q18 o19 => ?_)
            obtain ⟨e20, y22, rfl, f21⟩ := q18
            subst H16
            clear o19
            refine fz_eqi (show y22 = 6 by omega) ?_
            refine fz_istore (ls' := [(5, fz_i 6), (0, fz_r 44), (1, fz_i 6), (2, fz_i 0), (3, fz_i x), (4, fz_i dp)]) kX9_run rfl (by decide) rfl ?_
            refine fz_gets kX9_run rfl ?_
            refine fz_iload kX9_run rfl rfl ?_
            refine fz_taldV (v := 0) kX9_run rfl ⟨by decide, by decide⟩ (by omega) (by rw [hI.2.2.2.2]; decide) (by rw [hI.2.2.2.2]; rfl) ?_
            refine fz_istore (ls' := [(6, fz_i 0), (5, fz_i 6), (0, fz_r 44), (1, fz_i 6), (2, fz_i 0), (3, fz_i x), (4, fz_i dp)]) kX9_run rfl (by decide) rfl ?_
            refine fz_iload kX9_run rfl rfl ?_
            refine fz_iconst ⟨by decide, by decide⟩ kX9_run rfl ?_
            refine fz_iaddN kX9_run rfl (by omega) ?_
            refine fz_istore (ls' := [(7, fz_i (dp + 1)), (6, fz_i 0), (5, fz_i 6), (0, fz_r 44), (1, fz_i 6), (2, fz_i 0), (3, fz_i x), (4, fz_i dp)]) kX9_run rfl (by decide) rfl ?_
            refine fz_gets kX9_run rfl ?_
            refine fz_iload kX9_run rfl rfl ?_
            refine fz_iconst ⟨by decide, by decide⟩ kX9_run rfl ?_
            refine fz_imulN kX9_run rfl ⟨by decide, by decide⟩ ?_
            refine fz_eqi (y := 24) rfl ?_
            refine fz_iload_n kX9_run rfl rfl ?_
            refine fz_iaddN kX9_run rfl ⟨by decide, by decide⟩ ?_
            refine fz_eqi (y := 24) rfl ?_
            refine fz_taldV (v := 70) kX9_run rfl ⟨by decide, by decide⟩ (by omega) (by rw [hI.2.2.2.1]; decide) (by rw [hI.2.2.2.1]; rfl) ?_
            refine fz_istore (ls' := [(8, fz_i 70), (7, fz_i (dp + 1)), (6, fz_i 0), (5, fz_i 6), (0, fz_r 44), (1, fz_i 6), (2, fz_i 0), (3, fz_i x), (4, fz_i dp)]) kX9_run rfl (by decide) rfl ?_
            refine fz_aload_n kX9_run rfl rfl ?_
            refine fz_iload kX9_run rfl rfl ?_
            refine fz_callV (d' := 0) (M' := mX9_note) (As := [fz_i 70]) (st := []) kX9_run rfl rfl vX9_note rfl rfl rfl rfl (Nat.le_of_ble_eq_true rfl) (Nat.le_of_ble_eq_true rfl) (by decide) (sX9_note h hI 70 (by omega)) (fun H27 r28 q29 o30 => ?_)
            obtain ⟨hI31, hf32, rfl, f33, f34⟩ := q29
            clear o30
            have hf35 := fz_fr_tr hf hf32 (show fz_su [(44, 3), (46, 99999)] [(44, 3), (46, 99999)] = true from rfl)
            have t36 : H27 44 4 = h 44 4 := hf32 44 4 rfl
            refine fz_iload kX9_run rfl rfl ?_
            refine fz_lsw (tgt := 323) kX9_run rfl (by decide) (show Op.lookupswitch.offset [(1, 113), (2, 120), (10, 146), (11, 161), (20, 168), (30, 181), (40, 193), (41, 206), (50, 219), (60, 243), (70, 256), (80, 269), (81, 293)] 306 70 = 256 from rfl) (by decide) ?_
            refine fz_aload_n kX9_run rfl rfl ?_
            refine fz_iload kX9_run rfl rfl ?_
            refine fz_iconst ⟨by decide, by decide⟩ kX9_run rfl ?_
            refine fz_iload_n kX9_run rfl rfl ?_
            refine fz_iload kX9_run rfl rfl ?_
            have b37 : (-2147483648) ≤ H27 44 3 ∧ H27 44 3 ≤ 2147483647 := hI31.1 44 _
            have e38 : H27 44 5 = h 44 5 := hf35 44 5 rfl
            have e39 : H27 44 4 = h 44 4 := hf35 44 4 rfl
            refine fz_callV (d' := 1) (M' := mX9_run) (As := [fz_i 0, fz_i 0, fz_i x, fz_i (dp + 1)]) (st := []) kX9_run rfl rfl vX9_run rfl rfl rfl rfl (Nat.le_of_ble_eq_true rfl) (Nat.le_of_ble_eq_true rfl) (by decide) (sX9_run_6_0_0 H27 hI31 x (dp + 1) w (by omega) (by omega) (by omega) (by omega)) (fun H40 r41 q42 o43 => ?_)
            obtain ⟨hI44, hf45, y50, rfl, f46, f47, f48, f49⟩ := q42
            clear o43
            have hf51 := fz_fr_tr hf35 hf45 (show fz_su [(44, 3), (46, 99999)] [(44, 3), (46, 99999)] = true from rfl)
            have t52 : H40 44 4 = H27 44 4 := hf45 44 4 rfl
            refine fz_iconst ⟨by decide, by decide⟩ kX9_run rfl ?_
            refine fz_imul kX9_run rfl ?_
            have b53 := fz_w_b (y50 * 2)
            exact fz_iret kX9_run rfl rfl (fun _ => ⟨hI44, hf51, _, rfl, (by omega), (by first | rfl | (rw [f47, lost]) | (rw [f47]) | (rw [hp3]) | (exfalso; omega)), (by simp only [List.length_cons, List.length_nil]; omega), (by first | exact fz_tc2 f34 f49 lost (by omega) (by simp only [List.length_cons, List.length_nil]; omega) | exact fz_tc1 f34 f49 (by omega) | exact fz_tc0 f34 | exact f49 | (exfalso; omega))⟩)
          · exfalso; omega
    · refine fz_if_eq (tgt := 24) kX9_run rfl (by decide) (fun c57 => ?_) (fun c57 => ?_)
      · refine fz_iconst ⟨by decide, by decide⟩ kX9_run rfl ?_
        exact fz_iret kX9_run rfl rfl (fun _ => ⟨hI, hf, _, rfl, (by omega), (by first | rfl | (rw [lost, lost]) | (rw [lost]) | (rw [hp3]) | (exfalso; omega)), (by simp only [List.length_cons, List.length_nil]; omega), (by first | exact fz_tc2 lost lost lost (by omega) (by simp only [List.length_cons, List.length_nil]; omega) | exact fz_tc1 lost lost (by omega) | exact fz_tc0 lost | exact lost | (exfalso; omega))⟩)
      · exfalso; omega

abbrev qX9_run_6_6_1 (h : fz_H) (x dp w : Int) : fz_H → Option fz_V → Prop := fun h' r0 => fz_Iv h' ∧ fz_fr [(44, 3), (46, 99999)] h h' ∧ ∃ r : Int, r0 = some (fz_i r) ∧ (h' 44 3 = h 44 3 + 3) ∧ (r = fz_w (fz_w (fz_w (x + w) * 2) * 2)) ∧ (h' 44 3 = h 44 3 + ([10, 70, 1] : List Int).length) ∧ (h' 46 = fz_tr (h 46) (h 44 3) [10, 70, 1])
set_option maxHeartbeats 1000000 in
set_option maxRecDepth 100000 in
theorem sX9_run_6_6_1 (h : fz_H) (hI : fz_Iv h) (x dp w : Int) (hp0 : h 44 5 = 6) (hp1 : 0 ≤ dp ∧ dp ≤ 37) (hp2 : 0 ≤ h 44 3 ∧ h 44 3 ≤ 897) (hp3 : h 44 4 = w) : fz_R 3 mX9_run 0 [(0, fz_r 44), (1, fz_i 6), (2, fz_i 1), (3, fz_i x), (4, fz_i dp)] [] h (qX9_run_6_6_1 h x dp w) := by
  refine fz_knowl (fun hk => ?_)
  have hr_x : -2147483648 ≤ x ∧ x < 2147483648 := hk _ (List.Mem.tail _ (List.Mem.tail _ (List.Mem.tail _ (List.Mem.head _))))
  have hr_dp : -2147483648 ≤ dp ∧ dp < 2147483648 := hk _ (List.Mem.tail _ (List.Mem.tail _ (List.Mem.tail _ (List.Mem.tail _ (List.Mem.head _)))))
  clear hk
  have hf : fz_fr [(44, 3), (46, 99999)] h h := fz_fr_rf
  have b1 : 0 ≤ h 44 5 ∧ h 44 5 ≤ 7 := hI.1 44 _
  have b2 : (-2147483648) ≤ h 44 3 ∧ h 44 3 ≤ 2147483647 := hI.1 44 _
  have b3 : 0 ≤ h 44 4 ∧ h 44 4 ≤ 49 := hI.1 44 _
  refine fz_iload kX9_run rfl rfl ?_
  refine fz_bipush ⟨by decide, by decide⟩ kX9_run rfl ?_
  refine fz_icmp_gt (tgt := 24) kX9_run rfl (by decide) (fun c4 => ?_) (fun c4 => ?_)
  · exfalso; omega
  · refine fz_aload_n kX9_run rfl rfl ?_
    refine fz_iload_n kX9_run rfl rfl ?_
    refine fz_callV (d' := 0) (M' := mX9_isKind) (As := [fz_i 6]) (st := []) kX9_run rfl rfl vX9_isKind rfl rfl rfl rfl (Nat.le_of_ble_eq_true rfl) (Nat.le_of_ble_eq_true rfl) (by decide) (sX9_isKind h hI 6 ) (fun H5 r6 q7 o8 => ?_)
    obtain ⟨e9, y10, rfl, p11⟩ := q7
    subst H5
    clear o8
    rcases p11 with ⟨rfl, c12⟩ | ⟨rfl, c12⟩
    · refine fz_if_eq (tgt := 24) kX9_run rfl (by decide) (fun c13 => ?_) (fun c13 => ?_)
      · exfalso; omega
      · refine fz_iload_n kX9_run rfl rfl ?_
        refine fz_if_lt (tgt := 24) kX9_run rfl (by decide) (fun c14 => ?_) (fun c14 => ?_)
        · exfalso; omega
        · refine fz_iload_n kX9_run rfl rfl ?_
          refine fz_iconst ⟨by decide, by decide⟩ kX9_run rfl ?_
          refine fz_icmp_lt (tgt := 26) kX9_run rfl (by decide) (fun c15 => ?_) (fun c15 => ?_)
          · refine fz_iload_n kX9_run rfl rfl ?_
            refine fz_iload_n kX9_run rfl rfl ?_
            refine fz_callS (d' := 0) (M' := mX9_ownerFrom) (As := [fz_i 6, fz_i 1]) (st := []) kX9_run rfl rfl vX9_ownerFrom rfl rfl (Nat.le_of_ble_eq_true rfl) (Nat.le_of_ble_eq_true rfl) (by decide) (sX9_ownerFrom_6_1 h hI  ) (fun H16 r17 q18 o19 => ?_)
            obtain ⟨e20, y22, rfl, f21⟩ := q18
            subst H16
            clear o19
            refine fz_eqi (show y22 = 0 by omega) ?_
            refine fz_istore (ls' := [(5, fz_i 0), (0, fz_r 44), (1, fz_i 6), (2, fz_i 1), (3, fz_i x), (4, fz_i dp)]) kX9_run rfl (by decide) rfl ?_
            refine fz_gets kX9_run rfl ?_
            refine fz_iload kX9_run rfl rfl ?_
            refine fz_taldV (v := (-1)) kX9_run rfl ⟨by decide, by decide⟩ (by omega) (by rw [hI.2.2.2.2]; decide) (by rw [hI.2.2.2.2]; rfl) ?_
            refine fz_istore (ls' := [(6, fz_i (-1)), (5, fz_i 0), (0, fz_r 44), (1, fz_i 6), (2, fz_i 1), (3, fz_i x), (4, fz_i dp)]) kX9_run rfl (by decide) rfl ?_
            refine fz_iload kX9_run rfl rfl ?_
            refine fz_iconst ⟨by decide, by decide⟩ kX9_run rfl ?_
            refine fz_iaddN kX9_run rfl (by omega) ?_
            refine fz_istore (ls' := [(7, fz_i (dp + 1)), (6, fz_i (-1)), (5, fz_i 0), (0, fz_r 44), (1, fz_i 6), (2, fz_i 1), (3, fz_i x), (4, fz_i dp)]) kX9_run rfl (by decide) rfl ?_
            refine fz_gets kX9_run rfl ?_
            refine fz_iload kX9_run rfl rfl ?_
            refine fz_iconst ⟨by decide, by decide⟩ kX9_run rfl ?_
            refine fz_imulN kX9_run rfl ⟨by decide, by decide⟩ ?_
            refine fz_eqi (y := 0) rfl ?_
            refine fz_iload_n kX9_run rfl rfl ?_
            refine fz_iaddN kX9_run rfl ⟨by decide, by decide⟩ ?_
            refine fz_eqi (y := 1) rfl ?_
            refine fz_taldV (v := 10) kX9_run rfl ⟨by decide, by decide⟩ (by omega) (by rw [hI.2.2.2.1]; decide) (by rw [hI.2.2.2.1]; rfl) ?_
            refine fz_istore (ls' := [(8, fz_i 10), (7, fz_i (dp + 1)), (6, fz_i (-1)), (5, fz_i 0), (0, fz_r 44), (1, fz_i 6), (2, fz_i 1), (3, fz_i x), (4, fz_i dp)]) kX9_run rfl (by decide) rfl ?_
            refine fz_aload_n kX9_run rfl rfl ?_
            refine fz_iload kX9_run rfl rfl ?_
            refine fz_callV (d' := 0) (M' := mX9_note) (As := [fz_i 10]) (st := []) kX9_run rfl rfl vX9_note rfl rfl rfl rfl (Nat.le_of_ble_eq_true rfl) (Nat.le_of_ble_eq_true rfl) (by decide) (sX9_note h hI 10 (by omega)) (fun H27 r28 q29 o30 => ?_)
            obtain ⟨hI31, hf32, rfl, f33, f34⟩ := q29
            clear o30
            have hf35 := fz_fr_tr hf hf32 (show fz_su [(44, 3), (46, 99999)] [(44, 3), (46, 99999)] = true from rfl)
            have t36 : H27 44 4 = h 44 4 := hf32 44 4 rfl
            refine fz_iload kX9_run rfl rfl ?_
            refine fz_lsw (tgt := 213) kX9_run rfl (by decide) (show Op.lookupswitch.offset [(1, 113), (2, 120), (10, 146), (11, 161), (20, 168), (30, 181), (40, 193), (41, 206), (50, 219), (60, 243), (70, 256), (80, 269), (81, 293)] 306 10 = 146 from rfl) (by decide) ?_
            refine fz_aload_n kX9_run rfl rfl ?_
            refine fz_aload_n kX9_run rfl rfl ?_
            refine fz_getV (v := h 44 5) kX9_run rfl rfl (hf35 44 5 rfl) ?_
            have b37 : 0 ≤ h 44 5 ∧ h 44 5 ≤ 7 := hI.1 44 _
            refine fz_eqi (show (h 44 5) = 6 by omega) ?_
            refine fz_iconst ⟨by decide, by decide⟩ kX9_run rfl ?_
            refine fz_iload_n kX9_run rfl rfl ?_
            refine fz_iload kX9_run rfl rfl ?_
            have b38 : (-2147483648) ≤ H27 44 3 ∧ H27 44 3 ≤ 2147483647 := hI31.1 44 _
            have e39 : H27 44 5 = h 44 5 := hf35 44 5 rfl
            have e40 : H27 44 4 = h 44 4 := hf35 44 4 rfl
            refine fz_callV (d' := 2) (M' := mX9_run) (As := [fz_i 6, fz_i 0, fz_i x, fz_i (dp + 1)]) (st := []) kX9_run rfl rfl vX9_run rfl rfl rfl rfl (Nat.le_of_ble_eq_true rfl) (Nat.le_of_ble_eq_true rfl) (by decide) (sX9_run_6_6_0 H27 hI31 x (dp + 1) w (by omega) (by omega) (by omega) (by omega)) (fun H41 r42 q43 o44 => ?_)
            obtain ⟨hI45, hf46, y51, rfl, f47, f48, f49, f50⟩ := q43
            clear o44
            have hf52 := fz_fr_tr hf35 hf46 (show fz_su [(44, 3), (46, 99999)] [(44, 3), (46, 99999)] = true from rfl)
            have t53 : H41 44 4 = H27 44 4 := hf46 44 4 rfl
            refine fz_iconst ⟨by decide, by decide⟩ kX9_run rfl ?_
            refine fz_imul kX9_run rfl ?_
            have b54 := fz_w_b (y51 * 2)
            exact fz_iret kX9_run rfl rfl (fun _ => ⟨hI45, hf52, _, rfl, (by omega), (by first | rfl | (rw [f48, lost]) | (rw [f48]) | (rw [hp3]) | (exfalso; omega)), (by simp only [List.length_cons, List.length_nil]; omega), (by first | exact fz_tc2 f34 f50 lost (by omega) (by simp only [List.length_cons, List.length_nil]; omega) | exact fz_tc1 f34 f50 (by omega) | exact fz_tc0 f34 | exact f50 | (exfalso; omega))⟩)
          · exfalso; omega
    · refine fz_if_eq (tgt := 24) kX9_run rfl (by decide) (fun c58 => ?_) (fun c58 => ?_)
      · refine fz_iconst ⟨by decide, by decide⟩ kX9_run rfl ?_
        exact fz_iret kX9_run rfl rfl (fun _ => ⟨hI, hf, _, rfl, (by omega), (by first | rfl | (rw [lost, lost]) | (rw [lost]) | (rw [hp3]) | (exfalso; omega)), (by simp only [List.length_cons, List.length_nil]; omega), (by first | exact fz_tc2 lost lost lost (by omega) (by simp only [List.length_cons, List.length_nil]; omega) | exact fz_tc1 lost lost (by omega) | exact fz_tc0 lost | exact lost | (exfalso; omega))⟩)
      · exfalso; omega

abbrev qX9_run_6_6_2 (h : fz_H) (x dp w : Int) : fz_H → Option fz_V → Prop := fun h' r0 => fz_Iv h' ∧ fz_fr [(44, 3), (46, 99999)] h h' ∧ ∃ r : Int, r0 = some (fz_i r) ∧ (h' 44 3 = h 44 3 + 1) ∧ (r = fz_xor x w) ∧ (h' 44 3 = h 44 3 + ([11] : List Int).length) ∧ (h' 46 = fz_tr (h 46) (h 44 3) [11])
set_option maxHeartbeats 1000000 in
set_option maxRecDepth 100000 in
theorem sX9_run_6_6_2 (h : fz_H) (hI : fz_Iv h) (x dp w : Int) (hp0 : h 44 5 = 6) (hp1 : 0 ≤ dp ∧ dp ≤ 39) (hp2 : 0 ≤ h 44 3 ∧ h 44 3 ≤ 899) (hp3 : h 44 4 = w) : fz_R 1 mX9_run 0 [(0, fz_r 44), (1, fz_i 6), (2, fz_i 2), (3, fz_i x), (4, fz_i dp)] [] h (qX9_run_6_6_2 h x dp w) := by
  refine fz_knowl (fun hk => ?_)
  have hr_x : -2147483648 ≤ x ∧ x < 2147483648 := hk _ (List.Mem.tail _ (List.Mem.tail _ (List.Mem.tail _ (List.Mem.head _))))
  have hr_dp : -2147483648 ≤ dp ∧ dp < 2147483648 := hk _ (List.Mem.tail _ (List.Mem.tail _ (List.Mem.tail _ (List.Mem.tail _ (List.Mem.head _)))))
  clear hk
  have hf : fz_fr [(44, 3), (46, 99999)] h h := fz_fr_rf
  have b1 : 0 ≤ h 44 5 ∧ h 44 5 ≤ 7 := hI.1 44 _
  have b2 : (-2147483648) ≤ h 44 3 ∧ h 44 3 ≤ 2147483647 := hI.1 44 _
  have b3 : 0 ≤ h 44 4 ∧ h 44 4 ≤ 49 := hI.1 44 _
  refine fz_iload kX9_run rfl rfl ?_
  refine fz_bipush ⟨by decide, by decide⟩ kX9_run rfl ?_
  refine fz_icmp_gt (tgt := 24) kX9_run rfl (by decide) (fun c4 => ?_) (fun c4 => ?_)
  · exfalso; omega
  · refine fz_aload_n kX9_run rfl rfl ?_
    refine fz_iload_n kX9_run rfl rfl ?_
    refine fz_callV (d' := 0) (M' := mX9_isKind) (As := [fz_i 6]) (st := []) kX9_run rfl rfl vX9_isKind rfl rfl rfl rfl (Nat.le_of_ble_eq_true rfl) (Nat.le_of_ble_eq_true rfl) (by decide) (sX9_isKind h hI 6 ) (fun H5 r6 q7 o8 => ?_)
    obtain ⟨e9, y10, rfl, p11⟩ := q7
    subst H5
    clear o8
    rcases p11 with ⟨rfl, c12⟩ | ⟨rfl, c12⟩
    · refine fz_if_eq (tgt := 24) kX9_run rfl (by decide) (fun c13 => ?_) (fun c13 => ?_)
      · exfalso; omega
      · refine fz_iload_n kX9_run rfl rfl ?_
        refine fz_if_lt (tgt := 24) kX9_run rfl (by decide) (fun c14 => ?_) (fun c14 => ?_)
        · exfalso; omega
        · refine fz_iload_n kX9_run rfl rfl ?_
          refine fz_iconst ⟨by decide, by decide⟩ kX9_run rfl ?_
          refine fz_icmp_lt (tgt := 26) kX9_run rfl (by decide) (fun c15 => ?_) (fun c15 => ?_)
          · refine fz_iload_n kX9_run rfl rfl ?_
            refine fz_iload_n kX9_run rfl rfl ?_
            refine fz_callS (d' := 0) (M' := mX9_ownerFrom) (As := [fz_i 6, fz_i 2]) (st := []) kX9_run rfl rfl vX9_ownerFrom rfl rfl (Nat.le_of_ble_eq_true rfl) (Nat.le_of_ble_eq_true rfl) (by decide) (sX9_ownerFrom_6_2 h hI  ) (fun H16 r17 q18 o19 => ?_)
            obtain ⟨e20, y22, rfl, f21⟩ := q18
            subst H16
            clear o19
            refine fz_eqi (show y22 = 0 by omega) ?_
            refine fz_istore (ls' := [(5, fz_i 0), (0, fz_r 44), (1, fz_i 6), (2, fz_i 2), (3, fz_i x), (4, fz_i dp)]) kX9_run rfl (by decide) rfl ?_
            refine fz_gets kX9_run rfl ?_
            refine fz_iload kX9_run rfl rfl ?_
            refine fz_taldV (v := (-1)) kX9_run rfl ⟨by decide, by decide⟩ (by omega) (by rw [hI.2.2.2.2]; decide) (by rw [hI.2.2.2.2]; rfl) ?_
            refine fz_istore (ls' := [(6, fz_i (-1)), (5, fz_i 0), (0, fz_r 44), (1, fz_i 6), (2, fz_i 2), (3, fz_i x), (4, fz_i dp)]) kX9_run rfl (by decide) rfl ?_
            refine fz_iload kX9_run rfl rfl ?_
            refine fz_iconst ⟨by decide, by decide⟩ kX9_run rfl ?_
            refine fz_iaddN kX9_run rfl (by omega) ?_
            refine fz_istore (ls' := [(7, fz_i (dp + 1)), (6, fz_i (-1)), (5, fz_i 0), (0, fz_r 44), (1, fz_i 6), (2, fz_i 2), (3, fz_i x), (4, fz_i dp)]) kX9_run rfl (by decide) rfl ?_
            refine fz_gets kX9_run rfl ?_
            refine fz_iload kX9_run rfl rfl ?_
            refine fz_iconst ⟨by decide, by decide⟩ kX9_run rfl ?_
            refine fz_imulN kX9_run rfl ⟨by decide, by decide⟩ ?_
            refine fz_eqi (y := 0) rfl ?_
            refine fz_iload_n kX9_run rfl rfl ?_
            refine fz_iaddN kX9_run rfl ⟨by decide, by decide⟩ ?_
            refine fz_eqi (y := 2) rfl ?_
            refine fz_taldV (v := 11) kX9_run rfl ⟨by decide, by decide⟩ (by omega) (by rw [hI.2.2.2.1]; decide) (by rw [hI.2.2.2.1]; rfl) ?_
            refine fz_istore (ls' := [(8, fz_i 11), (7, fz_i (dp + 1)), (6, fz_i (-1)), (5, fz_i 0), (0, fz_r 44), (1, fz_i 6), (2, fz_i 2), (3, fz_i x), (4, fz_i dp)]) kX9_run rfl (by decide) rfl ?_
            refine fz_aload_n kX9_run rfl rfl ?_
            refine fz_iload kX9_run rfl rfl ?_
            refine fz_callV (d' := 0) (M' := mX9_note) (As := [fz_i 11]) (st := []) kX9_run rfl rfl vX9_note rfl rfl rfl rfl (Nat.le_of_ble_eq_true rfl) (Nat.le_of_ble_eq_true rfl) (by decide) (sX9_note h hI 11 (by omega)) (fun H27 r28 q29 o30 => ?_)
            obtain ⟨hI31, hf32, rfl, f33, f34⟩ := q29
            clear o30
            have hf35 := fz_fr_tr hf hf32 (show fz_su [(44, 3), (46, 99999)] [(44, 3), (46, 99999)] = true from rfl)
            have t36 : H27 44 4 = h 44 4 := hf32 44 4 rfl
            refine fz_iload kX9_run rfl rfl ?_
            refine fz_lsw (tgt := 228) kX9_run rfl (by decide) (show Op.lookupswitch.offset [(1, 113), (2, 120), (10, 146), (11, 161), (20, 168), (30, 181), (40, 193), (41, 206), (50, 219), (60, 243), (70, 256), (80, 269), (81, 293)] 306 11 = 161 from rfl) (by decide) ?_
            refine fz_iload_n kX9_run rfl rfl ?_
            refine fz_aload_n kX9_run rfl rfl ?_
            refine fz_getV (v := h 44 4) kX9_run rfl rfl (hf35 44 4 rfl) ?_
            have b37 : 0 ≤ h 44 4 ∧ h 44 4 ≤ 49 := hI.1 44 _
            refine fz_ixor kX9_run rfl ?_
            have b38 : -2147483648 ≤ (fz_xor x (h 44 4)) ∧ (fz_xor x (h 44 4)) < 2147483648 := fz_b32 _
            exact fz_iret kX9_run rfl rfl (fun _ => ⟨hI31, hf35, _, rfl, (by omega), (by first | rfl | (rw [lost, lost]) | (rw [lost]) | (rw [hp3]) | (exfalso; omega)), (by simp only [List.length_cons, List.length_nil]; omega), (by first | exact fz_tc2 f34 lost lost (by omega) (by simp only [List.length_cons, List.length_nil]; omega) | exact fz_tc1 f34 lost (by omega) | exact fz_tc0 f34 | exact lost | (exfalso; omega))⟩)
          · exfalso; omega
    · refine fz_if_eq (tgt := 24) kX9_run rfl (by decide) (fun c42 => ?_) (fun c42 => ?_)
      · refine fz_iconst ⟨by decide, by decide⟩ kX9_run rfl ?_
        exact fz_iret kX9_run rfl rfl (fun _ => ⟨hI, hf, _, rfl, (by omega), (by first | rfl | (rw [lost, lost]) | (rw [lost]) | (rw [hp3]) | (exfalso; omega)), (by simp only [List.length_cons, List.length_nil]; omega), (by first | exact fz_tc2 lost lost lost (by omega) (by simp only [List.length_cons, List.length_nil]; omega) | exact fz_tc1 lost lost (by omega) | exact fz_tc0 lost | exact lost | (exfalso; omega))⟩)
      · exfalso; omega

abbrev qX9_run_6_6_3 (h : fz_H) (x dp w : Int) : fz_H → Option fz_V → Prop := fun h' r0 => fz_Iv h' ∧ fz_fr [(44, 3), (46, 99999)] h h' ∧ ∃ r : Int, r0 = some (fz_i r) ∧ (h' 44 3 = h 44 3 + 5) ∧ (r = fz_w (fz_w (fz_w (fz_w (x + w) * 2) * 2) - fz_xor 1 w)) ∧ (h' 44 3 = h 44 3 + ([2, 10, 70, 1, 11] : List Int).length) ∧ (h' 46 = fz_tr (h 46) (h 44 3) [2, 10, 70, 1, 11])
set_option maxHeartbeats 1000000 in
set_option maxRecDepth 100000 in
theorem sX9_run_6_6_3 (h : fz_H) (hI : fz_Iv h) (x dp w : Int) (hp0 : h 44 5 = 6) (hp1 : 0 ≤ dp ∧ dp ≤ 36) (hp2 : 0 ≤ h 44 3 ∧ h 44 3 ≤ 895) (hp3 : h 44 4 = w) : fz_R 4 mX9_run 0 [(0, fz_r 44), (1, fz_i 6), (2, fz_i 3), (3, fz_i x), (4, fz_i dp)] [] h (qX9_run_6_6_3 h x dp w) := by
  refine fz_knowl (fun hk => ?_)
  have hr_x : -2147483648 ≤ x ∧ x < 2147483648 := hk _ (List.Mem.tail _ (List.Mem.tail _ (List.Mem.tail _ (List.Mem.head _))))
  have hr_dp : -2147483648 ≤ dp ∧ dp < 2147483648 := hk _ (List.Mem.tail _ (List.Mem.tail _ (List.Mem.tail _ (List.Mem.tail _ (List.Mem.head _)))))
  clear hk
  have hf : fz_fr [(44, 3), (46, 99999)] h h := fz_fr_rf
  have b1 : 0 ≤ h 44 5 ∧ h 44 5 ≤ 7 := hI.1 44 _
  have b2 : (-2147483648) ≤ h 44 3 ∧ h 44 3 ≤ 2147483647 := hI.1 44 _
  have b3 : 0 ≤ h 44 4 ∧ h 44 4 ≤ 49 := hI.1 44 _
  refine fz_iload kX9_run rfl rfl ?_
  refine fz_bipush ⟨by decide, by decide⟩ kX9_run rfl ?_
  refine fz_icmp_gt (tgt := 24) kX9_run rfl (by decide) (fun c4 => ?_) (fun c4 => ?_)
  · exfalso; omega
  · refine fz_aload_n kX9_run rfl rfl ?_
    refine fz_iload_n kX9_run rfl rfl ?_
    refine fz_callV (d' := 0) (M' := mX9_isKind) (As := [fz_i 6]) (st := []) kX9_run rfl rfl vX9_isKind rfl rfl rfl rfl (Nat.le_of_ble_eq_true rfl) (Nat.le_of_ble_eq_true rfl) (by decide) (sX9_isKind h hI 6 ) (fun H5 r6 q7 o8 => ?_)
    obtain ⟨e9, y10, rfl, p11⟩ := q7
    subst H5
    clear o8
    rcases p11 with ⟨rfl, c12⟩ | ⟨rfl, c12⟩
    · refine fz_if_eq (tgt := 24) kX9_run rfl (by decide) (fun c13 => ?_) (fun c13 => ?_)
      · exfalso; omega
      · refine fz_iload_n kX9_run rfl rfl ?_
        refine fz_if_lt (tgt := 24) kX9_run rfl (by decide) (fun c14 => ?_) (fun c14 => ?_)
        · exfalso; omega
        · refine fz_iload_n kX9_run rfl rfl ?_
          refine fz_iconst ⟨by decide, by decide⟩ kX9_run rfl ?_
          refine fz_icmp_lt (tgt := 26) kX9_run rfl (by decide) (fun c15 => ?_) (fun c15 => ?_)
          · refine fz_iload_n kX9_run rfl rfl ?_
            refine fz_iload_n kX9_run rfl rfl ?_
            refine fz_callS (d' := 0) (M' := mX9_ownerFrom) (As := [fz_i 6, fz_i 3]) (st := []) kX9_run rfl rfl vX9_ownerFrom rfl rfl (Nat.le_of_ble_eq_true rfl) (Nat.le_of_ble_eq_true rfl) (by decide) (sX9_ownerFrom_6_3 h hI  ) (fun H16 r17 q18 o19 => ?_)
            obtain ⟨e20, y22, rfl, f21⟩ := q18
            subst H16
            clear o19
            refine fz_eqi (show y22 = 0 by omega) ?_
            refine fz_istore (ls' := [(5, fz_i 0), (0, fz_r 44), (1, fz_i 6), (2, fz_i 3), (3, fz_i x), (4, fz_i dp)]) kX9_run rfl (by decide) rfl ?_
            refine fz_gets kX9_run rfl ?_
            refine fz_iload kX9_run rfl rfl ?_
            refine fz_taldV (v := (-1)) kX9_run rfl ⟨by decide, by decide⟩ (by omega) (by rw [hI.2.2.2.2]; decide) (by rw [hI.2.2.2.2]; rfl) ?_
            refine fz_istore (ls' := [(6, fz_i (-1)), (5, fz_i 0), (0, fz_r 44), (1, fz_i 6), (2, fz_i 3), (3, fz_i x), (4, fz_i dp)]) kX9_run rfl (by decide) rfl ?_
            refine fz_iload kX9_run rfl rfl ?_
            refine fz_iconst ⟨by decide, by decide⟩ kX9_run rfl ?_
            refine fz_iaddN kX9_run rfl (by omega) ?_
            refine fz_istore (ls' := [(7, fz_i (dp + 1)), (6, fz_i (-1)), (5, fz_i 0), (0, fz_r 44), (1, fz_i 6), (2, fz_i 3), (3, fz_i x), (4, fz_i dp)]) kX9_run rfl (by decide) rfl ?_
            refine fz_gets kX9_run rfl ?_
            refine fz_iload kX9_run rfl rfl ?_
            refine fz_iconst ⟨by decide, by decide⟩ kX9_run rfl ?_
            refine fz_imulN kX9_run rfl ⟨by decide, by decide⟩ ?_
            refine fz_eqi (y := 0) rfl ?_
            refine fz_iload_n kX9_run rfl rfl ?_
            refine fz_iaddN kX9_run rfl ⟨by decide, by decide⟩ ?_
            refine fz_eqi (y := 3) rfl ?_
            refine fz_taldV (v := 2) kX9_run rfl ⟨by decide, by decide⟩ (by omega) (by rw [hI.2.2.2.1]; decide) (by rw [hI.2.2.2.1]; rfl) ?_
            refine fz_istore (ls' := [(8, fz_i 2), (7, fz_i (dp + 1)), (6, fz_i (-1)), (5, fz_i 0), (0, fz_r 44), (1, fz_i 6), (2, fz_i 3), (3, fz_i x), (4, fz_i dp)]) kX9_run rfl (by decide) rfl ?_
            refine fz_aload_n kX9_run rfl rfl ?_
            refine fz_iload kX9_run rfl rfl ?_
            refine fz_callV (d' := 0) (M' := mX9_note) (As := [fz_i 2]) (st := []) kX9_run rfl rfl vX9_note rfl rfl rfl rfl (Nat.le_of_ble_eq_true rfl) (Nat.le_of_ble_eq_true rfl) (by decide) (sX9_note h hI 2 (by omega)) (fun H27 r28 q29 o30 => ?_)
            obtain ⟨hI31, hf32, rfl, f33, f34⟩ := q29
            clear o30
            have hf35 := fz_fr_tr hf hf32 (show fz_su [(44, 3), (46, 99999)] [(44, 3), (46, 99999)] = true from rfl)
            have t36 : H27 44 4 = h 44 4 := hf32 44 4 rfl
            refine fz_iload kX9_run rfl rfl ?_
            refine fz_lsw (tgt := 187) kX9_run rfl (by decide) (show Op.lookupswitch.offset [(1, 113), (2, 120), (10, 146), (11, 161), (20, 168), (30, 181), (40, 193), (41, 206), (50, 219), (60, 243), (70, 256), (80, 269), (81, 293)] 306 2 = 120 from rfl) (by decide) ?_
            refine fz_aload_n kX9_run rfl rfl ?_
            refine fz_aload_n kX9_run rfl rfl ?_
            refine fz_getV (v := h 44 5) kX9_run rfl rfl (hf35 44 5 rfl) ?_
            have b37 : 0 ≤ h 44 5 ∧ h 44 5 ≤ 7 := hI.1 44 _
            refine fz_eqi (show (h 44 5) = 6 by omega) ?_
            refine fz_iconst ⟨by decide, by decide⟩ kX9_run rfl ?_
            refine fz_iload_n kX9_run rfl rfl ?_
            refine fz_iload kX9_run rfl rfl ?_
            have b38 : (-2147483648) ≤ H27 44 3 ∧ H27 44 3 ≤ 2147483647 := hI31.1 44 _
            have e39 : H27 44 5 = h 44 5 := hf35 44 5 rfl
            have e40 : H27 44 4 = h 44 4 := hf35 44 4 rfl
            refine fz_callV (d' := 3) (M' := mX9_run) (As := [fz_i 6, fz_i 1, fz_i x, fz_i (dp + 1)]) (st := []) kX9_run rfl rfl vX9_run rfl rfl rfl rfl (Nat.le_of_ble_eq_true rfl) (Nat.le_of_ble_eq_true rfl) (by decide) (sX9_run_6_6_1 H27 hI31 x (dp + 1) w (by omega) (by omega) (by omega) (by omega)) (fun H41 r42 q43 o44 => ?_)
            obtain ⟨hI45, hf46, y51, rfl, f47, f48, f49, f50⟩ := q43
            clear o44
            have hf52 := fz_fr_tr hf35 hf46 (show fz_su [(44, 3), (46, 99999)] [(44, 3), (46, 99999)] = true from rfl)
            have t53 : H41 44 4 = H27 44 4 := hf46 44 4 rfl
            refine fz_aload_n kX9_run rfl rfl ?_
            refine fz_aload_n kX9_run rfl rfl ?_
            refine fz_getV (v := h 44 5) kX9_run rfl rfl (hf52 44 5 rfl) ?_
            refine fz_eqi (show (h 44 5) = 6 by omega) ?_
            refine fz_iconst ⟨by decide, by decide⟩ kX9_run rfl ?_
            refine fz_iconst ⟨by decide, by decide⟩ kX9_run rfl ?_
            refine fz_iload kX9_run rfl rfl ?_
            have b54 : (-2147483648) ≤ H41 44 3 ∧ H41 44 3 ≤ 2147483647 := hI45.1 44 _
            have e55 : H41 44 5 = h 44 5 := hf52 44 5 rfl
            have e56 : H41 44 4 = h 44 4 := hf52 44 4 rfl
            refine fz_callV (d' := 1) (M' := mX9_run) (As := [fz_i 6, fz_i 2, fz_i 1, fz_i (dp + 1)]) (st := [fz_i y51]) kX9_run rfl rfl vX9_run rfl rfl rfl rfl (Nat.le_of_ble_eq_true rfl) (Nat.le_of_ble_eq_true rfl) (by decide) (sX9_run_6_6_2 H41 hI45 1 (dp + 1) w (by omega) (by omega) (by omega) (by omega)) (fun H57 r58 q59 o60 => ?_)
            obtain ⟨hI61, hf62, y67, rfl, f63, f64, f65, f66⟩ := q59
            clear o60
            have hf68 := fz_fr_tr hf52 hf62 (show fz_su [(44, 3), (46, 99999)] [(44, 3), (46, 99999)] = true from rfl)
            have t69 : H57 44 4 = H41 44 4 := hf62 44 4 rfl
            refine fz_isub kX9_run rfl ?_
            have b70 := fz_w_b (y51 - y67)
            exact fz_iret kX9_run rfl rfl (fun _ => ⟨hI61, hf68, _, rfl, (by omega), (by first | rfl | (rw [f48, f64]) | (rw [f48]) | (rw [hp3]) | (exfalso; omega)), (by simp only [List.length_cons, List.length_nil]; omega), (by first | exact fz_tc2 f34 f50 f66 (by omega) (by simp only [List.length_cons, List.length_nil]; omega) | exact fz_tc1 f34 f50 (by omega) | exact fz_tc0 f34 | exact f50 | (exfalso; omega))⟩)
          · exfalso; omega
    · refine fz_if_eq (tgt := 24) kX9_run rfl (by decide) (fun c74 => ?_) (fun c74 => ?_)
      · refine fz_iconst ⟨by decide, by decide⟩ kX9_run rfl ?_
        exact fz_iret kX9_run rfl rfl (fun _ => ⟨hI, hf, _, rfl, (by omega), (by first | rfl | (rw [lost, lost]) | (rw [lost]) | (rw [hp3]) | (exfalso; omega)), (by simp only [List.length_cons, List.length_nil]; omega), (by first | exact fz_tc2 lost lost lost (by omega) (by simp only [List.length_cons, List.length_nil]; omega) | exact fz_tc1 lost lost (by omega) | exact fz_tc0 lost | exact lost | (exfalso; omega))⟩)
      · exfalso; omega

abbrev qX9_run_7_0_0 (h : fz_H) (x dp w : Int) : fz_H → Option fz_V → Prop := fun h' r0 => fz_Iv h' ∧ fz_fr [(44, 3), (46, 99999)] h h' ∧ ∃ r : Int, r0 = some (fz_i r) ∧ (h' 44 3 = h 44 3 + 1) ∧ (r = fz_w (x + w)) ∧ (h' 44 3 = h 44 3 + ([1] : List Int).length) ∧ (h' 46 = fz_tr (h 46) (h 44 3) [1])
set_option maxHeartbeats 1000000 in
set_option maxRecDepth 100000 in
theorem sX9_run_7_0_0 (h : fz_H) (hI : fz_Iv h) (x dp w : Int) (hp0 : h 44 5 = 7) (hp1 : 0 ≤ dp ∧ dp ≤ 39) (hp2 : 0 ≤ h 44 3 ∧ h 44 3 ≤ 899) (hp3 : h 44 4 = w) : fz_R 1 mX9_run 0 [(0, fz_r 44), (1, fz_i 0), (2, fz_i 0), (3, fz_i x), (4, fz_i dp)] [] h (qX9_run_7_0_0 h x dp w) := by
  refine fz_knowl (fun hk => ?_)
  have hr_x : -2147483648 ≤ x ∧ x < 2147483648 := hk _ (List.Mem.tail _ (List.Mem.tail _ (List.Mem.tail _ (List.Mem.head _))))
  have hr_dp : -2147483648 ≤ dp ∧ dp < 2147483648 := hk _ (List.Mem.tail _ (List.Mem.tail _ (List.Mem.tail _ (List.Mem.tail _ (List.Mem.head _)))))
  clear hk
  have hf : fz_fr [(44, 3), (46, 99999)] h h := fz_fr_rf
  have b1 : 0 ≤ h 44 5 ∧ h 44 5 ≤ 7 := hI.1 44 _
  have b2 : (-2147483648) ≤ h 44 3 ∧ h 44 3 ≤ 2147483647 := hI.1 44 _
  have b3 : 0 ≤ h 44 4 ∧ h 44 4 ≤ 49 := hI.1 44 _
  refine fz_iload kX9_run rfl rfl ?_
  refine fz_bipush ⟨by decide, by decide⟩ kX9_run rfl ?_
  refine fz_icmp_gt (tgt := 24) kX9_run rfl (by decide) (fun c4 => ?_) (fun c4 => ?_)
  · exfalso; omega
  · refine fz_aload_n kX9_run rfl rfl ?_
    refine fz_iload_n kX9_run rfl rfl ?_
    refine fz_callV (d' := 0) (M' := mX9_isKind) (As := [fz_i 0]) (st := []) kX9_run rfl rfl vX9_isKind rfl rfl rfl rfl (Nat.le_of_ble_eq_true rfl) (Nat.le_of_ble_eq_true rfl) (by decide) (sX9_isKind h hI 0 ) (fun H5 r6 q7 o8 => ?_)
    obtain ⟨e9, y10, rfl, p11⟩ := q7
    subst H5
    clear o8
    rcases p11 with ⟨rfl, c12⟩ | ⟨rfl, c12⟩
    · refine fz_if_eq (tgt := 24) kX9_run rfl (by decide) (fun c13 => ?_) (fun c13 => ?_)
      · exfalso; omega
      · refine fz_iload_n kX9_run rfl rfl ?_
        refine fz_if_lt (tgt := 24) kX9_run rfl (by decide) (fun c14 => ?_) (fun c14 => ?_)
        · exfalso; omega
        · refine fz_iload_n kX9_run rfl rfl ?_
          refine fz_iconst ⟨by decide, by decide⟩ kX9_run rfl ?_
          refine fz_icmp_lt (tgt := 26) kX9_run rfl (by decide) (fun c15 => ?_) (fun c15 => ?_)
          · refine fz_iload_n kX9_run rfl rfl ?_
            refine fz_iload_n kX9_run rfl rfl ?_
            refine fz_callS (d' := 0) (M' := mX9_ownerFrom) (As := [fz_i 0, fz_i 0]) (st := []) kX9_run rfl rfl vX9_ownerFrom rfl rfl (Nat.le_of_ble_eq_true rfl) (Nat.le_of_ble_eq_true rfl) (by decide) (sX9_ownerFrom_0_0 h hI  ) (fun H16 r17 q18 o19 => ?_)
            obtain ⟨e20, y22, rfl, f21⟩ := q18
            subst H16
            clear o19
            refine fz_eqi (show y22 = 0 by omega) ?_
            refine fz_istore (ls' := [(5, fz_i 0), (0, fz_r 44), (1, fz_i 0), (2, fz_i 0), (3, fz_i x), (4, fz_i dp)]) kX9_run rfl (by decide) rfl ?_
            refine fz_gets kX9_run rfl ?_
            refine fz_iload kX9_run rfl rfl ?_
            refine fz_taldV (v := (-1)) kX9_run rfl ⟨by decide, by decide⟩ (by omega) (by rw [hI.2.2.2.2]; decide) (by rw [hI.2.2.2.2]; rfl) ?_
            refine fz_istore (ls' := [(6, fz_i (-1)), (5, fz_i 0), (0, fz_r 44), (1, fz_i 0), (2, fz_i 0), (3, fz_i x), (4, fz_i dp)]) kX9_run rfl (by decide) rfl ?_
            refine fz_iload kX9_run rfl rfl ?_
            refine fz_iconst ⟨by decide, by decide⟩ kX9_run rfl ?_
            refine fz_iaddN kX9_run rfl (by omega) ?_
            refine fz_istore (ls' := [(7, fz_i (dp + 1)), (6, fz_i (-1)), (5, fz_i 0), (0, fz_r 44), (1, fz_i 0), (2, fz_i 0), (3, fz_i x), (4, fz_i dp)]) kX9_run rfl (by decide) rfl ?_
            refine fz_gets kX9_run rfl ?_
            refine fz_iload kX9_run rfl rfl ?_
            refine fz_iconst ⟨by decide, by decide⟩ kX9_run rfl ?_
            refine fz_imulN kX9_run rfl ⟨by decide, by decide⟩ ?_
            refine fz_eqi (y := 0) rfl ?_
            refine fz_iload_n kX9_run rfl rfl ?_
            refine fz_iaddN kX9_run rfl ⟨by decide, by decide⟩ ?_
            refine fz_eqi (y := 0) rfl ?_
            refine fz_taldV (v := 1) kX9_run rfl ⟨by decide, by decide⟩ (by omega) (by rw [hI.2.2.2.1]; decide) (by rw [hI.2.2.2.1]; rfl) ?_
            refine fz_istore (ls' := [(8, fz_i 1), (7, fz_i (dp + 1)), (6, fz_i (-1)), (5, fz_i 0), (0, fz_r 44), (1, fz_i 0), (2, fz_i 0), (3, fz_i x), (4, fz_i dp)]) kX9_run rfl (by decide) rfl ?_
            refine fz_aload_n kX9_run rfl rfl ?_
            refine fz_iload kX9_run rfl rfl ?_
            refine fz_callV (d' := 0) (M' := mX9_note) (As := [fz_i 1]) (st := []) kX9_run rfl rfl vX9_note rfl rfl rfl rfl (Nat.le_of_ble_eq_true rfl) (Nat.le_of_ble_eq_true rfl) (by decide) (sX9_note h hI 1 (by omega)) (fun H27 r28 q29 o30 => ?_)
            obtain ⟨hI31, hf32, rfl, f33, f34⟩ := q29
            clear o30
            have hf35 := fz_fr_tr hf hf32 (show fz_su [(44, 3), (46, 99999)] [(44, 3), (46, 99999)] = true from rfl)
            have t36 : H27 44 4 = h 44 4 := hf32 44 4 rfl
            refine fz_iload kX9_run rfl rfl ?_
            refine fz_lsw (tgt := 180) kX9_run rfl (by decide) (show Op.lookupswitch.offset [(1, 113), (2, 120), (10, 146), (11, 161), (20, 168), (30, 181), (40, 193), (41, 206), (50, 219), (60, 243), (70, 256), (80, 269), (81, 293)] 306 1 = 113 from rfl) (by decide) ?_
            refine fz_iload_n kX9_run rfl rfl ?_
            refine fz_aload_n kX9_run rfl rfl ?_
            refine fz_getV (v := h 44 4) kX9_run rfl rfl (hf35 44 4 rfl) ?_
            have b37 : 0 ≤ h 44 4 ∧ h 44 4 ≤ 49 := hI.1 44 _
            refine fz_iadd kX9_run rfl ?_
            have b38 := fz_w_b (x + (h 44 4))
            exact fz_iret kX9_run rfl rfl (fun _ => ⟨hI31, hf35, _, rfl, (by omega), (by first | rfl | (rw [lost, lost]) | (rw [lost]) | (rw [hp3]) | (exfalso; omega)), (by simp only [List.length_cons, List.length_nil]; omega), (by first | exact fz_tc2 f34 lost lost (by omega) (by simp only [List.length_cons, List.length_nil]; omega) | exact fz_tc1 f34 lost (by omega) | exact fz_tc0 f34 | exact lost | (exfalso; omega))⟩)
          · exfalso; omega
    · refine fz_if_eq (tgt := 24) kX9_run rfl (by decide) (fun c42 => ?_) (fun c42 => ?_)
      · refine fz_iconst ⟨by decide, by decide⟩ kX9_run rfl ?_
        exact fz_iret kX9_run rfl rfl (fun _ => ⟨hI, hf, _, rfl, (by omega), (by first | rfl | (rw [lost, lost]) | (rw [lost]) | (rw [hp3]) | (exfalso; omega)), (by simp only [List.length_cons, List.length_nil]; omega), (by first | exact fz_tc2 lost lost lost (by omega) (by simp only [List.length_cons, List.length_nil]; omega) | exact fz_tc1 lost lost (by omega) | exact fz_tc0 lost | exact lost | (exfalso; omega))⟩)
      · exfalso; omega

abbrev qX9_run_7_7_0 (h : fz_H) (x dp w : Int) : fz_H → Option fz_V → Prop := fun h' r0 => fz_Iv h' ∧ fz_fr [(44, 3), (46, 99999)] h h' ∧ ∃ r : Int, r0 = some (fz_i r) ∧ (h' 44 3 = h 44 3 + 2) ∧ (r = fz_w (fz_w (x + w) + 3)) ∧ (h' 44 3 = h 44 3 + ([20, 1] : List Int).length) ∧ (h' 46 = fz_tr (h 46) (h 44 3) [20, 1])
set_option maxHeartbeats 1000000 in
set_option maxRecDepth 100000 in
theorem sX9_run_7_7_0 (h : fz_H) (hI : fz_Iv h) (x dp w : Int) (hp0 : h 44 5 = 7) (hp1 : 0 ≤ dp ∧ dp ≤ 38) (hp2 : 0 ≤ h 44 3 ∧ h 44 3 ≤ 898) (hp3 : h 44 4 = w) : fz_R 2 mX9_run 0 [(0, fz_r 44), (1, fz_i 7), (2, fz_i 0), (3, fz_i x), (4, fz_i dp)] [] h (qX9_run_7_7_0 h x dp w) := by
  refine fz_knowl (fun hk => ?_)
  have hr_x : -2147483648 ≤ x ∧ x < 2147483648 := hk _ (List.Mem.tail _ (List.Mem.tail _ (List.Mem.tail _ (List.Mem.head _))))
  have hr_dp : -2147483648 ≤ dp ∧ dp < 2147483648 := hk _ (List.Mem.tail _ (List.Mem.tail _ (List.Mem.tail _ (List.Mem.tail _ (List.Mem.head _)))))
  clear hk
  have hf : fz_fr [(44, 3), (46, 99999)] h h := fz_fr_rf
  have b1 : 0 ≤ h 44 5 ∧ h 44 5 ≤ 7 := hI.1 44 _
  have b2 : (-2147483648) ≤ h 44 3 ∧ h 44 3 ≤ 2147483647 := hI.1 44 _
  have b3 : 0 ≤ h 44 4 ∧ h 44 4 ≤ 49 := hI.1 44 _
  refine fz_iload kX9_run rfl rfl ?_
  refine fz_bipush ⟨by decide, by decide⟩ kX9_run rfl ?_
  refine fz_icmp_gt (tgt := 24) kX9_run rfl (by decide) (fun c4 => ?_) (fun c4 => ?_)
  · exfalso; omega
  · refine fz_aload_n kX9_run rfl rfl ?_
    refine fz_iload_n kX9_run rfl rfl ?_
    refine fz_callV (d' := 0) (M' := mX9_isKind) (As := [fz_i 7]) (st := []) kX9_run rfl rfl vX9_isKind rfl rfl rfl rfl (Nat.le_of_ble_eq_true rfl) (Nat.le_of_ble_eq_true rfl) (by decide) (sX9_isKind h hI 7 ) (fun H5 r6 q7 o8 => ?_)
    obtain ⟨e9, y10, rfl, p11⟩ := q7
    subst H5
    clear o8
    rcases p11 with ⟨rfl, c12⟩ | ⟨rfl, c12⟩
    · refine fz_if_eq (tgt := 24) kX9_run rfl (by decide) (fun c13 => ?_) (fun c13 => ?_)
      · exfalso; omega
      · refine fz_iload_n kX9_run rfl rfl ?_
        refine fz_if_lt (tgt := 24) kX9_run rfl (by decide) (fun c14 => ?_) (fun c14 => ?_)
        · exfalso; omega
        · refine fz_iload_n kX9_run rfl rfl ?_
          refine fz_iconst ⟨by decide, by decide⟩ kX9_run rfl ?_
          refine fz_icmp_lt (tgt := 26) kX9_run rfl (by decide) (fun c15 => ?_) (fun c15 => ?_)
          · refine fz_iload_n kX9_run rfl rfl ?_
            refine fz_iload_n kX9_run rfl rfl ?_
            refine fz_callS (d' := 0) (M' := mX9_ownerFrom) (As := [fz_i 7, fz_i 0]) (st := []) kX9_run rfl rfl vX9_ownerFrom rfl rfl (Nat.le_of_ble_eq_true rfl) (Nat.le_of_ble_eq_true rfl) (by decide) (sX9_ownerFrom_7_0 h hI  ) (fun H16 r17 q18 o19 => ?_)
            obtain ⟨e20, y22, rfl, f21⟩ := q18
            subst H16
            clear o19
            refine fz_eqi (show y22 = 1 by omega) ?_
            refine fz_istore (ls' := [(5, fz_i 1), (0, fz_r 44), (1, fz_i 7), (2, fz_i 0), (3, fz_i x), (4, fz_i dp)]) kX9_run rfl (by decide) rfl ?_
            refine fz_gets kX9_run rfl ?_
            refine fz_iload kX9_run rfl rfl ?_
            refine fz_taldV (v := 0) kX9_run rfl ⟨by decide, by decide⟩ (by omega) (by rw [hI.2.2.2.2]; decide) (by rw [hI.2.2.2.2]; rfl) ?_
            refine fz_istore (ls' := [(6, fz_i 0), (5, fz_i 1), (0, fz_r 44), (1, fz_i 7), (2, fz_i 0), (3, fz_i x), (4, fz_i dp)]) kX9_run rfl (by decide) rfl ?_
            refine fz_iload kX9_run rfl rfl ?_
            refine fz_iconst ⟨by decide, by decide⟩ kX9_run rfl ?_
            refine fz_iaddN kX9_run rfl (by omega) ?_
            refine fz_istore (ls' := [(7, fz_i (dp + 1)), (6, fz_i 0), (5, fz_i 1), (0, fz_r 44), (1, fz_i 7), (2, fz_i 0), (3, fz_i x), (4, fz_i dp)]) kX9_run rfl (by decide) rfl ?_
            refine fz_gets kX9_run rfl ?_
            refine fz_iload kX9_run rfl rfl ?_
            refine fz_iconst ⟨by decide, by decide⟩ kX9_run rfl ?_
            refine fz_imulN kX9_run rfl ⟨by decide, by decide⟩ ?_
            refine fz_eqi (y := 4) rfl ?_
            refine fz_iload_n kX9_run rfl rfl ?_
            refine fz_iaddN kX9_run rfl ⟨by decide, by decide⟩ ?_
            refine fz_eqi (y := 4) rfl ?_
            refine fz_taldV (v := 20) kX9_run rfl ⟨by decide, by decide⟩ (by omega) (by rw [hI.2.2.2.1]; decide) (by rw [hI.2.2.2.1]; rfl) ?_
            refine fz_istore (ls' := [(8, fz_i 20), (7, fz_i (dp + 1)), (6, fz_i 0), (5, fz_i 1), (0, fz_r 44), (1, fz_i 7), (2, fz_i 0), (3, fz_i x), (4, fz_i dp)]) kX9_run rfl (by decide) rfl ?_
            refine fz_aload_n kX9_run rfl rfl ?_
            refine fz_iload kX9_run rfl rfl ?_
            refine fz_callV (d' := 0) (M' := mX9_note) (As := [fz_i 20]) (st := []) kX9_run rfl rfl vX9_note rfl rfl rfl rfl (Nat.le_of_ble_eq_true rfl) (Nat.le_of_ble_eq_true rfl) (by decide) (sX9_note h hI 20 (by omega)) (fun H27 r28 q29 o30 => ?_)
            obtain ⟨hI31, hf32, rfl, f33, f34⟩ := q29
            clear o30
            have hf35 := fz_fr_tr hf hf32 (show fz_su [(44, 3), (46, 99999)] [(44, 3), (46, 99999)] = true from rfl)
            have t36 : H27 44 4 = h 44 4 := hf32 44 4 rfl
            refine fz_iload kX9_run rfl rfl ?_
            refine fz_lsw (tgt := 235) kX9_run rfl (by decide) (show Op.lookupswitch.offset [(1, 113), (2, 120), (10, 146), (11, 161), (20, 168), (30, 181), (40, 193), (41, 206), (50, 219), (60, 243), (70, 256), (80, 269), (81, 293)] 306 20 = 168 from rfl) (by decide) ?_
            refine fz_aload_n kX9_run rfl rfl ?_
            refine fz_iload kX9_run rfl rfl ?_
            refine fz_iconst ⟨by decide, by decide⟩ kX9_run rfl ?_
            refine fz_iload_n kX9_run rfl rfl ?_
            refine fz_iload kX9_run rfl rfl ?_
            have b37 : (-2147483648) ≤ H27 44 3 ∧ H27 44 3 ≤ 2147483647 := hI31.1 44 _
            have e38 : H27 44 5 = h 44 5 := hf35 44 5 rfl
            have e39 : H27 44 4 = h 44 4 := hf35 44 4 rfl
            refine fz_callV (d' := 1) (M' := mX9_run) (As := [fz_i 0, fz_i 0, fz_i x, fz_i (dp + 1)]) (st := []) kX9_run rfl rfl vX9_run rfl rfl rfl rfl (Nat.le_of_ble_eq_true rfl) (Nat.le_of_ble_eq_true rfl) (by decide) (sX9_run_7_0_0 H27 hI31 x (dp + 1) w (by omega) (by omega) (by omega) (by omega)) (fun H40 r41 q42 o43 => ?_)
            obtain ⟨hI44, hf45, y50, rfl, f46, f47, f48, f49⟩ := q42
            clear o43
            have hf51 := fz_fr_tr hf35 hf45 (show fz_su [(44, 3), (46, 99999)] [(44, 3), (46, 99999)] = true from rfl)
            have t52 : H40 44 4 = H27 44 4 := hf45 44 4 rfl
            refine fz_iconst ⟨by decide, by decide⟩ kX9_run rfl ?_
            refine fz_iadd kX9_run rfl ?_
            have b53 := fz_w_b (y50 + 3)
            exact fz_iret kX9_run rfl rfl (fun _ => ⟨hI44, hf51, _, rfl, (by omega), (by first | rfl | (rw [f47, lost]) | (rw [f47]) | (rw [hp3]) | (exfalso; omega)), (by simp only [List.length_cons, List.length_nil]; omega), (by first | exact fz_tc2 f34 f49 lost (by omega) (by simp only [List.length_cons, List.length_nil]; omega) | exact fz_tc1 f34 f49 (by omega) | exact fz_tc0 f34 | exact f49 | (exfalso; omega))⟩)
          · exfalso; omega
    · refine fz_if_eq (tgt := 24) kX9_run rfl (by decide) (fun c57 => ?_) (fun c57 => ?_)
      · refine fz_iconst ⟨by decide, by decide⟩ kX9_run rfl ?_
        exact fz_iret kX9_run rfl rfl (fun _ => ⟨hI, hf, _, rfl, (by omega), (by first | rfl | (rw [lost, lost]) | (rw [lost]) | (rw [hp3]) | (exfalso; omega)), (by simp only [List.length_cons, List.length_nil]; omega), (by first | exact fz_tc2 lost lost lost (by omega) (by simp only [List.length_cons, List.length_nil]; omega) | exact fz_tc1 lost lost (by omega) | exact fz_tc0 lost | exact lost | (exfalso; omega))⟩)
      · exfalso; omega

abbrev qX9_run_7_4_1 (h : fz_H) (x dp w : Int) : fz_H → Option fz_V → Prop := fun h' r0 => fz_Iv h' ∧ fz_fr [(44, 3), (46, 99999)] h h' ∧ ∃ r : Int, r0 = some (fz_i r) ∧ (h' 44 3 = h 44 3 + 3) ∧ (r = fz_w (fz_w (fz_w (x + w) + 3) * 2)) ∧ (h' 44 3 = h 44 3 + ([10, 20, 1] : List Int).length) ∧ (h' 46 = fz_tr (h 46) (h 44 3) [10, 20, 1])
set_option maxHeartbeats 1000000 in
set_option maxRecDepth 100000 in
theorem sX9_run_7_4_1 (h : fz_H) (hI : fz_Iv h) (x dp w : Int) (hp0 : h 44 5 = 7) (hp1 : 0 ≤ dp ∧ dp ≤ 37) (hp2 : 0 ≤ h 44 3 ∧ h 44 3 ≤ 897) (hp3 : h 44 4 = w) : fz_R 3 mX9_run 0 [(0, fz_r 44), (1, fz_i 4), (2, fz_i 1), (3, fz_i x), (4, fz_i dp)] [] h (qX9_run_7_4_1 h x dp w) := by
  refine fz_knowl (fun hk => ?_)
  have hr_x : -2147483648 ≤ x ∧ x < 2147483648 := hk _ (List.Mem.tail _ (List.Mem.tail _ (List.Mem.tail _ (List.Mem.head _))))
  have hr_dp : -2147483648 ≤ dp ∧ dp < 2147483648 := hk _ (List.Mem.tail _ (List.Mem.tail _ (List.Mem.tail _ (List.Mem.tail _ (List.Mem.head _)))))
  clear hk
  have hf : fz_fr [(44, 3), (46, 99999)] h h := fz_fr_rf
  have b1 : 0 ≤ h 44 5 ∧ h 44 5 ≤ 7 := hI.1 44 _
  have b2 : (-2147483648) ≤ h 44 3 ∧ h 44 3 ≤ 2147483647 := hI.1 44 _
  have b3 : 0 ≤ h 44 4 ∧ h 44 4 ≤ 49 := hI.1 44 _
  refine fz_iload kX9_run rfl rfl ?_
  refine fz_bipush ⟨by decide, by decide⟩ kX9_run rfl ?_
  refine fz_icmp_gt (tgt := 24) kX9_run rfl (by decide) (fun c4 => ?_) (fun c4 => ?_)
  · exfalso; omega
  · refine fz_aload_n kX9_run rfl rfl ?_
    refine fz_iload_n kX9_run rfl rfl ?_
    refine fz_callV (d' := 0) (M' := mX9_isKind) (As := [fz_i 4]) (st := []) kX9_run rfl rfl vX9_isKind rfl rfl rfl rfl (Nat.le_of_ble_eq_true rfl) (Nat.le_of_ble_eq_true rfl) (by decide) (sX9_isKind h hI 4 ) (fun H5 r6 q7 o8 => ?_)
    obtain ⟨e9, y10, rfl, p11⟩ := q7
    subst H5
    clear o8
    rcases p11 with ⟨rfl, c12⟩ | ⟨rfl, c12⟩
    · refine fz_if_eq (tgt := 24) kX9_run rfl (by decide) (fun c13 => ?_) (fun c13 => ?_)
      · exfalso; omega
      · refine fz_iload_n kX9_run rfl rfl ?_
        refine fz_if_lt (tgt := 24) kX9_run rfl (by decide) (fun c14 => ?_) (fun c14 => ?_)
        · exfalso; omega
        · refine fz_iload_n kX9_run rfl rfl ?_
          refine fz_iconst ⟨by decide, by decide⟩ kX9_run rfl ?_
          refine fz_icmp_lt (tgt := 26) kX9_run rfl (by decide) (fun c15 => ?_) (fun c15 => ?_)
          · refine fz_iload_n kX9_run rfl rfl ?_
            refine fz_iload_n kX9_run rfl rfl ?_
            refine fz_callS (d' := 0) (M' := mX9_ownerFrom) (As := [fz_i 4, fz_i 1]) (st := []) kX9_run rfl rfl vX9_ownerFrom rfl rfl (Nat.le_of_ble_eq_true rfl) (Nat.le_of_ble_eq_true rfl) (by decide) (sX9_ownerFrom_4_1 h hI  ) (fun H16 r17 q18 o19 => ?_)
            obtain ⟨e20, y22, rfl, f21⟩ := q18
            subst H16
            clear o19
            refine fz_eqi (show y22 = 0 by omega) ?_
            refine fz_istore (ls' := [(5, fz_i 0), (0, fz_r 44), (1, fz_i 4), (2, fz_i 1), (3, fz_i x), (4, fz_i dp)]) kX9_run rfl (by decide) rfl ?_
            refine fz_gets kX9_run rfl ?_
            refine fz_iload kX9_run rfl rfl ?_
            refine fz_taldV (v := (-1)) kX9_run rfl ⟨by decide, by decide⟩ (by omega) (by rw [hI.2.2.2.2]; decide) (by rw [hI.2.2.2.2]; rfl) ?_
            refine fz_istore (ls' := [(6, fz_i (-1)), (5, fz_i 0), (0, fz_r 44), (1, fz_i 4), (2, fz_i 1), (3, fz_i x), (4, fz_i dp)]) kX9_run rfl (by decide) rfl ?_
            refine fz_iload kX9_run rfl rfl ?_
            refine fz_iconst ⟨by decide, by decide⟩ kX9_run rfl ?_
            refine fz_iaddN kX9_run rfl (by omega) ?_
            refine fz_istore (ls' := [(7, fz_i (dp + 1)), (6, fz_i (-1)), (5, fz_i 0), (0, fz_r 44), (1, fz_i 4), (2, fz_i 1), (3, fz_i x), (4, fz_i dp)]) kX9_run rfl (by decide) rfl ?_
            refine fz_gets kX9_run rfl ?_
            refine fz_iload kX9_run rfl rfl ?_
            refine fz_iconst ⟨by decide, by decide⟩ kX9_run rfl ?_
            refine fz_imulN kX9_run rfl ⟨by decide, by decide⟩ ?_
            refine fz_eqi (y := 0) rfl ?_
            refine fz_iload_n kX9_run rfl rfl ?_
            refine fz_iaddN kX9_run rfl ⟨by decide, by decide⟩ ?_
            refine fz_eqi (y := 1) rfl ?_
            refine fz_taldV (v := 10) kX9_run rfl ⟨by decide, by decide⟩ (by omega) (by rw [hI.2.2.2.1]; decide) (by rw [hI.2.2.2.1]; rfl) ?_
            refine fz_istore (ls' := [(8, fz_i 10), (7, fz_i (dp + 1)), (6, fz_i (-1)), (5, fz_i 0), (0, fz_r 44), (1, fz_i 4), (2, fz_i 1), (3, fz_i x), (4, fz_i dp)]) kX9_run rfl (by decide) rfl ?_
            refine fz_aload_n kX9_run rfl rfl ?_
            refine fz_iload kX9_run rfl rfl ?_
            refine fz_callV (d' := 0) (M' := mX9_note) (As := [fz_i 10]) (st := []) kX9_run rfl rfl vX9_note rfl rfl rfl rfl (Nat.le_of_ble_eq_true rfl) (Nat.le_of_ble_eq_true rfl) (by decide) (sX9_note h hI 10 (by omega)) (fun H27 r28 q29 o30 => ?_)
            obtain ⟨hI31, hf32, rfl, f33, f34⟩ := q29
            clear o30
            have hf35 := fz_fr_tr hf hf32 (show fz_su [(44, 3), (46, 99999)] [(44, 3), (46, 99999)] = true from rfl)
            have t36 : H27 44 4 = h 44 4 := hf32 44 4 rfl
            refine fz_iload kX9_run rfl rfl ?_
            refine fz_lsw (tgt := 213) kX9_run rfl (by decide) (show Op.lookupswitch.offset [(1, 113), (2, 120), (10, 146), (11, 161), (20, 168), (30, 181), (40, 193), (41, 206), (50, 219), (60, 243), (70, 256), (80, 269), (81, 293)] 306 10 = 146 from rfl) (by decide) ?_
            refine fz_aload_n kX9_run rfl rfl ?_
            refine fz_aload_n kX9_run rfl rfl ?_
            refine fz_getV (v := h 44 5) kX9_run rfl rfl (hf35 44 5 rfl) ?_
            have b37 : 0 ≤ h 44 5 ∧ h 44 5 ≤ 7 := hI.1 44 _
            refine fz_eqi (show (h 44 5) = 7 by omega) ?_
            refine fz_iconst ⟨by decide, by decide⟩ kX9_run rfl ?_
            refine fz_iload_n kX9_run rfl rfl ?_
            refine fz_iload kX9_run rfl rfl ?_
            have b38 : (-2147483648) ≤ H27 44 3 ∧ H27 44 3 ≤ 2147483647 := hI31.1 44 _
            have e39 : H27 44 5 = h 44 5 := hf35 44 5 rfl
            have e40 : H27 44 4 = h 44 4 := hf35 44 4 rfl
            refine fz_callV (d' := 2) (M' := mX9_run) (As := [fz_i 7, fz_i 0, fz_i x, fz_i (dp + 1)]) (st := []) kX9_run rfl rfl vX9_run rfl rfl rfl rfl (Nat.le_of_ble_eq_true rfl) (Nat.le_of_ble_eq_true rfl) (by decide) (sX9_run_7_7_0 H27 hI31 x (dp + 1) w (by omega) (by omega) (by omega) (by omega)) (fun H41 r42 q43 o44 => ?_)
            obtain ⟨hI45, hf46, y51, rfl, f47, f48, f49, f50⟩ := q43
            clear o44
            have hf52 := fz_fr_tr hf35 hf46 (show fz_su [(44, 3), (46, 99999)] [(44, 3), (46, 99999)] = true from rfl)
            have t53 : H41 44 4 = H27 44 4 := hf46 44 4 rfl
            refine fz_iconst ⟨by decide, by decide⟩ kX9_run rfl ?_
            refine fz_imul kX9_run rfl ?_
            have b54 := fz_w_b (y51 * 2)
            exact fz_iret kX9_run rfl rfl (fun _ => ⟨hI45, hf52, _, rfl, (by omega), (by first | rfl | (rw [f48, lost]) | (rw [f48]) | (rw [hp3]) | (exfalso; omega)), (by simp only [List.length_cons, List.length_nil]; omega), (by first | exact fz_tc2 f34 f50 lost (by omega) (by simp only [List.length_cons, List.length_nil]; omega) | exact fz_tc1 f34 f50 (by omega) | exact fz_tc0 f34 | exact f50 | (exfalso; omega))⟩)
          · exfalso; omega
    · refine fz_if_eq (tgt := 24) kX9_run rfl (by decide) (fun c58 => ?_) (fun c58 => ?_)
      · refine fz_iconst ⟨by decide, by decide⟩ kX9_run rfl ?_
        exact fz_iret kX9_run rfl rfl (fun _ => ⟨hI, hf, _, rfl, (by omega), (by first | rfl | (rw [lost, lost]) | (rw [lost]) | (rw [hp3]) | (exfalso; omega)), (by simp only [List.length_cons, List.length_nil]; omega), (by first | exact fz_tc2 lost lost lost (by omega) (by simp only [List.length_cons, List.length_nil]; omega) | exact fz_tc1 lost lost (by omega) | exact fz_tc0 lost | exact lost | (exfalso; omega))⟩)
      · exfalso; omega

abbrev qX9_run_7_1_2 (h : fz_H) (x dp w : Int) : fz_H → Option fz_V → Prop := fun h' r0 => fz_Iv h' ∧ fz_fr [(44, 3), (46, 99999)] h h' ∧ ∃ r : Int, r0 = some (fz_i r) ∧ (h' 44 3 = h 44 3 + 1) ∧ (r = fz_xor x w) ∧ (h' 44 3 = h 44 3 + ([11] : List Int).length) ∧ (h' 46 = fz_tr (h 46) (h 44 3) [11])
set_option maxHeartbeats 1000000 in
set_option maxRecDepth 100000 in
theorem sX9_run_7_1_2 (h : fz_H) (hI : fz_Iv h) (x dp w : Int) (hp0 : h 44 5 = 7) (hp1 : 0 ≤ dp ∧ dp ≤ 39) (hp2 : 0 ≤ h 44 3 ∧ h 44 3 ≤ 899) (hp3 : h 44 4 = w) : fz_R 1 mX9_run 0 [(0, fz_r 44), (1, fz_i 1), (2, fz_i 2), (3, fz_i x), (4, fz_i dp)] [] h (qX9_run_7_1_2 h x dp w) := by
  refine fz_knowl (fun hk => ?_)
  have hr_x : -2147483648 ≤ x ∧ x < 2147483648 := hk _ (List.Mem.tail _ (List.Mem.tail _ (List.Mem.tail _ (List.Mem.head _))))
  have hr_dp : -2147483648 ≤ dp ∧ dp < 2147483648 := hk _ (List.Mem.tail _ (List.Mem.tail _ (List.Mem.tail _ (List.Mem.tail _ (List.Mem.head _)))))
  clear hk
  have hf : fz_fr [(44, 3), (46, 99999)] h h := fz_fr_rf
  have b1 : 0 ≤ h 44 5 ∧ h 44 5 ≤ 7 := hI.1 44 _
  have b2 : (-2147483648) ≤ h 44 3 ∧ h 44 3 ≤ 2147483647 := hI.1 44 _
  have b3 : 0 ≤ h 44 4 ∧ h 44 4 ≤ 49 := hI.1 44 _
  refine fz_iload kX9_run rfl rfl ?_
  refine fz_bipush ⟨by decide, by decide⟩ kX9_run rfl ?_
  refine fz_icmp_gt (tgt := 24) kX9_run rfl (by decide) (fun c4 => ?_) (fun c4 => ?_)
  · exfalso; omega
  · refine fz_aload_n kX9_run rfl rfl ?_
    refine fz_iload_n kX9_run rfl rfl ?_
    refine fz_callV (d' := 0) (M' := mX9_isKind) (As := [fz_i 1]) (st := []) kX9_run rfl rfl vX9_isKind rfl rfl rfl rfl (Nat.le_of_ble_eq_true rfl) (Nat.le_of_ble_eq_true rfl) (by decide) (sX9_isKind h hI 1 ) (fun H5 r6 q7 o8 => ?_)
    obtain ⟨e9, y10, rfl, p11⟩ := q7
    subst H5
    clear o8
    rcases p11 with ⟨rfl, c12⟩ | ⟨rfl, c12⟩
    · refine fz_if_eq (tgt := 24) kX9_run rfl (by decide) (fun c13 => ?_) (fun c13 => ?_)
      · exfalso; omega
      · refine fz_iload_n kX9_run rfl rfl ?_
        refine fz_if_lt (tgt := 24) kX9_run rfl (by decide) (fun c14 => ?_) (fun c14 => ?_)
        · exfalso; omega
        · refine fz_iload_n kX9_run rfl rfl ?_
          refine fz_iconst ⟨by decide, by decide⟩ kX9_run rfl ?_
          refine fz_icmp_lt (tgt := 26) kX9_run rfl (by decide) (fun c15 => ?_) (fun c15 => ?_)
          · refine fz_iload_n kX9_run rfl rfl ?_
            refine fz_iload_n kX9_run rfl rfl ?_
            refine fz_callS (d' := 0) (M' := mX9_ownerFrom) (As := [fz_i 1, fz_i 2]) (st := []) kX9_run rfl rfl vX9_ownerFrom rfl rfl (Nat.le_of_ble_eq_true rfl) (Nat.le_of_ble_eq_true rfl) (by decide) (sX9_ownerFrom_1_2 h hI  ) (fun H16 r17 q18 o19 => ?_)
            obtain ⟨e20, y22, rfl, f21⟩ := q18
            subst H16
            clear o19
            refine fz_eqi (show y22 = 0 by omega) ?_
            refine fz_istore (ls' := [(5, fz_i 0), (0, fz_r 44), (1, fz_i 1), (2, fz_i 2), (3, fz_i x), (4, fz_i dp)]) kX9_run rfl (by decide) rfl ?_
            refine fz_gets kX9_run rfl ?_
            refine fz_iload kX9_run rfl rfl ?_
            refine fz_taldV (v := (-1)) kX9_run rfl ⟨by decide, by decide⟩ (by omega) (by rw [hI.2.2.2.2]; decide) (by rw [hI.2.2.2.2]; rfl) ?_
            refine fz_istore (ls' := [(6, fz_i (-1)), (5, fz_i 0), (0, fz_r 44), (1, fz_i 1), (2, fz_i 2), (3, fz_i x), (4, fz_i dp)]) kX9_run rfl (by decide) rfl ?_
            refine fz_iload kX9_run rfl rfl ?_
            refine fz_iconst ⟨by decide, by decide⟩ kX9_run rfl ?_
            refine fz_iaddN kX9_run rfl (by omega) ?_
            refine fz_istore (ls' := [(7, fz_i (dp + 1)), (6, fz_i (-1)), (5, fz_i 0), (0, fz_r 44), (1, fz_i 1), (2, fz_i 2), (3, fz_i x), (4, fz_i dp)]) kX9_run rfl (by decide) rfl ?_
            refine fz_gets kX9_run rfl ?_
            refine fz_iload kX9_run rfl rfl ?_
            refine fz_iconst ⟨by decide, by decide⟩ kX9_run rfl ?_
            refine fz_imulN kX9_run rfl ⟨by decide, by decide⟩ ?_
            refine fz_eqi (y := 0) rfl ?_
            refine fz_iload_n kX9_run rfl rfl ?_
            refine fz_iaddN kX9_run rfl ⟨by decide, by decide⟩ ?_
            refine fz_eqi (y := 2) rfl ?_
            refine fz_taldV (v := 11) kX9_run rfl ⟨by decide, by decide⟩ (by omega) (by rw [hI.2.2.2.1]; decide) (by rw [hI.2.2.2.1]; rfl) ?_
            refine fz_istore (ls' := [(8, fz_i 11), (7, fz_i (dp + 1)), (6, fz_i (-1)), (5, fz_i 0), (0, fz_r 44), (1, fz_i 1), (2, fz_i 2), (3, fz_i x), (4, fz_i dp)]) kX9_run rfl (by decide) rfl ?_
            refine fz_aload_n kX9_run rfl rfl ?_
            refine fz_iload kX9_run rfl rfl ?_
            refine fz_callV (d' := 0) (M' := mX9_note) (As := [fz_i 11]) (st := []) kX9_run rfl rfl vX9_note rfl rfl rfl rfl (Nat.le_of_ble_eq_true rfl) (Nat.le_of_ble_eq_true rfl) (by decide) (sX9_note h hI 11 (by omega)) (fun H27 r28 q29 o30 => ?_)
            obtain ⟨hI31, hf32, rfl, f33, f34⟩ := q29
            clear o30
            have hf35 := fz_fr_tr hf hf32 (show fz_su [(44, 3), (46, 99999)] [(44, 3), (46, 99999)] = true from rfl)
            have t36 : H27 44 4 = h 44 4 := hf32 44 4 rfl
            refine fz_iload kX9_run rfl rfl ?_
            refine fz_lsw (tgt := 228) kX9_run rfl (by decide) (show Op.lookupswitch.offset [(1, 113), (2, 120), (10, 146), (11, 161), (20, 168), (30, 181), (40, 193), (41, 206), (50, 219), (60, 243), (70, 256), (80, 269), (81, 293)] 306 11 = 161 from rfl) (by decide) ?_
            refine fz_iload_n kX9_run rfl rfl ?_
            refine fz_aload_n kX9_run rfl rfl ?_
            refine fz_getV (v := h 44 4) kX9_run rfl rfl (hf35 44 4 rfl) ?_
            have b37 : 0 ≤ h 44 4 ∧ h 44 4 ≤ 49 := hI.1 44 _
            refine fz_ixor kX9_run rfl ?_
            have b38 : -2147483648 ≤ (fz_xor x (h 44 4)) ∧ (fz_xor x (h 44 4)) < 2147483648 := fz_b32 _
            exact fz_iret kX9_run rfl rfl (fun _ => ⟨hI31, hf35, _, rfl, (by omega), (by first | rfl | (rw [lost, lost]) | (rw [lost]) | (rw [hp3]) | (exfalso; omega)), (by simp only [List.length_cons, List.length_nil]; omega), (by first | exact fz_tc2 f34 lost lost (by omega) (by simp only [List.length_cons, List.length_nil]; omega) | exact fz_tc1 f34 lost (by omega) | exact fz_tc0 f34 | exact lost | (exfalso; omega))⟩)
          · exfalso; omega
    · refine fz_if_eq (tgt := 24) kX9_run rfl (by decide) (fun c42 => ?_) (fun c42 => ?_)
      · refine fz_iconst ⟨by decide, by decide⟩ kX9_run rfl ?_
        exact fz_iret kX9_run rfl rfl (fun _ => ⟨hI, hf, _, rfl, (by omega), (by first | rfl | (rw [lost, lost]) | (rw [lost]) | (rw [hp3]) | (exfalso; omega)), (by simp only [List.length_cons, List.length_nil]; omega), (by first | exact fz_tc2 lost lost lost (by omega) (by simp only [List.length_cons, List.length_nil]; omega) | exact fz_tc1 lost lost (by omega) | exact fz_tc0 lost | exact lost | (exfalso; omega))⟩)
      · exfalso; omega

abbrev qX9_run_7_7_2 (h : fz_H) (x dp w : Int) : fz_H → Option fz_V → Prop := fun h' r0 => fz_Iv h' ∧ fz_fr [(44, 3), (46, 99999)] h h' ∧ ∃ r : Int, r0 = some (fz_i r) ∧ (h' 44 3 = h 44 3 + 4) ∧ (r = fz_w (fz_xor x w - fz_w (fz_w (2 + w) + 3))) ∧ (h' 44 3 = h 44 3 + ([50, 11, 20, 1] : List Int).length) ∧ (h' 46 = fz_tr (h 46) (h 44 3) [50, 11, 20, 1])
set_option maxHeartbeats 1000000 in
set_option maxRecDepth 100000 in
theorem sX9_run_7_7_2 (h : fz_H) (hI : fz_Iv h) (x dp w : Int) (hp0 : h 44 5 = 7) (hp1 : 0 ≤ dp ∧ dp ≤ 37) (hp2 : 0 ≤ h 44 3 ∧ h 44 3 ≤ 896) (hp3 : h 44 4 = w) : fz_R 3 mX9_run 0 [(0, fz_r 44), (1, fz_i 7), (2, fz_i 2), (3, fz_i x), (4, fz_i dp)] [] h (qX9_run_7_7_2 h x dp w) := by
  refine fz_knowl (fun hk => ?_)
  have hr_x : -2147483648 ≤ x ∧ x < 2147483648 := hk _ (List.Mem.tail _ (List.Mem.tail _ (List.Mem.tail _ (List.Mem.head _))))
  have hr_dp : -2147483648 ≤ dp ∧ dp < 2147483648 := hk _ (List.Mem.tail _ (List.Mem.tail _ (List.Mem.tail _ (List.Mem.tail _ (List.Mem.head _)))))
  clear hk
  have hf : fz_fr [(44, 3), (46, 99999)] h h := fz_fr_rf
  have b1 : 0 ≤ h 44 5 ∧ h 44 5 ≤ 7 := hI.1 44 _
  have b2 : (-2147483648) ≤ h 44 3 ∧ h 44 3 ≤ 2147483647 := hI.1 44 _
  have b3 : 0 ≤ h 44 4 ∧ h 44 4 ≤ 49 := hI.1 44 _
  refine fz_iload kX9_run rfl rfl ?_
  refine fz_bipush ⟨by decide, by decide⟩ kX9_run rfl ?_
  refine fz_icmp_gt (tgt := 24) kX9_run rfl (by decide) (fun c4 => ?_) (fun c4 => ?_)
  · exfalso; omega
  · refine fz_aload_n kX9_run rfl rfl ?_
    refine fz_iload_n kX9_run rfl rfl ?_
    refine fz_callV (d' := 0) (M' := mX9_isKind) (As := [fz_i 7]) (st := []) kX9_run rfl rfl vX9_isKind rfl rfl rfl rfl (Nat.le_of_ble_eq_true rfl) (Nat.le_of_ble_eq_true rfl) (by decide) (sX9_isKind h hI 7 ) (fun H5 r6 q7 o8 => ?_)
    obtain ⟨e9, y10, rfl, p11⟩ := q7
    subst H5
    clear o8
    rcases p11 with ⟨rfl, c12⟩ | ⟨rfl, c12⟩
    · refine fz_if_eq (tgt := 24) kX9_run rfl (by decide) (fun c13 => ?_) (fun c13 => ?_)
      · exfalso; omega
      · refine fz_iload_n kX9_run rfl rfl ?_
        refine fz_if_lt (tgt := 24) kX9_run rfl (by decide) (fun c14 => ?_) (fun c14 => ?_)
        · exfalso; omega
        · refine fz_iload_n kX9_run rfl rfl ?_
          refine fz_iconst ⟨by decide, by decide⟩ kX9_run rfl ?_
          refine fz_icmp_lt (tgt := 26) kX9_run rfl (by decide) (fun c15 => ?_) (fun c15 => ?_)
          · refine fz_iload_n kX9_run rfl rfl ?_
            refine fz_iload_n kX9_run rfl rfl ?_
            refine fz_callS (d' := 0) (M' := mX9_ownerFrom) (As := [fz_i 7, fz_i 2]) (st := []) kX9_run rfl rfl vX9_ownerFrom rfl rfl (Nat.le_of_ble_eq_true rfl) (Nat.le_of_ble_eq_true rfl) (by decide) (sX9_ownerFrom_7_2 h hI  ) (fun H16 r17 q18 o19 => ?_)
            obtain ⟨e20, y22, rfl, f21⟩ := q18
            subst H16
            clear o19
            refine fz_eqi (show y22 = 4 by omega) ?_
            refine fz_istore (ls' := [(5, fz_i 4), (0, fz_r 44), (1, fz_i 7), (2, fz_i 2), (3, fz_i x), (4, fz_i dp)]) kX9_run rfl (by decide) rfl ?_
            refine fz_gets kX9_run rfl ?_
            refine fz_iload kX9_run rfl rfl ?_
            refine fz_taldV (v := 1) kX9_run rfl ⟨by decide, by decide⟩ (by omega) (by rw [hI.2.2.2.2]; decide) (by rw [hI.2.2.2.2]; rfl) ?_
            refine fz_istore (ls' := [(6, fz_i 1), (5, fz_i 4), (0, fz_r 44), (1, fz_i 7), (2, fz_i 2), (3, fz_i x), (4, fz_i dp)]) kX9_run rfl (by decide) rfl ?_
            refine fz_iload kX9_run rfl rfl ?_
            refine fz_iconst ⟨by decide, by decide⟩ kX9_run rfl ?_
            refine fz_iaddN kX9_run rfl (by omega) ?_
            refine fz_istore (ls' := [(7, fz_i (dp + 1)), (6, fz_i 1), (5, fz_i 4), (0, fz_r 44), (1, fz_i 7), (2, fz_i 2), (3, fz_i x), (4, fz_i dp)]) kX9_run rfl (by decide) rfl ?_
            refine fz_gets kX9_run rfl ?_
            refine fz_iload kX9_run rfl rfl ?_
            refine fz_iconst ⟨by decide, by decide⟩ kX9_run rfl ?_
            refine fz_imulN kX9_run rfl ⟨by decide, by decide⟩ ?_
            refine fz_eqi (y := 16) rfl ?_
            refine fz_iload_n kX9_run rfl rfl ?_
            refine fz_iaddN kX9_run rfl ⟨by decide, by decide⟩ ?_
            refine fz_eqi (y := 18) rfl ?_
            refine fz_taldV (v := 50) kX9_run rfl ⟨by decide, by decide⟩ (by omega) (by rw [hI.2.2.2.1]; decide) (by rw [hI.2.2.2.1]; rfl) ?_
            refine fz_istore (ls' := [(8, fz_i 50), (7, fz_i (dp + 1)), (6, fz_i 1), (5, fz_i 4), (0, fz_r 44), (1, fz_i 7), (2, fz_i 2), (3, fz_i x), (4, fz_i dp)]) kX9_run rfl (by decide) rfl ?_
            refine fz_aload_n kX9_run rfl rfl ?_
            refine fz_iload kX9_run rfl rfl ?_
            refine fz_callV (d' := 0) (M' := mX9_note) (As := [fz_i 50]) (st := []) kX9_run rfl rfl vX9_note rfl rfl rfl rfl (Nat.le_of_ble_eq_true rfl) (Nat.le_of_ble_eq_true rfl) (by decide) (sX9_note h hI 50 (by omega)) (fun H27 r28 q29 o30 => ?_)
            obtain ⟨hI31, hf32, rfl, f33, f34⟩ := q29
            clear o30
            have hf35 := fz_fr_tr hf hf32 (show fz_su [(44, 3), (46, 99999)] [(44, 3), (46, 99999)] = true from rfl)
            have t36 : H27 44 4 = h 44 4 := hf32 44 4 rfl
            refine fz_iload kX9_run rfl rfl ?_
            refine fz_lsw (tgt := 286) kX9_run rfl (by decide) (show Op.lookupswitch.offset [(1, 113), (2, 120), (10, 146), (11, 161), (20, 168), (30, 181), (40, 193), (41, 206), (50, 219), (60, 243), (70, 256), (80, 269), (81, 293)] 306 50 = 219 from rfl) (by decide) ?_
            refine fz_aload_n kX9_run rfl rfl ?_
            refine fz_iload kX9_run rfl rfl ?_
            refine fz_iconst ⟨by decide, by decide⟩ kX9_run rfl ?_
            refine fz_iload_n kX9_run rfl rfl ?_
            refine fz_iload kX9_run rfl rfl ?_
            have b37 : (-2147483648) ≤ H27 44 3 ∧ H27 44 3 ≤ 2147483647 := hI31.1 44 _
            have e38 : H27 44 5 = h 44 5 := hf35 44 5 rfl
            have e39 : H27 44 4 = h 44 4 := hf35 44 4 rfl
            refine fz_callV (d' := 1) (M' := mX9_run) (As := [fz_i 1, fz_i 2, fz_i x, fz_i (dp + 1)]) (st := []) kX9_run rfl rfl vX9_run rfl rfl rfl rfl (Nat.le_of_ble_eq_true rfl) (Nat.le_of_ble_eq_true rfl) (by decide) (sX9_run_7_1_2 H27 hI31 x (dp + 1) w (by omega) (by omega) (by omega) (by omega)) (fun H40 r41 q42 o43 => ?_)
            obtain ⟨hI44, hf45, y50, rfl, f46, f47, f48, f49⟩ := q42
            clear o43
            have hf51 := fz_fr_tr hf35 hf45 (show fz_su [(44, 3), (46, 99999)] [(44, 3), (46, 99999)] = true from rfl)
            have t52 : H40 44 4 = H27 44 4 := hf45 44 4 rfl
            refine fz_aload_n kX9_run rfl rfl ?_
            refine fz_aload_n kX9_run rfl rfl ?_
            refine fz_getV (v := h 44 5) kX9_run rfl rfl (hf51 44 5 rfl) ?_
            have b53 : 0 ≤ h 44 5 ∧ h 44 5 ≤ 7 := hI.1 44 _
            refine fz_eqi (show (h 44 5) = 7 by omega) ?_
            refine fz_iconst ⟨by decide, by decide⟩ kX9_run rfl ?_
            refine fz_iconst ⟨by decide, by decide⟩ kX9_run rfl ?_
            refine fz_iload kX9_run rfl rfl ?_
            have b54 : (-2147483648) ≤ H40 44 3 ∧ H40 44 3 ≤ 2147483647 := hI44.1 44 _
            have e55 : H40 44 5 = h 44 5 := hf51 44 5 rfl
            have e56 : H40 44 4 = h 44 4 := hf51 44 4 rfl
            refine fz_callV (d' := 2) (M' := mX9_run) (As := [fz_i 7, fz_i 0, fz_i 2, fz_i (dp + 1)]) (st := [fz_i y50]) kX9_run rfl rfl vX9_run rfl rfl rfl rfl (Nat.le_of_ble_eq_true rfl) (Nat.le_of_ble_eq_true rfl) (by decide) (sX9_run_7_7_0 H40 hI44 2 (dp + 1) w (by omega) (by omega) (by omega) (by omega)) (fun H57 r58 q59 o60 => ?_)
            obtain ⟨hI61, hf62, y67, rfl, f63, f64, f65, f66⟩ := q59
            clear o60
            have hf68 := fz_fr_tr hf51 hf62 (show fz_su [(44, 3), (46, 99999)] [(44, 3), (46, 99999)] = true from rfl)
            have t69 : H57 44 4 = H40 44 4 := hf62 44 4 rfl
            refine fz_isub kX9_run rfl ?_
            have b70 := fz_w_b (y50 - y67)
            exact fz_iret kX9_run rfl rfl (fun _ => ⟨hI61, hf68, _, rfl, (by omega), (by first | rfl | (rw [f47, f64]) | (rw [f47]) | (rw [hp3]) | (exfalso; omega)), (by simp only [List.length_cons, List.length_nil]; omega), (by first | exact fz_tc2 f34 f49 f66 (by omega) (by simp only [List.length_cons, List.length_nil]; omega) | exact fz_tc1 f34 f49 (by omega) | exact fz_tc0 f34 | exact f49 | (exfalso; omega))⟩)
          · exfalso; omega
    · refine fz_if_eq (tgt := 24) kX9_run rfl (by decide) (fun c74 => ?_) (fun c74 => ?_)
      · refine fz_iconst ⟨by decide, by decide⟩ kX9_run rfl ?_
        exact fz_iret kX9_run rfl rfl (fun _ => ⟨hI, hf, _, rfl, (by omega), (by first | rfl | (rw [lost, lost]) | (rw [lost]) | (rw [hp3]) | (exfalso; omega)), (by simp only [List.length_cons, List.length_nil]; omega), (by first | exact fz_tc2 lost lost lost (by omega) (by simp only [List.length_cons, List.length_nil]; omega) | exact fz_tc1 lost lost (by omega) | exact fz_tc0 lost | exact lost | (exfalso; omega))⟩)
      · exfalso; omega

abbrev qX9_run_7_7_1 (h : fz_H) (x dp w : Int) : fz_H → Option fz_V → Prop := fun h' r0 => fz_Iv h' ∧ fz_fr [(44, 3), (46, 99999)] h h' ∧ ∃ r : Int, r0 = some (fz_i r) ∧ (h' 44 3 = h 44 3 + 8) ∧ (r = fz_w (fz_w (fz_w (fz_w (x + w) + 3) * 2) + fz_w (fz_xor 2 w - fz_w (fz_w (2 + w) + 3)))) ∧ (h' 44 3 = h 44 3 + ([80, 10, 20, 1, 50, 11, 20, 1] : List Int).length) ∧ (h' 46 = fz_tr (h 46) (h 44 3) [80, 10, 20, 1, 50, 11, 20, 1])
set_option maxHeartbeats 1000000 in
set_option maxRecDepth 100000 in
theorem sX9_run_7_7_1 (h : fz_H) (hI : fz_Iv h) (x dp w : Int) (hp0 : h 44 5 = 7) (hp1 : 0 ≤ dp ∧ dp ≤ 36) (hp2 : 0 ≤ h 44 3 ∧ h 44 3 ≤ 892) (hp3 : h 44 4 = w) : fz_R 4 mX9_run 0 [(0, fz_r 44), (1, fz_i 7), (2, fz_i 1), (3, fz_i x), (4, fz_i dp)] [] h (qX9_run_7_7_1 h x dp w) := by
  refine fz_knowl (fun hk => ?_)
  have hr_x : -2147483648 ≤ x ∧ x < 2147483648 := hk _ (List.Mem.tail _ (List.Mem.tail _ (List.Mem.tail _ (List.Mem.head _))))
  have hr_dp : -2147483648 ≤ dp ∧ dp < 2147483648 := hk _ (List.Mem.tail _ (List.Mem.tail _ (List.Mem.tail _ (List.Mem.tail _ (List.Mem.head _)))))
  clear hk
  have hf : fz_fr [(44, 3), (46, 99999)] h h := fz_fr_rf
  have b1 : 0 ≤ h 44 5 ∧ h 44 5 ≤ 7 := hI.1 44 _
  have b2 : (-2147483648) ≤ h 44 3 ∧ h 44 3 ≤ 2147483647 := hI.1 44 _
  have b3 : 0 ≤ h 44 4 ∧ h 44 4 ≤ 49 := hI.1 44 _
  refine fz_iload kX9_run rfl rfl ?_
  refine fz_bipush ⟨by decide, by decide⟩ kX9_run rfl ?_
  refine fz_icmp_gt (tgt := 24) kX9_run rfl (by decide) (fun c4 => ?_) (fun c4 => ?_)
  · exfalso; omega
  · refine fz_aload_n kX9_run rfl rfl ?_
    refine fz_iload_n kX9_run rfl rfl ?_
    refine fz_callV (d' := 0) (M' := mX9_isKind) (As := [fz_i 7]) (st := []) kX9_run rfl rfl vX9_isKind rfl rfl rfl rfl (Nat.le_of_ble_eq_true rfl) (Nat.le_of_ble_eq_true rfl) (by decide) (sX9_isKind h hI 7 ) (fun H5 r6 q7 o8 => ?_)
    obtain ⟨e9, y10, rfl, p11⟩ := q7
    subst H5
    clear o8
    rcases p11 with ⟨rfl, c12⟩ | ⟨rfl, c12⟩
    · refine fz_if_eq (tgt := 24) kX9_run rfl (by decide) (fun c13 => ?_) (fun c13 => ?_)
      · exfalso; omega
      · refine fz_iload_n kX9_run rfl rfl ?_
        refine fz_if_lt (tgt := 24) kX9_run rfl (by decide) (fun c14 => ?_) (fun c14 => ?_)
        · exfalso; omega
        · refine fz_iload_n kX9_run rfl rfl ?_
          refine fz_iconst ⟨by decide, by decide⟩ kX9_run rfl ?_
          refine fz_icmp_lt (tgt := 26) kX9_run rfl (by decide) (fun c15 => ?_) (fun c15 => ?_)
          · refine fz_iload_n kX9_run rfl rfl ?_
            refine fz_iload_n kX9_run rfl rfl ?_
            refine fz_callS (d' := 0) (M' := mX9_ownerFrom) (As := [fz_i 7, fz_i 1]) (st := []) kX9_run rfl rfl vX9_ownerFrom rfl rfl (Nat.le_of_ble_eq_true rfl) (Nat.le_of_ble_eq_true rfl) (by decide) (sX9_ownerFrom_7_1 h hI  ) (fun H16 r17 q18 o19 => ?_)
            obtain ⟨e20, y22, rfl, f21⟩ := q18
            subst H16
            clear o19
            refine fz_eqi (show y22 = 7 by omega) ?_
            refine fz_istore (ls' := [(5, fz_i 7), (0, fz_r 44), (1, fz_i 7), (2, fz_i 1), (3, fz_i x), (4, fz_i dp)]) kX9_run rfl (by decide) rfl ?_
            refine fz_gets kX9_run rfl ?_
            refine fz_iload kX9_run rfl rfl ?_
            refine fz_taldV (v := 4) kX9_run rfl ⟨by decide, by decide⟩ (by omega) (by rw [hI.2.2.2.2]; decide) (by rw [hI.2.2.2.2]; rfl) ?_
            refine fz_istore (ls' := [(6, fz_i 4), (5, fz_i 7), (0, fz_r 44), (1, fz_i 7), (2, fz_i 1), (3, fz_i x), (4, fz_i dp)]) kX9_run rfl (by decide) rfl ?_
            refine fz_iload kX9_run rfl rfl ?_
            refine fz_iconst ⟨by decide, by decide⟩ kX9_run rfl ?_
            refine fz_iaddN kX9_run rfl (by omega) ?_
            refine fz_istore (ls' := [(7, fz_i (dp + 1)), (6, fz_i 4), (5, fz_i 7), (0, fz_r 44), (1, fz_i 7), (2, fz_i 1), (3, fz_i x), (4, fz_i dp)]) kX9_run rfl (by decide) rfl ?_
            refine fz_gets kX9_run rfl ?_
            refine fz_iload kX9_run rfl rfl ?_
            refine fz_iconst ⟨by decide, by decide⟩ kX9_run rfl ?_
            refine fz_imulN kX9_run rfl ⟨by decide, by decide⟩ ?_
            refine fz_eqi (y := 28) rfl ?_
            refine fz_iload_n kX9_run rfl rfl ?_
            refine fz_iaddN kX9_run rfl ⟨by decide, by decide⟩ ?_
            refine fz_eqi (y := 29) rfl ?_
            refine fz_taldV (v := 80) kX9_run rfl ⟨by decide, by decide⟩ (by omega) (by rw [hI.2.2.2.1]; decide) (by rw [hI.2.2.2.1]; rfl) ?_
            refine fz_istore (ls' := [(8, fz_i 80), (7, fz_i (dp + 1)), (6, fz_i 4), (5, fz_i 7), (0, fz_r 44), (1, fz_i 7), (2, fz_i 1), (3, fz_i x), (4, fz_i dp)]) kX9_run rfl (by decide) rfl ?_
            refine fz_aload_n kX9_run rfl rfl ?_
            refine fz_iload kX9_run rfl rfl ?_
            refine fz_callV (d' := 0) (M' := mX9_note) (As := [fz_i 80]) (st := []) kX9_run rfl rfl vX9_note rfl rfl rfl rfl (Nat.le_of_ble_eq_true rfl) (Nat.le_of_ble_eq_true rfl) (by decide) (sX9_note h hI 80 (by omega)) (fun H27 r28 q29 o30 => ?_)
            obtain ⟨hI31, hf32, rfl, f33, f34⟩ := q29
            clear o30
            have hf35 := fz_fr_tr hf hf32 (show fz_su [(44, 3), (46, 99999)] [(44, 3), (46, 99999)] = true from rfl)
            have t36 : H27 44 4 = h 44 4 := hf32 44 4 rfl
            refine fz_iload kX9_run rfl rfl ?_
            refine fz_lsw (tgt := 336) kX9_run rfl (by decide) (show Op.lookupswitch.offset [(1, 113), (2, 120), (10, 146), (11, 161), (20, 168), (30, 181), (40, 193), (41, 206), (50, 219), (60, 243), (70, 256), (80, 269), (81, 293)] 306 80 = 269 from rfl) (by decide) ?_
            refine fz_aload_n kX9_run rfl rfl ?_
            refine fz_iload kX9_run rfl rfl ?_
            refine fz_iconst ⟨by decide, by decide⟩ kX9_run rfl ?_
            refine fz_iload_n kX9_run rfl rfl ?_
            refine fz_iload kX9_run rfl rfl ?_
            have b37 : (-2147483648) ≤ H27 44 3 ∧ H27 44 3 ≤ 2147483647 := hI31.1 44 _
            have e38 : H27 44 5 = h 44 5 := hf35 44 5 rfl
            have e39 : H27 44 4 = h 44 4 := hf35 44 4 rfl
            refine fz_callV (d' := 3) (M' := mX9_run) (As := [fz_i 4, fz_i 1, fz_i x, fz_i (dp + 1)]) (st := []) kX9_run rfl rfl vX9_run rfl rfl rfl rfl (Nat.le_of_ble_eq_true rfl) (Nat.le_of_ble_eq_true rfl) (by decide) (sX9_run_7_4_1 H27 hI31 x (dp + 1) w (by omega) (by omega) (by omega) (by omega)) (fun H40 r41 q42 o43 => ?_)
            obtain ⟨hI44, hf45, y50, rfl, f46, f47, f48, f49⟩ := q42
            clear o43
            have hf51 := fz_fr_tr hf35 hf45 (show fz_su [(44, 3), (46, 99999)] [(44, 3), (46, 99999)] = true from rfl)
            have t52 : H40 44 4 = H27 44 4 := hf45 44 4 rfl
            refine fz_aload_n kX9_run rfl rfl ?_
            refine fz_aload_n kX9_run rfl rfl ?_
            refine fz_getV (v := h 44 5) kX9_run rfl rfl (hf51 44 5 rfl) ?_
            have b53 : 0 ≤ h 44 5 ∧ h 44 5 ≤ 7 := hI.1 44 _
            refine fz_eqi (show (h 44 5) = 7 by omega) ?_
            refine fz_iconst ⟨by decide, by decide⟩ kX9_run rfl ?_
            refine fz_iconst ⟨by decide, by decide⟩ kX9_run rfl ?_
            refine fz_iload kX9_run rfl rfl ?_
            have b54 : (-2147483648) ≤ H40 44 3 ∧ H40 44 3 ≤ 2147483647 := hI44.1 44 _
            have e55 : H40 44 5 = h 44 5 := hf51 44 5 rfl
            have e56 : H40 44 4 = h 44 4 := hf51 44 4 rfl
            refine fz_callV (d' := 3) (M' := mX9_run) (As := [fz_i 7, fz_i 2, fz_i 2, fz_i (dp + 1)]) (st := [fz_i y50]) kX9_run rfl rfl vX9_run rfl rfl rfl rfl (Nat.le_of_ble_eq_true rfl) (Nat.le_of_ble_eq_true rfl) (by decide) (sX9_run_7_7_2 H40 hI44 2 (dp + 1) w (by omega) (by omega) (by omega) (by omega)) (fun H57 r58 q59 o60 => ?_)
            obtain ⟨hI61, hf62, y67, rfl, f63, f64, f65, f66⟩ := q59
            clear o60
            have hf68 := fz_fr_tr hf51 hf62 (show fz_su [(44, 3), (46, 99999)] [(44, 3), (46, 99999)] = true from rfl)
            have t69 : H57 44 4 = H40 44 4 := hf62 44 4 rfl
            refine fz_iadd kX9_run rfl ?_
            have b70 := fz_w_b (y50 + y67)
            exact fz_iret kX9_run rfl rfl (fun _ => ⟨hI61, hf68, _, rfl, (by omega), (by first | rfl | (rw [f47, f64]) | (rw [f47]) | (rw [hp3]) | (exfalso; omega)), (by simp only [List.length_cons, List.length_nil]; omega), (by first | exact fz_tc2 f34 f49 f66 (by omega) (by simp only [List.length_cons, List.length_nil]; omega) | exact fz_tc1 f34 f49 (by omega) | exact fz_tc0 f34 | exact f49 | (exfalso; omega))⟩)
          · exfalso; omega
    · refine fz_if_eq (tgt := 24) kX9_run rfl (by decide) (fun c74 => ?_) (fun c74 => ?_)
      · refine fz_iconst ⟨by decide, by decide⟩ kX9_run rfl ?_
        exact fz_iret kX9_run rfl rfl (fun _ => ⟨hI, hf, _, rfl, (by omega), (by first | rfl | (rw [lost, lost]) | (rw [lost]) | (rw [hp3]) | (exfalso; omega)), (by simp only [List.length_cons, List.length_nil]; omega), (by first | exact fz_tc2 lost lost lost (by omega) (by simp only [List.length_cons, List.length_nil]; omega) | exact fz_tc1 lost lost (by omega) | exact fz_tc0 lost | exact lost | (exfalso; omega))⟩)
      · exfalso; omega

abbrev qX9_run_7_4_3 (h : fz_H) (x dp w : Int) : fz_H → Option fz_V → Prop := fun h' r0 => fz_Iv h' ∧ fz_fr [(44, 3), (46, 99999)] h h' ∧ ∃ r : Int, r0 = some (fz_i r) ∧ (h' 44 3 = h 44 3 + 13) ∧ (r = fz_w (fz_w (fz_w (fz_w (fz_w (x + w) + 3) * 2) + fz_w (fz_xor 2 w - fz_w (fz_w (2 + w) + 3))) - fz_w (fz_xor 1 w - fz_w (fz_w (2 + w) + 3)))) ∧ (h' 44 3 = h 44 3 + ([2, 80, 10, 20, 1, 50, 11, 20, 1, 50, 11, 20, 1] : List Int).length) ∧ (h' 46 = fz_tr (h 46) (h 44 3) [2, 80, 10, 20, 1, 50, 11, 20, 1, 50, 11, 20, 1])
set_option maxHeartbeats 1000000 in
set_option maxRecDepth 100000 in
theorem sX9_run_7_4_3 (h : fz_H) (hI : fz_Iv h) (x dp w : Int) (hp0 : h 44 5 = 7) (hp1 : 0 ≤ dp ∧ dp ≤ 35) (hp2 : 0 ≤ h 44 3 ∧ h 44 3 ≤ 887) (hp3 : h 44 4 = w) : fz_R 5 mX9_run 0 [(0, fz_r 44), (1, fz_i 4), (2, fz_i 3), (3, fz_i x), (4, fz_i dp)] [] h (qX9_run_7_4_3 h x dp w) := by
  refine fz_knowl (fun hk => ?_)
  have hr_x : -2147483648 ≤ x ∧ x < 2147483648 := hk _ (List.Mem.tail _ (List.Mem.tail _ (List.Mem.tail _ (List.Mem.head _))))
  have hr_dp : -2147483648 ≤ dp ∧ dp < 2147483648 := hk _ (List.Mem.tail _ (List.Mem.tail _ (List.Mem.tail _ (List.Mem.tail _ (List.Mem.head _)))))
  clear hk
  have hf : fz_fr [(44, 3), (46, 99999)] h h := fz_fr_rf
  have b1 : 0 ≤ h 44 5 ∧ h 44 5 ≤ 7 := hI.1 44 _
  have b2 : (-2147483648) ≤ h 44 3 ∧ h 44 3 ≤ 2147483647 := hI.1 44 _
  have b3 : 0 ≤ h 44 4 ∧ h 44 4 ≤ 49 := hI.1 44 _
  refine fz_iload kX9_run rfl rfl ?_
  refine fz_bipush ⟨by decide, by decide⟩ kX9_run rfl ?_
  refine fz_icmp_gt (tgt := 24) kX9_run rfl (by decide) (fun c4 => ?_) (fun c4 => ?_)
  · exfalso; omega
  · refine fz_aload_n kX9_run rfl rfl ?_
    refine fz_iload_n kX9_run rfl rfl ?_
    refine fz_callV (d' := 0) (M' := mX9_isKind) (As := [fz_i 4]) (st := []) kX9_run rfl rfl vX9_isKind rfl rfl rfl rfl (Nat.le_of_ble_eq_true rfl) (Nat.le_of_ble_eq_true rfl) (by decide) (sX9_isKind h hI 4 ) (fun H5 r6 q7 o8 => ?_)
    obtain ⟨e9, y10, rfl, p11⟩ := q7
    subst H5
    clear o8
    rcases p11 with ⟨rfl, c12⟩ | ⟨rfl, c12⟩
    · refine fz_if_eq (tgt := 24) kX9_run rfl (by decide) (fun c13 => ?_) (fun c13 => ?_)
      · exfalso; omega
      · refine fz_iload_n kX9_run rfl rfl ?_
        refine fz_if_lt (tgt := 24) kX9_run rfl (by decide) (fun c14 => ?_) (fun c14 => ?_)
        · exfalso; omega
        · refine fz_iload_n kX9_run rfl rfl ?_
          refine fz_iconst ⟨by decide, by decide⟩ kX9_run rfl ?_
          refine fz_icmp_lt (tgt := 26) kX9_run rfl (by decide) (fun c15 => ?_) (fun c15 => ?_)
          · refine fz_iload_n kX9_run rfl rfl ?_
            refine fz_iload_n kX9_run rfl rfl ?_
            refine fz_callS (d' := 0) (M' := mX9_ownerFrom) (As := [fz_i 4, fz_i 3]) (st := []) kX9_run rfl rfl vX9_ownerFrom rfl rfl (Nat.le_of_ble_eq_true rfl) (Nat.le_of_ble_eq_true rfl) (by decide) (sX9_ownerFrom_4_3 h hI  ) (fun H16 r17 q18 o19 => ?_)
            obtain ⟨e20, y22, rfl, f21⟩ := q18
            subst H16
            clear o19
            refine fz_eqi (show y22 = 0 by omega) ?_
            refine fz_istore (ls' := [(5, fz_i 0), (0, fz_r 44), (1, fz_i 4), (2, fz_i 3), (3, fz_i x), (4, fz_i dp)]) kX9_run rfl (by decide) rfl ?_
            refine fz_gets kX9_run rfl ?_
            refine fz_iload kX9_run rfl rfl ?_
            refine fz_taldV (v := (-1)) kX9_run rfl ⟨by decide, by decide⟩ (by omega) (by rw [hI.2.2.2.2]; decide) (by rw [hI.2.2.2.2]; rfl) ?_
            refine fz_istore (ls' := [(6, fz_i (-1)), (5, fz_i 0), (0, fz_r 44), (1, fz_i 4), (2, fz_i 3), (3, fz_i x), (4, fz_i dp)]) kX9_run rfl (by decide) rfl ?_
            refine fz_iload kX9_run rfl rfl ?_
            refine fz_iconst ⟨by decide, by decide⟩ kX9_run rfl ?_
            refine fz_iaddN kX9_run rfl (by omega) ?_
            refine fz_istore (ls' := [(7, fz_i (dp + 1)), (6, fz_i (-1)), (5, fz_i 0), (0, fz_r 44), (1, fz_i 4), (2, fz_i 3), (3, fz_i x), (4, fz_i dp)]) kX9_run rfl (by decide) rfl ?_
            refine fz_gets kX9_run rfl ?_
            refine fz_iload kX9_run rfl rfl ?_
            refine fz_iconst ⟨by decide, by decide⟩ kX9_run rfl ?_
            refine fz_imulN kX9_run rfl ⟨by decide, by decide⟩ ?_
            refine fz_eqi (y := 0) rfl ?_
            refine fz_iload_n kX9_run rfl rfl ?_
            refine fz_iaddN kX9_run rfl ⟨by decide, by decide⟩ ?_
            refine fz_eqi (y := 3) rfl ?_
            refine fz_taldV (v := 2) kX9_run rfl ⟨by decide, by decide⟩ (by omega) (by rw [hI.2.2.2.1]; decide) (by rw [hI.2.2.2.1]; rfl) ?_
            refine fz_istore (ls' := [(8, fz_i 2), (7, fz_i (dp + 1)), (6, fz_i (-1)), (5, fz_i 0), (0, fz_r 44), (1, fz_i 4), (2, fz_i 3), (3, fz_i x), (4, fz_i dp)]) kX9_run rfl (by decide) rfl ?_
            refine fz_aload_n kX9_run rfl rfl ?_
            refine fz_iload kX9_run rfl rfl ?_
            refine fz_callV (d' := 0) (M' := mX9_note) (As := [fz_i 2]) (st := []) kX9_run rfl rfl vX9_note rfl rfl rfl rfl (Nat.le_of_ble_eq_true rfl) (Nat.le_of_ble_eq_true rfl) (by decide) (sX9_note h hI 2 (by omega)) (fun H27 r28 q29 o30 => ?_)
            obtain ⟨hI31, hf32, rfl, f33, f34⟩ := q29
            clear o30
            have hf35 := fz_fr_tr hf hf32 (show fz_su [(44, 3), (46, 99999)] [(44, 3), (46, 99999)] = true from rfl)
            have t36 : H27 44 4 = h 44 4 := hf32 44 4 rfl
            refine fz_iload kX9_run rfl rfl ?_
            refine fz_lsw (tgt := 187) kX9_run rfl (by decide) (show Op.lookupswitch.offset [(1, 113), (2, 120), (10, 146), (11, 161), (20, 168), (30, 181), (40, 193), (41, 206), (50, 219), (60, 243), (70, 256), (80, 269), (81, 293)] 306 2 = 120 from rfl) (by decide) ?_
            refine fz_aload_n kX9_run rfl rfl ?_
            refine fz_aload_n kX9_run rfl rfl ?_
            refine fz_getV (v := h 44 5) kX9_run rfl rfl (hf35 44 5 rfl) ?_
            have b37 : 0 ≤ h 44 5 ∧ h 44 5 ≤ 7 := hI.1 44 _
            refine fz_eqi (show (h 44 5) = 7 by omega) ?_
            refine fz_iconst ⟨by decide, by decide⟩ kX9_run rfl ?_
            refine fz_iload_n kX9_run rfl rfl ?_
            refine fz_iload kX9_run rfl rfl ?_
            have b38 : (-2147483648) ≤ H27 44 3 ∧ H27 44 3 ≤ 2147483647 := hI31.1 44 _
            have e39 : H27 44 5 = h 44 5 := hf35 44 5 rfl
            have e40 : H27 44 4 = h 44 4 := hf35 44 4 rfl
            refine fz_callV (d' := 4) (M' := mX9_run) (As := [fz_i 7, fz_i 1, fz_i x, fz_i (dp + 1)]) (st := []) kX9_run rfl rfl vX9_run rfl rfl rfl rfl (Nat.le_of_ble_eq_true rfl) (Nat.le_of_ble_eq_true rfl) (by decide) (sX9_run_7_7_1 H27 hI31 x (dp + 1) w (by omega) (by omega) (by omega) (by omega)) (fun H41 r42 q43 o44 => ?_)
            obtain ⟨hI45, hf46, y51, rfl, f47, f48, f49, f50⟩ := q43
            clear o44
            have hf52 := fz_fr_tr hf35 hf46 (show fz_su [(44, 3), (46, 99999)] [(44, 3), (46, 99999)] = true from rfl)
            have t53 : H41 44 4 = H27 44 4 := hf46 44 4 rfl
            refine fz_aload_n kX9_run rfl rfl ?_
            refine fz_aload_n kX9_run rfl rfl ?_
            refine fz_getV (v := h 44 5) kX9_run rfl rfl (hf52 44 5 rfl) ?_
            refine fz_eqi (show (h 44 5) = 7 by omega) ?_
            refine fz_iconst ⟨by decide, by decide⟩ kX9_run rfl ?_
            refine fz_iconst ⟨by decide, by decide⟩ kX9_run rfl ?_
            refine fz_iload kX9_run rfl rfl ?_
            have b54 : (-2147483648) ≤ H41 44 3 ∧ H41 44 3 ≤ 2147483647 := hI45.1 44 _
            have e55 : H41 44 5 = h 44 5 := hf52 44 5 rfl
            have e56 : H41 44 4 = h 44 4 := hf52 44 4 rfl
            refine fz_callV (d' := 3) (M' := mX9_run) (As := [fz_i 7, fz_i 2, fz_i 1, fz_i (dp + 1)]) (st := [fz_i y51]) kX9_run rfl rfl vX9_run rfl rfl rfl rfl (Nat.le_of_ble_eq_true rfl) (Nat.le_of_ble_eq_true rfl) (by decide) (sX9_run_7_7_2 H41 hI45 1 (dp + 1) w (by omega) (by omega) (by omega) (by omega)) (fun H57 r58 q59 o60 => ?_)
            obtain ⟨hI61, hf62, y67, rfl, f63, f64, f65, f66⟩ := q59
            clear o60
            have hf68 := fz_fr_tr hf52 hf62 (show fz_su [(44, 3), (46, 99999)] [(44, 3), (46, 99999)] = true from rfl)
            have t69 : H57 44 4 = H41 44 4 := hf62 44 4 rfl
            refine fz_isub kX9_run rfl ?_
            have b70 := fz_w_b (y51 - y67)
            exact fz_iret kX9_run rfl rfl (fun _ => ⟨hI61, hf68, _, rfl, (by omega), (by first | rfl | (rw [f48, f64]) | (rw [f48]) | (rw [hp3]) | (exfalso; omega)), (by simp only [List.length_cons, List.length_nil]; omega), (by first | exact fz_tc2 f34 f50 f66 (by omega) (by simp only [List.length_cons, List.length_nil]; omega) | exact fz_tc1 f34 f50 (by omega) | exact fz_tc0 f34 | exact f50 | (exfalso; omega))⟩)
          · exfalso; omega
    · refine fz_if_eq (tgt := 24) kX9_run rfl (by decide) (fun c74 => ?_) (fun c74 => ?_)
      · refine fz_iconst ⟨by decide, by decide⟩ kX9_run rfl ?_
        exact fz_iret kX9_run rfl rfl (fun _ => ⟨hI, hf, _, rfl, (by omega), (by first | rfl | (rw [lost, lost]) | (rw [lost]) | (rw [hp3]) | (exfalso; omega)), (by simp only [List.length_cons, List.length_nil]; omega), (by first | exact fz_tc2 lost lost lost (by omega) (by simp only [List.length_cons, List.length_nil]; omega) | exact fz_tc1 lost lost (by omega) | exact fz_tc0 lost | exact lost | (exfalso; omega))⟩)
      · exfalso; omega

abbrev qX9_run_7_7_3 (h : fz_H) (x dp w : Int) : fz_H → Option fz_V → Prop := fun h' r0 => fz_Iv h' ∧ fz_fr [(44, 3), (46, 99999)] h h' ∧ ∃ r : Int, r0 = some (fz_i r) ∧ (h' 44 3 = h 44 3 + 14) ∧ (r = fz_w (fz_w (fz_w (fz_w (fz_w (fz_w (x + w) + 3) * 2) + fz_w (fz_xor 2 w - fz_w (fz_w (2 + w) + 3))) - fz_w (fz_xor 1 w - fz_w (fz_w (2 + w) + 3))) - 1)) ∧ (h' 44 3 = h 44 3 + ([81, 2, 80, 10, 20, 1, 50, 11, 20, 1, 50, 11, 20, 1] : List Int).length) ∧ (h' 46 = fz_tr (h 46) (h 44 3) [81, 2, 80, 10, 20, 1, 50, 11, 20, 1, 50, 11, 20, 1])
set_option maxHeartbeats 1000000 in
set_option maxRecDepth 100000 in
theorem sX9_run_7_7_3 (h : fz_H) (hI : fz_Iv h) (x dp w : Int) (hp0 : h 44 5 = 7) (hp1 : 0 ≤ dp ∧ dp ≤ 34) (hp2 : 0 ≤ h 44 3 ∧ h 44 3 ≤ 886) (hp3 : h 44 4 = w) : fz_R 6 mX9_run 0 [(0, fz_r 44), (1, fz_i 7), (2, fz_i 3), (3, fz_i x), (4, fz_i dp)] [] h (qX9_run_7_7_3 h x dp w) := by
  refine fz_knowl (fun hk => ?_)
  have hr_x : -2147483648 ≤ x ∧ x < 2147483648 := hk _ (List.Mem.tail _ (List.Mem.tail _ (List.Mem.tail _ (List.Mem.head _))))
  have hr_dp : -2147483648 ≤ dp ∧ dp < 2147483648 := hk _ (List.Mem.tail _ (List.Mem.tail _ (List.Mem.tail _ (List.Mem.tail _ (List.Mem.head _)))))
  clear hk
  have hf : fz_fr [(44, 3), (46, 99999)] h h := fz_fr_rf
  have b1 : 0 ≤ h 44 5 ∧ h 44 5 ≤ 7 := hI.1 44 _
  have b2 : (-2147483648) ≤ h 44 3 ∧ h 44 3 ≤ 2147483647 := hI.1 44 _
  have b3 : 0 ≤ h 44 4 ∧ h 44 4 ≤ 49 := hI.1 44 _
  refine fz_iload kX9_run rfl rfl ?_
  refine fz_bipush ⟨by decide, by decide⟩ kX9_run rfl ?_
  refine fz_icmp_gt (tgt := 24) kX9_run rfl (by decide) (fun c4 => ?_) (fun c4 => ?_)
  · exfalso; omega
  · refine fz_aload_n kX9_run rfl rfl ?_
    refine fz_iload_n kX9_run rfl rfl ?_
    refine fz_callV (d' := 0) (M' := mX9_isKind) (As := [fz_i 7]) (st := []) kX9_run rfl rfl vX9_isKind rfl rfl rfl rfl (Nat.le_of_ble_eq_true rfl) (Nat.le_of_ble_eq_true rfl) (by decide) (sX9_isKind h hI 7 ) (fun H5 r6 q7 o8 => ?_)
    obtain ⟨e9, y10, rfl, p11⟩ := q7
    subst H5
    clear o8
    rcases p11 with ⟨rfl, c12⟩ | ⟨rfl, c12⟩
    · refine fz_if_eq (tgt := 24) kX9_run rfl (by decide) (fun c13 => ?_) (fun c13 => ?_)
      · exfalso; omega
      · refine fz_iload_n kX9_run rfl rfl ?_
        refine fz_if_lt (tgt := 24) kX9_run rfl (by decide) (fun c14 => ?_) (fun c14 => ?_)
        · exfalso; omega
        · refine fz_iload_n kX9_run rfl rfl ?_
          refine fz_iconst ⟨by decide, by decide⟩ kX9_run rfl ?_
          refine fz_icmp_lt (tgt := 26) kX9_run rfl (by decide) (fun c15 => ?_) (fun c15 => ?_)
          · refine fz_iload_n kX9_run rfl rfl ?_
            refine fz_iload_n kX9_run rfl rfl ?_
            refine fz_callS (d' := 0) (M' := mX9_ownerFrom) (As := [fz_i 7, fz_i 3]) (st := []) kX9_run rfl rfl vX9_ownerFrom rfl rfl (Nat.le_of_ble_eq_true rfl) (Nat.le_of_ble_eq_true rfl) (by decide) (sX9_ownerFrom_7_3 h hI  ) (fun H16 r17 q18 o19 => ?_)
            obtain ⟨e20, y22, rfl, f21⟩ := q18
            subst H16
            clear o19
            refine fz_eqi (show y22 = 7 by omega) ?_
            refine fz_istore (ls' := [(5, fz_i 7), (0, fz_r 44), (1, fz_i 7), (2, fz_i 3), (3, fz_i x), (4, fz_i dp)]) kX9_run rfl (by decide) rfl ?_
            refine fz_gets kX9_run rfl ?_
            refine fz_iload kX9_run rfl rfl ?_
            refine fz_taldV (v := 4) kX9_run rfl ⟨by decide, by decide⟩ (by omega) (by rw [hI.2.2.2.2]; decide) (by rw [hI.2.2.2.2]; rfl) ?_
            refine fz_istore (ls' := [(6, fz_i 4), (5, fz_i 7), (0, fz_r 44), (1, fz_i 7), (2, fz_i 3), (3, fz_i x), (4, fz_i dp)]) kX9_run rfl (by decide) rfl ?_
            refine fz_iload kX9_run rfl rfl ?_
            refine fz_iconst ⟨by decide, by decide⟩ kX9_run rfl ?_
            refine fz_iaddN kX9_run rfl (by omega) ?_
            refine fz_istore (ls' := [(7, fz_i (dp + 1)), (6, fz_i 4), (5, fz_i 7), (0, fz_r 44), (1, fz_i 7), (2, fz_i 3), (3, fz_i x), (4, fz_i dp)]) kX9_run rfl (by decide) rfl ?_
            refine fz_gets kX9_run rfl ?_
            refine fz_iload kX9_run rfl rfl ?_
            refine fz_iconst ⟨by decide, by decide⟩ kX9_run rfl ?_
            refine fz_imulN kX9_run rfl ⟨by decide, by decide⟩ ?_
            refine fz_eqi (y := 28) rfl ?_
            refine fz_iload_n kX9_run rfl rfl ?_
            refine fz_iaddN kX9_run rfl ⟨by decide, by decide⟩ ?_
            refine fz_eqi (y := 31) rfl ?_
            refine fz_taldV (v := 81) kX9_run rfl ⟨by decide, by decide⟩ (by omega) (by rw [hI.2.2.2.1]; decide) (by rw [hI.2.2.2.1]; rfl) ?_
            refine fz_istore (ls' := [(8, fz_i 81), (7, fz_i (dp + 1)), (6, fz_i 4), (5, fz_i 7), (0, fz_r 44), (1, fz_i 7), (2, fz_i 3), (3, fz_i x), (4, fz_i dp)]) kX9_run rfl (by decide) rfl ?_
            refine fz_aload_n kX9_run rfl rfl ?_
            refine fz_iload kX9_run rfl rfl ?_
            refine fz_callV (d' := 0) (M' := mX9_note) (As := [fz_i 81]) (st := []) kX9_run rfl rfl vX9_note rfl rfl rfl rfl (Nat.le_of_ble_eq_true rfl) (Nat.le_of_ble_eq_true rfl) (by decide) (sX9_note h hI 81 (by omega)) (fun H27 r28 q29 o30 => ?_)
            obtain ⟨hI31, hf32, rfl, f33, f34⟩ := q29
            clear o30
            have hf35 := fz_fr_tr hf hf32 (show fz_su [(44, 3), (46, 99999)] [(44, 3), (46, 99999)] = true from rfl)
            have t36 : H27 44 4 = h 44 4 := hf32 44 4 rfl
            refine fz_iload kX9_run rfl rfl ?_
            refine fz_lsw (tgt := 360) kX9_run rfl (by decide) (show Op.lookupswitch.offset [(1, 113), (2, 120), (10, 146), (11, 161), (20, 168), (30, 181), (40, 193), (41, 206), (50, 219), (60, 243), (70, 256), (80, 269), (81, 293)] 306 81 = 293 from rfl) (by decide) ?_
            refine fz_aload_n kX9_run rfl rfl ?_
            refine fz_iload kX9_run rfl rfl ?_
            refine fz_iconst ⟨by decide, by decide⟩ kX9_run rfl ?_
            refine fz_iload_n kX9_run rfl rfl ?_
            refine fz_iload kX9_run rfl rfl ?_
            have b37 : (-2147483648) ≤ H27 44 3 ∧ H27 44 3 ≤ 2147483647 := hI31.1 44 _
            have e38 : H27 44 5 = h 44 5 := hf35 44 5 rfl
            have e39 : H27 44 4 = h 44 4 := hf35 44 4 rfl
            refine fz_callV (d' := 5) (M' := mX9_run) (As := [fz_i 4, fz_i 3, fz_i x, fz_i (dp + 1)]) (st := []) kX9_run rfl rfl vX9_run rfl rfl rfl rfl (Nat.le_of_ble_eq_true rfl) (Nat.le_of_ble_eq_true rfl) (by decide) (sX9_run_7_4_3 H27 hI31 x (dp + 1) w (by omega) (by omega) (by omega) (by omega)) (fun H40 r41 q42 o43 => ?_)
            obtain ⟨hI44, hf45, y50, rfl, f46, f47, f48, f49⟩ := q42
            clear o43
            have hf51 := fz_fr_tr hf35 hf45 (show fz_su [(44, 3), (46, 99999)] [(44, 3), (46, 99999)] = true from rfl)
            have t52 : H40 44 4 = H27 44 4 := hf45 44 4 rfl
            refine fz_iconst ⟨by decide, by decide⟩ kX9_run rfl ?_
            refine fz_isub kX9_run rfl ?_
            have b53 := fz_w_b (y50 - 1)
            exact fz_iret kX9_run rfl rfl (fun _ => ⟨hI44, hf51, _, rfl, (by omega), (by first | rfl | (rw [f47, lost]) | (rw [f47]) | (rw [hp3]) | (exfalso; omega)), (by simp only [List.length_cons, List.length_nil]; omega), (by first | exact fz_tc2 f34 f49 lost (by omega) (by simp only [List.length_cons, List.length_nil]; omega) | exact fz_tc1 f34 f49 (by omega) | exact fz_tc0 f34 | exact f49 | (exfalso; omega))⟩)
          · exfalso; omega
    · refine fz_if_eq (tgt := 24) kX9_run rfl (by decide) (fun c57 => ?_) (fun c57 => ?_)
      · refine fz_iconst ⟨by decide, by decide⟩ kX9_run rfl ?_
        exact fz_iret kX9_run rfl rfl (fun _ => ⟨hI, hf, _, rfl, (by omega), (by first | rfl | (rw [lost, lost]) | (rw [lost]) | (rw [hp3]) | (exfalso; omega)), (by simp only [List.length_cons, List.length_nil]; omega), (by first | exact fz_tc2 lost lost lost (by omega) (by simp only [List.length_cons, List.length_nil]; omega) | exact fz_tc1 lost lost (by omega) | exact fz_tc0 lost | exact lost | (exfalso; omega))⟩)
      · exfalso; omega

abbrev qX9_start (h : fz_H) (b ac x : Int) : fz_H → Option fz_V → Prop := fun h' r0 => fz_Iv h' ∧ fz_fr [(44, 3), (44, 4), (44, 5), (46, 99999)] h h' ∧ ∃ r : Int, r0 = some (fz_i r) ∧ (r = fz_act (h 44 2) (h 45 b.toNat) b ac x) ∧ (fz_aT h h' 46 44 3 (fz_atr (h 44 2) (h 45 b.toNat) b ac))
set_option maxHeartbeats 1000000 in
set_option maxRecDepth 100000 in
theorem sX9_start (h : fz_H) (hI : fz_Iv h) (b ac x : Int) : fz_R 7 mX9_start 0 [(0, fz_r 44), (1, fz_i b), (2, fz_i ac), (3, fz_i x)] [] h (qX9_start h b ac x) := by
  refine fz_knowl (fun hk => ?_)
  have hr_b : -2147483648 ≤ b ∧ b < 2147483648 := hk _ (List.Mem.tail _ (List.Mem.head _))
  have hr_ac : -2147483648 ≤ ac ∧ ac < 2147483648 := hk _ (List.Mem.tail _ (List.Mem.tail _ (List.Mem.head _)))
  have hr_x : -2147483648 ≤ x ∧ x < 2147483648 := hk _ (List.Mem.tail _ (List.Mem.tail _ (List.Mem.tail _ (List.Mem.head _))))
  clear hk
  have hf : fz_fr [(44, 3), (44, 4), (44, 5), (46, 99999)] h h := fz_fr_rf
  have b1 : 0 ≤ h 44 2 ∧ h 44 2 ≤ 50 := hI.1 44 _
  refine fz_aload_n kX9_start rfl rfl ?_
  refine fz_iconst ⟨by decide, by decide⟩ kX9_start rfl ?_
  refine fz_putI kX9_start rfl rfl rfl ?_
  refine fz_nmu (S := [(44, 3), (44, 4), (44, 5), (46, 99999)]) (h0 := h) (fz_Iv_up hI (by decide) (show ((-2147483648) : Int) ≤ 0 by decide) (show (0 : Int) ≤ 2147483647 by decide)) (fz_fr_up hf rfl) (fun H2 hI3 hf4 e5 => ?_)
  have k6 : H2 44 3 = 0 := by rw [e5]; exact fz_up_e
  refine fz_aload_n kX9_start rfl rfl ?_
  refine fz_iload_n kX9_start rfl rfl ?_
  have e7 : H2 44 2 = h 44 2 := hf4 44 2 rfl
  refine fz_callV (d' := 0) (M' := mX9_isBody) (As := [fz_i b]) (st := []) kX9_start rfl rfl vX9_isBody rfl rfl rfl rfl (Nat.le_of_ble_eq_true rfl) (Nat.le_of_ble_eq_true rfl) (by decide) (sX9_isBody H2 hI3 b ) (fun H8 r9 q10 o11 => ?_)
  obtain ⟨e12, y13, rfl, p14⟩ := q10
  subst H8
  clear o11
  rcases p14 with ⟨rfl, c15⟩ | ⟨rfl, c15⟩
  · refine fz_if_eq (tgt := 22) kX9_start rfl (by decide) (fun c16 => ?_) (fun c16 => ?_)
    · exfalso; omega
    · refine fz_iload_n kX9_start rfl rfl ?_
      refine fz_if_lt (tgt := 22) kX9_start rfl (by decide) (fun c17 => ?_) (fun c17 => ?_)
      · refine fz_iconst ⟨by decide, by decide⟩ kX9_start rfl ?_
        exact fz_iret kX9_start rfl rfl (fun _ => ⟨hI3, hf4, _, rfl, (by first | exact fz_act_0 (by omega) | exact lost.trans (fz_act_k lost lost (by omega) (by omega) (by omega)).symm), (by first | exact fz_aT_0 e5 (by decide) (fz_atr_0 (by omega)) | exact fz_aT_in (by rw [lost, fz_up_ne (by decide), lost, fz_up_ne (by decide), e5, fz_up_ne (by decide)]) (by omega) lost lost (by omega) (fz_atr_k lost lost (by omega) (by omega) (by omega)))⟩)
      · refine fz_iload_n kX9_start rfl rfl ?_
        refine fz_iconst ⟨by decide, by decide⟩ kX9_start rfl ?_
        refine fz_icmp_lt (tgt := 24) kX9_start rfl (by decide) (fun c20 => ?_) (fun c20 => ?_)
        · refine fz_aload_n kX9_start rfl rfl ?_
          refine fz_iload_n kX9_start rfl rfl ?_
          refine fz_putI kX9_start rfl rfl rfl ?_
          refine fz_nmu (S := [(44, 3), (44, 4), (44, 5), (46, 99999)]) (h0 := h) (fz_Iv_up hI3 (by decide) (show (0 : Int) ≤ b by omega) (show (b : Int) ≤ 49 by omega)) (fz_fr_up hf4 rfl) (fun H21 hI22 hf23 e24 => ?_)
          have k25 : H21 44 3 = 0 := by rw [e24]; exact (fz_up_s (by decide)).trans k6
          have k26 : H21 44 4 = b := by rw [e24]; exact fz_up_e
          refine fz_aload_n kX9_start rfl rfl ?_
          refine fz_aload_n kX9_start rfl rfl ?_
          refine fz_getR (t := 45) kX9_start rfl rfl ?_
          refine fz_iload_n kX9_start rfl rfl ?_
          refine fz_ialdV (n := 50) (v := h 45 (b.toNat)) kX9_start rfl rfl (by omega) (by omega) (hf23 45 _ rfl) ?_
          have b27 : 0 ≤ h 45 (b.toNat) ∧ h 45 (b.toNat) ≤ 7 := hI.1 45 _
          rcases (show (h 45 (b.toNat)) = 0 ∨ (h 45 (b.toNat)) = 1 ∨ (h 45 (b.toNat)) = 2 ∨ (h 45 (b.toNat)) = 3 ∨ (h 45 (b.toNat)) = 4 ∨ (h 45 (b.toNat)) = 5 ∨ (h 45 (b.toNat)) = 6 ∨ (h 45 (b.toNat)) = 7 by omega) with c28 | c28 | c28 | c28 | c28 | c28 | c28 | c28
          · refine fz_eqi c28 ?_
            refine fz_putI kX9_start rfl rfl rfl ?_
            refine fz_nmu (S := [(44, 3), (44, 4), (44, 5), (46, 99999)]) (h0 := h) (fz_Iv_up hI22 (by decide) (show (0 : Int) ≤ 0 by decide) (show (0 : Int) ≤ 7 by decide)) (fz_fr_up hf23 rfl) (fun H29 hI30 hf31 e32 => ?_)
            have k33 : H29 44 3 = 0 := by rw [e32]; exact (fz_up_s (by decide)).trans k25
            have k34 : H29 44 4 = b := by rw [e32]; exact (fz_up_s (by decide)).trans k26
            have k35 : H29 44 5 = 0 := by rw [e32]; exact fz_up_e
            refine fz_aload_n kX9_start rfl rfl ?_
            refine fz_aload_n kX9_start rfl rfl ?_
            refine fz_getV (v := 0) kX9_start rfl rfl k35 ?_
            refine fz_iload_n kX9_start rfl rfl ?_
            rcases (show ac = 0 ∨ ac = 1 ∨ ac = 2 ∨ ac = 3 by omega) with c36 | c36 | c36 | c36
            · refine fz_eqi c36 ?_
              refine fz_iload_n kX9_start rfl rfl ?_
              refine fz_iconst ⟨by decide, by decide⟩ kX9_start rfl ?_
              have b37 : 0 ≤ H29 44 5 ∧ H29 44 5 ≤ 7 := hI30.1 44 _
              have b38 : (-2147483648) ≤ H29 44 3 ∧ H29 44 3 ≤ 2147483647 := hI30.1 44 _
              have b39 : 0 ≤ H29 44 4 ∧ H29 44 4 ≤ 49 := hI30.1 44 _
              refine fz_callV (d' := 1) (M' := mX9_run) (As := [fz_i 0, fz_i 0, fz_i x, fz_i 0]) (st := []) kX9_start rfl rfl vX9_run rfl rfl rfl rfl (Nat.le_of_ble_eq_true rfl) (Nat.le_of_ble_eq_true rfl) (by decide) (sX9_run_0_0_0 H29 hI30 x 0 b (by omega) (by omega) (by omega) (by omega)) (fun H40 r41 q42 o43 => ?_)
              obtain ⟨hI44, hf45, y50, rfl, f46, f47, f48, f49⟩ := q42
              clear o43
              have hf51 := fz_fr_tr hf31 hf45 (show fz_su [(44, 3), (46, 99999)] [(44, 3), (44, 4), (44, 5), (46, 99999)] = true from rfl)
              have k52 : H40 44 4 = b := (hf45 44 4 rfl).trans k34
              have k53 : H40 44 5 = 0 := (hf45 44 5 rfl).trans k35
              exact fz_iret kX9_start rfl rfl (fun _ => ⟨hI44, hf51, _, rfl, (by first | exact fz_act_0 (by omega) | exact f47.trans (fz_act_k 0 0 (by omega) (by omega) (by omega)).symm), (by first | exact fz_aT_0 e5 (by decide) (fz_atr_0 (by omega)) | exact fz_aT_in (by rw [e32, fz_up_ne (by decide), e24, fz_up_ne (by decide), e5, fz_up_ne (by decide)]) (by omega) f49 f48 (by omega) (fz_atr_k 0 0 (by omega) (by omega) (by omega)))⟩)
            · refine fz_eqi c36 ?_
              refine fz_iload_n kX9_start rfl rfl ?_
              refine fz_iconst ⟨by decide, by decide⟩ kX9_start rfl ?_
              have b56 : 0 ≤ H29 44 5 ∧ H29 44 5 ≤ 7 := hI30.1 44 _
              have b57 : (-2147483648) ≤ H29 44 3 ∧ H29 44 3 ≤ 2147483647 := hI30.1 44 _
              have b58 : 0 ≤ H29 44 4 ∧ H29 44 4 ≤ 49 := hI30.1 44 _
              refine fz_callV (d' := 2) (M' := mX9_run) (As := [fz_i 0, fz_i 1, fz_i x, fz_i 0]) (st := []) kX9_start rfl rfl vX9_run rfl rfl rfl rfl (Nat.le_of_ble_eq_true rfl) (Nat.le_of_ble_eq_true rfl) (by decide) (sX9_run_0_0_1 H29 hI30 x 0 b (by omega) (by omega) (by omega) (by omega)) (fun H59 r60 q61 o62 => ?_)
              obtain ⟨hI63, hf64, y69, rfl, f65, f66, f67, f68⟩ := q61
              clear o62
              have hf70 := fz_fr_tr hf31 hf64 (show fz_su [(44, 3), (46, 99999)] [(44, 3), (44, 4), (44, 5), (46, 99999)] = true from rfl)
              have k71 : H59 44 4 = b := (hf64 44 4 rfl).trans k34
              have k72 : H59 44 5 = 0 := (hf64 44 5 rfl).trans k35
              exact fz_iret kX9_start rfl rfl (fun _ => ⟨hI63, hf70, _, rfl, (by first | exact fz_act_0 (by omega) | exact f66.trans (fz_act_k 0 1 (by omega) (by omega) (by omega)).symm), (by first | exact fz_aT_0 e5 (by decide) (fz_atr_0 (by omega)) | exact fz_aT_in (by rw [e32, fz_up_ne (by decide), e24, fz_up_ne (by decide), e5, fz_up_ne (by decide)]) (by omega) f68 f67 (by omega) (fz_atr_k 0 1 (by omega) (by omega) (by omega)))⟩)
            · refine fz_eqi c36 ?_
              refine fz_iload_n kX9_start rfl rfl ?_
              refine fz_iconst ⟨by decide, by decide⟩ kX9_start rfl ?_
              have b75 : 0 ≤ H29 44 5 ∧ H29 44 5 ≤ 7 := hI30.1 44 _
              have b76 : (-2147483648) ≤ H29 44 3 ∧ H29 44 3 ≤ 2147483647 := hI30.1 44 _
              have b77 : 0 ≤ H29 44 4 ∧ H29 44 4 ≤ 49 := hI30.1 44 _
              refine fz_callV (d' := 1) (M' := mX9_run) (As := [fz_i 0, fz_i 2, fz_i x, fz_i 0]) (st := []) kX9_start rfl rfl vX9_run rfl rfl rfl rfl (Nat.le_of_ble_eq_true rfl) (Nat.le_of_ble_eq_true rfl) (by decide) (sX9_run_0_0_2 H29 hI30 x 0 b (by omega) (by omega) (by omega) (by omega)) (fun H78 r79 q80 o81 => ?_)
              obtain ⟨hI82, hf83, y88, rfl, f84, f85, f86, f87⟩ := q80
              clear o81
              have hf89 := fz_fr_tr hf31 hf83 (show fz_su [(44, 3), (46, 99999)] [(44, 3), (44, 4), (44, 5), (46, 99999)] = true from rfl)
              have k90 : H78 44 4 = b := (hf83 44 4 rfl).trans k34
              have k91 : H78 44 5 = 0 := (hf83 44 5 rfl).trans k35
              exact fz_iret kX9_start rfl rfl (fun _ => ⟨hI82, hf89, _, rfl, (by first | exact fz_act_0 (by omega) | exact f85.trans (fz_act_k 0 2 (by omega) (by omega) (by omega)).symm), (by first | exact fz_aT_0 e5 (by decide) (fz_atr_0 (by omega)) | exact fz_aT_in (by rw [e32, fz_up_ne (by decide), e24, fz_up_ne (by decide), e5, fz_up_ne (by decide)]) (by omega) f87 f86 (by omega) (fz_atr_k 0 2 (by omega) (by omega) (by omega)))⟩)
            · refine fz_eqi c36 ?_
              refine fz_iload_n kX9_start rfl rfl ?_
              refine fz_iconst ⟨by decide, by decide⟩ kX9_start rfl ?_
              have b94 : 0 ≤ H29 44 5 ∧ H29 44 5 ≤ 7 := hI30.1 44 _
              have b95 : (-2147483648) ≤ H29 44 3 ∧ H29 44 3 ≤ 2147483647 := hI30.1 44 _
              have b96 : 0 ≤ H29 44 4 ∧ H29 44 4 ≤ 49 := hI30.1 44 _
              refine fz_callV (d' := 3) (M' := mX9_run) (As := [fz_i 0, fz_i 3, fz_i x, fz_i 0]) (st := []) kX9_start rfl rfl vX9_run rfl rfl rfl rfl (Nat.le_of_ble_eq_true rfl) (Nat.le_of_ble_eq_true rfl) (by decide) (sX9_run_0_0_3 H29 hI30 x 0 b (by omega) (by omega) (by omega) (by omega)) (fun H97 r98 q99 o100 => ?_)
              obtain ⟨hI101, hf102, y107, rfl, f103, f104, f105, f106⟩ := q99
              clear o100
              have hf108 := fz_fr_tr hf31 hf102 (show fz_su [(44, 3), (46, 99999)] [(44, 3), (44, 4), (44, 5), (46, 99999)] = true from rfl)
              have k109 : H97 44 4 = b := (hf102 44 4 rfl).trans k34
              have k110 : H97 44 5 = 0 := (hf102 44 5 rfl).trans k35
              exact fz_iret kX9_start rfl rfl (fun _ => ⟨hI101, hf108, _, rfl, (by first | exact fz_act_0 (by omega) | exact f104.trans (fz_act_k 0 3 (by omega) (by omega) (by omega)).symm), (by first | exact fz_aT_0 e5 (by decide) (fz_atr_0 (by omega)) | exact fz_aT_in (by rw [e32, fz_up_ne (by decide), e24, fz_up_ne (by decide), e5, fz_up_ne (by decide)]) (by omega) f106 f105 (by omega) (fz_atr_k 0 3 (by omega) (by omega) (by omega)))⟩)
          · refine fz_eqi c28 ?_
            refine fz_putI kX9_start rfl rfl rfl ?_
            refine fz_nmu (S := [(44, 3), (44, 4), (44, 5), (46, 99999)]) (h0 := h) (fz_Iv_up hI22 (by decide) (show (0 : Int) ≤ 1 by decide) (show (1 : Int) ≤ 7 by decide)) (fz_fr_up hf23 rfl) (fun H113 hI114 hf115 e116 => ?_)
            have k117 : H113 44 3 = 0 := by rw [e116]; exact (fz_up_s (by decide)).trans k25
            have k118 : H113 44 4 = b := by rw [e116]; exact (fz_up_s (by decide)).trans k26
            have k119 : H113 44 5 = 1 := by rw [e116]; exact fz_up_e
            refine fz_aload_n kX9_start rfl rfl ?_
            refine fz_aload_n kX9_start rfl rfl ?_
            refine fz_getV (v := 1) kX9_start rfl rfl k119 ?_
            refine fz_iload_n kX9_start rfl rfl ?_
            rcases (show ac = 0 ∨ ac = 1 ∨ ac = 2 ∨ ac = 3 by omega) with c120 | c120 | c120 | c120
            · refine fz_eqi c120 ?_
              refine fz_iload_n kX9_start rfl rfl ?_
              refine fz_iconst ⟨by decide, by decide⟩ kX9_start rfl ?_
              have b121 : 0 ≤ H113 44 5 ∧ H113 44 5 ≤ 7 := hI114.1 44 _
              have b122 : (-2147483648) ≤ H113 44 3 ∧ H113 44 3 ≤ 2147483647 := hI114.1 44 _
              have b123 : 0 ≤ H113 44 4 ∧ H113 44 4 ≤ 49 := hI114.1 44 _
              refine fz_callV (d' := 2) (M' := mX9_run) (As := [fz_i 1, fz_i 0, fz_i x, fz_i 0]) (st := []) kX9_start rfl rfl vX9_run rfl rfl rfl rfl (Nat.le_of_ble_eq_true rfl) (Nat.le_of_ble_eq_true rfl) (by decide) (sX9_run_1_1_0 H113 hI114 x 0 b (by omega) (by omega) (by omega) (by omega)) (fun H124 r125 q126 o127 => ?_)
              obtain ⟨hI128, hf129, y134, rfl, f130, f131, f132, f133⟩ := q126
              clear o127
              have hf135 := fz_fr_tr hf115 hf129 (show fz_su [(44, 3), (46, 99999)] [(44, 3), (44, 4), (44, 5), (46, 99999)] = true from rfl)
              have k136 : H124 44 4 = b := (hf129 44 4 rfl).trans k118
              have k137 : H124 44 5 = 1 := (hf129 44 5 rfl).trans k119
              exact fz_iret kX9_start rfl rfl (fun _ => ⟨hI128, hf135, _, rfl, (by first | exact fz_act_0 (by omega) | exact f131.trans (fz_act_k 1 0 (by omega) (by omega) (by omega)).symm), (by first | exact fz_aT_0 e5 (by decide) (fz_atr_0 (by omega)) | exact fz_aT_in (by rw [e116, fz_up_ne (by decide), e24, fz_up_ne (by decide), e5, fz_up_ne (by decide)]) (by omega) f133 f132 (by omega) (fz_atr_k 1 0 (by omega) (by omega) (by omega)))⟩)
            · refine fz_eqi c120 ?_
              refine fz_iload_n kX9_start rfl rfl ?_
              refine fz_iconst ⟨by decide, by decide⟩ kX9_start rfl ?_
              have b140 : 0 ≤ H113 44 5 ∧ H113 44 5 ≤ 7 := hI114.1 44 _
              have b141 : (-2147483648) ≤ H113 44 3 ∧ H113 44 3 ≤ 2147483647 := hI114.1 44 _
              have b142 : 0 ≤ H113 44 4 ∧ H113 44 4 ≤ 49 := hI114.1 44 _
              refine fz_callV (d' := 3) (M' := mX9_run) (As := [fz_i 1, fz_i 1, fz_i x, fz_i 0]) (st := []) kX9_start rfl rfl vX9_run rfl rfl rfl rfl (Nat.le_of_ble_eq_true rfl) (Nat.le_of_ble_eq_true rfl) (by decide) (sX9_run_1_1_1 H113 hI114 x 0 b (by omega) (by omega) (by omega) (by omega)) (fun H143 r144 q145 o146 => ?_)
              obtain ⟨hI147, hf148, y153, rfl, f149, f150, f151, f152⟩ := q145
              clear o146
              have hf154 := fz_fr_tr hf115 hf148 (show fz_su [(44, 3), (46, 99999)] [(44, 3), (44, 4), (44, 5), (46, 99999)] = true from rfl)
              have k155 : H143 44 4 = b := (hf148 44 4 rfl).trans k118
              have k156 : H143 44 5 = 1 := (hf148 44 5 rfl).trans k119
              exact fz_iret kX9_start rfl rfl (fun _ => ⟨hI147, hf154, _, rfl, (by first | exact fz_act_0 (by omega) | exact f150.trans (fz_act_k 1 1 (by omega) (by omega) (by omega)).symm), (by first | exact fz_aT_0 e5 (by decide) (fz_atr_0 (by omega)) | exact fz_aT_in (by rw [e116, fz_up_ne (by decide), e24, fz_up_ne (by decide), e5, fz_up_ne (by decide)]) (by omega) f152 f151 (by omega) (fz_atr_k 1 1 (by omega) (by omega) (by omega)))⟩)
            · refine fz_eqi c120 ?_
              refine fz_iload_n kX9_start rfl rfl ?_
              refine fz_iconst ⟨by decide, by decide⟩ kX9_start rfl ?_
              have b159 : 0 ≤ H113 44 5 ∧ H113 44 5 ≤ 7 := hI114.1 44 _
              have b160 : (-2147483648) ≤ H113 44 3 ∧ H113 44 3 ≤ 2147483647 := hI114.1 44 _
              have b161 : 0 ≤ H113 44 4 ∧ H113 44 4 ≤ 49 := hI114.1 44 _
              refine fz_callV (d' := 1) (M' := mX9_run) (As := [fz_i 1, fz_i 2, fz_i x, fz_i 0]) (st := []) kX9_start rfl rfl vX9_run rfl rfl rfl rfl (Nat.le_of_ble_eq_true rfl) (Nat.le_of_ble_eq_true rfl) (by decide) (sX9_run_1_1_2 H113 hI114 x 0 b (by omega) (by omega) (by omega) (by omega)) (fun H162 r163 q164 o165 => ?_)
              obtain ⟨hI166, hf167, y172, rfl, f168, f169, f170, f171⟩ := q164
              clear o165
              have hf173 := fz_fr_tr hf115 hf167 (show fz_su [(44, 3), (46, 99999)] [(44, 3), (44, 4), (44, 5), (46, 99999)] = true from rfl)
              have k174 : H162 44 4 = b := (hf167 44 4 rfl).trans k118
              have k175 : H162 44 5 = 1 := (hf167 44 5 rfl).trans k119
              exact fz_iret kX9_start rfl rfl (fun _ => ⟨hI166, hf173, _, rfl, (by first | exact fz_act_0 (by omega) | exact f169.trans (fz_act_k 1 2 (by omega) (by omega) (by omega)).symm), (by first | exact fz_aT_0 e5 (by decide) (fz_atr_0 (by omega)) | exact fz_aT_in (by rw [e116, fz_up_ne (by decide), e24, fz_up_ne (by decide), e5, fz_up_ne (by decide)]) (by omega) f171 f170 (by omega) (fz_atr_k 1 2 (by omega) (by omega) (by omega)))⟩)
            · refine fz_eqi c120 ?_
              refine fz_iload_n kX9_start rfl rfl ?_
              refine fz_iconst ⟨by decide, by decide⟩ kX9_start rfl ?_
              have b178 : 0 ≤ H113 44 5 ∧ H113 44 5 ≤ 7 := hI114.1 44 _
              have b179 : (-2147483648) ≤ H113 44 3 ∧ H113 44 3 ≤ 2147483647 := hI114.1 44 _
              have b180 : 0 ≤ H113 44 4 ∧ H113 44 4 ≤ 49 := hI114.1 44 _
              refine fz_callV (d' := 4) (M' := mX9_run) (As := [fz_i 1, fz_i 3, fz_i x, fz_i 0]) (st := []) kX9_start rfl rfl vX9_run rfl rfl rfl rfl (Nat.le_of_ble_eq_true rfl) (Nat.le_of_ble_eq_true rfl) (by decide) (sX9_run_1_1_3 H113 hI114 x 0 b (by omega) (by omega) (by omega) (by omega)) (fun H181 r182 q183 o184 => ?_)
              obtain ⟨hI185, hf186, y191, rfl, f187, f188, f189, f190⟩ := q183
              clear o184
              have hf192 := fz_fr_tr hf115 hf186 (show fz_su [(44, 3), (46, 99999)] [(44, 3), (44, 4), (44, 5), (46, 99999)] = true from rfl)
              have k193 : H181 44 4 = b := (hf186 44 4 rfl).trans k118
              have k194 : H181 44 5 = 1 := (hf186 44 5 rfl).trans k119
              exact fz_iret kX9_start rfl rfl (fun _ => ⟨hI185, hf192, _, rfl, (by first | exact fz_act_0 (by omega) | exact f188.trans (fz_act_k 1 3 (by omega) (by omega) (by omega)).symm), (by first | exact fz_aT_0 e5 (by decide) (fz_atr_0 (by omega)) | exact fz_aT_in (by rw [e116, fz_up_ne (by decide), e24, fz_up_ne (by decide), e5, fz_up_ne (by decide)]) (by omega) f190 f189 (by omega) (fz_atr_k 1 3 (by omega) (by omega) (by omega)))⟩)
          · refine fz_eqi c28 ?_
            refine fz_putI kX9_start rfl rfl rfl ?_
            refine fz_nmu (S := [(44, 3), (44, 4), (44, 5), (46, 99999)]) (h0 := h) (fz_Iv_up hI22 (by decide) (show (0 : Int) ≤ 2 by decide) (show (2 : Int) ≤ 7 by decide)) (fz_fr_up hf23 rfl) (fun H197 hI198 hf199 e200 => ?_)
            have k201 : H197 44 3 = 0 := by rw [e200]; exact (fz_up_s (by decide)).trans k25
            have k202 : H197 44 4 = b := by rw [e200]; exact (fz_up_s (by decide)).trans k26
            have k203 : H197 44 5 = 2 := by rw [e200]; exact fz_up_e
            refine fz_aload_n kX9_start rfl rfl ?_
            refine fz_aload_n kX9_start rfl rfl ?_
            refine fz_getV (v := 2) kX9_start rfl rfl k203 ?_
            refine fz_iload_n kX9_start rfl rfl ?_
            rcases (show ac = 0 ∨ ac = 1 ∨ ac = 2 ∨ ac = 3 by omega) with c204 | c204 | c204 | c204
            · refine fz_eqi c204 ?_
              refine fz_iload_n kX9_start rfl rfl ?_
              refine fz_iconst ⟨by decide, by decide⟩ kX9_start rfl ?_
              have b205 : 0 ≤ H197 44 5 ∧ H197 44 5 ≤ 7 := hI198.1 44 _
              have b206 : (-2147483648) ≤ H197 44 3 ∧ H197 44 3 ≤ 2147483647 := hI198.1 44 _
              have b207 : 0 ≤ H197 44 4 ∧ H197 44 4 ≤ 49 := hI198.1 44 _
              refine fz_callV (d' := 1) (M' := mX9_run) (As := [fz_i 2, fz_i 0, fz_i x, fz_i 0]) (st := []) kX9_start rfl rfl vX9_run rfl rfl rfl rfl (Nat.le_of_ble_eq_true rfl) (Nat.le_of_ble_eq_true rfl) (by decide) (sX9_run_2_2_0 H197 hI198 x 0 b (by omega) (by omega) (by omega) (by omega)) (fun H208 r209 q210 o211 => ?_)
              obtain ⟨hI212, hf213, y218, rfl, f214, f215, f216, f217⟩ := q210
              clear o211
              have hf219 := fz_fr_tr hf199 hf213 (show fz_su [(44, 3), (46, 99999)] [(44, 3), (44, 4), (44, 5), (46, 99999)] = true from rfl)
              have k220 : H208 44 4 = b := (hf213 44 4 rfl).trans k202
              have k221 : H208 44 5 = 2 := (hf213 44 5 rfl).trans k203
              exact fz_iret kX9_start rfl rfl (fun _ => ⟨hI212, hf219, _, rfl, (by first | exact fz_act_0 (by omega) | exact f215.trans (fz_act_k 2 0 (by omega) (by omega) (by omega)).symm), (by first | exact fz_aT_0 e5 (by decide) (fz_atr_0 (by omega)) | exact fz_aT_in (by rw [e200, fz_up_ne (by decide), e24, fz_up_ne (by decide), e5, fz_up_ne (by decide)]) (by omega) f217 f216 (by omega) (fz_atr_k 2 0 (by omega) (by omega) (by omega)))⟩)
            · refine fz_eqi c204 ?_
              refine fz_iload_n kX9_start rfl rfl ?_
              refine fz_iconst ⟨by decide, by decide⟩ kX9_start rfl ?_
              have b224 : 0 ≤ H197 44 5 ∧ H197 44 5 ≤ 7 := hI198.1 44 _
              have b225 : (-2147483648) ≤ H197 44 3 ∧ H197 44 3 ≤ 2147483647 := hI198.1 44 _
              have b226 : 0 ≤ H197 44 4 ∧ H197 44 4 ≤ 49 := hI198.1 44 _
              refine fz_callV (d' := 3) (M' := mX9_run) (As := [fz_i 2, fz_i 1, fz_i x, fz_i 0]) (st := []) kX9_start rfl rfl vX9_run rfl rfl rfl rfl (Nat.le_of_ble_eq_true rfl) (Nat.le_of_ble_eq_true rfl) (by decide) (sX9_run_2_2_1 H197 hI198 x 0 b (by omega) (by omega) (by omega) (by omega)) (fun H227 r228 q229 o230 => ?_)
              obtain ⟨hI231, hf232, y237, rfl, f233, f234, f235, f236⟩ := q229
              clear o230
              have hf238 := fz_fr_tr hf199 hf232 (show fz_su [(44, 3), (46, 99999)] [(44, 3), (44, 4), (44, 5), (46, 99999)] = true from rfl)
              have k239 : H227 44 4 = b := (hf232 44 4 rfl).trans k202
              have k240 : H227 44 5 = 2 := (hf232 44 5 rfl).trans k203
              exact fz_iret kX9_start rfl rfl (fun _ => ⟨hI231, hf238, _, rfl, (by first | exact fz_act_0 (by omega) | exact f234.trans (fz_act_k 2 1 (by omega) (by omega) (by omega)).symm), (by first | exact fz_aT_0 e5 (by decide) (fz_atr_0 (by omega)) | exact fz_aT_in (by rw [e200, fz_up_ne (by decide), e24, fz_up_ne (by decide), e5, fz_up_ne (by decide)]) (by omega) f236 f235 (by omega) (fz_atr_k 2 1 (by omega) (by omega) (by omega)))⟩)
            · refine fz_eqi c204 ?_
              refine fz_iload_n kX9_start rfl rfl ?_
              refine fz_iconst ⟨by decide, by decide⟩ kX9_start rfl ?_
              have b243 : 0 ≤ H197 44 5 ∧ H197 44 5 ≤ 7 := hI198.1 44 _
              have b244 : (-2147483648) ≤ H197 44 3 ∧ H197 44 3 ≤ 2147483647 := hI198.1 44 _
              have b245 : 0 ≤ H197 44 4 ∧ H197 44 4 ≤ 49 := hI198.1 44 _
              refine fz_callV (d' := 1) (M' := mX9_run) (As := [fz_i 2, fz_i 2, fz_i x, fz_i 0]) (st := []) kX9_start rfl rfl vX9_run rfl rfl rfl rfl (Nat.le_of_ble_eq_true rfl) (Nat.le_of_ble_eq_true rfl) (by decide) (sX9_run_2_2_2 H197 hI198 x 0 b (by omega) (by omega) (by omega) (by omega)) (fun H246 r247 q248 o249 => ?_)
              obtain ⟨hI250, hf251, y256, rfl, f252, f253, f254, f255⟩ := q248
              clear o249
              have hf257 := fz_fr_tr hf199 hf251 (show fz_su [(44, 3), (46, 99999)] [(44, 3), (44, 4), (44, 5), (46, 99999)] = true from rfl)
              have k258 : H246 44 4 = b := (hf251 44 4 rfl).trans k202
              have k259 : H246 44 5 = 2 := (hf251 44 5 rfl).trans k203
              exact fz_iret kX9_start rfl rfl (fun _ => ⟨hI250, hf257, _, rfl, (by first | exact fz_act_0 (by omega) | exact f253.trans (fz_act_k 2 2 (by omega) (by omega) (by omega)).symm), (by first | exact fz_aT_0 e5 (by decide) (fz_atr_0 (by omega)) | exact fz_aT_in (by rw [e200, fz_up_ne (by decide), e24, fz_up_ne (by decide), e5, fz_up_ne (by decide)]) (by omega) f255 f254 (by omega) (fz_atr_k 2 2 (by omega) (by omega) (by omega)))⟩)
            · refine fz_eqi c204 ?_
              refine fz_iload_n kX9_start rfl rfl ?_
              refine fz_iconst ⟨by decide, by decide⟩ kX9_start rfl ?_
              have b262 : 0 ≤ H197 44 5 ∧ H197 44 5 ≤ 7 := hI198.1 44 _
              have b263 : (-2147483648) ≤ H197 44 3 ∧ H197 44 3 ≤ 2147483647 := hI198.1 44 _
              have b264 : 0 ≤ H197 44 4 ∧ H197 44 4 ≤ 49 := hI198.1 44 _
              refine fz_callV (d' := 4) (M' := mX9_run) (As := [fz_i 2, fz_i 3, fz_i x, fz_i 0]) (st := []) kX9_start rfl rfl vX9_run rfl rfl rfl rfl (Nat.le_of_ble_eq_true rfl) (Nat.le_of_ble_eq_true rfl) (by decide) (sX9_run_2_2_3 H197 hI198 x 0 b (by omega) (by omega) (by omega) (by omega)) (fun H265 r266 q267 o268 => ?_)
              obtain ⟨hI269, hf270, y275, rfl, f271, f272, f273, f274⟩ := q267
              clear o268
              have hf276 := fz_fr_tr hf199 hf270 (show fz_su [(44, 3), (46, 99999)] [(44, 3), (44, 4), (44, 5), (46, 99999)] = true from rfl)
              have k277 : H265 44 4 = b := (hf270 44 4 rfl).trans k202
              have k278 : H265 44 5 = 2 := (hf270 44 5 rfl).trans k203
              exact fz_iret kX9_start rfl rfl (fun _ => ⟨hI269, hf276, _, rfl, (by first | exact fz_act_0 (by omega) | exact f272.trans (fz_act_k 2 3 (by omega) (by omega) (by omega)).symm), (by first | exact fz_aT_0 e5 (by decide) (fz_atr_0 (by omega)) | exact fz_aT_in (by rw [e200, fz_up_ne (by decide), e24, fz_up_ne (by decide), e5, fz_up_ne (by decide)]) (by omega) f274 f273 (by omega) (fz_atr_k 2 3 (by omega) (by omega) (by omega)))⟩)
          · refine fz_eqi c28 ?_
            refine fz_putI kX9_start rfl rfl rfl ?_
            refine fz_nmu (S := [(44, 3), (44, 4), (44, 5), (46, 99999)]) (h0 := h) (fz_Iv_up hI22 (by decide) (show (0 : Int) ≤ 3 by decide) (show (3 : Int) ≤ 7 by decide)) (fz_fr_up hf23 rfl) (fun H281 hI282 hf283 e284 => ?_)
            have k285 : H281 44 3 = 0 := by rw [e284]; exact (fz_up_s (by decide)).trans k25
            have k286 : H281 44 4 = b := by rw [e284]; exact (fz_up_s (by decide)).trans k26
            have k287 : H281 44 5 = 3 := by rw [e284]; exact fz_up_e
            refine fz_aload_n kX9_start rfl rfl ?_
            refine fz_aload_n kX9_start rfl rfl ?_
            refine fz_getV (v := 3) kX9_start rfl rfl k287 ?_
            refine fz_iload_n kX9_start rfl rfl ?_
            rcases (show ac = 0 ∨ ac = 1 ∨ ac = 2 ∨ ac = 3 by omega) with c288 | c288 | c288 | c288
            · refine fz_eqi c288 ?_
              refine fz_iload_n kX9_start rfl rfl ?_
              refine fz_iconst ⟨by decide, by decide⟩ kX9_start rfl ?_
              have b289 : 0 ≤ H281 44 5 ∧ H281 44 5 ≤ 7 := hI282.1 44 _
              have b290 : (-2147483648) ≤ H281 44 3 ∧ H281 44 3 ≤ 2147483647 := hI282.1 44 _
              have b291 : 0 ≤ H281 44 4 ∧ H281 44 4 ≤ 49 := hI282.1 44 _
              refine fz_callV (d' := 1) (M' := mX9_run) (As := [fz_i 3, fz_i 0, fz_i x, fz_i 0]) (st := []) kX9_start rfl rfl vX9_run rfl rfl rfl rfl (Nat.le_of_ble_eq_true rfl) (Nat.le_of_ble_eq_true rfl) (by decide) (sX9_run_3_3_0 H281 hI282 x 0 b (by omega) (by omega) (by omega) (by omega)) (fun H292 r293 q294 o295 => ?_)
              obtain ⟨hI296, hf297, y302, rfl, f298, f299, f300, f301⟩ := q294
              clear o295
              have hf303 := fz_fr_tr hf283 hf297 (show fz_su [(44, 3), (46, 99999)] [(44, 3), (44, 4), (44, 5), (46, 99999)] = true from rfl)
              have k304 : H292 44 4 = b := (hf297 44 4 rfl).trans k286
              have k305 : H292 44 5 = 3 := (hf297 44 5 rfl).trans k287
              exact fz_iret kX9_start rfl rfl (fun _ => ⟨hI296, hf303, _, rfl, (by first | exact fz_act_0 (by omega) | exact f299.trans (fz_act_k 3 0 (by omega) (by omega) (by omega)).symm), (by first | exact fz_aT_0 e5 (by decide) (fz_atr_0 (by omega)) | exact fz_aT_in (by rw [e284, fz_up_ne (by decide), e24, fz_up_ne (by decide), e5, fz_up_ne (by decide)]) (by omega) f301 f300 (by omega) (fz_atr_k 3 0 (by omega) (by omega) (by omega)))⟩)
            · refine fz_eqi c288 ?_
              refine fz_iload_n kX9_start rfl rfl ?_
              refine fz_iconst ⟨by decide, by decide⟩ kX9_start rfl ?_
              have b308 : 0 ≤ H281 44 5 ∧ H281 44 5 ≤ 7 := hI282.1 44 _
              have b309 : (-2147483648) ≤ H281 44 3 ∧ H281 44 3 ≤ 2147483647 := hI282.1 44 _
              have b310 : 0 ≤ H281 44 4 ∧ H281 44 4 ≤ 49 := hI282.1 44 _
              refine fz_callV (d' := 4) (M' := mX9_run) (As := [fz_i 3, fz_i 1, fz_i x, fz_i 0]) (st := []) kX9_start rfl rfl vX9_run rfl rfl rfl rfl (Nat.le_of_ble_eq_true rfl) (Nat.le_of_ble_eq_true rfl) (by decide) (sX9_run_3_3_1 H281 hI282 x 0 b (by omega) (by omega) (by omega) (by omega)) (fun H311 r312 q313 o314 => ?_)
              obtain ⟨hI315, hf316, y321, rfl, f317, f318, f319, f320⟩ := q313
              clear o314
              have hf322 := fz_fr_tr hf283 hf316 (show fz_su [(44, 3), (46, 99999)] [(44, 3), (44, 4), (44, 5), (46, 99999)] = true from rfl)
              have k323 : H311 44 4 = b := (hf316 44 4 rfl).trans k286
              have k324 : H311 44 5 = 3 := (hf316 44 5 rfl).trans k287
              exact fz_iret kX9_start rfl rfl (fun _ => ⟨hI315, hf322, _, rfl, (by first | exact fz_act_0 (by omega) | exact f318.trans (fz_act_k 3 1 (by omega) (by omega) (by omega)).symm), (by first | exact fz_aT_0 e5 (by decide) (fz_atr_0 (by omega)) | exact fz_aT_in (by rw [e284, fz_up_ne (by decide), e24, fz_up_ne (by decide), e5, fz_up_ne (by decide)]) (by omega) f320 f319 (by omega) (fz_atr_k 3 1 (by omega) (by omega) (by omega)))⟩)
            · refine fz_eqi c288 ?_
              refine fz_iload_n kX9_start rfl rfl ?_
              refine fz_iconst ⟨by decide, by decide⟩ kX9_start rfl ?_
              have b327 : 0 ≤ H281 44 5 ∧ H281 44 5 ≤ 7 := hI282.1 44 _
              have b328 : (-2147483648) ≤ H281 44 3 ∧ H281 44 3 ≤ 2147483647 := hI282.1 44 _
              have b329 : 0 ≤ H281 44 4 ∧ H281 44 4 ≤ 49 := hI282.1 44 _
              refine fz_callV (d' := 2) (M' := mX9_run) (As := [fz_i 3, fz_i 2, fz_i x, fz_i 0]) (st := []) kX9_start rfl rfl vX9_run rfl rfl rfl rfl (Nat.le_of_ble_eq_true rfl) (Nat.le_of_ble_eq_true rfl) (by decide) (sX9_run_3_3_2 H281 hI282 x 0 b (by omega) (by omega) (by omega) (by omega)) (fun H330 r331 q332 o333 => ?_)
              obtain ⟨hI334, hf335, y340, rfl, f336, f337, f338, f339⟩ := q332
              clear o333
              have hf341 := fz_fr_tr hf283 hf335 (show fz_su [(44, 3), (46, 99999)] [(44, 3), (44, 4), (44, 5), (46, 99999)] = true from rfl)
              have k342 : H330 44 4 = b := (hf335 44 4 rfl).trans k286
              have k343 : H330 44 5 = 3 := (hf335 44 5 rfl).trans k287
              exact fz_iret kX9_start rfl rfl (fun _ => ⟨hI334, hf341, _, rfl, (by first | exact fz_act_0 (by omega) | exact f337.trans (fz_act_k 3 2 (by omega) (by omega) (by omega)).symm), (by first | exact fz_aT_0 e5 (by decide) (fz_atr_0 (by omega)) | exact fz_aT_in (by rw [e284, fz_up_ne (by decide), e24, fz_up_ne (by decide), e5, fz_up_ne (by decide)]) (by omega) f339 f338 (by omega) (fz_atr_k 3 2 (by omega) (by omega) (by omega)))⟩)
            · refine fz_eqi c288 ?_
              refine fz_iload_n kX9_start rfl rfl ?_
              refine fz_iconst ⟨by decide, by decide⟩ kX9_start rfl ?_
              have b346 : 0 ≤ H281 44 5 ∧ H281 44 5 ≤ 7 := hI282.1 44 _
              have b347 : (-2147483648) ≤ H281 44 3 ∧ H281 44 3 ≤ 2147483647 := hI282.1 44 _
              have b348 : 0 ≤ H281 44 4 ∧ H281 44 4 ≤ 49 := hI282.1 44 _
              refine fz_callV (d' := 5) (M' := mX9_run) (As := [fz_i 3, fz_i 3, fz_i x, fz_i 0]) (st := []) kX9_start rfl rfl vX9_run rfl rfl rfl rfl (Nat.le_of_ble_eq_true rfl) (Nat.le_of_ble_eq_true rfl) (by decide) (sX9_run_3_3_3 H281 hI282 x 0 b (by omega) (by omega) (by omega) (by omega)) (fun H349 r350 q351 o352 => ?_)
              obtain ⟨hI353, hf354, y359, rfl, f355, f356, f357, f358⟩ := q351
              clear o352
              have hf360 := fz_fr_tr hf283 hf354 (show fz_su [(44, 3), (46, 99999)] [(44, 3), (44, 4), (44, 5), (46, 99999)] = true from rfl)
              have k361 : H349 44 4 = b := (hf354 44 4 rfl).trans k286
              have k362 : H349 44 5 = 3 := (hf354 44 5 rfl).trans k287
              exact fz_iret kX9_start rfl rfl (fun _ => ⟨hI353, hf360, _, rfl, (by first | exact fz_act_0 (by omega) | exact f356.trans (fz_act_k 3 3 (by omega) (by omega) (by omega)).symm), (by first | exact fz_aT_0 e5 (by decide) (fz_atr_0 (by omega)) | exact fz_aT_in (by rw [e284, fz_up_ne (by decide), e24, fz_up_ne (by decide), e5, fz_up_ne (by decide)]) (by omega) f358 f357 (by omega) (fz_atr_k 3 3 (by omega) (by omega) (by omega)))⟩)
          · refine fz_eqi c28 ?_
            refine fz_putI kX9_start rfl rfl rfl ?_
            refine fz_nmu (S := [(44, 3), (44, 4), (44, 5), (46, 99999)]) (h0 := h) (fz_Iv_up hI22 (by decide) (show (0 : Int) ≤ 4 by decide) (show (4 : Int) ≤ 7 by decide)) (fz_fr_up hf23 rfl) (fun H365 hI366 hf367 e368 => ?_)
            have k369 : H365 44 3 = 0 := by rw [e368]; exact (fz_up_s (by decide)).trans k25
            have k370 : H365 44 4 = b := by rw [e368]; exact (fz_up_s (by decide)).trans k26
            have k371 : H365 44 5 = 4 := by rw [e368]; exact fz_up_e
            refine fz_aload_n kX9_start rfl rfl ?_
            refine fz_aload_n kX9_start rfl rfl ?_
            refine fz_getV (v := 4) kX9_start rfl rfl k371 ?_
            refine fz_iload_n kX9_start rfl rfl ?_
            rcases (show ac = 0 ∨ ac = 1 ∨ ac = 2 ∨ ac = 3 by omega) with c372 | c372 | c372 | c372
            · refine fz_eqi c372 ?_
              refine fz_iload_n kX9_start rfl rfl ?_
              refine fz_iconst ⟨by decide, by decide⟩ kX9_start rfl ?_
              have b373 : 0 ≤ H365 44 5 ∧ H365 44 5 ≤ 7 := hI366.1 44 _
              have b374 : (-2147483648) ≤ H365 44 3 ∧ H365 44 3 ≤ 2147483647 := hI366.1 44 _
              have b375 : 0 ≤ H365 44 4 ∧ H365 44 4 ≤ 49 := hI366.1 44 _
              refine fz_callV (d' := 2) (M' := mX9_run) (As := [fz_i 4, fz_i 0, fz_i x, fz_i 0]) (st := []) kX9_start rfl rfl vX9_run rfl rfl rfl rfl (Nat.le_of_ble_eq_true rfl) (Nat.le_of_ble_eq_true rfl) (by decide) (sX9_run_4_4_0 H365 hI366 x 0 b (by omega) (by omega) (by omega) (by omega)) (fun H376 r377 q378 o379 => ?_)
              obtain ⟨hI380, hf381, y386, rfl, f382, f383, f384, f385⟩ := q378
              clear o379
              have hf387 := fz_fr_tr hf367 hf381 (show fz_su [(44, 3), (46, 99999)] [(44, 3), (44, 4), (44, 5), (46, 99999)] = true from rfl)
              have k388 : H376 44 4 = b := (hf381 44 4 rfl).trans k370
              have k389 : H376 44 5 = 4 := (hf381 44 5 rfl).trans k371
              exact fz_iret kX9_start rfl rfl (fun _ => ⟨hI380, hf387, _, rfl, (by first | exact fz_act_0 (by omega) | exact f383.trans (fz_act_k 4 0 (by omega) (by omega) (by omega)).symm), (by first | exact fz_aT_0 e5 (by decide) (fz_atr_0 (by omega)) | exact fz_aT_in (by rw [e368, fz_up_ne (by decide), e24, fz_up_ne (by decide), e5, fz_up_ne (by decide)]) (by omega) f385 f384 (by omega) (fz_atr_k 4 0 (by omega) (by omega) (by omega)))⟩)
            · refine fz_eqi c372 ?_
              refine fz_iload_n kX9_start rfl rfl ?_
              refine fz_iconst ⟨by decide, by decide⟩ kX9_start rfl ?_
              have b392 : 0 ≤ H365 44 5 ∧ H365 44 5 ≤ 7 := hI366.1 44 _
              have b393 : (-2147483648) ≤ H365 44 3 ∧ H365 44 3 ≤ 2147483647 := hI366.1 44 _
              have b394 : 0 ≤ H365 44 4 ∧ H365 44 4 ≤ 49 := hI366.1 44 _
              refine fz_callV (d' := 3) (M' := mX9_run) (As := [fz_i 4, fz_i 1, fz_i x, fz_i 0]) (st := []) kX9_start rfl rfl vX9_run rfl rfl rfl rfl (Nat.le_of_ble_eq_true rfl) (Nat.le_of_ble_eq_true rfl) (by decide) (sX9_run_4_4_1 H365 hI366 x 0 b (by omega) (by omega) (by omega) (by omega)) (fun H395 r396 q397 o398 => ?_)
              obtain ⟨hI399, hf400, y405, rfl, f401, f402, f403, f404⟩ := q397
              clear o398
              have hf406 := fz_fr_tr hf367 hf400 (show fz_su [(44, 3), (46, 99999)] [(44, 3), (44, 4), (44, 5), (46, 99999)] = true from rfl)
              have k407 : H395 44 4 = b := (hf400 44 4 rfl).trans k370
              have k408 : H395 44 5 = 4 := (hf400 44 5 rfl).trans k371
              exact fz_iret kX9_start rfl rfl (fun _ => ⟨hI399, hf406, _, rfl, (by first | exact fz_act_0 (by omega) | exact f402.trans (fz_act_k 4 1 (by omega) (by omega) (by omega)).symm), (by first | exact fz_aT_0 e5 (by decide) (fz_atr_0 (by omega)) | exact fz_aT_in (by rw [e368, fz_up_ne (by decide), e24, fz_up_ne (by decide), e5, fz_up_ne (by decide)]) (by omega) f404 f403 (by omega) (fz_atr_k 4 1 (by omega) (by omega) (by omega)))⟩)
            · refine fz_eqi c372 ?_
              refine fz_iload_n kX9_start rfl rfl ?_
              refine fz_iconst ⟨by decide, by decide⟩ kX9_start rfl ?_
              have b411 : 0 ≤ H365 44 5 ∧ H365 44 5 ≤ 7 := hI366.1 44 _
              have b412 : (-2147483648) ≤ H365 44 3 ∧ H365 44 3 ≤ 2147483647 := hI366.1 44 _
              have b413 : 0 ≤ H365 44 4 ∧ H365 44 4 ≤ 49 := hI366.1 44 _
              refine fz_callV (d' := 3) (M' := mX9_run) (As := [fz_i 4, fz_i 2, fz_i x, fz_i 0]) (st := []) kX9_start rfl rfl vX9_run rfl rfl rfl rfl (Nat.le_of_ble_eq_true rfl) (Nat.le_of_ble_eq_true rfl) (by decide) (sX9_run_4_4_2 H365 hI366 x 0 b (by omega) (by omega) (by omega) (by omega)) (fun H414 r415 q416 o417 => ?_)
              obtain ⟨hI418, hf419, y424, rfl, f420, f421, f422, f423⟩ := q416
              clear o417
              have hf425 := fz_fr_tr hf367 hf419 (show fz_su [(44, 3), (46, 99999)] [(44, 3), (44, 4), (44, 5), (46, 99999)] = true from rfl)
              have k426 : H414 44 4 = b := (hf419 44 4 rfl).trans k370
              have k427 : H414 44 5 = 4 := (hf419 44 5 rfl).trans k371
              exact fz_iret kX9_start rfl rfl (fun _ => ⟨hI418, hf425, _, rfl, (by first | exact fz_act_0 (by omega) | exact f421.trans (fz_act_k 4 2 (by omega) (by omega) (by omega)).symm), (by first | exact fz_aT_0 e5 (by decide) (fz_atr_0 (by omega)) | exact fz_aT_in (by rw [e368, fz_up_ne (by decide), e24, fz_up_ne (by decide), e5, fz_up_ne (by decide)]) (by omega) f423 f422 (by omega) (fz_atr_k 4 2 (by omega) (by omega) (by omega)))⟩)
            · refine fz_eqi c372 ?_
              refine fz_iload_n kX9_start rfl rfl ?_
              refine fz_iconst ⟨by decide, by decide⟩ kX9_start rfl ?_
              have b430 : 0 ≤ H365 44 5 ∧ H365 44 5 ≤ 7 := hI366.1 44 _
              have b431 : (-2147483648) ≤ H365 44 3 ∧ H365 44 3 ≤ 2147483647 := hI366.1 44 _
              have b432 : 0 ≤ H365 44 4 ∧ H365 44 4 ≤ 49 := hI366.1 44 _
              refine fz_callV (d' := 4) (M' := mX9_run) (As := [fz_i 4, fz_i 3, fz_i x, fz_i 0]) (st := []) kX9_start rfl rfl vX9_run rfl rfl rfl rfl (Nat.le_of_ble_eq_true rfl) (Nat.le_of_ble_eq_true rfl) (by decide) (sX9_run_4_4_3 H365 hI366 x 0 b (by omega) (by omega) (by omega) (by omega)) (fun H433 r434 q435 o436 => ?_)
              obtain ⟨hI437, hf438, y443, rfl, f439, f440, f441, f442⟩ := q435
              clear o436
              have hf444 := fz_fr_tr hf367 hf438 (show fz_su [(44, 3), (46, 99999)] [(44, 3), (44, 4), (44, 5), (46, 99999)] = true from rfl)
              have k445 : H433 44 4 = b := (hf438 44 4 rfl).trans k370
              have k446 : H433 44 5 = 4 := (hf438 44 5 rfl).trans k371
              exact fz_iret kX9_start rfl rfl (fun _ => ⟨hI437, hf444, _, rfl, (by first | exact fz_act_0 (by omega) | exact f440.trans (fz_act_k 4 3 (by omega) (by omega) (by omega)).symm), (by first | exact fz_aT_0 e5 (by decide) (fz_atr_0 (by omega)) | exact fz_aT_in (by rw [e368, fz_up_ne (by decide), e24, fz_up_ne (by decide), e5, fz_up_ne (by decide)]) (by omega) f442 f441 (by omega) (fz_atr_k 4 3 (by omega) (by omega) (by omega)))⟩)
          · refine fz_eqi c28 ?_
            refine fz_putI kX9_start rfl rfl rfl ?_
            refine fz_nmu (S := [(44, 3), (44, 4), (44, 5), (46, 99999)]) (h0 := h) (fz_Iv_up hI22 (by decide) (show (0 : Int) ≤ 5 by decide) (show (5 : Int) ≤ 7 by decide)) (fz_fr_up hf23 rfl) (fun H449 hI450 hf451 e452 => ?_)
            have k453 : H449 44 3 = 0 := by rw [e452]; exact (fz_up_s (by decide)).trans k25
            have k454 : H449 44 4 = b := by rw [e452]; exact (fz_up_s (by decide)).trans k26
            have k455 : H449 44 5 = 5 := by rw [e452]; exact fz_up_e
            refine fz_aload_n kX9_start rfl rfl ?_
            refine fz_aload_n kX9_start rfl rfl ?_
            refine fz_getV (v := 5) kX9_start rfl rfl k455 ?_
            refine fz_iload_n kX9_start rfl rfl ?_
            rcases (show ac = 0 ∨ ac = 1 ∨ ac = 2 ∨ ac = 3 by omega) with c456 | c456 | c456 | c456
            · refine fz_eqi c456 ?_
              refine fz_iload_n kX9_start rfl rfl ?_
              refine fz_iconst ⟨by decide, by decide⟩ kX9_start rfl ?_
              have b457 : 0 ≤ H449 44 5 ∧ H449 44 5 ≤ 7 := hI450.1 44 _
              have b458 : (-2147483648) ≤ H449 44 3 ∧ H449 44 3 ≤ 2147483647 := hI450.1 44 _
              have b459 : 0 ≤ H449 44 4 ∧ H449 44 4 ≤ 49 := hI450.1 44 _
              refine fz_callV (d' := 1) (M' := mX9_run) (As := [fz_i 5, fz_i 0, fz_i x, fz_i 0]) (st := []) kX9_start rfl rfl vX9_run rfl rfl rfl rfl (Nat.le_of_ble_eq_true rfl) (Nat.le_of_ble_eq_true rfl) (by decide) (sX9_run_5_5_0 H449 hI450 x 0 b (by omega) (by omega) (by omega) (by omega)) (fun H460 r461 q462 o463 => ?_)
              obtain ⟨hI464, hf465, y470, rfl, f466, f467, f468, f469⟩ := q462
              clear o463
              have hf471 := fz_fr_tr hf451 hf465 (show fz_su [(44, 3), (46, 99999)] [(44, 3), (44, 4), (44, 5), (46, 99999)] = true from rfl)
              have k472 : H460 44 4 = b := (hf465 44 4 rfl).trans k454
              have k473 : H460 44 5 = 5 := (hf465 44 5 rfl).trans k455
              exact fz_iret kX9_start rfl rfl (fun _ => ⟨hI464, hf471, _, rfl, (by first | exact fz_act_0 (by omega) | exact f467.trans (fz_act_k 5 0 (by omega) (by omega) (by omega)).symm), (by first | exact fz_aT_0 e5 (by decide) (fz_atr_0 (by omega)) | exact fz_aT_in (by rw [e452, fz_up_ne (by decide), e24, fz_up_ne (by decide), e5, fz_up_ne (by decide)]) (by omega) f469 f468 (by omega) (fz_atr_k 5 0 (by omega) (by omega) (by omega)))⟩)
            · refine fz_eqi c456 ?_
              refine fz_iload_n kX9_start rfl rfl ?_
              refine fz_iconst ⟨by decide, by decide⟩ kX9_start rfl ?_
              have b476 : 0 ≤ H449 44 5 ∧ H449 44 5 ≤ 7 := hI450.1 44 _
              have b477 : (-2147483648) ≤ H449 44 3 ∧ H449 44 3 ≤ 2147483647 := hI450.1 44 _
              have b478 : 0 ≤ H449 44 4 ∧ H449 44 4 ≤ 49 := hI450.1 44 _
              refine fz_callV (d' := 4) (M' := mX9_run) (As := [fz_i 5, fz_i 1, fz_i x, fz_i 0]) (st := []) kX9_start rfl rfl vX9_run rfl rfl rfl rfl (Nat.le_of_ble_eq_true rfl) (Nat.le_of_ble_eq_true rfl) (by decide) (sX9_run_5_5_1 H449 hI450 x 0 b (by omega) (by omega) (by omega) (by omega)) (fun H479 r480 q481 o482 => ?_)
              obtain ⟨hI483, hf484, y489, rfl, f485, f486, f487, f488⟩ := q481
              clear o482
              have hf490 := fz_fr_tr hf451 hf484 (show fz_su [(44, 3), (46, 99999)] [(44, 3), (44, 4), (44, 5), (46, 99999)] = true from rfl)
              have k491 : H479 44 4 = b := (hf484 44 4 rfl).trans k454
              have k492 : H479 44 5 = 5 := (hf484 44 5 rfl).trans k455
              exact fz_iret kX9_start rfl rfl (fun _ => ⟨hI483, hf490, _, rfl, (by first | exact fz_act_0 (by omega) | exact f486.trans (fz_act_k 5 1 (by omega) (by omega) (by omega)).symm), (by first | exact fz_aT_0 e5 (by decide) (fz_atr_0 (by omega)) | exact fz_aT_in (by rw [e452, fz_up_ne (by decide), e24, fz_up_ne (by decide), e5, fz_up_ne (by decide)]) (by omega) f488 f487 (by omega) (fz_atr_k 5 1 (by omega) (by omega) (by omega)))⟩)
            · refine fz_eqi c456 ?_
              refine fz_iload_n kX9_start rfl rfl ?_
              refine fz_iconst ⟨by decide, by decide⟩ kX9_start rfl ?_
              have b495 : 0 ≤ H449 44 5 ∧ H449 44 5 ≤ 7 := hI450.1 44 _
              have b496 : (-2147483648) ≤ H449 44 3 ∧ H449 44 3 ≤ 2147483647 := hI450.1 44 _
              have b497 : 0 ≤ H449 44 4 ∧ H449 44 4 ≤ 49 := hI450.1 44 _
              refine fz_callV (d' := 2) (M' := mX9_run) (As := [fz_i 5, fz_i 2, fz_i x, fz_i 0]) (st := []) kX9_start rfl rfl vX9_run rfl rfl rfl rfl (Nat.le_of_ble_eq_true rfl) (Nat.le_of_ble_eq_true rfl) (by decide) (sX9_run_5_5_2 H449 hI450 x 0 b (by omega) (by omega) (by omega) (by omega)) (fun H498 r499 q500 o501 => ?_)
              obtain ⟨hI502, hf503, y508, rfl, f504, f505, f506, f507⟩ := q500
              clear o501
              have hf509 := fz_fr_tr hf451 hf503 (show fz_su [(44, 3), (46, 99999)] [(44, 3), (44, 4), (44, 5), (46, 99999)] = true from rfl)
              have k510 : H498 44 4 = b := (hf503 44 4 rfl).trans k454
              have k511 : H498 44 5 = 5 := (hf503 44 5 rfl).trans k455
              exact fz_iret kX9_start rfl rfl (fun _ => ⟨hI502, hf509, _, rfl, (by first | exact fz_act_0 (by omega) | exact f505.trans (fz_act_k 5 2 (by omega) (by omega) (by omega)).symm), (by first | exact fz_aT_0 e5 (by decide) (fz_atr_0 (by omega)) | exact fz_aT_in (by rw [e452, fz_up_ne (by decide), e24, fz_up_ne (by decide), e5, fz_up_ne (by decide)]) (by omega) f507 f506 (by omega) (fz_atr_k 5 2 (by omega) (by omega) (by omega)))⟩)
            · refine fz_eqi c456 ?_
              refine fz_iload_n kX9_start rfl rfl ?_
              refine fz_iconst ⟨by decide, by decide⟩ kX9_start rfl ?_
              have b514 : 0 ≤ H449 44 5 ∧ H449 44 5 ≤ 7 := hI450.1 44 _
              have b515 : (-2147483648) ≤ H449 44 3 ∧ H449 44 3 ≤ 2147483647 := hI450.1 44 _
              have b516 : 0 ≤ H449 44 4 ∧ H449 44 4 ≤ 49 := hI450.1 44 _
              refine fz_callV (d' := 6) (M' := mX9_run) (As := [fz_i 5, fz_i 3, fz_i x, fz_i 0]) (st := []) kX9_start rfl rfl vX9_run rfl rfl rfl rfl (Nat.le_of_ble_eq_true rfl) (Nat.le_of_ble_eq_true rfl) (by decide) (sX9_run_5_5_3 H449 hI450 x 0 b (by omega) (by omega) (by omega) (by omega)) (fun H517 r518 q519 o520 => ?_)
              obtain ⟨hI521, hf522, y527, rfl, f523, f524, f525, f526⟩ := q519
              clear o520
              have hf528 := fz_fr_tr hf451 hf522 (show fz_su [(44, 3), (46, 99999)] [(44, 3), (44, 4), (44, 5), (46, 99999)] = true from rfl)
              have k529 : H517 44 4 = b := (hf522 44 4 rfl).trans k454
              have k530 : H517 44 5 = 5 := (hf522 44 5 rfl).trans k455
              exact fz_iret kX9_start rfl rfl (fun _ => ⟨hI521, hf528, _, rfl, (by first | exact fz_act_0 (by omega) | exact f524.trans (fz_act_k 5 3 (by omega) (by omega) (by omega)).symm), (by first | exact fz_aT_0 e5 (by decide) (fz_atr_0 (by omega)) | exact fz_aT_in (by rw [e452, fz_up_ne (by decide), e24, fz_up_ne (by decide), e5, fz_up_ne (by decide)]) (by omega) f526 f525 (by omega) (fz_atr_k 5 3 (by omega) (by omega) (by omega)))⟩)
          · refine fz_eqi c28 ?_
            refine fz_putI kX9_start rfl rfl rfl ?_
            refine fz_nmu (S := [(44, 3), (44, 4), (44, 5), (46, 99999)]) (h0 := h) (fz_Iv_up hI22 (by decide) (show (0 : Int) ≤ 6 by decide) (show (6 : Int) ≤ 7 by decide)) (fz_fr_up hf23 rfl) (fun H533 hI534 hf535 e536 => ?_)
            have k537 : H533 44 3 = 0 := by rw [e536]; exact (fz_up_s (by decide)).trans k25
            have k538 : H533 44 4 = b := by rw [e536]; exact (fz_up_s (by decide)).trans k26
            have k539 : H533 44 5 = 6 := by rw [e536]; exact fz_up_e
            refine fz_aload_n kX9_start rfl rfl ?_
            refine fz_aload_n kX9_start rfl rfl ?_
            refine fz_getV (v := 6) kX9_start rfl rfl k539 ?_
            refine fz_iload_n kX9_start rfl rfl ?_
            rcases (show ac = 0 ∨ ac = 1 ∨ ac = 2 ∨ ac = 3 by omega) with c540 | c540 | c540 | c540
            · refine fz_eqi c540 ?_
              refine fz_iload_n kX9_start rfl rfl ?_
              refine fz_iconst ⟨by decide, by decide⟩ kX9_start rfl ?_
              have b541 : 0 ≤ H533 44 5 ∧ H533 44 5 ≤ 7 := hI534.1 44 _
              have b542 : (-2147483648) ≤ H533 44 3 ∧ H533 44 3 ≤ 2147483647 := hI534.1 44 _
              have b543 : 0 ≤ H533 44 4 ∧ H533 44 4 ≤ 49 := hI534.1 44 _
              refine fz_callV (d' := 2) (M' := mX9_run) (As := [fz_i 6, fz_i 0, fz_i x, fz_i 0]) (st := []) kX9_start rfl rfl vX9_run rfl rfl rfl rfl (Nat.le_of_ble_eq_true rfl) (Nat.le_of_ble_eq_true rfl) (by decide) (sX9_run_6_6_0 H533 hI534 x 0 b (by omega) (by omega) (by omega) (by omega)) (fun H544 r545 q546 o547 => ?_)
              obtain ⟨hI548, hf549, y554, rfl, f550, f551, f552, f553⟩ := q546
              clear o547
              have hf555 := fz_fr_tr hf535 hf549 (show fz_su [(44, 3), (46, 99999)] [(44, 3), (44, 4), (44, 5), (46, 99999)] = true from rfl)
              have k556 : H544 44 4 = b := (hf549 44 4 rfl).trans k538
              have k557 : H544 44 5 = 6 := (hf549 44 5 rfl).trans k539
              exact fz_iret kX9_start rfl rfl (fun _ => ⟨hI548, hf555, _, rfl, (by first | exact fz_act_0 (by omega) | exact f551.trans (fz_act_k 6 0 (by omega) (by omega) (by omega)).symm), (by first | exact fz_aT_0 e5 (by decide) (fz_atr_0 (by omega)) | exact fz_aT_in (by rw [e536, fz_up_ne (by decide), e24, fz_up_ne (by decide), e5, fz_up_ne (by decide)]) (by omega) f553 f552 (by omega) (fz_atr_k 6 0 (by omega) (by omega) (by omega)))⟩)
            · refine fz_eqi c540 ?_
              refine fz_iload_n kX9_start rfl rfl ?_
              refine fz_iconst ⟨by decide, by decide⟩ kX9_start rfl ?_
              have b560 : 0 ≤ H533 44 5 ∧ H533 44 5 ≤ 7 := hI534.1 44 _
              have b561 : (-2147483648) ≤ H533 44 3 ∧ H533 44 3 ≤ 2147483647 := hI534.1 44 _
              have b562 : 0 ≤ H533 44 4 ∧ H533 44 4 ≤ 49 := hI534.1 44 _
              refine fz_callV (d' := 3) (M' := mX9_run) (As := [fz_i 6, fz_i 1, fz_i x, fz_i 0]) (st := []) kX9_start rfl rfl vX9_run rfl rfl rfl rfl (Nat.le_of_ble_eq_true rfl) (Nat.le_of_ble_eq_true rfl) (by decide) (sX9_run_6_6_1 H533 hI534 x 0 b (by omega) (by omega) (by omega) (by omega)) (fun H563 r564 q565 o566 => ?_)
              obtain ⟨hI567, hf568, y573, rfl, f569, f570, f571, f572⟩ := q565
              clear o566
              have hf574 := fz_fr_tr hf535 hf568 (show fz_su [(44, 3), (46, 99999)] [(44, 3), (44, 4), (44, 5), (46, 99999)] = true from rfl)
              have k575 : H563 44 4 = b := (hf568 44 4 rfl).trans k538
              have k576 : H563 44 5 = 6 := (hf568 44 5 rfl).trans k539
              exact fz_iret kX9_start rfl rfl (fun _ => ⟨hI567, hf574, _, rfl, (by first | exact fz_act_0 (by omega) | exact f570.trans (fz_act_k 6 1 (by omega) (by omega) (by omega)).symm), (by first | exact fz_aT_0 e5 (by decide) (fz_atr_0 (by omega)) | exact fz_aT_in (by rw [e536, fz_up_ne (by decide), e24, fz_up_ne (by decide), e5, fz_up_ne (by decide)]) (by omega) f572 f571 (by omega) (fz_atr_k 6 1 (by omega) (by omega) (by omega)))⟩)
            · refine fz_eqi c540 ?_
              refine fz_iload_n kX9_start rfl rfl ?_
              refine fz_iconst ⟨by decide, by decide⟩ kX9_start rfl ?_
              have b579 : 0 ≤ H533 44 5 ∧ H533 44 5 ≤ 7 := hI534.1 44 _
              have b580 : (-2147483648) ≤ H533 44 3 ∧ H533 44 3 ≤ 2147483647 := hI534.1 44 _
              have b581 : 0 ≤ H533 44 4 ∧ H533 44 4 ≤ 49 := hI534.1 44 _
              refine fz_callV (d' := 1) (M' := mX9_run) (As := [fz_i 6, fz_i 2, fz_i x, fz_i 0]) (st := []) kX9_start rfl rfl vX9_run rfl rfl rfl rfl (Nat.le_of_ble_eq_true rfl) (Nat.le_of_ble_eq_true rfl) (by decide) (sX9_run_6_6_2 H533 hI534 x 0 b (by omega) (by omega) (by omega) (by omega)) (fun H582 r583 q584 o585 => ?_)
              obtain ⟨hI586, hf587, y592, rfl, f588, f589, f590, f591⟩ := q584
              clear o585
              have hf593 := fz_fr_tr hf535 hf587 (show fz_su [(44, 3), (46, 99999)] [(44, 3), (44, 4), (44, 5), (46, 99999)] = true from rfl)
              have k594 : H582 44 4 = b := (hf587 44 4 rfl).trans k538
              have k595 : H582 44 5 = 6 := (hf587 44 5 rfl).trans k539
              exact fz_iret kX9_start rfl rfl (fun _ => ⟨hI586, hf593, _, rfl, (by first | exact fz_act_0 (by omega) | exact f589.trans (fz_act_k 6 2 (by omega) (by omega) (by omega)).symm), (by first | exact fz_aT_0 e5 (by decide) (fz_atr_0 (by omega)) | exact fz_aT_in (by rw [e536, fz_up_ne (by decide), e24, fz_up_ne (by decide), e5, fz_up_ne (by decide)]) (by omega) f591 f590 (by omega) (fz_atr_k 6 2 (by omega) (by omega) (by omega)))⟩)
            · refine fz_eqi c540 ?_
              refine fz_iload_n kX9_start rfl rfl ?_
              refine fz_iconst ⟨by decide, by decide⟩ kX9_start rfl ?_
              have b598 : 0 ≤ H533 44 5 ∧ H533 44 5 ≤ 7 := hI534.1 44 _
              have b599 : (-2147483648) ≤ H533 44 3 ∧ H533 44 3 ≤ 2147483647 := hI534.1 44 _
              have b600 : 0 ≤ H533 44 4 ∧ H533 44 4 ≤ 49 := hI534.1 44 _
              refine fz_callV (d' := 4) (M' := mX9_run) (As := [fz_i 6, fz_i 3, fz_i x, fz_i 0]) (st := []) kX9_start rfl rfl vX9_run rfl rfl rfl rfl (Nat.le_of_ble_eq_true rfl) (Nat.le_of_ble_eq_true rfl) (by decide) (sX9_run_6_6_3 H533 hI534 x 0 b (by omega) (by omega) (by omega) (by omega)) (fun H601 r602 q603 o604 => ?_)
              obtain ⟨hI605, hf606, y611, rfl, f607, f608, f609, f610⟩ := q603
              clear o604
              have hf612 := fz_fr_tr hf535 hf606 (show fz_su [(44, 3), (46, 99999)] [(44, 3), (44, 4), (44, 5), (46, 99999)] = true from rfl)
              have k613 : H601 44 4 = b := (hf606 44 4 rfl).trans k538
              have k614 : H601 44 5 = 6 := (hf606 44 5 rfl).trans k539
              exact fz_iret kX9_start rfl rfl (fun _ => ⟨hI605, hf612, _, rfl, (by first | exact fz_act_0 (by omega) | exact f608.trans (fz_act_k 6 3 (by omega) (by omega) (by omega)).symm), (by first | exact fz_aT_0 e5 (by decide) (fz_atr_0 (by omega)) | exact fz_aT_in (by rw [e536, fz_up_ne (by decide), e24, fz_up_ne (by decide), e5, fz_up_ne (by decide)]) (by omega) f610 f609 (by omega) (fz_atr_k 6 3 (by omega) (by omega) (by omega)))⟩)
          · refine fz_eqi c28 ?_
            refine fz_putI kX9_start rfl rfl rfl ?_
            refine fz_nmu (S := [(44, 3), (44, 4), (44, 5), (46, 99999)]) (h0 := h) (fz_Iv_up hI22 (by decide) (show (0 : Int) ≤ 7 by decide) (show (7 : Int) ≤ 7 by decide)) (fz_fr_up hf23 rfl) (fun H617 hI618 hf619 e620 => ?_)
            have k621 : H617 44 3 = 0 := by rw [e620]; exact (fz_up_s (by decide)).trans k25
            have k622 : H617 44 4 = b := by rw [e620]; exact (fz_up_s (by decide)).trans k26
            have k623 : H617 44 5 = 7 := by rw [e620]; exact fz_up_e
            refine fz_aload_n kX9_start rfl rfl ?_
            refine fz_aload_n kX9_start rfl rfl ?_
            refine fz_getV (v := 7) kX9_start rfl rfl k623 ?_
            refine fz_iload_n kX9_start rfl rfl ?_
            rcases (show ac = 0 ∨ ac = 1 ∨ ac = 2 ∨ ac = 3 by omega) with c624 | c624 | c624 | c624
            · refine fz_eqi c624 ?_
              refine fz_iload_n kX9_start rfl rfl ?_
              refine fz_iconst ⟨by decide, by decide⟩ kX9_start rfl ?_
              have b625 : 0 ≤ H617 44 5 ∧ H617 44 5 ≤ 7 := hI618.1 44 _
              have b626 : (-2147483648) ≤ H617 44 3 ∧ H617 44 3 ≤ 2147483647 := hI618.1 44 _
              have b627 : 0 ≤ H617 44 4 ∧ H617 44 4 ≤ 49 := hI618.1 44 _
              refine fz_callV (d' := 2) (M' := mX9_run) (As := [fz_i 7, fz_i 0, fz_i x, fz_i 0]) (st := []) kX9_start rfl rfl vX9_run rfl rfl rfl rfl (Nat.le_of_ble_eq_true rfl) (Nat.le_of_ble_eq_true rfl) (by decide) (sX9_run_7_7_0 H617 hI618 x 0 b (by omega) (by omega) (by omega) (by omega)) (fun H628 r629 q630 o631 => ?_)
              obtain ⟨hI632, hf633, y638, rfl, f634, f635, f636, f637⟩ := q630
              clear o631
              have hf639 := fz_fr_tr hf619 hf633 (show fz_su [(44, 3), (46, 99999)] [(44, 3), (44, 4), (44, 5), (46, 99999)] = true from rfl)
              have k640 : H628 44 4 = b := (hf633 44 4 rfl).trans k622
              have k641 : H628 44 5 = 7 := (hf633 44 5 rfl).trans k623
              exact fz_iret kX9_start rfl rfl (fun _ => ⟨hI632, hf639, _, rfl, (by first | exact fz_act_0 (by omega) | exact f635.trans (fz_act_k 7 0 (by omega) (by omega) (by omega)).symm), (by first | exact fz_aT_0 e5 (by decide) (fz_atr_0 (by omega)) | exact fz_aT_in (by rw [e620, fz_up_ne (by decide), e24, fz_up_ne (by decide), e5, fz_up_ne (by decide)]) (by omega) f637 f636 (by omega) (fz_atr_k 7 0 (by omega) (by omega) (by omega)))⟩)
            · refine fz_eqi c624 ?_
              refine fz_iload_n kX9_start rfl rfl ?_
              refine fz_iconst ⟨by decide, by decide⟩ kX9_start rfl ?_
              have b644 : 0 ≤ H617 44 5 ∧ H617 44 5 ≤ 7 := hI618.1 44 _
              have b645 : (-2147483648) ≤ H617 44 3 ∧ H617 44 3 ≤ 2147483647 := hI618.1 44 _
              have b646 : 0 ≤ H617 44 4 ∧ H617 44 4 ≤ 49 := hI618.1 44 _
              refine fz_callV (d' := 4) (M' := mX9_run) (As := [fz_i 7, fz_i 1, fz_i x, fz_i 0]) (st := []) kX9_start rfl rfl vX9_run rfl rfl rfl rfl (Nat.le_of_ble_eq_true rfl) (Nat.le_of_ble_eq_true rfl) (by decide) (sX9_run_7_7_1 H617 hI618 x 0 b (by omega) (by omega) (by omega) (by omega)) (fun H647 r648 q649 o650 => ?_)
              obtain ⟨hI651, hf652, y657, rfl, f653, f654, f655, f656⟩ := q649
              clear o650
              have hf658 := fz_fr_tr hf619 hf652 (show fz_su [(44, 3), (46, 99999)] [(44, 3), (44, 4), (44, 5), (46, 99999)] = true from rfl)
              have k659 : H647 44 4 = b := (hf652 44 4 rfl).trans k622
              have k660 : H647 44 5 = 7 := (hf652 44 5 rfl).trans k623
              exact fz_iret kX9_start rfl rfl (fun _ => ⟨hI651, hf658, _, rfl, (by first | exact fz_act_0 (by omega) | exact f654.trans (fz_act_k 7 1 (by omega) (by omega) (by omega)).symm), (by first | exact fz_aT_0 e5 (by decide) (fz_atr_0 (by omega)) | exact fz_aT_in (by rw [e620, fz_up_ne (by decide), e24, fz_up_ne (by decide), e5, fz_up_ne (by decide)]) (by omega) f656 f655 (by omega) (fz_atr_k 7 1 (by omega) (by omega) (by omega)))⟩)
            · refine fz_eqi c624 ?_
              refine fz_iload_n kX9_start rfl rfl ?_
              refine fz_iconst ⟨by decide, by decide⟩ kX9_start rfl ?_
              have b663 : 0 ≤ H617 44 5 ∧ H617 44 5 ≤ 7 := hI618.1 44 _
              have b664 : (-2147483648) ≤ H617 44 3 ∧ H617 44 3 ≤ 2147483647 := hI618.1 44 _
              have b665 : 0 ≤ H617 44 4 ∧ H617 44 4 ≤ 49 := hI618.1 44 _
              refine fz_callV (d' := 3) (M' := mX9_run) (As := [fz_i 7, fz_i 2, fz_i x, fz_i 0]) (st := []) kX9_start rfl rfl vX9_run rfl rfl rfl rfl (Nat.le_of_ble_eq_true rfl) (Nat.le_of_ble_eq_true rfl) (by decide) (sX9_run_7_7_2 H617 hI618 x 0 b (by omega) (by omega) (by omega) (by omega)) (fun H666 r667 q668 o669 => ?_)
              obtain ⟨hI670, hf671, y676, rfl, f672, f673, f674, f675⟩ := q668
              clear o669
              have hf677 := fz_fr_tr hf619 hf671 (show fz_su [(44, 3), (46, 99999)] [(44, 3), (44, 4), (44, 5), (46, 99999)] = true from rfl)
              have k678 : H666 44 4 = b := (hf671 44 4 rfl).trans k622
              have k679 : H666 44 5 = 7 := (hf671 44 5 rfl).trans k623
              exact fz_iret kX9_start rfl rfl (fun _ => ⟨hI670, hf677, _, rfl, (by first | exact fz_act_0 (by omega) | exact f673.trans (fz_act_k 7 2 (by omega) (by omega) (by omega)).symm), (by first | exact fz_aT_0 e5 (by decide) (fz_atr_0 (by omega)) | exact fz_aT_in (by rw [e620, fz_up_ne (by decide), e24, fz_up_ne (by decide), e5, fz_up_ne (by decide)]) (by omega) f675 f674 (by omega) (fz_atr_k 7 2 (by omega) (by omega) (by omega)))⟩)
            · refine fz_eqi c624 ?_
              refine fz_iload_n kX9_start rfl rfl ?_
              refine fz_iconst ⟨by decide, by decide⟩ kX9_start rfl ?_
              have b682 : 0 ≤ H617 44 5 ∧ H617 44 5 ≤ 7 := hI618.1 44 _
              have b683 : (-2147483648) ≤ H617 44 3 ∧ H617 44 3 ≤ 2147483647 := hI618.1 44 _
              have b684 : 0 ≤ H617 44 4 ∧ H617 44 4 ≤ 49 := hI618.1 44 _
              refine fz_callV (d' := 6) (M' := mX9_run) (As := [fz_i 7, fz_i 3, fz_i x, fz_i 0]) (st := []) kX9_start rfl rfl vX9_run rfl rfl rfl rfl (Nat.le_of_ble_eq_true rfl) (Nat.le_of_ble_eq_true rfl) (by decide) (sX9_run_7_7_3 H617 hI618 x 0 b (by omega) (by omega) (by omega) (by omega)) (fun H685 r686 q687 o688 => ?_)
              obtain ⟨hI689, hf690, y695, rfl, f691, f692, f693, f694⟩ := q687
              clear o688
              have hf696 := fz_fr_tr hf619 hf690 (show fz_su [(44, 3), (46, 99999)] [(44, 3), (44, 4), (44, 5), (46, 99999)] = true from rfl)
              have k697 : H685 44 4 = b := (hf690 44 4 rfl).trans k622
              have k698 : H685 44 5 = 7 := (hf690 44 5 rfl).trans k623
              exact fz_iret kX9_start rfl rfl (fun _ => ⟨hI689, hf696, _, rfl, (by first | exact fz_act_0 (by omega) | exact f692.trans (fz_act_k 7 3 (by omega) (by omega) (by omega)).symm), (by first | exact fz_aT_0 e5 (by decide) (fz_atr_0 (by omega)) | exact fz_aT_in (by rw [e620, fz_up_ne (by decide), e24, fz_up_ne (by decide), e5, fz_up_ne (by decide)]) (by omega) f694 f693 (by omega) (fz_atr_k 7 3 (by omega) (by omega) (by omega)))⟩)
        · refine fz_iconst ⟨by decide, by decide⟩ kX9_start rfl ?_
          exact fz_iret kX9_start rfl rfl (fun _ => ⟨hI3, hf4, _, rfl, (by first | exact fz_act_0 (by omega) | exact lost.trans (fz_act_k lost lost (by omega) (by omega) (by omega)).symm), (by first | exact fz_aT_0 e5 (by decide) (fz_atr_0 (by omega)) | exact fz_aT_in (by rw [lost, fz_up_ne (by decide), lost, fz_up_ne (by decide), e5, fz_up_ne (by decide)]) (by omega) lost lost (by omega) (fz_atr_k lost lost (by omega) (by omega) (by omega)))⟩)
  · refine fz_if_eq (tgt := 22) kX9_start rfl (by decide) (fun c703 => ?_) (fun c703 => ?_)
    · refine fz_iconst ⟨by decide, by decide⟩ kX9_start rfl ?_
      exact fz_iret kX9_start rfl rfl (fun _ => ⟨hI3, hf4, _, rfl, (by first | exact fz_act_0 (by omega) | exact lost.trans (fz_act_k lost lost (by omega) (by omega) (by omega)).symm), (by first | exact fz_aT_0 e5 (by decide) (fz_atr_0 (by omega)) | exact fz_aT_in (by rw [lost, fz_up_ne (by decide), lost, fz_up_ne (by decide), e5, fz_up_ne (by decide)]) (by omega) lost lost (by omega) (fz_atr_k lost lost (by omega) (by omega) (by omega)))⟩)
    · exfalso; omega
