/-! ===== what the methods keep ===== -/
abbrev qX9_ownerFrom_0_0 (h : fz_H) : fz_H → Option fz_V → Prop := fun h' r0 => h' = h ∧ ∃ r : Int, r0 = some (fz_i r) ∧ (0 ≤ r ∧ r ≤ 0)
set_option maxHeartbeats 1000000 in
set_option maxRecDepth 100000 in
theorem sX9_ownerFrom_0_0 (h : fz_H) (hI : fz_Iv h) : fz_R 0 mX9_ownerFrom 0 [(0, fz_i 0), (1, fz_i 0)] [] h (qX9_ownerFrom_0_0 h) := by
  refine fz_iload_n kX9_ownerFrom rfl rfl ?_
  refine fz_istore_n (ls' := [(2, fz_i 0), (0, fz_i 0), (1, fz_i 0)]) kX9_ownerFrom rfl (by decide) rfl ?_
  refine fz_iconst ⟨by decide, by decide⟩ kX9_ownerFrom rfl ?_
  refine fz_istore_n (ls' := [(3, fz_i 0), (2, fz_i 0), (0, fz_i 0), (1, fz_i 0)]) kX9_ownerFrom rfl (by decide) rfl ?_
  refine fz_iload_n kX9_ownerFrom rfl rfl ?_
  refine fz_bipush ⟨by decide, by decide⟩ kX9_ownerFrom rfl ?_
  refine fz_icmp_ge (tgt := 38) kX9_ownerFrom rfl (by decide) (fun c1 => ?_) (fun c1 => ?_)
  · exfalso; omega
  · refine fz_iload_n kX9_ownerFrom rfl rfl ?_
    refine fz_if_le (tgt := 38) kX9_ownerFrom rfl (by decide) (fun c2 => ?_) (fun c2 => ?_)
    · refine fz_iload_n kX9_ownerFrom rfl rfl ?_
      exact fz_iret kX9_ownerFrom rfl rfl (fun _ => ⟨rfl, _, rfl, (by omega)⟩)
    · exfalso; omega

abbrev qX9_ownerFrom_0_1 (h : fz_H) : fz_H → Option fz_V → Prop := fun h' r0 => h' = h ∧ ∃ r : Int, r0 = some (fz_i r) ∧ (0 ≤ r ∧ r ≤ 0)
set_option maxHeartbeats 1000000 in
set_option maxRecDepth 100000 in
theorem sX9_ownerFrom_0_1 (h : fz_H) (hI : fz_Iv h) : fz_R 0 mX9_ownerFrom 0 [(0, fz_i 0), (1, fz_i 1)] [] h (qX9_ownerFrom_0_1 h) := by
  refine fz_iload_n kX9_ownerFrom rfl rfl ?_
  refine fz_istore_n (ls' := [(2, fz_i 0), (0, fz_i 0), (1, fz_i 1)]) kX9_ownerFrom rfl (by decide) rfl ?_
  refine fz_iconst ⟨by decide, by decide⟩ kX9_ownerFrom rfl ?_
  refine fz_istore_n (ls' := [(3, fz_i 0), (2, fz_i 0), (0, fz_i 0), (1, fz_i 1)]) kX9_ownerFrom rfl (by decide) rfl ?_
  refine fz_iload_n kX9_ownerFrom rfl rfl ?_
  refine fz_bipush ⟨by decide, by decide⟩ kX9_ownerFrom rfl ?_
  refine fz_icmp_ge (tgt := 38) kX9_ownerFrom rfl (by decide) (fun c1 => ?_) (fun c1 => ?_)
  · exfalso; omega
  · refine fz_iload_n kX9_ownerFrom rfl rfl ?_
    refine fz_if_le (tgt := 38) kX9_ownerFrom rfl (by decide) (fun c2 => ?_) (fun c2 => ?_)
    · refine fz_iload_n kX9_ownerFrom rfl rfl ?_
      exact fz_iret kX9_ownerFrom rfl rfl (fun _ => ⟨rfl, _, rfl, (by omega)⟩)
    · exfalso; omega

abbrev qX9_ownerFrom_0_2 (h : fz_H) : fz_H → Option fz_V → Prop := fun h' r0 => h' = h ∧ ∃ r : Int, r0 = some (fz_i r) ∧ (0 ≤ r ∧ r ≤ 0)
set_option maxHeartbeats 1000000 in
set_option maxRecDepth 100000 in
theorem sX9_ownerFrom_0_2 (h : fz_H) (hI : fz_Iv h) : fz_R 0 mX9_ownerFrom 0 [(0, fz_i 0), (1, fz_i 2)] [] h (qX9_ownerFrom_0_2 h) := by
  refine fz_iload_n kX9_ownerFrom rfl rfl ?_
  refine fz_istore_n (ls' := [(2, fz_i 0), (0, fz_i 0), (1, fz_i 2)]) kX9_ownerFrom rfl (by decide) rfl ?_
  refine fz_iconst ⟨by decide, by decide⟩ kX9_ownerFrom rfl ?_
  refine fz_istore_n (ls' := [(3, fz_i 0), (2, fz_i 0), (0, fz_i 0), (1, fz_i 2)]) kX9_ownerFrom rfl (by decide) rfl ?_
  refine fz_iload_n kX9_ownerFrom rfl rfl ?_
  refine fz_bipush ⟨by decide, by decide⟩ kX9_ownerFrom rfl ?_
  refine fz_icmp_ge (tgt := 38) kX9_ownerFrom rfl (by decide) (fun c1 => ?_) (fun c1 => ?_)
  · exfalso; omega
  · refine fz_iload_n kX9_ownerFrom rfl rfl ?_
    refine fz_if_le (tgt := 38) kX9_ownerFrom rfl (by decide) (fun c2 => ?_) (fun c2 => ?_)
    · refine fz_iload_n kX9_ownerFrom rfl rfl ?_
      exact fz_iret kX9_ownerFrom rfl rfl (fun _ => ⟨rfl, _, rfl, (by omega)⟩)
    · exfalso; omega

abbrev qX9_ownerFrom_0_3 (h : fz_H) : fz_H → Option fz_V → Prop := fun h' r0 => h' = h ∧ ∃ r : Int, r0 = some (fz_i r) ∧ (0 ≤ r ∧ r ≤ 0)
set_option maxHeartbeats 1000000 in
set_option maxRecDepth 100000 in
theorem sX9_ownerFrom_0_3 (h : fz_H) (hI : fz_Iv h) : fz_R 0 mX9_ownerFrom 0 [(0, fz_i 0), (1, fz_i 3)] [] h (qX9_ownerFrom_0_3 h) := by
  refine fz_iload_n kX9_ownerFrom rfl rfl ?_
  refine fz_istore_n (ls' := [(2, fz_i 0), (0, fz_i 0), (1, fz_i 3)]) kX9_ownerFrom rfl (by decide) rfl ?_
  refine fz_iconst ⟨by decide, by decide⟩ kX9_ownerFrom rfl ?_
  refine fz_istore_n (ls' := [(3, fz_i 0), (2, fz_i 0), (0, fz_i 0), (1, fz_i 3)]) kX9_ownerFrom rfl (by decide) rfl ?_
  refine fz_iload_n kX9_ownerFrom rfl rfl ?_
  refine fz_bipush ⟨by decide, by decide⟩ kX9_ownerFrom rfl ?_
  refine fz_icmp_ge (tgt := 38) kX9_ownerFrom rfl (by decide) (fun c1 => ?_) (fun c1 => ?_)
  · exfalso; omega
  · refine fz_iload_n kX9_ownerFrom rfl rfl ?_
    refine fz_if_le (tgt := 38) kX9_ownerFrom rfl (by decide) (fun c2 => ?_) (fun c2 => ?_)
    · refine fz_iload_n kX9_ownerFrom rfl rfl ?_
      exact fz_iret kX9_ownerFrom rfl rfl (fun _ => ⟨rfl, _, rfl, (by omega)⟩)
    · exfalso; omega

abbrev qX9_ownerFrom_1_0 (h : fz_H) : fz_H → Option fz_V → Prop := fun h' r0 => h' = h ∧ ∃ r : Int, r0 = some (fz_i r) ∧ (1 ≤ r ∧ r ≤ 1)
set_option maxHeartbeats 1000000 in
set_option maxRecDepth 100000 in
theorem sX9_ownerFrom_1_0 (h : fz_H) (hI : fz_Iv h) : fz_R 0 mX9_ownerFrom 0 [(0, fz_i 1), (1, fz_i 0)] [] h (qX9_ownerFrom_1_0 h) := by
  refine fz_iload_n kX9_ownerFrom rfl rfl ?_
  refine fz_istore_n (ls' := [(2, fz_i 1), (0, fz_i 1), (1, fz_i 0)]) kX9_ownerFrom rfl (by decide) rfl ?_
  refine fz_iconst ⟨by decide, by decide⟩ kX9_ownerFrom rfl ?_
  refine fz_istore_n (ls' := [(3, fz_i 0), (2, fz_i 1), (0, fz_i 1), (1, fz_i 0)]) kX9_ownerFrom rfl (by decide) rfl ?_
  refine fz_iload_n kX9_ownerFrom rfl rfl ?_
  refine fz_bipush ⟨by decide, by decide⟩ kX9_ownerFrom rfl ?_
  refine fz_icmp_ge (tgt := 38) kX9_ownerFrom rfl (by decide) (fun c1 => ?_) (fun c1 => ?_)
  · exfalso; omega
  · refine fz_iload_n kX9_ownerFrom rfl rfl ?_
    refine fz_if_le (tgt := 38) kX9_ownerFrom rfl (by decide) (fun c2 => ?_) (fun c2 => ?_)
    · exfalso; omega
    · refine fz_gets kX9_ownerFrom rfl ?_
      refine fz_iload_n kX9_ownerFrom rfl rfl ?_
      refine fz_iconst ⟨by decide, by decide⟩ kX9_ownerFrom rfl ?_
      refine fz_imulN kX9_ownerFrom rfl ⟨by decide, by decide⟩ ?_
      refine fz_eqi (y := 4) rfl ?_
      refine fz_iload_n kX9_ownerFrom rfl rfl ?_
      refine fz_iaddN kX9_ownerFrom rfl ⟨by decide, by decide⟩ ?_
      refine fz_eqi (y := 4) rfl ?_
      refine fz_taldV (v := 20) kX9_ownerFrom rfl ⟨by decide, by decide⟩ (by omega) (by rw [hI.2.2.2.1]; decide) (by rw [hI.2.2.2.1]; rfl) ?_
      refine fz_if_ne (tgt := 38) kX9_ownerFrom rfl (by decide) (fun c5 => ?_) (fun c5 => ?_)
      · refine fz_iload_n kX9_ownerFrom rfl rfl ?_
        exact fz_iret kX9_ownerFrom rfl rfl (fun _ => ⟨rfl, _, rfl, (by omega)⟩)
      · exfalso; omega

abbrev qX9_ownerFrom_1_1 (h : fz_H) : fz_H → Option fz_V → Prop := fun h' r0 => h' = h ∧ ∃ r : Int, r0 = some (fz_i r) ∧ (0 ≤ r ∧ r ≤ 0)
set_option maxHeartbeats 1000000 in
set_option maxRecDepth 100000 in
theorem sX9_ownerFrom_1_1 (h : fz_H) (hI : fz_Iv h) : fz_R 0 mX9_ownerFrom 0 [(0, fz_i 1), (1, fz_i 1)] [] h (qX9_ownerFrom_1_1 h) := by
  refine fz_iload_n kX9_ownerFrom rfl rfl ?_
  refine fz_istore_n (ls' := [(2, fz_i 1), (0, fz_i 1), (1, fz_i 1)]) kX9_ownerFrom rfl (by decide) rfl ?_
  refine fz_iconst ⟨by decide, by decide⟩ kX9_ownerFrom rfl ?_
  refine fz_istore_n (ls' := [(3, fz_i 0), (2, fz_i 1), (0, fz_i 1), (1, fz_i 1)]) kX9_ownerFrom rfl (by decide) rfl ?_
  refine fz_iload_n kX9_ownerFrom rfl rfl ?_
  refine fz_bipush ⟨by decide, by decide⟩ kX9_ownerFrom rfl ?_
  refine fz_icmp_ge (tgt := 38) kX9_ownerFrom rfl (by decide) (fun c1 => ?_) (fun c1 => ?_)
  · exfalso; omega
  · refine fz_iload_n kX9_ownerFrom rfl rfl ?_
    refine fz_if_le (tgt := 38) kX9_ownerFrom rfl (by decide) (fun c2 => ?_) (fun c2 => ?_)
    · exfalso; omega
    · refine fz_gets kX9_ownerFrom rfl ?_
      refine fz_iload_n kX9_ownerFrom rfl rfl ?_
      refine fz_iconst ⟨by decide, by decide⟩ kX9_ownerFrom rfl ?_
      refine fz_imulN kX9_ownerFrom rfl ⟨by decide, by decide⟩ ?_
      refine fz_eqi (y := 4) rfl ?_
      refine fz_iload_n kX9_ownerFrom rfl rfl ?_
      refine fz_iaddN kX9_ownerFrom rfl ⟨by decide, by decide⟩ ?_
      refine fz_eqi (y := 5) rfl ?_
      refine fz_taldV (v := 0) kX9_ownerFrom rfl ⟨by decide, by decide⟩ (by omega) (by rw [hI.2.2.2.1]; decide) (by rw [hI.2.2.2.1]; rfl) ?_
      refine fz_if_ne (tgt := 38) kX9_ownerFrom rfl (by decide) (fun c5 => ?_) (fun c5 => ?_)
      · exfalso; omega
      · refine fz_gets kX9_ownerFrom rfl ?_
        refine fz_iload_n kX9_ownerFrom rfl rfl ?_
        refine fz_taldV (v := 0) kX9_ownerFrom rfl ⟨by decide, by decide⟩ (by omega) (by rw [hI.2.2.2.2]; decide) (by rw [hI.2.2.2.2]; rfl) ?_
        refine fz_istore_n (ls' := [(2, fz_i 0), (3, fz_i 0), (0, fz_i 1), (1, fz_i 1)]) kX9_ownerFrom rfl (by decide) rfl ?_
        refine fz_iincN (ls' := [(3, fz_i (0 + 1)), (2, fz_i 0), (0, fz_i 1), (1, fz_i 1)]) kX9_ownerFrom rfl (by decide) rfl (by omega) rfl ?_
        refine fz_goto (tgt := 4) kX9_ownerFrom rfl (by decide) ?_
        refine fz_iload_n kX9_ownerFrom rfl rfl ?_
        refine fz_bipush ⟨by decide, by decide⟩ kX9_ownerFrom rfl ?_
        refine fz_icmp_ge (tgt := 38) kX9_ownerFrom rfl (by decide) (fun c8 => ?_) (fun c8 => ?_)
        · exfalso; omega
        · refine fz_iload_n kX9_ownerFrom rfl rfl ?_
          refine fz_if_le (tgt := 38) kX9_ownerFrom rfl (by decide) (fun c9 => ?_) (fun c9 => ?_)
          · refine fz_iload_n kX9_ownerFrom rfl rfl ?_
            exact fz_iret kX9_ownerFrom rfl rfl (fun _ => ⟨rfl, _, rfl, (by omega)⟩)
          · exfalso; omega

abbrev qX9_ownerFrom_1_2 (h : fz_H) : fz_H → Option fz_V → Prop := fun h' r0 => h' = h ∧ ∃ r : Int, r0 = some (fz_i r) ∧ (0 ≤ r ∧ r ≤ 0)
set_option maxHeartbeats 1000000 in
set_option maxRecDepth 100000 in
theorem sX9_ownerFrom_1_2 (h : fz_H) (hI : fz_Iv h) : fz_R 0 mX9_ownerFrom 0 [(0, fz_i 1), (1, fz_i 2)] [] h (qX9_ownerFrom_1_2 h) := by
  refine fz_iload_n kX9_ownerFrom rfl rfl ?_
  refine fz_istore_n (ls' := [(2, fz_i 1), (0, fz_i 1), (1, fz_i 2)]) kX9_ownerFrom rfl (by decide) rfl ?_
  refine fz_iconst ⟨by decide, by decide⟩ kX9_ownerFrom rfl ?_
  refine fz_istore_n (ls' := [(3, fz_i 0), (2, fz_i 1), (0, fz_i 1), (1, fz_i 2)]) kX9_ownerFrom rfl (by decide) rfl ?_
  refine fz_iload_n kX9_ownerFrom rfl rfl ?_
  refine fz_bipush ⟨by decide, by decide⟩ kX9_ownerFrom rfl ?_
  refine fz_icmp_ge (tgt := 38) kX9_ownerFrom rfl (by decide) (fun c1 => ?_) (fun c1 => ?_)
  · exfalso; omega
  · refine fz_iload_n kX9_ownerFrom rfl rfl ?_
    refine fz_if_le (tgt := 38) kX9_ownerFrom rfl (by decide) (fun c2 => ?_) (fun c2 => ?_)
    · exfalso; omega
    · refine fz_gets kX9_ownerFrom rfl ?_
      refine fz_iload_n kX9_ownerFrom rfl rfl ?_
      refine fz_iconst ⟨by decide, by decide⟩ kX9_ownerFrom rfl ?_
      refine fz_imulN kX9_ownerFrom rfl ⟨by decide, by decide⟩ ?_
      refine fz_eqi (y := 4) rfl ?_
      refine fz_iload_n kX9_ownerFrom rfl rfl ?_
      refine fz_iaddN kX9_ownerFrom rfl ⟨by decide, by decide⟩ ?_
      refine fz_eqi (y := 6) rfl ?_
      refine fz_taldV (v := 0) kX9_ownerFrom rfl ⟨by decide, by decide⟩ (by omega) (by rw [hI.2.2.2.1]; decide) (by rw [hI.2.2.2.1]; rfl) ?_
      refine fz_if_ne (tgt := 38) kX9_ownerFrom rfl (by decide) (fun c5 => ?_) (fun c5 => ?_)
      · exfalso; omega
      · refine fz_gets kX9_ownerFrom rfl ?_
        refine fz_iload_n kX9_ownerFrom rfl rfl ?_
        refine fz_taldV (v := 0) kX9_ownerFrom rfl ⟨by decide, by decide⟩ (by omega) (by rw [hI.2.2.2.2]; decide) (by rw [hI.2.2.2.2]; rfl) ?_
        refine fz_istore_n (ls' := [(2, fz_i 0), (3, fz_i 0), (0, fz_i 1), (1, fz_i 2)]) kX9_ownerFrom rfl (by decide) rfl ?_
        refine fz_iincN (ls' := [(3, fz_i (0 + 1)), (2, fz_i 0), (0, fz_i 1), (1, fz_i 2)]) kX9_ownerFrom rfl (by decide) rfl (by omega) rfl ?_
        refine fz_goto (tgt := 4) kX9_ownerFrom rfl (by decide) ?_
        refine fz_iload_n kX9_ownerFrom rfl rfl ?_
        refine fz_bipush ⟨by decide, by decide⟩ kX9_ownerFrom rfl ?_
        refine fz_icmp_ge (tgt := 38) kX9_ownerFrom rfl (by decide) (fun c8 => ?_) (fun c8 => ?_)
        · exfalso; omega
        · refine fz_iload_n kX9_ownerFrom rfl rfl ?_
          refine fz_if_le (tgt := 38) kX9_ownerFrom rfl (by decide) (fun c9 => ?_) (fun c9 => ?_)
          · refine fz_iload_n kX9_ownerFrom rfl rfl ?_
            exact fz_iret kX9_ownerFrom rfl rfl (fun _ => ⟨rfl, _, rfl, (by omega)⟩)
          · exfalso; omega

abbrev qX9_ownerFrom_1_3 (h : fz_H) : fz_H → Option fz_V → Prop := fun h' r0 => h' = h ∧ ∃ r : Int, r0 = some (fz_i r) ∧ (0 ≤ r ∧ r ≤ 0)
set_option maxHeartbeats 1000000 in
set_option maxRecDepth 100000 in
theorem sX9_ownerFrom_1_3 (h : fz_H) (hI : fz_Iv h) : fz_R 0 mX9_ownerFrom 0 [(0, fz_i 1), (1, fz_i 3)] [] h (qX9_ownerFrom_1_3 h) := by
  refine fz_iload_n kX9_ownerFrom rfl rfl ?_
  refine fz_istore_n (ls' := [(2, fz_i 1), (0, fz_i 1), (1, fz_i 3)]) kX9_ownerFrom rfl (by decide) rfl ?_
  refine fz_iconst ⟨by decide, by decide⟩ kX9_ownerFrom rfl ?_
  refine fz_istore_n (ls' := [(3, fz_i 0), (2, fz_i 1), (0, fz_i 1), (1, fz_i 3)]) kX9_ownerFrom rfl (by decide) rfl ?_
  refine fz_iload_n kX9_ownerFrom rfl rfl ?_
  refine fz_bipush ⟨by decide, by decide⟩ kX9_ownerFrom rfl ?_
  refine fz_icmp_ge (tgt := 38) kX9_ownerFrom rfl (by decide) (fun c1 => ?_) (fun c1 => ?_)
  · exfalso; omega
  · refine fz_iload_n kX9_ownerFrom rfl rfl ?_
    refine fz_if_le (tgt := 38) kX9_ownerFrom rfl (by decide) (fun c2 => ?_) (fun c2 => ?_)
    · exfalso; omega
    · refine fz_gets kX9_ownerFrom rfl ?_
      refine fz_iload_n kX9_ownerFrom rfl rfl ?_
      refine fz_iconst ⟨by decide, by decide⟩ kX9_ownerFrom rfl ?_
      refine fz_imulN kX9_ownerFrom rfl ⟨by decide, by decide⟩ ?_
      refine fz_eqi (y := 4) rfl ?_
      refine fz_iload_n kX9_ownerFrom rfl rfl ?_
      refine fz_iaddN kX9_ownerFrom rfl ⟨by decide, by decide⟩ ?_
      refine fz_eqi (y := 7) rfl ?_
      refine fz_taldV (v := 0) kX9_ownerFrom rfl ⟨by decide, by decide⟩ (by omega) (by rw [hI.2.2.2.1]; decide) (by rw [hI.2.2.2.1]; rfl) ?_
      refine fz_if_ne (tgt := 38) kX9_ownerFrom rfl (by decide) (fun c5 => ?_) (fun c5 => ?_)
      · exfalso; omega
      · refine fz_gets kX9_ownerFrom rfl ?_
        refine fz_iload_n kX9_ownerFrom rfl rfl ?_
        refine fz_taldV (v := 0) kX9_ownerFrom rfl ⟨by decide, by decide⟩ (by omega) (by rw [hI.2.2.2.2]; decide) (by rw [hI.2.2.2.2]; rfl) ?_
        refine fz_istore_n (ls' := [(2, fz_i 0), (3, fz_i 0), (0, fz_i 1), (1, fz_i 3)]) kX9_ownerFrom rfl (by decide) rfl ?_
        refine fz_iincN (ls' := [(3, fz_i (0 + 1)), (2, fz_i 0), (0, fz_i 1), (1, fz_i 3)]) kX9_ownerFrom rfl (by decide) rfl (by omega) rfl ?_
        refine fz_goto (tgt := 4) kX9_ownerFrom rfl (by decide) ?_
        refine fz_iload_n kX9_ownerFrom rfl rfl ?_
        refine fz_bipush ⟨by decide, by decide⟩ kX9_ownerFrom rfl ?_
        refine fz_icmp_ge (tgt := 38) kX9_ownerFrom rfl (by decide) (fun c8 => ?_) (fun c8 => ?_)
        · exfalso; omega
        · refine fz_iload_n kX9_ownerFrom rfl rfl ?_
          refine fz_if_le (tgt := 38) kX9_ownerFrom rfl (by decide) (fun c9 => ?_) (fun c9 => ?_)
          · refine fz_iload_n kX9_ownerFrom rfl rfl ?_
            exact fz_iret kX9_ownerFrom rfl rfl (fun _ => ⟨rfl, _, rfl, (by omega)⟩)
          · exfalso; omega

abbrev qX9_ownerFrom_2_0 (h : fz_H) : fz_H → Option fz_V → Prop := fun h' r0 => h' = h ∧ ∃ r : Int, r0 = some (fz_i r) ∧ (0 ≤ r ∧ r ≤ 0)
set_option maxHeartbeats 1000000 in
set_option maxRecDepth 100000 in
theorem sX9_ownerFrom_2_0 (h : fz_H) (hI : fz_Iv h) : fz_R 0 mX9_ownerFrom 0 [(0, fz_i 2), (1, fz_i 0)] [] h (qX9_ownerFrom_2_0 h) := by
  refine fz_iload_n kX9_ownerFrom rfl rfl ?_
  refine fz_istore_n (ls' := [(2, fz_i 2), (0, fz_i 2), (1, fz_i 0)]) kX9_ownerFrom rfl (by decide) rfl ?_
  refine fz_iconst ⟨by decide, by decide⟩ kX9_ownerFrom rfl ?_
  refine fz_istore_n (ls' := [(3, fz_i 0), (2, fz_i 2), (0, fz_i 2), (1, fz_i 0)]) kX9_ownerFrom rfl (by decide) rfl ?_
  refine fz_iload_n kX9_ownerFrom rfl rfl ?_
  refine fz_bipush ⟨by decide, by decide⟩ kX9_ownerFrom rfl ?_
  refine fz_icmp_ge (tgt := 38) kX9_ownerFrom rfl (by decide) (fun c1 => ?_) (fun c1 => ?_)
  · exfalso; omega
  · refine fz_iload_n kX9_ownerFrom rfl rfl ?_
    refine fz_if_le (tgt := 38) kX9_ownerFrom rfl (by decide) (fun c2 => ?_) (fun c2 => ?_)
    · exfalso; omega
    · refine fz_gets kX9_ownerFrom rfl ?_
      refine fz_iload_n kX9_ownerFrom rfl rfl ?_
      refine fz_iconst ⟨by decide, by decide⟩ kX9_ownerFrom rfl ?_
      refine fz_imulN kX9_ownerFrom rfl ⟨by decide, by decide⟩ ?_
      refine fz_eqi (y := 8) rfl ?_
      refine fz_iload_n kX9_ownerFrom rfl rfl ?_
      refine fz_iaddN kX9_ownerFrom rfl ⟨by decide, by decide⟩ ?_
      refine fz_eqi (y := 8) rfl ?_
      refine fz_taldV (v := 0) kX9_ownerFrom rfl ⟨by decide, by decide⟩ (by omega) (by rw [hI.2.2.2.1]; decide) (by rw [hI.2.2.2.1]; rfl) ?_
      refine fz_if_ne (tgt := 38) kX9_ownerFrom rfl (by decide) (fun c5 => ?_) (fun c5 => ?_)
      · exfalso; omega
      · refine fz_gets kX9_ownerFrom rfl ?_
        refine fz_iload_n kX9_ownerFrom rfl rfl ?_
        refine fz_taldV (v := 0) kX9_ownerFrom rfl ⟨by decide, by decide⟩ (by omega) (by rw [hI.2.2.2.2]; decide) (by rw [hI.2.2.2.2]; rfl) ?_
        refine fz_istore_n (ls' := [(2, fz_i 0), (3, fz_i 0), (0, fz_i 2), (1, fz_i 0)]) kX9_ownerFrom rfl (by decide) rfl ?_
        refine fz_iincN (ls' := [(3, fz_i (0 + 1)), (2, fz_i 0), (0, fz_i 2), (1, fz_i 0)]) kX9_ownerFrom rfl (by decide) rfl (by omega) rfl ?_
        refine fz_goto (tgt := 4) kX9_ownerFrom rfl (by decide) ?_
        refine fz_iload_n kX9_ownerFrom rfl rfl ?_
        refine fz_bipush ⟨by decide, by decide⟩ kX9_ownerFrom rfl ?_
        refine fz_icmp_ge (tgt := 38) kX9_ownerFrom rfl (by decide) (fun c8 => ?_) (fun c8 => ?_)
        · exfalso; omega
        · refine fz_iload_n kX9_ownerFrom rfl rfl ?_
          refine fz_if_le (tgt := 38) kX9_ownerFrom rfl (by decide) (fun c9 => ?_) (fun c9 => ?_)
          · refine fz_iload_n kX9_ownerFrom rfl rfl ?_
            exact fz_iret kX9_ownerFrom rfl rfl (fun _ => ⟨rfl, _, rfl, (by omega)⟩)
          · exfalso; omega

abbrev qX9_ownerFrom_2_1 (h : fz_H) : fz_H → Option fz_V → Prop := fun h' r0 => h' = h ∧ ∃ r : Int, r0 = some (fz_i r) ∧ (2 ≤ r ∧ r ≤ 2)
set_option maxHeartbeats 1000000 in
set_option maxRecDepth 100000 in
theorem sX9_ownerFrom_2_1 (h : fz_H) (hI : fz_Iv h) : fz_R 0 mX9_ownerFrom 0 [(0, fz_i 2), (1, fz_i 1)] [] h (qX9_ownerFrom_2_1 h) := by
  refine fz_iload_n kX9_ownerFrom rfl rfl ?_
  refine fz_istore_n (ls' := [(2, fz_i 2), (0, fz_i 2), (1, fz_i 1)]) kX9_ownerFrom rfl (by decide) rfl ?_
  refine fz_iconst ⟨by decide, by decide⟩ kX9_ownerFrom rfl ?_
  refine fz_istore_n (ls' := [(3, fz_i 0), (2, fz_i 2), (0, fz_i 2), (1, fz_i 1)]) kX9_ownerFrom rfl (by decide) rfl ?_
  refine fz_iload_n kX9_ownerFrom rfl rfl ?_
  refine fz_bipush ⟨by decide, by decide⟩ kX9_ownerFrom rfl ?_
  refine fz_icmp_ge (tgt := 38) kX9_ownerFrom rfl (by decide) (fun c1 => ?_) (fun c1 => ?_)
  · exfalso; omega
  · refine fz_iload_n kX9_ownerFrom rfl rfl ?_
    refine fz_if_le (tgt := 38) kX9_ownerFrom rfl (by decide) (fun c2 => ?_) (fun c2 => ?_)
    · exfalso; omega
    · refine fz_gets kX9_ownerFrom rfl ?_
      refine fz_iload_n kX9_ownerFrom rfl rfl ?_
      refine fz_iconst ⟨by decide, by decide⟩ kX9_ownerFrom rfl ?_
      refine fz_imulN kX9_ownerFrom rfl ⟨by decide, by decide⟩ ?_
      refine fz_eqi (y := 8) rfl ?_
      refine fz_iload_n kX9_ownerFrom rfl rfl ?_
      refine fz_iaddN kX9_ownerFrom rfl ⟨by decide, by decide⟩ ?_
      refine fz_eqi (y := 9) rfl ?_
      refine fz_taldV (v := 30) kX9_ownerFrom rfl ⟨by decide, by decide⟩ (by omega) (by rw [hI.2.2.2.1]; decide) (by rw [hI.2.2.2.1]; rfl) ?_
      refine fz_if_ne (tgt := 38) kX9_ownerFrom rfl (by decide) (fun c5 => ?_) (fun c5 => ?_)
      · refine fz_iload_n kX9_ownerFrom rfl rfl ?_
        exact fz_iret kX9_ownerFrom rfl rfl (fun _ => ⟨rfl, _, rfl, (by omega)⟩)
      · exfalso; omega

abbrev qX9_ownerFrom_2_2 (h : fz_H) : fz_H → Option fz_V → Prop := fun h' r0 => h' = h ∧ ∃ r : Int, r0 = some (fz_i r) ∧ (0 ≤ r ∧ r ≤ 0)
set_option maxHeartbeats 1000000 in
set_option maxRecDepth 100000 in
theorem sX9_ownerFrom_2_2 (h : fz_H) (hI : fz_Iv h) : fz_R 0 mX9_ownerFrom 0 [(0, fz_i 2), (1, fz_i 2)] [] h (qX9_ownerFrom_2_2 h) := by
  refine fz_iload_n kX9_ownerFrom rfl rfl ?_
  refine fz_istore_n (ls' := [(2, fz_i 2), (0, fz_i 2), (1, fz_i 2)]) kX9_ownerFrom rfl (by decide) rfl ?_
  refine fz_iconst ⟨by decide, by decide⟩ kX9_ownerFrom rfl ?_
  refine fz_istore_n (ls' := [(3, fz_i 0), (2, fz_i 2), (0, fz_i 2), (1, fz_i 2)]) kX9_ownerFrom rfl (by decide) rfl ?_
  refine fz_iload_n kX9_ownerFrom rfl rfl ?_
  refine fz_bipush ⟨by decide, by decide⟩ kX9_ownerFrom rfl ?_
  refine fz_icmp_ge (tgt := 38) kX9_ownerFrom rfl (by decide) (fun c1 => ?_) (fun c1 => ?_)
  · exfalso; omega
  · refine fz_iload_n kX9_ownerFrom rfl rfl ?_
    refine fz_if_le (tgt := 38) kX9_ownerFrom rfl (by decide) (fun c2 => ?_) (fun c2 => ?_)
    · exfalso; omega
    · refine fz_gets kX9_ownerFrom rfl ?_
      refine fz_iload_n kX9_ownerFrom rfl rfl ?_
      refine fz_iconst ⟨by decide, by decide⟩ kX9_ownerFrom rfl ?_
      refine fz_imulN kX9_ownerFrom rfl ⟨by decide, by decide⟩ ?_
      refine fz_eqi (y := 8) rfl ?_
      refine fz_iload_n kX9_ownerFrom rfl rfl ?_
      refine fz_iaddN kX9_ownerFrom rfl ⟨by decide, by decide⟩ ?_
      refine fz_eqi (y := 10) rfl ?_
      refine fz_taldV (v := 0) kX9_ownerFrom rfl ⟨by decide, by decide⟩ (by omega) (by rw [hI.2.2.2.1]; decide) (by rw [hI.2.2.2.1]; rfl) ?_
      refine fz_if_ne (tgt := 38) kX9_ownerFrom rfl (by decide) (fun c5 => ?_) (fun c5 => ?_)
      · exfalso; omega
      · refine fz_gets kX9_ownerFrom rfl ?_
        refine fz_iload_n kX9_ownerFrom rfl rfl ?_
        refine fz_taldV (v := 0) kX9_ownerFrom rfl ⟨by decide, by decide⟩ (by omega) (by rw [hI.2.2.2.2]; decide) (by rw [hI.2.2.2.2]; rfl) ?_
        refine fz_istore_n (ls' := [(2, fz_i 0), (3, fz_i 0), (0, fz_i 2), (1, fz_i 2)]) kX9_ownerFrom rfl (by decide) rfl ?_
        refine fz_iincN (ls' := [(3, fz_i (0 + 1)), (2, fz_i 0), (0, fz_i 2), (1, fz_i 2)]) kX9_ownerFrom rfl (by decide) rfl (by omega) rfl ?_
        refine fz_goto (tgt := 4) kX9_ownerFrom rfl (by decide) ?_
        refine fz_iload_n kX9_ownerFrom rfl rfl ?_
        refine fz_bipush ⟨by decide, by decide⟩ kX9_ownerFrom rfl ?_
        refine fz_icmp_ge (tgt := 38) kX9_ownerFrom rfl (by decide) (fun c8 => ?_) (fun c8 => ?_)
        · exfalso; omega
        · refine fz_iload_n kX9_ownerFrom rfl rfl ?_
          refine fz_if_le (tgt := 38) kX9_ownerFrom rfl (by decide) (fun c9 => ?_) (fun c9 => ?_)
          · refine fz_iload_n kX9_ownerFrom rfl rfl ?_
            exact fz_iret kX9_ownerFrom rfl rfl (fun _ => ⟨rfl, _, rfl, (by omega)⟩)
          · exfalso; omega

abbrev qX9_ownerFrom_2_3 (h : fz_H) : fz_H → Option fz_V → Prop := fun h' r0 => h' = h ∧ ∃ r : Int, r0 = some (fz_i r) ∧ (0 ≤ r ∧ r ≤ 0)
set_option maxHeartbeats 1000000 in
set_option maxRecDepth 100000 in
theorem sX9_ownerFrom_2_3 (h : fz_H) (hI : fz_Iv h) : fz_R 0 mX9_ownerFrom 0 [(0, fz_i 2), (1, fz_i 3)] [] h (qX9_ownerFrom_2_3 h) := by
  refine fz_iload_n kX9_ownerFrom rfl rfl ?_
  refine fz_istore_n (ls' := [(2, fz_i 2), (0, fz_i 2), (1, fz_i 3)]) kX9_ownerFrom rfl (by decide) rfl ?_
  refine fz_iconst ⟨by decide, by decide⟩ kX9_ownerFrom rfl ?_
  refine fz_istore_n (ls' := [(3, fz_i 0), (2, fz_i 2), (0, fz_i 2), (1, fz_i 3)]) kX9_ownerFrom rfl (by decide) rfl ?_
  refine fz_iload_n kX9_ownerFrom rfl rfl ?_
  refine fz_bipush ⟨by decide, by decide⟩ kX9_ownerFrom rfl ?_
  refine fz_icmp_ge (tgt := 38) kX9_ownerFrom rfl (by decide) (fun c1 => ?_) (fun c1 => ?_)
  · exfalso; omega
  · refine fz_iload_n kX9_ownerFrom rfl rfl ?_
    refine fz_if_le (tgt := 38) kX9_ownerFrom rfl (by decide) (fun c2 => ?_) (fun c2 => ?_)
    · exfalso; omega
    · refine fz_gets kX9_ownerFrom rfl ?_
      refine fz_iload_n kX9_ownerFrom rfl rfl ?_
      refine fz_iconst ⟨by decide, by decide⟩ kX9_ownerFrom rfl ?_
      refine fz_imulN kX9_ownerFrom rfl ⟨by decide, by decide⟩ ?_
      refine fz_eqi (y := 8) rfl ?_
      refine fz_iload_n kX9_ownerFrom rfl rfl ?_
      refine fz_iaddN kX9_ownerFrom rfl ⟨by decide, by decide⟩ ?_
      refine fz_eqi (y := 11) rfl ?_
      refine fz_taldV (v := 0) kX9_ownerFrom rfl ⟨by decide, by decide⟩ (by omega) (by rw [hI.2.2.2.1]; decide) (by rw [hI.2.2.2.1]; rfl) ?_
      refine fz_if_ne (tgt := 38) kX9_ownerFrom rfl (by decide) (fun c5 => ?_) (fun c5 => ?_)
      · exfalso; omega
      · refine fz_gets kX9_ownerFrom rfl ?_
        refine fz_iload_n kX9_ownerFrom rfl rfl ?_
        refine fz_taldV (v := 0) kX9_ownerFrom rfl ⟨by decide, by decide⟩ (by omega) (by rw [hI.2.2.2.2]; decide) (by rw [hI.2.2.2.2]; rfl) ?_
        refine fz_istore_n (ls' := [(2, fz_i 0), (3, fz_i 0), (0, fz_i 2), (1, fz_i 3)]) kX9_ownerFrom rfl (by decide) rfl ?_
        refine fz_iincN (ls' := [(3, fz_i (0 + 1)), (2, fz_i 0), (0, fz_i 2), (1, fz_i 3)]) kX9_ownerFrom rfl (by decide) rfl (by omega) rfl ?_
        refine fz_goto (tgt := 4) kX9_ownerFrom rfl (by decide) ?_
        refine fz_iload_n kX9_ownerFrom rfl rfl ?_
        refine fz_bipush ⟨by decide, by decide⟩ kX9_ownerFrom rfl ?_
        refine fz_icmp_ge (tgt := 38) kX9_ownerFrom rfl (by decide) (fun c8 => ?_) (fun c8 => ?_)
        · exfalso; omega
        · refine fz_iload_n kX9_ownerFrom rfl rfl ?_
          refine fz_if_le (tgt := 38) kX9_ownerFrom rfl (by decide) (fun c9 => ?_) (fun c9 => ?_)
          · refine fz_iload_n kX9_ownerFrom rfl rfl ?_
            exact fz_iret kX9_ownerFrom rfl rfl (fun _ => ⟨rfl, _, rfl, (by omega)⟩)
          · exfalso; omega

abbrev qX9_ownerFrom_3_0 (h : fz_H) : fz_H → Option fz_V → Prop := fun h' r0 => h' = h ∧ ∃ r : Int, r0 = some (fz_i r) ∧ (0 ≤ r ∧ r ≤ 0)
set_option maxHeartbeats 1000000 in
set_option maxRecDepth 100000 in
theorem sX9_ownerFrom_3_0 (h : fz_H) (hI : fz_Iv h) : fz_R 0 mX9_ownerFrom 0 [(0, fz_i 3), (1, fz_i 0)] [] h (qX9_ownerFrom_3_0 h) := by
  refine fz_iload_n kX9_ownerFrom rfl rfl ?_
  refine fz_istore_n (ls' := [(2, fz_i 3), (0, fz_i 3), (1, fz_i 0)]) kX9_ownerFrom rfl (by decide) rfl ?_
  refine fz_iconst ⟨by decide, by decide⟩ kX9_ownerFrom rfl ?_
  refine fz_istore_n (ls' := [(3, fz_i 0), (2, fz_i 3), (0, fz_i 3), (1, fz_i 0)]) kX9_ownerFrom rfl (by decide) rfl ?_
  refine fz_iload_n kX9_ownerFrom rfl rfl ?_
  refine fz_bipush ⟨by decide, by decide⟩ kX9_ownerFrom rfl ?_
  refine fz_icmp_ge (tgt := 38) kX9_ownerFrom rfl (by decide) (fun c1 => ?_) (fun c1 => ?_)
  · exfalso; omega
  · refine fz_iload_n kX9_ownerFrom rfl rfl ?_
    refine fz_if_le (tgt := 38) kX9_ownerFrom rfl (by decide) (fun c2 => ?_) (fun c2 => ?_)
    · exfalso; omega
    · refine fz_gets kX9_ownerFrom rfl ?_
      refine fz_iload_n kX9_ownerFrom rfl rfl ?_
      refine fz_iconst ⟨by decide, by decide⟩ kX9_ownerFrom rfl ?_
      refine fz_imulN kX9_ownerFrom rfl ⟨by decide, by decide⟩ ?_
      refine fz_eqi (y := 12) rfl ?_
      refine fz_iload_n kX9_ownerFrom rfl rfl ?_
      refine fz_iaddN kX9_ownerFrom rfl ⟨by decide, by decide⟩ ?_
      refine fz_eqi (y := 12) rfl ?_
      refine fz_taldV (v := 0) kX9_ownerFrom rfl ⟨by decide, by decide⟩ (by omega) (by rw [hI.2.2.2.1]; decide) (by rw [hI.2.2.2.1]; rfl) ?_
      refine fz_if_ne (tgt := 38) kX9_ownerFrom rfl (by decide) (fun c5 => ?_) (fun c5 => ?_)
      · exfalso; omega
      · refine fz_gets kX9_ownerFrom rfl ?_
        refine fz_iload_n kX9_ownerFrom rfl rfl ?_
        refine fz_taldV (v := 2) kX9_ownerFrom rfl ⟨by decide, by decide⟩ (by omega) (by rw [hI.2.2.2.2]; decide) (by rw [hI.2.2.2.2]; rfl) ?_
        refine fz_istore_n (ls' := [(2, fz_i 2), (3, fz_i 0), (0, fz_i 3), (1, fz_i 0)]) kX9_ownerFrom rfl (by decide) rfl ?_
        refine fz_iincN (ls' := [(3, fz_i (0 + 1)), (2, fz_i 2), (0, fz_i 3), (1, fz_i 0)]) kX9_ownerFrom rfl (by decide) rfl (by omega) rfl ?_
        refine fz_goto (tgt := 4) kX9_ownerFrom rfl (by decide) ?_
        refine fz_iload_n kX9_ownerFrom rfl rfl ?_
        refine fz_bipush ⟨by decide, by decide⟩ kX9_ownerFrom rfl ?_
        refine fz_icmp_ge (tgt := 38) kX9_ownerFrom rfl (by decide) (fun c8 => ?_) (fun c8 => ?_)
        · exfalso; omega
        · refine fz_iload_n kX9_ownerFrom rfl rfl ?_
          refine fz_if_le (tgt := 38) kX9_ownerFrom rfl (by decide) (fun c9 => ?_) (fun c9 => ?_)
          · exfalso; omega
          · refine fz_gets kX9_ownerFrom rfl ?_
            refine fz_iload_n kX9_ownerFrom rfl rfl ?_
            refine fz_iconst ⟨by decide, by decide⟩ kX9_ownerFrom rfl ?_
            refine fz_imulN kX9_ownerFrom rfl ⟨by decide, by decide⟩ ?_
            refine fz_eqi (y := 8) rfl ?_
            refine fz_iload_n kX9_ownerFrom rfl rfl ?_
            refine fz_iaddN kX9_ownerFrom rfl ⟨by decide, by decide⟩ ?_
            refine fz_eqi (y := 8) rfl ?_
            refine fz_taldV (v := 0) kX9_ownerFrom rfl ⟨by decide, by decide⟩ (by omega) (by rw [hI.2.2.2.1]; decide) (by rw [hI.2.2.2.1]; rfl) ?_
            refine fz_if_ne (tgt := 38) kX9_ownerFrom rfl (by decide) (fun c12 => ?_) (fun c12 => ?_)
            · exfalso; omega
            · refine fz_gets kX9_ownerFrom rfl ?_
              refine fz_iload_n kX9_ownerFrom rfl rfl ?_
              refine fz_taldV (v := 0) kX9_ownerFrom rfl ⟨by decide, by decide⟩ (by omega) (by rw [hI.2.2.2.2]; decide) (by rw [hI.2.2.2.2]; rfl) ?_
              refine fz_istore_n (ls' := [(2, fz_i 0), (3, fz_i (0 + 1)), (0, fz_i 3), (1, fz_i 0)]) kX9_ownerFrom rfl (by decide) rfl ?_
              refine fz_iincN (ls' := [(3, fz_i ((0 + 1) + 1)), (2, fz_i 0), (0, fz_i 3), (1, fz_i 0)]) kX9_ownerFrom rfl (by decide) rfl (by omega) rfl ?_
              refine fz_goto (tgt := 4) kX9_ownerFrom rfl (by decide) ?_
              refine fz_iload_n kX9_ownerFrom rfl rfl ?_
              refine fz_bipush ⟨by decide, by decide⟩ kX9_ownerFrom rfl ?_
              refine fz_icmp_ge (tgt := 38) kX9_ownerFrom rfl (by decide) (fun c15 => ?_) (fun c15 => ?_)
              · exfalso; omega
              · refine fz_iload_n kX9_ownerFrom rfl rfl ?_
                refine fz_if_le (tgt := 38) kX9_ownerFrom rfl (by decide) (fun c16 => ?_) (fun c16 => ?_)
                · refine fz_iload_n kX9_ownerFrom rfl rfl ?_
                  exact fz_iret kX9_ownerFrom rfl rfl (fun _ => ⟨rfl, _, rfl, (by omega)⟩)
                · exfalso; omega

abbrev qX9_ownerFrom_3_1 (h : fz_H) : fz_H → Option fz_V → Prop := fun h' r0 => h' = h ∧ ∃ r : Int, r0 = some (fz_i r) ∧ (3 ≤ r ∧ r ≤ 3)
set_option maxHeartbeats 1000000 in
set_option maxRecDepth 100000 in
theorem sX9_ownerFrom_3_1 (h : fz_H) (hI : fz_Iv h) : fz_R 0 mX9_ownerFrom 0 [(0, fz_i 3), (1, fz_i 1)] [] h (qX9_ownerFrom_3_1 h) := by
  refine fz_iload_n kX9_ownerFrom rfl rfl ?_
  refine fz_istore_n (ls' := [(2, fz_i 3), (0, fz_i 3), (1, fz_i 1)]) kX9_ownerFrom rfl (by decide) rfl ?_
  refine fz_iconst ⟨by decide, by decide⟩ kX9_ownerFrom rfl ?_
  refine fz_istore_n (ls' := [(3, fz_i 0), (2, fz_i 3), (0, fz_i 3), (1, fz_i 1)]) kX9_ownerFrom rfl (by decide) rfl ?_
  refine fz_iload_n kX9_ownerFrom rfl rfl ?_
  refine fz_bipush ⟨by decide, by decide⟩ kX9_ownerFrom rfl ?_
  refine fz_icmp_ge (tgt := 38) kX9_ownerFrom rfl (by decide) (fun c1 => ?_) (fun c1 => ?_)
  · exfalso; omega
  · refine fz_iload_n kX9_ownerFrom rfl rfl ?_
    refine fz_if_le (tgt := 38) kX9_ownerFrom rfl (by decide) (fun c2 => ?_) (fun c2 => ?_)
    · exfalso; omega
    · refine fz_gets kX9_ownerFrom rfl ?_
      refine fz_iload_n kX9_ownerFrom rfl rfl ?_
      refine fz_iconst ⟨by decide, by decide⟩ kX9_ownerFrom rfl ?_
      refine fz_imulN kX9_ownerFrom rfl ⟨by decide, by decide⟩ ?_
      refine fz_eqi (y := 12) rfl ?_
      refine fz_iload_n kX9_ownerFrom rfl rfl ?_
      refine fz_iaddN kX9_ownerFrom rfl ⟨by decide, by decide⟩ ?_
      refine fz_eqi (y := 13) rfl ?_
      refine fz_taldV (v := 41) kX9_ownerFrom rfl ⟨by decide, by decide⟩ (by omega) (by rw [hI.2.2.2.1]; decide) (by rw [hI.2.2.2.1]; rfl) ?_
      refine fz_if_ne (tgt := 38) kX9_ownerFrom rfl (by decide) (fun c5 => ?_) (fun c5 => ?_)
      · refine fz_iload_n kX9_ownerFrom rfl rfl ?_
        exact fz_iret kX9_ownerFrom rfl rfl (fun _ => ⟨rfl, _, rfl, (by omega)⟩)
      · exfalso; omega

abbrev qX9_ownerFrom_3_2 (h : fz_H) : fz_H → Option fz_V → Prop := fun h' r0 => h' = h ∧ ∃ r : Int, r0 = some (fz_i r) ∧ (3 ≤ r ∧ r ≤ 3)
set_option maxHeartbeats 1000000 in
set_option maxRecDepth 100000 in
theorem sX9_ownerFrom_3_2 (h : fz_H) (hI : fz_Iv h) : fz_R 0 mX9_ownerFrom 0 [(0, fz_i 3), (1, fz_i 2)] [] h (qX9_ownerFrom_3_2 h) := by
  refine fz_iload_n kX9_ownerFrom rfl rfl ?_
  refine fz_istore_n (ls' := [(2, fz_i 3), (0, fz_i 3), (1, fz_i 2)]) kX9_ownerFrom rfl (by decide) rfl ?_
  refine fz_iconst ⟨by decide, by decide⟩ kX9_ownerFrom rfl ?_
  refine fz_istore_n (ls' := [(3, fz_i 0), (2, fz_i 3), (0, fz_i 3), (1, fz_i 2)]) kX9_ownerFrom rfl (by decide) rfl ?_
  refine fz_iload_n kX9_ownerFrom rfl rfl ?_
  refine fz_bipush ⟨by decide, by decide⟩ kX9_ownerFrom rfl ?_
  refine fz_icmp_ge (tgt := 38) kX9_ownerFrom rfl (by decide) (fun c1 => ?_) (fun c1 => ?_)
  · exfalso; omega
  · refine fz_iload_n kX9_ownerFrom rfl rfl ?_
    refine fz_if_le (tgt := 38) kX9_ownerFrom rfl (by decide) (fun c2 => ?_) (fun c2 => ?_)
    · exfalso; omega
    · refine fz_gets kX9_ownerFrom rfl ?_
      refine fz_iload_n kX9_ownerFrom rfl rfl ?_
      refine fz_iconst ⟨by decide, by decide⟩ kX9_ownerFrom rfl ?_
      refine fz_imulN kX9_ownerFrom rfl ⟨by decide, by decide⟩ ?_
      refine fz_eqi (y := 12) rfl ?_
      refine fz_iload_n kX9_ownerFrom rfl rfl ?_
      refine fz_iaddN kX9_ownerFrom rfl ⟨by decide, by decide⟩ ?_
      refine fz_eqi (y := 14) rfl ?_
      refine fz_taldV (v := 40) kX9_ownerFrom rfl ⟨by decide, by decide⟩ (by omega) (by rw [hI.2.2.2.1]; decide) (by rw [hI.2.2.2.1]; rfl) ?_
      refine fz_if_ne (tgt := 38) kX9_ownerFrom rfl (by decide) (fun c5 => ?_) (fun c5 => ?_)
      · refine fz_iload_n kX9_ownerFrom rfl rfl ?_
        exact fz_iret kX9_ownerFrom rfl rfl (fun _ => ⟨rfl, _, rfl, (by omega)⟩)
      · exfalso; omega

abbrev qX9_ownerFrom_3_3 (h : fz_H) : fz_H → Option fz_V → Prop := fun h' r0 => h' = h ∧ ∃ r : Int, r0 = some (fz_i r) ∧ (0 ≤ r ∧ r ≤ 0)
set_option maxHeartbeats 1000000 in
set_option maxRecDepth 100000 in
theorem sX9_ownerFrom_3_3 (h : fz_H) (hI : fz_Iv h) : fz_R 0 mX9_ownerFrom 0 [(0, fz_i 3), (1, fz_i 3)] [] h (qX9_ownerFrom_3_3 h) := by
  refine fz_iload_n kX9_ownerFrom rfl rfl ?_
  refine fz_istore_n (ls' := [(2, fz_i 3), (0, fz_i 3), (1, fz_i 3)]) kX9_ownerFrom rfl (by decide) rfl ?_
  refine fz_iconst ⟨by decide, by decide⟩ kX9_ownerFrom rfl ?_
  refine fz_istore_n (ls' := [(3, fz_i 0), (2, fz_i 3), (0, fz_i 3), (1, fz_i 3)]) kX9_ownerFrom rfl (by decide) rfl ?_
  refine fz_iload_n kX9_ownerFrom rfl rfl ?_
  refine fz_bipush ⟨by decide, by decide⟩ kX9_ownerFrom rfl ?_
  refine fz_icmp_ge (tgt := 38) kX9_ownerFrom rfl (by decide) (fun c1 => ?_) (fun c1 => ?_)
  · exfalso; omega
  · refine fz_iload_n kX9_ownerFrom rfl rfl ?_
    refine fz_if_le (tgt := 38) kX9_ownerFrom rfl (by decide) (fun c2 => ?_) (fun c2 => ?_)
    · exfalso; omega
    · refine fz_gets kX9_ownerFrom rfl ?_
      refine fz_iload_n kX9_ownerFrom rfl rfl ?_
      refine fz_iconst ⟨by decide, by decide⟩ kX9_ownerFrom rfl ?_
      refine fz_imulN kX9_ownerFrom rfl ⟨by decide, by decide⟩ ?_
      refine fz_eqi (y := 12) rfl ?_
      refine fz_iload_n kX9_ownerFrom rfl rfl ?_
      refine fz_iaddN kX9_ownerFrom rfl ⟨by decide, by decide⟩ ?_
      refine fz_eqi (y := 15) rfl ?_
      refine fz_taldV (v := 0) kX9_ownerFrom rfl ⟨by decide, by decide⟩ (by omega) (by rw [hI.2.2.2.1]; decide) (by rw [hI.2.2.2.1]; rfl) ?_
      refine fz_if_ne (tgt := 38) kX9_ownerFrom rfl (by decide) (fun c5 => ?_) (fun c5 => ?_)
      · exfalso; omega
      · refine fz_gets kX9_ownerFrom rfl ?_
        refine fz_iload_n kX9_ownerFrom rfl rfl ?_
        refine fz_taldV (v := 2) kX9_ownerFrom rfl ⟨by decide, by decide⟩ (by omega) (by rw [hI.2.2.2.2]; decide) (by rw [hI.2.2.2.2]; rfl) ?_
        refine fz_istore_n (ls' := [(2, fz_i 2), (3, fz_i 0), (0, fz_i 3), (1, fz_i 3)]) kX9_ownerFrom rfl (by decide) rfl ?_
        refine fz_iincN (ls' := [(3, fz_i (0 + 1)), (2, fz_i 2), (0, fz_i 3), (1, fz_i 3)]) kX9_ownerFrom rfl (by decide) rfl (by omega) rfl ?_
        refine fz_goto (tgt := 4) kX9_ownerFrom rfl (by decide) ?_
        refine fz_iload_n kX9_ownerFrom rfl rfl ?_
        refine fz_bipush ⟨by decide, by decide⟩ kX9_ownerFrom rfl ?_
        refine fz_icmp_ge (tgt := 38) kX9_ownerFrom rfl (by decide) (fun c8 => ?_) (fun c8 => ?_)
        · exfalso; omega
        · refine fz_iload_n kX9_ownerFrom rfl rfl ?_
          refine fz_if_le (tgt := 38) kX9_ownerFrom rfl (by decide) (fun c9 => ?_) (fun c9 => ?_)
          · exfalso; omega
          · refine fz_gets kX9_ownerFrom rfl ?_
            refine fz_iload_n kX9_ownerFrom rfl rfl ?_
            refine fz_iconst ⟨by decide, by decide⟩ kX9_ownerFrom rfl ?_
            refine fz_imulN kX9_ownerFrom rfl ⟨by decide, by decide⟩ ?_
            refine fz_eqi (y := 8) rfl ?_
            refine fz_iload_n kX9_ownerFrom rfl rfl ?_
            refine fz_iaddN kX9_ownerFrom rfl ⟨by decide, by decide⟩ ?_
            refine fz_eqi (y := 11) rfl ?_
            refine fz_taldV (v := 0) kX9_ownerFrom rfl ⟨by decide, by decide⟩ (by omega) (by rw [hI.2.2.2.1]; decide) (by rw [hI.2.2.2.1]; rfl) ?_
            refine fz_if_ne (tgt := 38) kX9_ownerFrom rfl (by decide) (fun c12 => ?_) (fun c12 => ?_)
            · exfalso; omega
            · refine fz_gets kX9_ownerFrom rfl ?_
              refine fz_iload_n kX9_ownerFrom rfl rfl ?_
              refine fz_taldV (v := 0) kX9_ownerFrom rfl ⟨by decide, by decide⟩ (by omega) (by rw [hI.2.2.2.2]; decide) (by rw [hI.2.2.2.2]; rfl) ?_
              refine fz_istore_n (ls' := [(2, fz_i 0), (3, fz_i (0 + 1)), (0, fz_i 3), (1, fz_i 3)]) kX9_ownerFrom rfl (by decide) rfl ?_
              refine fz_iincN (ls' := [(3, fz_i ((0 + 1) + 1)), (2, fz_i 0), (0, fz_i 3), (1, fz_i 3)]) kX9_ownerFrom rfl (by decide) rfl (by omega) rfl ?_
              refine fz_goto (tgt := 4) kX9_ownerFrom rfl (by decide) ?_
              refine fz_iload_n kX9_ownerFrom rfl rfl ?_
              refine fz_bipush ⟨by decide, by decide⟩ kX9_ownerFrom rfl ?_
              refine fz_icmp_ge (tgt := 38) kX9_ownerFrom rfl (by decide) (fun c15 => ?_) (fun c15 => ?_)
              · exfalso; omega
              · refine fz_iload_n kX9_ownerFrom rfl rfl ?_
                refine fz_if_le (tgt := 38) kX9_ownerFrom rfl (by decide) (fun c16 => ?_) (fun c16 => ?_)
                · refine fz_iload_n kX9_ownerFrom rfl rfl ?_
                  exact fz_iret kX9_ownerFrom rfl rfl (fun _ => ⟨rfl, _, rfl, (by omega)⟩)
                · exfalso; omega

abbrev qX9_ownerFrom_4_0 (h : fz_H) : fz_H → Option fz_V → Prop := fun h' r0 => h' = h ∧ ∃ r : Int, r0 = some (fz_i r) ∧ (1 ≤ r ∧ r ≤ 1)
set_option maxHeartbeats 1000000 in
set_option maxRecDepth 100000 in
theorem sX9_ownerFrom_4_0 (h : fz_H) (hI : fz_Iv h) : fz_R 0 mX9_ownerFrom 0 [(0, fz_i 4), (1, fz_i 0)] [] h (qX9_ownerFrom_4_0 h) := by
  refine fz_iload_n kX9_ownerFrom rfl rfl ?_
  refine fz_istore_n (ls' := [(2, fz_i 4), (0, fz_i 4), (1, fz_i 0)]) kX9_ownerFrom rfl (by decide) rfl ?_
  refine fz_iconst ⟨by decide, by decide⟩ kX9_ownerFrom rfl ?_
  refine fz_istore_n (ls' := [(3, fz_i 0), (2, fz_i 4), (0, fz_i 4), (1, fz_i 0)]) kX9_ownerFrom rfl (by decide) rfl ?_
  refine fz_iload_n kX9_ownerFrom rfl rfl ?_
  refine fz_bipush ⟨by decide, by decide⟩ kX9_ownerFrom rfl ?_
  refine fz_icmp_ge (tgt := 38) kX9_ownerFrom rfl (by decide) (fun c1 => ?_) (fun c1 => ?_)
  · exfalso; omega
  · refine fz_iload_n kX9_ownerFrom rfl rfl ?_
    refine fz_if_le (tgt := 38) kX9_ownerFrom rfl (by decide) (fun c2 => ?_) (fun c2 => ?_)
    · exfalso; omega
    · refine fz_gets kX9_ownerFrom rfl ?_
      refine fz_iload_n kX9_ownerFrom rfl rfl ?_
      refine fz_iconst ⟨by decide, by decide⟩ kX9_ownerFrom rfl ?_
      refine fz_imulN kX9_ownerFrom rfl ⟨by decide, by decide⟩ ?_
      refine fz_eqi (y := 16) rfl ?_
      refine fz_iload_n kX9_ownerFrom rfl rfl ?_
      refine fz_iaddN kX9_ownerFrom rfl ⟨by decide, by decide⟩ ?_
      refine fz_eqi (y := 16) rfl ?_
      refine fz_taldV (v := 0) kX9_ownerFrom rfl ⟨by decide, by decide⟩ (by omega) (by rw [hI.2.2.2.1]; decide) (by rw [hI.2.2.2.1]; rfl) ?_
      refine fz_if_ne (tgt := 38) kX9_ownerFrom rfl (by decide) (fun c5 => ?_) (fun c5 => ?_)
      · exfalso; omega
      · refine fz_gets kX9_ownerFrom rfl ?_
        refine fz_iload_n kX9_ownerFrom rfl rfl ?_
        refine fz_taldV (v := 1) kX9_ownerFrom rfl ⟨by decide, by decide⟩ (by omega) (by rw [hI.2.2.2.2]; decide) (by rw [hI.2.2.2.2]; rfl) ?_
        refine fz_istore_n (ls' := [(2, fz_i 1), (3, fz_i 0), (0, fz_i 4), (1, fz_i 0)]) kX9_ownerFrom rfl (by decide) rfl ?_
        refine fz_iincN (ls' := [(3, fz_i (0 + 1)), (2, fz_i 1), (0, fz_i 4), (1, fz_i 0)]) kX9_ownerFrom rfl (by decide) rfl (by omega) rfl ?_
        refine fz_goto (tgt := 4) kX9_ownerFrom rfl (by decide) ?_
        refine fz_iload_n kX9_ownerFrom rfl rfl ?_
        refine fz_bipush ⟨by decide, by decide⟩ kX9_ownerFrom rfl ?_
        refine fz_icmp_ge (tgt := 38) kX9_ownerFrom rfl (by decide) (fun c8 => ?_) (fun c8 => ?_)
        · exfalso; omega
        · refine fz_iload_n kX9_ownerFrom rfl rfl ?_
          refine fz_if_le (tgt := 38) kX9_ownerFrom rfl (by decide) (fun c9 => ?_) (fun c9 => ?_)
          · exfalso; omega
          · refine fz_gets kX9_ownerFrom rfl ?_
            refine fz_iload_n kX9_ownerFrom rfl rfl ?_
            refine fz_iconst ⟨by decide, by decide⟩ kX9_ownerFrom rfl ?_
            refine fz_imulN kX9_ownerFrom rfl ⟨by decide, by decide⟩ ?_
            refine fz_eqi (y := 4) rfl ?_
            refine fz_iload_n kX9_ownerFrom rfl rfl ?_
            refine fz_iaddN kX9_ownerFrom rfl ⟨by decide, by decide⟩ ?_
            refine fz_eqi (y := 4) rfl ?_
            refine fz_taldV (v := 20) kX9_ownerFrom rfl ⟨by decide, by decide⟩ (by omega) (by rw [hI.2.2.2.1]; decide) (by rw [hI.2.2.2.1]; rfl) ?_
            refine fz_if_ne (tgt := 38) kX9_ownerFrom rfl (by decide) (fun c12 => ?_) (fun c12 => ?_)
            · refine fz_iload_n kX9_ownerFrom rfl rfl ?_
              exact fz_iret kX9_ownerFrom rfl rfl (fun _ => ⟨rfl, _, rfl, (by omega)⟩)
            · exfalso; omega

abbrev qX9_ownerFrom_4_1 (h : fz_H) : fz_H → Option fz_V → Prop := fun h' r0 => h' = h ∧ ∃ r : Int, r0 = some (fz_i r) ∧ (0 ≤ r ∧ r ≤ 0)
set_option maxHeartbeats 1000000 in
set_option maxRecDepth 100000 in
theorem sX9_ownerFrom_4_1 (h : fz_H) (hI : fz_Iv h) : fz_R 0 mX9_ownerFrom 0 [(0, fz_i 4), (1, fz_i 1)] [] h (qX9_ownerFrom_4_1 h) := by
  refine fz_iload_n kX9_ownerFrom rfl rfl ?_
  refine fz_istore_n (ls' := [(2, fz_i 4), (0, fz_i 4), (1, fz_i 1)]) kX9_ownerFrom rfl (by decide) rfl ?_
  refine fz_iconst ⟨by decide, by decide⟩ kX9_ownerFrom rfl ?_
  refine fz_istore_n (ls' := [(3, fz_i 0), (2, fz_i 4), (0, fz_i 4), (1, fz_i 1)]) kX9_ownerFrom rfl (by decide) rfl ?_
  refine fz_iload_n kX9_ownerFrom rfl rfl ?_
  refine fz_bipush ⟨by decide, by decide⟩ kX9_ownerFrom rfl ?_
  refine fz_icmp_ge (tgt := 38) kX9_ownerFrom rfl (by decide) (fun c1 => ?_) (fun c1 => ?_)
  · exfalso; omega
  · refine fz_iload_n kX9_ownerFrom rfl rfl ?_
    refine fz_if_le (tgt := 38) kX9_ownerFrom rfl (by decide) (fun c2 => ?_) (fun c2 => ?_)
    · exfalso; omega
    · refine fz_gets kX9_ownerFrom rfl ?_
      refine fz_iload_n kX9_ownerFrom rfl rfl ?_
      refine fz_iconst ⟨by decide, by decide⟩ kX9_ownerFrom rfl ?_
      refine fz_imulN kX9_ownerFrom rfl ⟨by decide, by decide⟩ ?_
      refine fz_eqi (y := 16) rfl ?_
      refine fz_iload_n kX9_ownerFrom rfl rfl ?_
      refine fz_iaddN kX9_ownerFrom rfl ⟨by decide, by decide⟩ ?_
      refine fz_eqi (y := 17) rfl ?_
      refine fz_taldV (v := 0) kX9_ownerFrom rfl ⟨by decide, by decide⟩ (by omega) (by rw [hI.2.2.2.1]; decide) (by rw [hI.2.2.2.1]; rfl) ?_
      refine fz_if_ne (tgt := 38) kX9_ownerFrom rfl (by decide) (fun c5 => ?_) (fun c5 => ?_)
      · exfalso; omega
      · refine fz_gets kX9_ownerFrom rfl ?_
        refine fz_iload_n kX9_ownerFrom rfl rfl ?_
        refine fz_taldV (v := 1) kX9_ownerFrom rfl ⟨by decide, by decide⟩ (by omega) (by rw [hI.2.2.2.2]; decide) (by rw [hI.2.2.2.2]; rfl) ?_
        refine fz_istore_n (ls' := [(2, fz_i 1), (3, fz_i 0), (0, fz_i 4), (1, fz_i 1)]) kX9_ownerFrom rfl (by decide) rfl ?_
        refine fz_iincN (ls' := [(3, fz_i (0 + 1)), (2, fz_i 1), (0, fz_i 4), (1, fz_i 1)]) kX9_ownerFrom rfl (by decide) rfl (by omega) rfl ?_
        refine fz_goto (tgt := 4) kX9_ownerFrom rfl (by decide) ?_
        refine fz_iload_n kX9_ownerFrom rfl rfl ?_
        refine fz_bipush ⟨by decide, by decide⟩ kX9_ownerFrom rfl ?_
        refine fz_icmp_ge (tgt := 38) kX9_ownerFrom rfl (by decide) (fun c8 => ?_) (fun c8 => ?_)
        · exfalso; omega
        · refine fz_iload_n kX9_ownerFrom rfl rfl ?_
          refine fz_if_le (tgt := 38) kX9_ownerFrom rfl (by decide) (fun c9 => ?_) (fun c9 => ?_)
          · exfalso; omega
          · refine fz_gets kX9_ownerFrom rfl ?_
            refine fz_iload_n kX9_ownerFrom rfl rfl ?_
            refine fz_iconst ⟨by decide, by decide⟩ kX9_ownerFrom rfl ?_
            refine fz_imulN kX9_ownerFrom rfl ⟨by decide, by decide⟩ ?_
            refine fz_eqi (y := 4) rfl ?_
            refine fz_iload_n kX9_ownerFrom rfl rfl ?_
            refine fz_iaddN kX9_ownerFrom rfl ⟨by decide, by decide⟩ ?_
            refine fz_eqi (y := 5) rfl ?_
            refine fz_taldV (v := 0) kX9_ownerFrom rfl ⟨by decide, by decide⟩ (by omega) (by rw [hI.2.2.2.1]; decide) (by rw [hI.2.2.2.1]; rfl) ?_
            refine fz_if_ne (tgt := 38) kX9_ownerFrom rfl (by decide) (fun c12 => ?_) (fun c12 => ?_)
            · exfalso; omega
            · refine fz_gets kX9_ownerFrom rfl ?_
              refine fz_iload_n kX9_ownerFrom rfl rfl ?_
              refine fz_taldV (v := 0) kX9_ownerFrom rfl ⟨by decide, by decide⟩ (by omega) (by rw [hI.2.2.2.2]; decide) (by rw [hI.2.2.2.2]; rfl) ?_
              refine fz_istore_n (ls' := [(2, fz_i 0), (3, fz_i (0 + 1)), (0, fz_i 4), (1, fz_i 1)]) kX9_ownerFrom rfl (by decide) rfl ?_
              refine fz_iincN (ls' := [(3, fz_i ((0 + 1) + 1)), (2, fz_i 0), (0, fz_i 4), (1, fz_i 1)]) kX9_ownerFrom rfl (by decide) rfl (by omega) rfl ?_
              refine fz_goto (tgt := 4) kX9_ownerFrom rfl (by decide) ?_
              refine fz_iload_n kX9_ownerFrom rfl rfl ?_
              refine fz_bipush ⟨by decide, by decide⟩ kX9_ownerFrom rfl ?_
              refine fz_icmp_ge (tgt := 38) kX9_ownerFrom rfl (by decide) (fun c15 => ?_) (fun c15 => ?_)
              · exfalso; omega
              · refine fz_iload_n kX9_ownerFrom rfl rfl ?_
                refine fz_if_le (tgt := 38) kX9_ownerFrom rfl (by decide) (fun c16 => ?_) (fun c16 => ?_)
                · refine fz_iload_n kX9_ownerFrom rfl rfl ?_
                  exact fz_iret kX9_ownerFrom rfl rfl (fun _ => ⟨rfl, _, rfl, (by omega)⟩)
                · exfalso; omega

abbrev qX9_ownerFrom_4_2 (h : fz_H) : fz_H → Option fz_V → Prop := fun h' r0 => h' = h ∧ ∃ r : Int, r0 = some (fz_i r) ∧ (4 ≤ r ∧ r ≤ 4)
set_option maxHeartbeats 1000000 in
set_option maxRecDepth 100000 in
theorem sX9_ownerFrom_4_2 (h : fz_H) (hI : fz_Iv h) : fz_R 0 mX9_ownerFrom 0 [(0, fz_i 4), (1, fz_i 2)] [] h (qX9_ownerFrom_4_2 h) := by
  refine fz_iload_n kX9_ownerFrom rfl rfl ?_
  refine fz_istore_n (ls' := [(2, fz_i 4), (0, fz_i 4), (1, fz_i 2)]) kX9_ownerFrom rfl (by decide) rfl ?_
  refine fz_iconst ⟨by decide, by decide⟩ kX9_ownerFrom rfl ?_
  refine fz_istore_n (ls' := [(3, fz_i 0), (2, fz_i 4), (0, fz_i 4), (1, fz_i 2)]) kX9_ownerFrom rfl (by decide) rfl ?_
  refine fz_iload_n kX9_ownerFrom rfl rfl ?_
  refine fz_bipush ⟨by decide, by decide⟩ kX9_ownerFrom rfl ?_
  refine fz_icmp_ge (tgt := 38) kX9_ownerFrom rfl (by decide) (fun c1 => ?_) (fun c1 => ?_)
  · exfalso; omega
  · refine fz_iload_n kX9_ownerFrom rfl rfl ?_
    refine fz_if_le (tgt := 38) kX9_ownerFrom rfl (by decide) (fun c2 => ?_) (fun c2 => ?_)
    · exfalso; omega
    · refine fz_gets kX9_ownerFrom rfl ?_
      refine fz_iload_n kX9_ownerFrom rfl rfl ?_
      refine fz_iconst ⟨by decide, by decide⟩ kX9_ownerFrom rfl ?_
      refine fz_imulN kX9_ownerFrom rfl ⟨by decide, by decide⟩ ?_
      refine fz_eqi (y := 16) rfl ?_
      refine fz_iload_n kX9_ownerFrom rfl rfl ?_
      refine fz_iaddN kX9_ownerFrom rfl ⟨by decide, by decide⟩ ?_
      refine fz_eqi (y := 18) rfl ?_
      refine fz_taldV (v := 50) kX9_ownerFrom rfl ⟨by decide, by decide⟩ (by omega) (by rw [hI.2.2.2.1]; decide) (by rw [hI.2.2.2.1]; rfl) ?_
      refine fz_if_ne (tgt := 38) kX9_ownerFrom rfl (by decide) (fun c5 => ?_) (fun c5 => ?_)
      · refine fz_iload_n kX9_ownerFrom rfl rfl ?_
        exact fz_iret kX9_ownerFrom rfl rfl (fun _ => ⟨rfl, _, rfl, (by omega)⟩)
      · exfalso; omega

abbrev qX9_ownerFrom_4_3 (h : fz_H) : fz_H → Option fz_V → Prop := fun h' r0 => h' = h ∧ ∃ r : Int, r0 = some (fz_i r) ∧ (0 ≤ r ∧ r ≤ 0)
set_option maxHeartbeats 1000000 in
set_option maxRecDepth 100000 in
theorem sX9_ownerFrom_4_3 (h : fz_H) (hI : fz_Iv h) : fz_R 0 mX9_ownerFrom 0 [(0, fz_i 4), (1, fz_i 3)] [] h (qX9_ownerFrom_4_3 h) := by
  refine fz_iload_n kX9_ownerFrom rfl rfl ?_
  refine fz_istore_n (ls' := [(2, fz_i 4), (0, fz_i 4), (1, fz_i 3)]) kX9_ownerFrom rfl (by decide) rfl ?_
  refine fz_iconst ⟨by decide, by decide⟩ kX9_ownerFrom rfl ?_
  refine fz_istore_n (ls' := [(3, fz_i 0), (2, fz_i 4), (0, fz_i 4), (1, fz_i 3)]) kX9_ownerFrom rfl (by decide) rfl ?_
  refine fz_iload_n kX9_ownerFrom rfl rfl ?_
  refine fz_bipush ⟨by decide, by decide⟩ kX9_ownerFrom rfl ?_
  refine fz_icmp_ge (tgt := 38) kX9_ownerFrom rfl (by decide) (fun c1 => ?_) (fun c1 => ?_)
  · exfalso; omega
  · refine fz_iload_n kX9_ownerFrom rfl rfl ?_
    refine fz_if_le (tgt := 38) kX9_ownerFrom rfl (by decide) (fun c2 => ?_) (fun c2 => ?_)
    · exfalso; omega
    · refine fz_gets kX9_ownerFrom rfl ?_
      refine fz_iload_n kX9_ownerFrom rfl rfl ?_
      refine fz_iconst ⟨by decide, by decide⟩ kX9_ownerFrom rfl ?_
      refine fz_imulN kX9_ownerFrom rfl ⟨by decide, by decide⟩ ?_
      refine fz_eqi (y := 16) rfl ?_
      refine fz_iload_n kX9_ownerFrom rfl rfl ?_
      refine fz_iaddN kX9_ownerFrom rfl ⟨by decide, by decide⟩ ?_
      refine fz_eqi (y := 19) rfl ?_
      refine fz_taldV (v := 0) kX9_ownerFrom rfl ⟨by decide, by decide⟩ (by omega) (by rw [hI.2.2.2.1]; decide) (by rw [hI.2.2.2.1]; rfl) ?_
      refine fz_if_ne (tgt := 38) kX9_ownerFrom rfl (by decide) (fun c5 => ?_) (fun c5 => ?_)
      · exfalso; omega
      · refine fz_gets kX9_ownerFrom rfl ?_
        refine fz_iload_n kX9_ownerFrom rfl rfl ?_
        refine fz_taldV (v := 1) kX9_ownerFrom rfl ⟨by decide, by decide⟩ (by omega) (by rw [hI.2.2.2.2]; decide) (by rw [hI.2.2.2.2]; rfl) ?_
        refine fz_istore_n (ls' := [(2, fz_i 1), (3, fz_i 0), (0, fz_i 4), (1, fz_i 3)]) kX9_ownerFrom rfl (by decide) rfl ?_
        refine fz_iincN (ls' := [(3, fz_i (0 + 1)), (2, fz_i 1), (0, fz_i 4), (1, fz_i 3)]) kX9_ownerFrom rfl (by decide) rfl (by omega) rfl ?_
        refine fz_goto (tgt := 4) kX9_ownerFrom rfl (by decide) ?_
        refine fz_iload_n kX9_ownerFrom rfl rfl ?_
        refine fz_bipush ⟨by decide, by decide⟩ kX9_ownerFrom rfl ?_
        refine fz_icmp_ge (tgt := 38) kX9_ownerFrom rfl (by decide) (fun c8 => ?_) (fun c8 => ?_)
        · exfalso; omega
        · refine fz_iload_n kX9_ownerFrom rfl rfl ?_
          refine fz_if_le (tgt := 38) kX9_ownerFrom rfl (by decide) (fun c9 => ?_) (fun c9 => ?_)
          · exfalso; omega
          · refine fz_gets kX9_ownerFrom rfl ?_
            refine fz_iload_n kX9_ownerFrom rfl rfl ?_
            refine fz_iconst ⟨by decide, by decide⟩ kX9_ownerFrom rfl ?_
            refine fz_imulN kX9_ownerFrom rfl ⟨by decide, by decide⟩ ?_
            refine fz_eqi (y := 4) rfl ?_
            refine fz_iload_n kX9_ownerFrom rfl rfl ?_
            refine fz_iaddN kX9_ownerFrom rfl ⟨by decide, by decide⟩ ?_
            refine fz_eqi (y := 7) rfl ?_
            refine fz_taldV (v := 0) kX9_ownerFrom rfl ⟨by decide, by decide⟩ (by omega) (by rw [hI.2.2.2.1]; decide) (by rw [hI.2.2.2.1]; rfl) ?_
            refine fz_if_ne (tgt := 38) kX9_ownerFrom rfl (by decide) (fun c12 => ?_) (fun c12 => ?_)
            · exfalso; omega
            · refine fz_gets kX9_ownerFrom rfl ?_
              refine fz_iload_n kX9_ownerFrom rfl rfl ?_
              refine fz_taldV (v := 0) kX9_ownerFrom rfl ⟨by decide, by decide⟩ (by omega) (by rw [hI.2.2.2.2]; decide) (by rw [hI.2.2.2.2]; rfl) ?_
              refine fz_istore_n (ls' := [(2, fz_i 0), (3, fz_i (0 + 1)), (0, fz_i 4), (1, fz_i 3)]) kX9_ownerFrom rfl (by decide) rfl ?_
              refine fz_iincN (ls' := [(3, fz_i ((0 + 1) + 1)), (2, fz_i 0), (0, fz_i 4), (1, fz_i 3)]) kX9_ownerFrom rfl (by decide) rfl (by omega) rfl ?_
              refine fz_goto (tgt := 4) kX9_ownerFrom rfl (by decide) ?_
              refine fz_iload_n kX9_ownerFrom rfl rfl ?_
              refine fz_bipush ⟨by decide, by decide⟩ kX9_ownerFrom rfl ?_
              refine fz_icmp_ge (tgt := 38) kX9_ownerFrom rfl (by decide) (fun c15 => ?_) (fun c15 => ?_)
              · exfalso; omega
              · refine fz_iload_n kX9_ownerFrom rfl rfl ?_
                refine fz_if_le (tgt := 38) kX9_ownerFrom rfl (by decide) (fun c16 => ?_) (fun c16 => ?_)
                · refine fz_iload_n kX9_ownerFrom rfl rfl ?_
                  exact fz_iret kX9_ownerFrom rfl rfl (fun _ => ⟨rfl, _, rfl, (by omega)⟩)
                · exfalso; omega

abbrev qX9_ownerFrom_5_0 (h : fz_H) : fz_H → Option fz_V → Prop := fun h' r0 => h' = h ∧ ∃ r : Int, r0 = some (fz_i r) ∧ (0 ≤ r ∧ r ≤ 0)
set_option maxHeartbeats 1000000 in
set_option maxRecDepth 100000 in
theorem sX9_ownerFrom_5_0 (h : fz_H) (hI : fz_Iv h) : fz_R 0 mX9_ownerFrom 0 [(0, fz_i 5), (1, fz_i 0)] [] h (qX9_ownerFrom_5_0 h) := by
  refine fz_iload_n kX9_ownerFrom rfl rfl ?_
  refine fz_istore_n (ls' := [(2, fz_i 5), (0, fz_i 5), (1, fz_i 0)]) kX9_ownerFrom rfl (by decide) rfl ?_
  refine fz_iconst ⟨by decide, by decide⟩ kX9_ownerFrom rfl ?_
  refine fz_istore_n (ls' := [(3, fz_i 0), (2, fz_i 5), (0, fz_i 5), (1, fz_i 0)]) kX9_ownerFrom rfl (by decide) rfl ?_
  refine fz_iload_n kX9_ownerFrom rfl rfl ?_
  refine fz_bipush ⟨by decide, by decide⟩ kX9_ownerFrom rfl ?_
  refine fz_icmp_ge (tgt := 38) kX9_ownerFrom rfl (by decide) (fun c1 => ?_) (fun c1 => ?_)
  · exfalso; omega
  · refine fz_iload_n kX9_ownerFrom rfl rfl ?_
    refine fz_if_le (tgt := 38) kX9_ownerFrom rfl (by decide) (fun c2 => ?_) (fun c2 => ?_)
    · exfalso; omega
    · refine fz_gets kX9_ownerFrom rfl ?_
      refine fz_iload_n kX9_ownerFrom rfl rfl ?_
      refine fz_iconst ⟨by decide, by decide⟩ kX9_ownerFrom rfl ?_
      refine fz_imulN kX9_ownerFrom rfl ⟨by decide, by decide⟩ ?_
      refine fz_eqi (y := 20) rfl ?_
      refine fz_iload_n kX9_ownerFrom rfl rfl ?_
      refine fz_iaddN kX9_ownerFrom rfl ⟨by decide, by decide⟩ ?_
      refine fz_eqi (y := 20) rfl ?_
      refine fz_taldV (v := 0) kX9_ownerFrom rfl ⟨by decide, by decide⟩ (by omega) (by rw [hI.2.2.2.1]; decide) (by rw [hI.2.2.2.1]; rfl) ?_
      refine fz_if_ne (tgt := 38) kX9_ownerFrom rfl (by decide) (fun c5 => ?_) (fun c5 => ?_)
      · exfalso; omega
      · refine fz_gets kX9_ownerFrom rfl ?_
        refine fz_iload_n kX9_ownerFrom rfl rfl ?_
        refine fz_taldV (v := 3) kX9_ownerFrom rfl ⟨by decide, by decide⟩ (by omega) (by rw [hI.2.2.2.2]; decide) (by rw [hI.2.2.2.2]; rfl) ?_
        refine fz_istore_n (ls' := [(2, fz_i 3), (3, fz_i 0), (0, fz_i 5), (1, fz_i 0)]) kX9_ownerFrom rfl (by decide) rfl ?_
        refine fz_iincN (ls' := [(3, fz_i (0 + 1)), (2, fz_i 3), (0, fz_i 5), (1, fz_i 0)]) kX9_ownerFrom rfl (by decide) rfl (by omega) rfl ?_
        refine fz_goto (tgt := 4) kX9_ownerFrom rfl (by decide) ?_
        refine fz_iload_n kX9_ownerFrom rfl rfl ?_
        refine fz_bipush ⟨by decide, by decide⟩ kX9_ownerFrom rfl ?_
        refine fz_icmp_ge (tgt := 38) kX9_ownerFrom rfl (by decide) (fun c8 => ?_) (fun c8 => ?_)
        · exfalso; omega
        · refine fz_iload_n kX9_ownerFrom rfl rfl ?_
          refine fz_if_le (tgt := 38) kX9_ownerFrom rfl (by decide) (fun c9 => ?_) (fun c9 => ?_)
          · exfalso; omega
          · refine fz_gets kX9_ownerFrom rfl ?_
            refine fz_iload_n kX9_ownerFrom rfl rfl ?_
            refine fz_iconst ⟨by decide, by decide⟩ kX9_ownerFrom rfl ?_
            refine fz_imulN kX9_ownerFrom rfl ⟨by decide, by decide⟩ ?_
            refine fz_eqi (y := 12) rfl ?_
            refine fz_iload_n kX9_ownerFrom rfl rfl ?_
            refine fz_iaddN kX9_ownerFrom rfl ⟨by decide, by decide⟩ ?_
            refine fz_eqi (y := 12) rfl ?_
            refine fz_taldV (v := 0) kX9_ownerFrom rfl ⟨by decide, by decide⟩ (by omega) (by rw [hI.2.2.2.1]; decide) (by rw [hI.2.2.2.1]; rfl) ?_
            refine fz_if_ne (tgt := 38) kX9_ownerFrom rfl (by decide) (fun c12 => ?_) (fun c12 => ?_)
            · exfalso; omega
            · refine fz_gets kX9_ownerFrom rfl ?_
              refine fz_iload_n kX9_ownerFrom rfl rfl ?_
              refine fz_taldV (v := 2) kX9_ownerFrom rfl ⟨by decide, by decide⟩ (by omega) (by rw [hI.2.2.2.2]; decide) (by rw [hI.2.2.2.2]; rfl) ?_
              refine fz_istore_n (ls' := [(2, fz_i 2), (3, fz_i (0 + 1)), (0, fz_i 5), (1, fz_i 0)]) kX9_ownerFrom rfl (by decide) rfl ?_
              refine fz_iincN (ls' := [(3, fz_i ((0 + 1) + 1)), (2, fz_i 2), (0, fz_i 5), (1, fz_i 0)]) kX9_ownerFrom rfl (by decide) rfl (by omega) rfl ?_
              refine fz_goto (tgt := 4) kX9_ownerFrom rfl (by decide) ?_
              refine fz_iload_n kX9_ownerFrom rfl rfl ?_
              refine fz_bipush ⟨by decide, by decide⟩ kX9_ownerFrom rfl ?_
              refine fz_icmp_ge (tgt := 38) kX9_ownerFrom rfl (by decide) (fun c15 => ?_) (fun c15 => ?_)
              · exfalso; omega
              · refine fz_iload_n kX9_ownerFrom rfl rfl ?_
                refine fz_if_le (tgt := 38) kX9_ownerFrom rfl (by decide) (fun c16 => ?_) (fun c16 => ?_)
                · exfalso; omega
                · refine fz_gets kX9_ownerFrom rfl ?_
                  refine fz_iload_n kX9_ownerFrom rfl rfl ?_
                  refine fz_iconst ⟨by decide, by decide⟩ kX9_ownerFrom rfl ?_
                  refine fz_imulN kX9_ownerFrom rfl ⟨by decide, by decide⟩ ?_
                  refine fz_eqi (y := 8) rfl ?_
                  refine fz_iload_n kX9_ownerFrom rfl rfl ?_
                  refine fz_iaddN kX9_ownerFrom rfl ⟨by decide, by decide⟩ ?_
                  refine fz_eqi (y := 8) rfl ?_
                  refine fz_taldV (v := 0) kX9_ownerFrom rfl ⟨by decide, by decide⟩ (by omega) (by rw [hI.2.2.2.1]; decide) (by rw [hI.2.2.2.1]; rfl) ?_
                  refine fz_if_ne (tgt := 38) kX9_ownerFrom rfl (by decide) (fun c19 => ?_) (fun c19 => ?_)
                  · exfalso; omega
                  · refine fz_gets kX9_ownerFrom rfl ?_
                    refine fz_iload_n kX9_ownerFrom rfl rfl ?_
                    refine fz_taldV (v := 0) kX9_ownerFrom rfl ⟨by decide, by decide⟩ (by omega) (by rw [hI.2.2.2.2]; decide) (by rw [hI.2.2.2.2]; rfl) ?_
                    refine fz_istore_n (ls' := [(2, fz_i 0), (3, fz_i ((0 + 1) + 1)), (0, fz_i 5), (1, fz_i 0)]) kX9_ownerFrom rfl (by decide) rfl ?_
                    refine fz_iincN (ls' := [(3, fz_i (((0 + 1) + 1) + 1)), (2, fz_i 0), (0, fz_i 5), (1, fz_i 0)]) kX9_ownerFrom rfl (by decide) rfl (by omega) rfl ?_
                    refine fz_goto (tgt := 4) kX9_ownerFrom rfl (by decide) ?_
                    refine fz_iload_n kX9_ownerFrom rfl rfl ?_
                    refine fz_bipush ⟨by decide, by decide⟩ kX9_ownerFrom rfl ?_
                    refine fz_icmp_ge (tgt := 38) kX9_ownerFrom rfl (by decide) (fun c22 => ?_) (fun c22 => ?_)
                    · exfalso; omega
                    · refine fz_iload_n kX9_ownerFrom rfl rfl ?_
                      refine fz_if_le (tgt := 38) kX9_ownerFrom rfl (by decide) (fun c23 => ?_) (fun c23 => ?_)
                      · refine fz_iload_n kX9_ownerFrom rfl rfl ?_
                        exact fz_iret kX9_ownerFrom rfl rfl (fun _ => ⟨rfl, _, rfl, (by omega)⟩)
                      · exfalso; omega

abbrev qX9_ownerFrom_5_1 (h : fz_H) : fz_H → Option fz_V → Prop := fun h' r0 => h' = h ∧ ∃ r : Int, r0 = some (fz_i r) ∧ (3 ≤ r ∧ r ≤ 3)
set_option maxHeartbeats 1000000 in
set_option maxRecDepth 100000 in
theorem sX9_ownerFrom_5_1 (h : fz_H) (hI : fz_Iv h) : fz_R 0 mX9_ownerFrom 0 [(0, fz_i 5), (1, fz_i 1)] [] h (qX9_ownerFrom_5_1 h) := by
  refine fz_iload_n kX9_ownerFrom rfl rfl ?_
  refine fz_istore_n (ls' := [(2, fz_i 5), (0, fz_i 5), (1, fz_i 1)]) kX9_ownerFrom rfl (by decide) rfl ?_
  refine fz_iconst ⟨by decide, by decide⟩ kX9_ownerFrom rfl ?_
  refine fz_istore_n (ls' := [(3, fz_i 0), (2, fz_i 5), (0, fz_i 5), (1, fz_i 1)]) kX9_ownerFrom rfl (by decide) rfl ?_
  refine fz_iload_n kX9_ownerFrom rfl rfl ?_
  refine fz_bipush ⟨by decide, by decide⟩ kX9_ownerFrom rfl ?_
  refine fz_icmp_ge (tgt := 38) kX9_ownerFrom rfl (by decide) (fun c1 => ?_) (fun c1 => ?_)
  · exfalso; omega
  · refine fz_iload_n kX9_ownerFrom rfl rfl ?_
    refine fz_if_le (tgt := 38) kX9_ownerFrom rfl (by decide) (fun c2 => ?_) (fun c2 => ?_)
    · exfalso; omega
    · refine fz_gets kX9_ownerFrom rfl ?_
      refine fz_iload_n kX9_ownerFrom rfl rfl ?_
      refine fz_iconst ⟨by decide, by decide⟩ kX9_ownerFrom rfl ?_
      refine fz_imulN kX9_ownerFrom rfl ⟨by decide, by decide⟩ ?_
      refine fz_eqi (y := 20) rfl ?_
      refine fz_iload_n kX9_ownerFrom rfl rfl ?_
      refine fz_iaddN kX9_ownerFrom rfl ⟨by decide, by decide⟩ ?_
      refine fz_eqi (y := 21) rfl ?_
      refine fz_taldV (v := 0) kX9_ownerFrom rfl ⟨by decide, by decide⟩ (by omega) (by rw [hI.2.2.2.1]; decide) (by rw [hI.2.2.2.1]; rfl) ?_
      refine fz_if_ne (tgt := 38) kX9_ownerFrom rfl (by decide) (fun c5 => ?_) (fun c5 => ?_)
      · exfalso; omega
      · refine fz_gets kX9_ownerFrom rfl ?_
        refine fz_iload_n kX9_ownerFrom rfl rfl ?_
        refine fz_taldV (v := 3) kX9_ownerFrom rfl ⟨by decide, by decide⟩ (by omega) (by rw [hI.2.2.2.2]; decide) (by rw [hI.2.2.2.2]; rfl) ?_
        refine fz_istore_n (ls' := [(2, fz_i 3), (3, fz_i 0), (0, fz_i 5), (1, fz_i 1)]) kX9_ownerFrom rfl (by decide) rfl ?_
        refine fz_iincN (ls' := [(3, fz_i (0 + 1)), (2, fz_i 3), (0, fz_i 5), (1, fz_i 1)]) kX9_ownerFrom rfl (by decide) rfl (by omega) rfl ?_
        refine fz_goto (tgt := 4) kX9_ownerFrom rfl (by decide) ?_
        refine fz_iload_n kX9_ownerFrom rfl rfl ?_
        refine fz_bipush ⟨by decide, by decide⟩ kX9_ownerFrom rfl ?_
        refine fz_icmp_ge (tgt := 38) kX9_ownerFrom rfl (by decide) (fun c8 => ?_) (fun c8 => ?_)
        · exfalso; omega
        · refine fz_iload_n kX9_ownerFrom rfl rfl ?_
          refine fz_if_le (tgt := 38) kX9_ownerFrom rfl (by decide) (fun c9 => ?_) (fun c9 => ?_)
          · exfalso; omega
          · refine fz_gets kX9_ownerFrom rfl ?_
            refine fz_iload_n kX9_ownerFrom rfl rfl ?_
            refine fz_iconst ⟨by decide, by decide⟩ kX9_ownerFrom rfl ?_
            refine fz_imulN kX9_ownerFrom rfl ⟨by decide, by decide⟩ ?_
            refine fz_eqi (y := 12) rfl ?_
            refine fz_iload_n kX9_ownerFrom rfl rfl ?_
            refine fz_iaddN kX9_ownerFrom rfl ⟨by decide, by decide⟩ ?_
            refine fz_eqi (y := 13) rfl ?_
            refine fz_taldV (v := 41) kX9_ownerFrom rfl ⟨by decide, by decide⟩ (by omega) (by rw [hI.2.2.2.1]; decide) (by rw [hI.2.2.2.1]; rfl) ?_
            refine fz_if_ne (tgt := 38) kX9_ownerFrom rfl (by decide) (fun c12 => ?_) (fun c12 => ?_)
            · refine fz_iload_n kX9_ownerFrom rfl rfl ?_
              exact fz_iret kX9_ownerFrom rfl rfl (fun _ => ⟨rfl, _, rfl, (by omega)⟩)
            · exfalso; omega

abbrev qX9_ownerFrom_5_2 (h : fz_H) : fz_H → Option fz_V → Prop := fun h' r0 => h' = h ∧ ∃ r : Int, r0 = some (fz_i r) ∧ (3 ≤ r ∧ r ≤ 3)
set_option maxHeartbeats 1000000 in
set_option maxRecDepth 100000 in
theorem sX9_ownerFrom_5_2 (h : fz_H) (hI : fz_Iv h) : fz_R 0 mX9_ownerFrom 0 [(0, fz_i 5), (1, fz_i 2)] [] h (qX9_ownerFrom_5_2 h) := by
  refine fz_iload_n kX9_ownerFrom rfl rfl ?_
  refine fz_istore_n (ls' := [(2, fz_i 5), (0, fz_i 5), (1, fz_i 2)]) kX9_ownerFrom rfl (by decide) rfl ?_
  refine fz_iconst ⟨by decide, by decide⟩ kX9_ownerFrom rfl ?_
  refine fz_istore_n (ls' := [(3, fz_i 0), (2, fz_i 5), (0, fz_i 5), (1, fz_i 2)]) kX9_ownerFrom rfl (by decide) rfl ?_
  refine fz_iload_n kX9_ownerFrom rfl rfl ?_
  refine fz_bipush ⟨by decide, by decide⟩ kX9_ownerFrom rfl ?_
  refine fz_icmp_ge (tgt := 38) kX9_ownerFrom rfl (by decide) (fun c1 => ?_) (fun c1 => ?_)
  · exfalso; omega
  · refine fz_iload_n kX9_ownerFrom rfl rfl ?_
    refine fz_if_le (tgt := 38) kX9_ownerFrom rfl (by decide) (fun c2 => ?_) (fun c2 => ?_)
    · exfalso; omega
    · refine fz_gets kX9_ownerFrom rfl ?_
      refine fz_iload_n kX9_ownerFrom rfl rfl ?_
      refine fz_iconst ⟨by decide, by decide⟩ kX9_ownerFrom rfl ?_
      refine fz_imulN kX9_ownerFrom rfl ⟨by decide, by decide⟩ ?_
      refine fz_eqi (y := 20) rfl ?_
      refine fz_iload_n kX9_ownerFrom rfl rfl ?_
      refine fz_iaddN kX9_ownerFrom rfl ⟨by decide, by decide⟩ ?_
      refine fz_eqi (y := 22) rfl ?_
      refine fz_taldV (v := 0) kX9_ownerFrom rfl ⟨by decide, by decide⟩ (by omega) (by rw [hI.2.2.2.1]; decide) (by rw [hI.2.2.2.1]; rfl) ?_
      refine fz_if_ne (tgt := 38) kX9_ownerFrom rfl (by decide) (fun c5 => ?_) (fun c5 => ?_)
      · exfalso; omega
      · refine fz_gets kX9_ownerFrom rfl ?_
        refine fz_iload_n kX9_ownerFrom rfl rfl ?_
        refine fz_taldV (v := 3) kX9_ownerFrom rfl ⟨by decide, by decide⟩ (by omega) (by rw [hI.2.2.2.2]; decide) (by rw [hI.2.2.2.2]; rfl) ?_
        refine fz_istore_n (ls' := [(2, fz_i 3), (3, fz_i 0), (0, fz_i 5), (1, fz_i 2)]) kX9_ownerFrom rfl (by decide) rfl ?_
        refine fz_iincN (ls' := [(3, fz_i (0 + 1)), (2, fz_i 3), (0, fz_i 5), (1, fz_i 2)]) kX9_ownerFrom rfl (by decide) rfl (by omega) rfl ?_
        refine fz_goto (tgt := 4) kX9_ownerFrom rfl (by decide) ?_
        refine fz_iload_n kX9_ownerFrom rfl rfl ?_
        refine fz_bipush ⟨by decide, by decide⟩ kX9_ownerFrom rfl ?_
        refine fz_icmp_ge (tgt := 38) kX9_ownerFrom rfl (by decide) (fun c8 => ?_) (fun c8 => ?_)
        · exfalso; omega
        · refine fz_iload_n kX9_ownerFrom rfl rfl ?_
          refine fz_if_le (tgt := 38) kX9_ownerFrom rfl (by decide) (fun c9 => ?_) (fun c9 => ?_)
          · exfalso; omega
          · refine fz_gets kX9_ownerFrom rfl ?_
            refine fz_iload_n kX9_ownerFrom rfl rfl ?_
            refine fz_iconst ⟨by decide, by decide⟩ kX9_ownerFrom rfl ?_
            refine fz_imulN kX9_ownerFrom rfl ⟨by decide, by decide⟩ ?_
            refine fz_eqi (y := 12) rfl ?_
            refine fz_iload_n kX9_ownerFrom rfl rfl ?_
            refine fz_iaddN kX9_ownerFrom rfl ⟨by decide, by decide⟩ ?_
            refine fz_eqi (y := 14) rfl ?_
            refine fz_taldV (v := 40) kX9_ownerFrom rfl ⟨by decide, by decide⟩ (by omega) (by rw [hI.2.2.2.1]; decide) (by rw [hI.2.2.2.1]; rfl) ?_
            refine fz_if_ne (tgt := 38) kX9_ownerFrom rfl (by decide) (fun c12 => ?_) (fun c12 => ?_)
            · refine fz_iload_n kX9_ownerFrom rfl rfl ?_
              exact fz_iret kX9_ownerFrom rfl rfl (fun _ => ⟨rfl, _, rfl, (by omega)⟩)
            · exfalso; omega

abbrev qX9_ownerFrom_5_3 (h : fz_H) : fz_H → Option fz_V → Prop := fun h' r0 => h' = h ∧ ∃ r : Int, r0 = some (fz_i r) ∧ (5 ≤ r ∧ r ≤ 5)
set_option maxHeartbeats 1000000 in
set_option maxRecDepth 100000 in
theorem sX9_ownerFrom_5_3 (h : fz_H) (hI : fz_Iv h) : fz_R 0 mX9_ownerFrom 0 [(0, fz_i 5), (1, fz_i 3)] [] h (qX9_ownerFrom_5_3 h) := by
  refine fz_iload_n kX9_ownerFrom rfl rfl ?_
  refine fz_istore_n (ls' := [(2, fz_i 5), (0, fz_i 5), (1, fz_i 3)]) kX9_ownerFrom rfl (by decide) rfl ?_
  refine fz_iconst ⟨by decide, by decide⟩ kX9_ownerFrom rfl ?_
  refine fz_istore_n (ls' := [(3, fz_i 0), (2, fz_i 5), (0, fz_i 5), (1, fz_i 3)]) kX9_ownerFrom rfl (by decide) rfl ?_
  refine fz_iload_n kX9_ownerFrom rfl rfl ?_
  refine fz_bipush ⟨by decide, by decide⟩ kX9_ownerFrom rfl ?_
  refine fz_icmp_ge (tgt := 38) kX9_ownerFrom rfl (by decide) (fun c1 => ?_) (fun c1 => ?_)
  · exfalso; omega
  · refine fz_iload_n kX9_ownerFrom rfl rfl ?_
    refine fz_if_le (tgt := 38) kX9_ownerFrom rfl (by decide) (fun c2 => ?_) (fun c2 => ?_)
    · exfalso; omega
    · refine fz_gets kX9_ownerFrom rfl ?_
      refine fz_iload_n kX9_ownerFrom rfl rfl ?_
      refine fz_iconst ⟨by decide, by decide⟩ kX9_ownerFrom rfl ?_
      refine fz_imulN kX9_ownerFrom rfl ⟨by decide, by decide⟩ ?_
      refine fz_eqi (y := 20) rfl ?_
      refine fz_iload_n kX9_ownerFrom rfl rfl ?_
      refine fz_iaddN kX9_ownerFrom rfl ⟨by decide, by decide⟩ ?_
      refine fz_eqi (y := 23) rfl ?_
      refine fz_taldV (v := 60) kX9_ownerFrom rfl ⟨by decide, by decide⟩ (by omega) (by rw [hI.2.2.2.1]; decide) (by rw [hI.2.2.2.1]; rfl) ?_
      refine fz_if_ne (tgt := 38) kX9_ownerFrom rfl (by decide) (fun c5 => ?_) (fun c5 => ?_)
      · refine fz_iload_n kX9_ownerFrom rfl rfl ?_
        exact fz_iret kX9_ownerFrom rfl rfl (fun _ => ⟨rfl, _, rfl, (by omega)⟩)
      · exfalso; omega

abbrev qX9_ownerFrom_6_0 (h : fz_H) : fz_H → Option fz_V → Prop := fun h' r0 => h' = h ∧ ∃ r : Int, r0 = some (fz_i r) ∧ (6 ≤ r ∧ r ≤ 6)
set_option maxHeartbeats 1000000 in
set_option maxRecDepth 100000 in
theorem sX9_ownerFrom_6_0 (h : fz_H) (hI : fz_Iv h) : fz_R 0 mX9_ownerFrom 0 [(0, fz_i 6), (1, fz_i 0)] [] h (qX9_ownerFrom_6_0 h) := by
  refine fz_iload_n kX9_ownerFrom rfl rfl ?_
  refine fz_istore_n (ls' := [(2, fz_i 6), (0, fz_i 6), (1, fz_i 0)]) kX9_ownerFrom rfl (by decide) rfl ?_
  refine fz_iconst ⟨by decide, by decide⟩ kX9_ownerFrom rfl ?_
  refine fz_istore_n (ls' := [(3, fz_i 0), (2, fz_i 6), (0, fz_i 6), (1, fz_i 0)]) kX9_ownerFrom rfl (by decide) rfl ?_
  refine fz_iload_n kX9_ownerFrom rfl rfl ?_
  refine fz_bipush ⟨by decide, by decide⟩ kX9_ownerFrom rfl ?_
  refine fz_icmp_ge (tgt := 38) kX9_ownerFrom rfl (by decide) (fun c1 => ?_) (fun c1 => ?_)
  · exfalso; omega
  · refine fz_iload_n kX9_ownerFrom rfl rfl ?_
    refine fz_if_le (tgt := 38) kX9_ownerFrom rfl (by decide) (fun c2 => ?_) (fun c2 => ?_)
    · exfalso; omega
    · refine fz_gets kX9_ownerFrom rfl ?_
      refine fz_iload_n kX9_ownerFrom rfl rfl ?_
      refine fz_iconst ⟨by decide, by decide⟩ kX9_ownerFrom rfl ?_
      refine fz_imulN kX9_ownerFrom rfl ⟨by decide, by decide⟩ ?_
      refine fz_eqi (y := 24) rfl ?_
      refine fz_iload_n kX9_ownerFrom rfl rfl ?_
      refine fz_iaddN kX9_ownerFrom rfl ⟨by decide, by decide⟩ ?_
      refine fz_eqi (y := 24) rfl ?_
      refine fz_taldV (v := 70) kX9_ownerFrom rfl ⟨by decide, by decide⟩ (by omega) (by rw [hI.2.2.2.1]; decide) (by rw [hI.2.2.2.1]; rfl) ?_
      refine fz_if_ne (tgt := 38) kX9_ownerFrom rfl (by decide) (fun c5 => ?_) (fun c5 => ?_)
      · refine fz_iload_n kX9_ownerFrom rfl rfl ?_
        exact fz_iret kX9_ownerFrom rfl rfl (fun _ => ⟨rfl, _, rfl, (by omega)⟩)
      · exfalso; omega

abbrev qX9_ownerFrom_6_1 (h : fz_H) : fz_H → Option fz_V → Prop := fun h' r0 => h' = h ∧ ∃ r : Int, r0 = some (fz_i r) ∧ (0 ≤ r ∧ r ≤ 0)
set_option maxHeartbeats 1000000 in
set_option maxRecDepth 100000 in
theorem sX9_ownerFrom_6_1 (h : fz_H) (hI : fz_Iv h) : fz_R 0 mX9_ownerFrom 0 [(0, fz_i 6), (1, fz_i 1)] [] h (qX9_ownerFrom_6_1 h) := by
  refine fz_iload_n kX9_ownerFrom rfl rfl ?_
  refine fz_istore_n (ls' := [(2, fz_i 6), (0, fz_i 6), (1, fz_i 1)]) kX9_ownerFrom rfl (by decide) rfl ?_
  refine fz_iconst ⟨by decide, by decide⟩ kX9_ownerFrom rfl ?_
  refine fz_istore_n (ls' := [(3, fz_i 0), (2, fz_i 6), (0, fz_i 6), (1, fz_i 1)]) kX9_ownerFrom rfl (by decide) rfl ?_
  refine fz_iload_n kX9_ownerFrom rfl rfl ?_
  refine fz_bipush ⟨by decide, by decide⟩ kX9_ownerFrom rfl ?_
  refine fz_icmp_ge (tgt := 38) kX9_ownerFrom rfl (by decide) (fun c1 => ?_) (fun c1 => ?_)
  · exfalso; omega
  · refine fz_iload_n kX9_ownerFrom rfl rfl ?_
    refine fz_if_le (tgt := 38) kX9_ownerFrom rfl (by decide) (fun c2 => ?_) (fun c2 => ?_)
    · exfalso; omega
    · refine fz_gets kX9_ownerFrom rfl ?_
      refine fz_iload_n kX9_ownerFrom rfl rfl ?_
      refine fz_iconst ⟨by decide, by decide⟩ kX9_ownerFrom rfl ?_
      refine fz_imulN kX9_ownerFrom rfl ⟨by decide, by decide⟩ ?_
      refine fz_eqi (y := 24) rfl ?_
      refine fz_iload_n kX9_ownerFrom rfl rfl ?_
      refine fz_iaddN kX9_ownerFrom rfl ⟨by decide, by decide⟩ ?_
      refine fz_eqi (y := 25) rfl ?_
      refine fz_taldV (v := 0) kX9_ownerFrom rfl ⟨by decide, by decide⟩ (by omega) (by rw [hI.2.2.2.1]; decide) (by rw [hI.2.2.2.1]; rfl) ?_
      refine fz_if_ne (tgt := 38) kX9_ownerFrom rfl (by decide) (fun c5 => ?_) (fun c5 => ?_)
      · exfalso; omega
      · refine fz_gets kX9_ownerFrom rfl ?_
        refine fz_iload_n kX9_ownerFrom rfl rfl ?_
        refine fz_taldV (v := 0) kX9_ownerFrom rfl ⟨by decide, by decide⟩ (by omega) (by rw [hI.2.2.2.2]; decide) (by rw [hI.2.2.2.2]; rfl) ?_
        refine fz_istore_n (ls' := [(2, fz_i 0), (3, fz_i 0), (0, fz_i 6), (1, fz_i 1)]) kX9_ownerFrom rfl (by decide) rfl ?_
        refine fz_iincN (ls' := [(3, fz_i (0 + 1)), (2, fz_i 0), (0, fz_i 6), (1, fz_i 1)]) kX9_ownerFrom rfl (by decide) rfl (by omega) rfl ?_
        refine fz_goto (tgt := 4) kX9_ownerFrom rfl (by decide) ?_
        refine fz_iload_n kX9_ownerFrom rfl rfl ?_
        refine fz_bipush ⟨by decide, by decide⟩ kX9_ownerFrom rfl ?_
        refine fz_icmp_ge (tgt := 38) kX9_ownerFrom rfl (by decide) (fun c8 => ?_) (fun c8 => ?_)
        · exfalso; omega
        · refine fz_iload_n kX9_ownerFrom rfl rfl ?_
          refine fz_if_le (tgt := 38) kX9_ownerFrom rfl (by decide) (fun c9 => ?_) (fun c9 => ?_)
          · refine fz_iload_n kX9_ownerFrom rfl rfl ?_
            exact fz_iret kX9_ownerFrom rfl rfl (fun _ => ⟨rfl, _, rfl, (by omega)⟩)
          · exfalso; omega

abbrev qX9_ownerFrom_6_2 (h : fz_H) : fz_H → Option fz_V → Prop := fun h' r0 => h' = h ∧ ∃ r : Int, r0 = some (fz_i r) ∧ (0 ≤ r ∧ r ≤ 0)
set_option maxHeartbeats 1000000 in
set_option maxRecDepth 100000 in
theorem sX9_ownerFrom_6_2 (h : fz_H) (hI : fz_Iv h) : fz_R 0 mX9_ownerFrom 0 [(0, fz_i 6), (1, fz_i 2)] [] h (qX9_ownerFrom_6_2 h) := by
  refine fz_iload_n kX9_ownerFrom rfl rfl ?_
  refine fz_istore_n (ls' := [(2, fz_i 6), (0, fz_i 6), (1, fz_i 2)]) kX9_ownerFrom rfl (by decide) rfl ?_
  refine fz_iconst ⟨by decide, by decide⟩ kX9_ownerFrom rfl ?_
  refine fz_istore_n (ls' := [(3, fz_i 0), (2, fz_i 6), (0, fz_i 6), (1, fz_i 2)]) kX9_ownerFrom rfl (by decide) rfl ?_
  refine fz_iload_n kX9_ownerFrom rfl rfl ?_
  refine fz_bipush ⟨by decide, by decide⟩ kX9_ownerFrom rfl ?_
  refine fz_icmp_ge (tgt := 38) kX9_ownerFrom rfl (by decide) (fun c1 => ?_) (fun c1 => ?_)
  · exfalso; omega
  · refine fz_iload_n kX9_ownerFrom rfl rfl ?_
    refine fz_if_le (tgt := 38) kX9_ownerFrom rfl (by decide) (fun c2 => ?_) (fun c2 => ?_)
    · exfalso; omega
    · refine fz_gets kX9_ownerFrom rfl ?_
      refine fz_iload_n kX9_ownerFrom rfl rfl ?_
      refine fz_iconst ⟨by decide, by decide⟩ kX9_ownerFrom rfl ?_
      refine fz_imulN kX9_ownerFrom rfl ⟨by decide, by decide⟩ ?_
      refine fz_eqi (y := 24) rfl ?_
      refine fz_iload_n kX9_ownerFrom rfl rfl ?_
      refine fz_iaddN kX9_ownerFrom rfl ⟨by decide, by decide⟩ ?_
      refine fz_eqi (y := 26) rfl ?_
      refine fz_taldV (v := 0) kX9_ownerFrom rfl ⟨by decide, by decide⟩ (by omega) (by rw [hI.2.2.2.1]; decide) (by rw [hI.2.2.2.1]; rfl) ?_
      refine fz_if_ne (tgt := 38) kX9_ownerFrom rfl (by decide) (fun c5 => ?_) (fun c5 => ?_)
      · exfalso; omega
      · refine fz_gets kX9_ownerFrom rfl ?_
        refine fz_iload_n kX9_ownerFrom rfl rfl ?_
        refine fz_taldV (v := 0) kX9_ownerFrom rfl ⟨by decide, by decide⟩ (by omega) (by rw [hI.2.2.2.2]; decide) (by rw [hI.2.2.2.2]; rfl) ?_
        refine fz_istore_n (ls' := [(2, fz_i 0), (3, fz_i 0), (0, fz_i 6), (1, fz_i 2)]) kX9_ownerFrom rfl (by decide) rfl ?_
        refine fz_iincN (ls' := [(3, fz_i (0 + 1)), (2, fz_i 0), (0, fz_i 6), (1, fz_i 2)]) kX9_ownerFrom rfl (by decide) rfl (by omega) rfl ?_
        refine fz_goto (tgt := 4) kX9_ownerFrom rfl (by decide) ?_
        refine fz_iload_n kX9_ownerFrom rfl rfl ?_
        refine fz_bipush ⟨by decide, by decide⟩ kX9_ownerFrom rfl ?_
        refine fz_icmp_ge (tgt := 38) kX9_ownerFrom rfl (by decide) (fun c8 => ?_) (fun c8 => ?_)
        · exfalso; omega
        · refine fz_iload_n kX9_ownerFrom rfl rfl ?_
          refine fz_if_le (tgt := 38) kX9_ownerFrom rfl (by decide) (fun c9 => ?_) (fun c9 => ?_)
          · refine fz_iload_n kX9_ownerFrom rfl rfl ?_
            exact fz_iret kX9_ownerFrom rfl rfl (fun _ => ⟨rfl, _, rfl, (by omega)⟩)
          · exfalso; omega

abbrev qX9_ownerFrom_6_3 (h : fz_H) : fz_H → Option fz_V → Prop := fun h' r0 => h' = h ∧ ∃ r : Int, r0 = some (fz_i r) ∧ (0 ≤ r ∧ r ≤ 0)
set_option maxHeartbeats 1000000 in
set_option maxRecDepth 100000 in
theorem sX9_ownerFrom_6_3 (h : fz_H) (hI : fz_Iv h) : fz_R 0 mX9_ownerFrom 0 [(0, fz_i 6), (1, fz_i 3)] [] h (qX9_ownerFrom_6_3 h) := by
  refine fz_iload_n kX9_ownerFrom rfl rfl ?_
  refine fz_istore_n (ls' := [(2, fz_i 6), (0, fz_i 6), (1, fz_i 3)]) kX9_ownerFrom rfl (by decide) rfl ?_
  refine fz_iconst ⟨by decide, by decide⟩ kX9_ownerFrom rfl ?_
  refine fz_istore_n (ls' := [(3, fz_i 0), (2, fz_i 6), (0, fz_i 6), (1, fz_i 3)]) kX9_ownerFrom rfl (by decide) rfl ?_
  refine fz_iload_n kX9_ownerFrom rfl rfl ?_
  refine fz_bipush ⟨by decide, by decide⟩ kX9_ownerFrom rfl ?_
  refine fz_icmp_ge (tgt := 38) kX9_ownerFrom rfl (by decide) (fun c1 => ?_) (fun c1 => ?_)
  · exfalso; omega
  · refine fz_iload_n kX9_ownerFrom rfl rfl ?_
    refine fz_if_le (tgt := 38) kX9_ownerFrom rfl (by decide) (fun c2 => ?_) (fun c2 => ?_)
    · exfalso; omega
    · refine fz_gets kX9_ownerFrom rfl ?_
      refine fz_iload_n kX9_ownerFrom rfl rfl ?_
      refine fz_iconst ⟨by decide, by decide⟩ kX9_ownerFrom rfl ?_
      refine fz_imulN kX9_ownerFrom rfl ⟨by decide, by decide⟩ ?_
      refine fz_eqi (y := 24) rfl ?_
      refine fz_iload_n kX9_ownerFrom rfl rfl ?_
      refine fz_iaddN kX9_ownerFrom rfl ⟨by decide, by decide⟩ ?_
      refine fz_eqi (y := 27) rfl ?_
      refine fz_taldV (v := 0) kX9_ownerFrom rfl ⟨by decide, by decide⟩ (by omega) (by rw [hI.2.2.2.1]; decide) (by rw [hI.2.2.2.1]; rfl) ?_
      refine fz_if_ne (tgt := 38) kX9_ownerFrom rfl (by decide) (fun c5 => ?_) (fun c5 => ?_)
      · exfalso; omega
      · refine fz_gets kX9_ownerFrom rfl ?_
        refine fz_iload_n kX9_ownerFrom rfl rfl ?_
        refine fz_taldV (v := 0) kX9_ownerFrom rfl ⟨by decide, by decide⟩ (by omega) (by rw [hI.2.2.2.2]; decide) (by rw [hI.2.2.2.2]; rfl) ?_
        refine fz_istore_n (ls' := [(2, fz_i 0), (3, fz_i 0), (0, fz_i 6), (1, fz_i 3)]) kX9_ownerFrom rfl (by decide) rfl ?_
        refine fz_iincN (ls' := [(3, fz_i (0 + 1)), (2, fz_i 0), (0, fz_i 6), (1, fz_i 3)]) kX9_ownerFrom rfl (by decide) rfl (by omega) rfl ?_
        refine fz_goto (tgt := 4) kX9_ownerFrom rfl (by decide) ?_
        refine fz_iload_n kX9_ownerFrom rfl rfl ?_
        refine fz_bipush ⟨by decide, by decide⟩ kX9_ownerFrom rfl ?_
        refine fz_icmp_ge (tgt := 38) kX9_ownerFrom rfl (by decide) (fun c8 => ?_) (fun c8 => ?_)
        · exfalso; omega
        · refine fz_iload_n kX9_ownerFrom rfl rfl ?_
          refine fz_if_le (tgt := 38) kX9_ownerFrom rfl (by decide) (fun c9 => ?_) (fun c9 => ?_)
          · refine fz_iload_n kX9_ownerFrom rfl rfl ?_
            exact fz_iret kX9_ownerFrom rfl rfl (fun _ => ⟨rfl, _, rfl, (by omega)⟩)
          · exfalso; omega

abbrev qX9_ownerFrom_7_0 (h : fz_H) : fz_H → Option fz_V → Prop := fun h' r0 => h' = h ∧ ∃ r : Int, r0 = some (fz_i r) ∧ (1 ≤ r ∧ r ≤ 1)
set_option maxHeartbeats 1000000 in
set_option maxRecDepth 100000 in
theorem sX9_ownerFrom_7_0 (h : fz_H) (hI : fz_Iv h) : fz_R 0 mX9_ownerFrom 0 [(0, fz_i 7), (1, fz_i 0)] [] h (qX9_ownerFrom_7_0 h) := by
  refine fz_iload_n kX9_ownerFrom rfl rfl ?_
  refine fz_istore_n (ls' := [(2, fz_i 7), (0, fz_i 7), (1, fz_i 0)]) kX9_ownerFrom rfl (by decide) rfl ?_
  refine fz_iconst ⟨by decide, by decide⟩ kX9_ownerFrom rfl ?_
  refine fz_istore_n (ls' := [(3, fz_i 0), (2, fz_i 7), (0, fz_i 7), (1, fz_i 0)]) kX9_ownerFrom rfl (by decide) rfl ?_
  refine fz_iload_n kX9_ownerFrom rfl rfl ?_
  refine fz_bipush ⟨by decide, by decide⟩ kX9_ownerFrom rfl ?_
  refine fz_icmp_ge (tgt := 38) kX9_ownerFrom rfl (by decide) (fun c1 => ?_) (fun c1 => ?_)
  · exfalso; omega
  · refine fz_iload_n kX9_ownerFrom rfl rfl ?_
    refine fz_if_le (tgt := 38) kX9_ownerFrom rfl (by decide) (fun c2 => ?_) (fun c2 => ?_)
    · exfalso; omega
    · refine fz_gets kX9_ownerFrom rfl ?_
      refine fz_iload_n kX9_ownerFrom rfl rfl ?_
      refine fz_iconst ⟨by decide, by decide⟩ kX9_ownerFrom rfl ?_
      refine fz_imulN kX9_ownerFrom rfl ⟨by decide, by decide⟩ ?_
      refine fz_eqi (y := 28) rfl ?_
      refine fz_iload_n kX9_ownerFrom rfl rfl ?_
      refine fz_iaddN kX9_ownerFrom rfl ⟨by decide, by decide⟩ ?_
      refine fz_eqi (y := 28) rfl ?_
      refine fz_taldV (v := 0) kX9_ownerFrom rfl ⟨by decide, by decide⟩ (by omega) (by rw [hI.2.2.2.1]; decide) (by rw [hI.2.2.2.1]; rfl) ?_
      refine fz_if_ne (tgt := 38) kX9_ownerFrom rfl (by decide) (fun c5 => ?_) (fun c5 => ?_)
      · exfalso; omega
      · refine fz_gets kX9_ownerFrom rfl ?_
        refine fz_iload_n kX9_ownerFrom rfl rfl ?_
        refine fz_taldV (v := 4) kX9_ownerFrom rfl ⟨by decide, by decide⟩ (by omega) (by rw [hI.2.2.2.2]; decide) (by rw [hI.2.2.2.2]; rfl) ?_
        refine fz_istore_n (ls' := [(2, fz_i 4), (3, fz_i 0), (0, fz_i 7), (1, fz_i 0)]) kX9_ownerFrom rfl (by decide) rfl ?_
        refine fz_iincN (ls' := [(3, fz_i (0 + 1)), (2, fz_i 4), (0, fz_i 7), (1, fz_i 0)]) kX9_ownerFrom rfl (by decide) rfl (by omega) rfl ?_
        refine fz_goto (tgt := 4) kX9_ownerFrom rfl (by decide) ?_
        refine fz_iload_n kX9_ownerFrom rfl rfl ?_
        refine fz_bipush ⟨by decide, by decide⟩ kX9_ownerFrom rfl ?_
        refine fz_icmp_ge (tgt := 38) kX9_ownerFrom rfl (by decide) (fun c8 => ?_) (fun c8 => ?_)
        · exfalso; omega
        · refine fz_iload_n kX9_ownerFrom rfl rfl ?_
          refine fz_if_le (tgt := 38) kX9_ownerFrom rfl (by decide) (fun c9 => ?_) (fun c9 => ?_)
          · exfalso; omega
          · refine fz_gets kX9_ownerFrom rfl ?_
            refine fz_iload_n kX9_ownerFrom rfl rfl ?_
            refine fz_iconst ⟨by decide, by decide⟩ kX9_ownerFrom rfl ?_
            refine fz_imulN kX9_ownerFrom rfl ⟨by decide, by decide⟩ ?_
            refine fz_eqi (y := 16) rfl ?_
            refine fz_iload_n kX9_ownerFrom rfl rfl ?_
            refine fz_iaddN kX9_ownerFrom rfl ⟨by decide, by decide⟩ ?_
            refine fz_eqi (y := 16) rfl ?_
            refine fz_taldV (v := 0) kX9_ownerFrom rfl ⟨by decide, by decide⟩ (by omega) (by rw [hI.2.2.2.1]; decide) (by rw [hI.2.2.2.1]; rfl) ?_
            refine fz_if_ne (tgt := 38) kX9_ownerFrom rfl (by decide) (fun c12 => ?_) (fun c12 => ?_)
            · exfalso; omega
            · refine fz_gets kX9_ownerFrom rfl ?_
              refine fz_iload_n kX9_ownerFrom rfl rfl ?_
              refine fz_taldV (v := 1) kX9_ownerFrom rfl ⟨by decide, by decide⟩ (by omega) (by rw [hI.2.2.2.2]; decide) (by rw [hI.2.2.2.2]; rfl) ?_
              refine fz_istore_n (ls' := [(2, fz_i 1), (3, fz_i (0 + 1)), (0, fz_i 7), (1, fz_i 0)]) kX9_ownerFrom rfl (by decide) rfl ?_
              refine fz_iincN (ls' := [(3, fz_i ((0 + 1) + 1)), (2, fz_i 1), (0, fz_i 7), (1, fz_i 0)]) kX9_ownerFrom rfl (by decide) rfl (by omega) rfl ?_
              refine fz_goto (tgt := 4) kX9_ownerFrom rfl (by decide) ?_
              refine fz_iload_n kX9_ownerFrom rfl rfl ?_
              refine fz_bipush ⟨by decide, by decide⟩ kX9_ownerFrom rfl ?_
              refine fz_icmp_ge (tgt := 38) kX9_ownerFrom rfl (by decide) (fun c15 => ?_) (fun c15 => ?_)
              · exfalso; omega
              · refine fz_iload_n kX9_ownerFrom rfl rfl ?_
                refine fz_if_le (tgt := 38) kX9_ownerFrom rfl (by decide) (fun c16 => ?_) (fun c16 => ?_)
                · exfalso; omega
                · refine fz_gets kX9_ownerFrom rfl ?_
                  refine fz_iload_n kX9_ownerFrom rfl rfl ?_
                  refine fz_iconst ⟨by decide, by decide⟩ kX9_ownerFrom rfl ?_
                  refine fz_imulN kX9_ownerFrom rfl ⟨by decide, by decide⟩ ?_
                  refine fz_eqi (y := 4) rfl ?_
                  refine fz_iload_n kX9_ownerFrom rfl rfl ?_
                  refine fz_iaddN kX9_ownerFrom rfl ⟨by decide, by decide⟩ ?_
                  refine fz_eqi (y := 4) rfl ?_
                  refine fz_taldV (v := 20) kX9_ownerFrom rfl ⟨by decide, by decide⟩ (by omega) (by rw [hI.2.2.2.1]; decide) (by rw [hI.2.2.2.1]; rfl) ?_
                  refine fz_if_ne (tgt := 38) kX9_ownerFrom rfl (by decide) (fun c19 => ?_) (fun c19 => ?_)
                  · refine fz_iload_n kX9_ownerFrom rfl rfl ?_
                    exact fz_iret kX9_ownerFrom rfl rfl (fun _ => ⟨rfl, _, rfl, (by omega)⟩)
                  · exfalso; omega

abbrev qX9_ownerFrom_7_1 (h : fz_H) : fz_H → Option fz_V → Prop := fun h' r0 => h' = h ∧ ∃ r : Int, r0 = some (fz_i r) ∧ (7 ≤ r ∧ r ≤ 7)
set_option maxHeartbeats 1000000 in
set_option maxRecDepth 100000 in
theorem sX9_ownerFrom_7_1 (h : fz_H) (hI : fz_Iv h) : fz_R 0 mX9_ownerFrom 0 [(0, fz_i 7), (1, fz_i 1)] [] h (qX9_ownerFrom_7_1 h) := by
  refine fz_iload_n kX9_ownerFrom rfl rfl ?_
  refine fz_istore_n (ls' := [(2, fz_i 7), (0, fz_i 7), (1, fz_i 1)]) kX9_ownerFrom rfl (by decide) rfl ?_
  refine fz_iconst ⟨by decide, by decide⟩ kX9_ownerFrom rfl ?_
  refine fz_istore_n (ls' := [(3, fz_i 0), (2, fz_i 7), (0, fz_i 7), (1, fz_i 1)]) kX9_ownerFrom rfl (by decide) rfl ?_
  refine fz_iload_n kX9_ownerFrom rfl rfl ?_
  refine fz_bipush ⟨by decide, by decide⟩ kX9_ownerFrom rfl ?_
  refine fz_icmp_ge (tgt := 38) kX9_ownerFrom rfl (by decide) (fun c1 => ?_) (fun c1 => ?_)
  · exfalso; omega
  · refine fz_iload_n kX9_ownerFrom rfl rfl ?_
    refine fz_if_le (tgt := 38) kX9_ownerFrom rfl (by decide) (fun c2 => ?_) (fun c2 => ?_)
    · exfalso; omega
    · refine fz_gets kX9_ownerFrom rfl ?_
      refine fz_iload_n kX9_ownerFrom rfl rfl ?_
      refine fz_iconst ⟨by decide, by decide⟩ kX9_ownerFrom rfl ?_
      refine fz_imulN kX9_ownerFrom rfl ⟨by decide, by decide⟩ ?_
      refine fz_eqi (y := 28) rfl ?_
      refine fz_iload_n kX9_ownerFrom rfl rfl ?_
      refine fz_iaddN kX9_ownerFrom rfl ⟨by decide, by decide⟩ ?_
      refine fz_eqi (y := 29) rfl ?_
      refine fz_taldV (v := 80) kX9_ownerFrom rfl ⟨by decide, by decide⟩ (by omega) (by rw [hI.2.2.2.1]; decide) (by rw [hI.2.2.2.1]; rfl) ?_
      refine fz_if_ne (tgt := 38) kX9_ownerFrom rfl (by decide) (fun c5 => ?_) (fun c5 => ?_)
      · refine fz_iload_n kX9_ownerFrom rfl rfl ?_
        exact fz_iret kX9_ownerFrom rfl rfl (fun _ => ⟨rfl, _, rfl, (by omega)⟩)
      · exfalso; omega

abbrev qX9_ownerFrom_7_2 (h : fz_H) : fz_H → Option fz_V → Prop := fun h' r0 => h' = h ∧ ∃ r : Int, r0 = some (fz_i r) ∧ (4 ≤ r ∧ r ≤ 4)
set_option maxHeartbeats 1000000 in
set_option maxRecDepth 100000 in
theorem sX9_ownerFrom_7_2 (h : fz_H) (hI : fz_Iv h) : fz_R 0 mX9_ownerFrom 0 [(0, fz_i 7), (1, fz_i 2)] [] h (qX9_ownerFrom_7_2 h) := by
  refine fz_iload_n kX9_ownerFrom rfl rfl ?_
  refine fz_istore_n (ls' := [(2, fz_i 7), (0, fz_i 7), (1, fz_i 2)]) kX9_ownerFrom rfl (by decide) rfl ?_
  refine fz_iconst ⟨by decide, by decide⟩ kX9_ownerFrom rfl ?_
  refine fz_istore_n (ls' := [(3, fz_i 0), (2, fz_i 7), (0, fz_i 7), (1, fz_i 2)]) kX9_ownerFrom rfl (by decide) rfl ?_
  refine fz_iload_n kX9_ownerFrom rfl rfl ?_
  refine fz_bipush ⟨by decide, by decide⟩ kX9_ownerFrom rfl ?_
  refine fz_icmp_ge (tgt := 38) kX9_ownerFrom rfl (by decide) (fun c1 => ?_) (fun c1 => ?_)
  · exfalso; omega
  · refine fz_iload_n kX9_ownerFrom rfl rfl ?_
    refine fz_if_le (tgt := 38) kX9_ownerFrom rfl (by decide) (fun c2 => ?_) (fun c2 => ?_)
    · exfalso; omega
    · refine fz_gets kX9_ownerFrom rfl ?_
      refine fz_iload_n kX9_ownerFrom rfl rfl ?_
      refine fz_iconst ⟨by decide, by decide⟩ kX9_ownerFrom rfl ?_
      refine fz_imulN kX9_ownerFrom rfl ⟨by decide, by decide⟩ ?_
      refine fz_eqi (y := 28) rfl ?_
      refine fz_iload_n kX9_ownerFrom rfl rfl ?_
      refine fz_iaddN kX9_ownerFrom rfl ⟨by decide, by decide⟩ ?_
      refine fz_eqi (y := 30) rfl ?_
      refine fz_taldV (v := 0) kX9_ownerFrom rfl ⟨by decide, by decide⟩ (by omega) (by rw [hI.2.2.2.1]; decide) (by rw [hI.2.2.2.1]; rfl) ?_
      refine fz_if_ne (tgt := 38) kX9_ownerFrom rfl (by decide) (fun c5 => ?_) (fun c5 => ?_)
      · exfalso; omega
      · refine fz_gets kX9_ownerFrom rfl ?_
        refine fz_iload_n kX9_ownerFrom rfl rfl ?_
        refine fz_taldV (v := 4) kX9_ownerFrom rfl ⟨by decide, by decide⟩ (by omega) (by rw [hI.2.2.2.2]; decide) (by rw [hI.2.2.2.2]; rfl) ?_
        refine fz_istore_n (ls' := [(2, fz_i 4), (3, fz_i 0), (0, fz_i 7), (1, fz_i 2)]) kX9_ownerFrom rfl (by decide) rfl ?_
        refine fz_iincN (ls' := [(3, fz_i (0 + 1)), (2, fz_i 4), (0, fz_i 7), (1, fz_i 2)]) kX9_ownerFrom rfl (by decide) rfl (by omega) rfl ?_
        refine fz_goto (tgt := 4) kX9_ownerFrom rfl (by decide) ?_
        refine fz_iload_n kX9_ownerFrom rfl rfl ?_
        refine fz_bipush ⟨by decide, by decide⟩ kX9_ownerFrom rfl ?_
        refine fz_icmp_ge (tgt := 38) kX9_ownerFrom rfl (by decide) (fun c8 => ?_) (fun c8 => ?_)
        · exfalso; omega
        · refine fz_iload_n kX9_ownerFrom rfl rfl ?_
          refine fz_if_le (tgt := 38) kX9_ownerFrom rfl (by decide) (fun c9 => ?_) (fun c9 => ?_)
          · exfalso; omega
          · refine fz_gets kX9_ownerFrom rfl ?_
            refine fz_iload_n kX9_ownerFrom rfl rfl ?_
            refine fz_iconst ⟨by decide, by decide⟩ kX9_ownerFrom rfl ?_
            refine fz_imulN kX9_ownerFrom rfl ⟨by decide, by decide⟩ ?_
            refine fz_eqi (y := 16) rfl ?_
            refine fz_iload_n kX9_ownerFrom rfl rfl ?_
            refine fz_iaddN kX9_ownerFrom rfl ⟨by decide, by decide⟩ ?_
            refine fz_eqi (y := 18) rfl ?_
            refine fz_taldV (v := 50) kX9_ownerFrom rfl ⟨by decide, by decide⟩ (by omega) (by rw [hI.2.2.2.1]; decide) (by rw [hI.2.2.2.1]; rfl) ?_
            refine fz_if_ne (tgt := 38) kX9_ownerFrom rfl (by decide) (fun c12 => ?_) (fun c12 => ?_)
            · refine fz_iload_n kX9_ownerFrom rfl rfl ?_
              exact fz_iret kX9_ownerFrom rfl rfl (fun _ => ⟨rfl, _, rfl, (by omega)⟩)
            · exfalso; omega

abbrev qX9_ownerFrom_7_3 (h : fz_H) : fz_H → Option fz_V → Prop := fun h' r0 => h' = h ∧ ∃ r : Int, r0 = some (fz_i r) ∧ (7 ≤ r ∧ r ≤ 7)
set_option maxHeartbeats 1000000 in
set_option maxRecDepth 100000 in
theorem sX9_ownerFrom_7_3 (h : fz_H) (hI : fz_Iv h) : fz_R 0 mX9_ownerFrom 0 [(0, fz_i 7), (1, fz_i 3)] [] h (qX9_ownerFrom_7_3 h) := by
  refine fz_iload_n kX9_ownerFrom rfl rfl ?_
  refine fz_istore_n (ls' := [(2, fz_i 7), (0, fz_i 7), (1, fz_i 3)]) kX9_ownerFrom rfl (by decide) rfl ?_
  refine fz_iconst ⟨by decide, by decide⟩ kX9_ownerFrom rfl ?_
  refine fz_istore_n (ls' := [(3, fz_i 0), (2, fz_i 7), (0, fz_i 7), (1, fz_i 3)]) kX9_ownerFrom rfl (by decide) rfl ?_
  refine fz_iload_n kX9_ownerFrom rfl rfl ?_
  refine fz_bipush ⟨by decide, by decide⟩ kX9_ownerFrom rfl ?_
  refine fz_icmp_ge (tgt := 38) kX9_ownerFrom rfl (by decide) (fun c1 => ?_) (fun c1 => ?_)
  · exfalso; omega
  · refine fz_iload_n kX9_ownerFrom rfl rfl ?_
    refine fz_if_le (tgt := 38) kX9_ownerFrom rfl (by decide) (fun c2 => ?_) (fun c2 => ?_)
    · exfalso; omega
    · refine fz_gets kX9_ownerFrom rfl ?_
      refine fz_iload_n kX9_ownerFrom rfl rfl ?_
      refine fz_iconst ⟨by decide, by decide⟩ kX9_ownerFrom rfl ?_
      refine fz_imulN kX9_ownerFrom rfl ⟨by decide, by decide⟩ ?_
      refine fz_eqi (y := 28) rfl ?_
      refine fz_iload_n kX9_ownerFrom rfl rfl ?_
      refine fz_iaddN kX9_ownerFrom rfl ⟨by decide, by decide⟩ ?_
      refine fz_eqi (y := 31) rfl ?_
      refine fz_taldV (v := 81) kX9_ownerFrom rfl ⟨by decide, by decide⟩ (by omega) (by rw [hI.2.2.2.1]; decide) (by rw [hI.2.2.2.1]; rfl) ?_
      refine fz_if_ne (tgt := 38) kX9_ownerFrom rfl (by decide) (fun c5 => ?_) (fun c5 => ?_)
      · refine fz_iload_n kX9_ownerFrom rfl rfl ?_
        exact fz_iret kX9_ownerFrom rfl rfl (fun _ => ⟨rfl, _, rfl, (by omega)⟩)
      · exfalso; omega

abbrev qX9_run_0_0_0 (h : fz_H) (x dp : Int) : fz_H → Option fz_V → Prop := fun h' r0 => fz_Iv h' ∧ fz_fr [(44, 3), (46, 99999)] h h' ∧ ∃ r : Int, r0 = some (fz_i r) ∧ (h' 44 3 = h 44 3 + 1)
set_option maxHeartbeats 1000000 in
set_option maxRecDepth 100000 in
theorem sX9_run_0_0_0 (h : fz_H) (hI : fz_Iv h) (x dp : Int) (hp0 : h 44 5 = 0) (hp1 : 0 ≤ dp ∧ dp ≤ 39) (hp2 : 0 ≤ h 44 3 ∧ h 44 3 ≤ 899) : fz_R 1 mX9_run 0 [(0, fz_r 44), (1, fz_i 0), (2, fz_i 0), (3, fz_i x), (4, fz_i dp)] [] h (qX9_run_0_0_0 h x dp) := by
  refine fz_knowl (fun hk => ?_)
  have hr_x : -2147483648 ≤ x ∧ x < 2147483648 := hk _ (List.Mem.tail _ (List.Mem.tail _ (List.Mem.tail _ (List.Mem.head _))))
  have hr_dp : -2147483648 ≤ dp ∧ dp < 2147483648 := hk _ (List.Mem.tail _ (List.Mem.tail _ (List.Mem.tail _ (List.Mem.tail _ (List.Mem.head _)))))
  clear hk
  have hf : fz_fr [(44, 3), (46, 99999)] h h := fz_fr_rf
  have b1 : 0 ≤ h 44 5 ∧ h 44 5 ≤ 7 := hI.1 44 _
  have b2 : (-2147483648) ≤ h 44 3 ∧ h 44 3 ≤ 2147483647 := hI.1 44 _
  refine fz_iload kX9_run rfl rfl ?_
  refine fz_bipush ⟨by decide, by decide⟩ kX9_run rfl ?_
  refine fz_icmp_gt (tgt := 24) kX9_run rfl (by decide) (fun c3 => ?_) (fun c3 => ?_)
  · exfalso; omega
  · refine fz_aload_n kX9_run rfl rfl ?_
    refine fz_iload_n kX9_run rfl rfl ?_
    refine fz_callV (d' := 0) (M' := mX9_isKind) (As := [fz_i 0]) (st := []) kX9_run rfl rfl vX9_isKind rfl rfl rfl rfl (Nat.le_of_ble_eq_true rfl) (Nat.le_of_ble_eq_true rfl) (by decide) (sX9_isKind h hI 0 ) (fun H4 r5 q6 o7 => ?_)
    obtain ⟨e8, y9, rfl, p10⟩ := q6
    subst H4
    clear o7
    rcases p10 with ⟨rfl, c11⟩ | ⟨rfl, c11⟩
    · refine fz_if_eq (tgt := 24) kX9_run rfl (by decide) (fun c12 => ?_) (fun c12 => ?_)
      · exfalso; omega
      · refine fz_iload_n kX9_run rfl rfl ?_
        refine fz_if_lt (tgt := 24) kX9_run rfl (by decide) (fun c13 => ?_) (fun c13 => ?_)
        · exfalso; omega
        · refine fz_iload_n kX9_run rfl rfl ?_
          refine fz_iconst ⟨by decide, by decide⟩ kX9_run rfl ?_
          refine fz_icmp_lt (tgt := 26) kX9_run rfl (by decide) (fun c14 => ?_) (fun c14 => ?_)
          · refine fz_iload_n kX9_run rfl rfl ?_
            refine fz_iload_n kX9_run rfl rfl ?_
            refine fz_callS (d' := 0) (M' := mX9_ownerFrom) (As := [fz_i 0, fz_i 0]) (st := []) kX9_run rfl rfl vX9_ownerFrom rfl rfl (Nat.le_of_ble_eq_true rfl) (Nat.le_of_ble_eq_true rfl) (by decide) (sX9_ownerFrom_0_0 h hI  ) (fun H15 r16 q17 o18 => ?_)
            obtain ⟨e19, y21, rfl, f20⟩ := q17
            subst H15
            clear o18
            refine fz_eqi (show y21 = 0 by omega) ?_
            refine fz_istore (ls' := [(5, fz_i 0), (0, fz_r 44), (1, fz_i 0), (2, fz_i 0), (3, fz_i x), (4, fz_i dp)]) kX9_run rfl (by decide) rfl ?_
            refine fz_gets kX9_run rfl ?_
            refine fz_iload kX9_run rfl rfl ?_
            refine fz_taldV (v := (-1)) kX9_run rfl ⟨by decide, by decide⟩ (by omega) (by rw [hI.2.2.2.2]; decide) (by rw [hI.2.2.2.2]; rfl) ?_
            refine fz_istore (ls' := [(6, fz_i (-1)), (5, fz_i 0), (0, fz_r 44), (1, fz_i 0), (2, fz_i 0), (3, fz_i x), (4, fz_i dp)]) kX9_run rfl (by decide) rfl ?_
            refine fz_iload kX9_run rfl rfl ?_
            refine fz_iconst ⟨by decide, by decide⟩ kX9_run rfl ?_
            refine fz_iaddN kX9_run rfl (by omega) ?_
            refine fz_istore (ls' := [(7, fz_i (dp + 1)), (6, fz_i (-1)), (5, fz_i 0), (0, fz_r 44), (1, fz_i 0), (2, fz_i 0), (3, fz_i x), (4, fz_i dp)]) kX9_run rfl (by decide) rfl ?_
            refine fz_gets kX9_run rfl ?_
            refine fz_iload kX9_run rfl rfl ?_
            refine fz_iconst ⟨by decide, by decide⟩ kX9_run rfl ?_
            refine fz_imulN kX9_run rfl ⟨by decide, by decide⟩ ?_
            refine fz_eqi (y := 0) rfl ?_
            refine fz_iload_n kX9_run rfl rfl ?_
            refine fz_iaddN kX9_run rfl ⟨by decide, by decide⟩ ?_
            refine fz_eqi (y := 0) rfl ?_
            refine fz_taldV (v := 1) kX9_run rfl ⟨by decide, by decide⟩ (by omega) (by rw [hI.2.2.2.1]; decide) (by rw [hI.2.2.2.1]; rfl) ?_
            refine fz_istore (ls' := [(8, fz_i 1), (7, fz_i (dp + 1)), (6, fz_i (-1)), (5, fz_i 0), (0, fz_r 44), (1, fz_i 0), (2, fz_i 0), (3, fz_i x), (4, fz_i dp)]) kX9_run rfl (by decide) rfl ?_
            refine fz_aload_n kX9_run rfl rfl ?_
            refine fz_iload kX9_run rfl rfl ?_
            refine fz_callV (d' := 0) (M' := mX9_note) (As := [fz_i 1]) (st := []) kX9_run rfl rfl vX9_note rfl rfl rfl rfl (Nat.le_of_ble_eq_true rfl) (Nat.le_of_ble_eq_true rfl) (by decide) (sX9_note h hI 1 (by omega)) (fun H26 r27 q28 o29 => ?_)
            obtain ⟨hI30, hf31, rfl, f32⟩ := q28
            clear o29
            have hf33 := fz_fr_tr hf hf31 (show fz_su [(44, 3), (46, 99999)] [(44, 3), (46, 99999)] = true from rfl)
            refine fz_iload kX9_run rfl rfl ?_
            refine fz_lsw (tgt := 180) kX9_run rfl (by decide) (show Op.lookupswitch.offset [(1, 113), (2, 120), (10, 146), (11, 161), (20, 168), (30, 181), (40, 193), (41, 206), (50, 219), (60, 243), (70, 256), (80, 269), (81, 293)] 306 1 = 113 from rfl) (by decide) ?_
            refine fz_iload_n kX9_run rfl rfl ?_
            refine fz_aload_n kX9_run rfl rfl ?_
            refine fz_getV (v := h 44 4) kX9_run rfl rfl (hf33 44 4 rfl) ?_
            have b34 : 0 ≤ h 44 4 ∧ h 44 4 ≤ 49 := hI.1 44 _
            refine fz_iadd kX9_run rfl ?_
            refine fz_nmw (fun z35 e36 => ?_)
            exact fz_iret kX9_run rfl rfl (fun _ => ⟨hI30, hf33, _, rfl, (by omega)⟩)
          · exfalso; omega
    · refine fz_if_eq (tgt := 24) kX9_run rfl (by decide) (fun c37 => ?_) (fun c37 => ?_)
      · refine fz_iconst ⟨by decide, by decide⟩ kX9_run rfl ?_
        exact fz_iret kX9_run rfl rfl (fun _ => ⟨hI, hf, _, rfl, (by omega)⟩)
      · exfalso; omega

abbrev qX9_run_0_0_1 (h : fz_H) (x dp : Int) : fz_H → Option fz_V → Prop := fun h' r0 => fz_Iv h' ∧ fz_fr [(44, 3), (46, 99999)] h h' ∧ ∃ r : Int, r0 = some (fz_i r) ∧ (h' 44 3 = h 44 3 + 2)
set_option maxHeartbeats 1000000 in
set_option maxRecDepth 100000 in
theorem sX9_run_0_0_1 (h : fz_H) (hI : fz_Iv h) (x dp : Int) (hp0 : h 44 5 = 0) (hp1 : 0 ≤ dp ∧ dp ≤ 38) (hp2 : 0 ≤ h 44 3 ∧ h 44 3 ≤ 898) : fz_R 2 mX9_run 0 [(0, fz_r 44), (1, fz_i 0), (2, fz_i 1), (3, fz_i x), (4, fz_i dp)] [] h (qX9_run_0_0_1 h x dp) := by
  refine fz_knowl (fun hk => ?_)
  have hr_x : -2147483648 ≤ x ∧ x < 2147483648 := hk _ (List.Mem.tail _ (List.Mem.tail _ (List.Mem.tail _ (List.Mem.head _))))
  have hr_dp : -2147483648 ≤ dp ∧ dp < 2147483648 := hk _ (List.Mem.tail _ (List.Mem.tail _ (List.Mem.tail _ (List.Mem.tail _ (List.Mem.head _)))))
  clear hk
  have hf : fz_fr [(44, 3), (46, 99999)] h h := fz_fr_rf
  have b1 : 0 ≤ h 44 5 ∧ h 44 5 ≤ 7 := hI.1 44 _
  have b2 : (-2147483648) ≤ h 44 3 ∧ h 44 3 ≤ 2147483647 := hI.1 44 _
  refine fz_iload kX9_run rfl rfl ?_
  refine fz_bipush ⟨by decide, by decide⟩ kX9_run rfl ?_
  refine fz_icmp_gt (tgt := 24) kX9_run rfl (by decide) (fun c3 => ?_) (fun c3 => ?_)
  · exfalso; omega
  · refine fz_aload_n kX9_run rfl rfl ?_
    refine fz_iload_n kX9_run rfl rfl ?_
    refine fz_callV (d' := 0) (M' := mX9_isKind) (As := [fz_i 0]) (st := []) kX9_run rfl rfl vX9_isKind rfl rfl rfl rfl (Nat.le_of_ble_eq_true rfl) (Nat.le_of_ble_eq_true rfl) (by decide) (sX9_isKind h hI 0 ) (fun H4 r5 q6 o7 => ?_)
    obtain ⟨e8, y9, rfl, p10⟩ := q6
    subst H4
    clear o7
    rcases p10 with ⟨rfl, c11⟩ | ⟨rfl, c11⟩
    · refine fz_if_eq (tgt := 24) kX9_run rfl (by decide) (fun c12 => ?_) (fun c12 => ?_)
      · exfalso; omega
      · refine fz_iload_n kX9_run rfl rfl ?_
        refine fz_if_lt (tgt := 24) kX9_run rfl (by decide) (fun c13 => ?_) (fun c13 => ?_)
        · exfalso; omega
        · refine fz_iload_n kX9_run rfl rfl ?_
          refine fz_iconst ⟨by decide, by decide⟩ kX9_run rfl ?_
          refine fz_icmp_lt (tgt := 26) kX9_run rfl (by decide) (fun c14 => ?_) (fun c14 => ?_)
          · refine fz_iload_n kX9_run rfl rfl ?_
            refine fz_iload_n kX9_run rfl rfl ?_
            refine fz_callS (d' := 0) (M' := mX9_ownerFrom) (As := [fz_i 0, fz_i 1]) (st := []) kX9_run rfl rfl vX9_ownerFrom rfl rfl (Nat.le_of_ble_eq_true rfl) (Nat.le_of_ble_eq_true rfl) (by decide) (sX9_ownerFrom_0_1 h hI  ) (fun H15 r16 q17 o18 => ?_)
            obtain ⟨e19, y21, rfl, f20⟩ := q17
            subst H15
            clear o18
            refine fz_eqi (show y21 = 0 by omega) ?_
            refine fz_istore (ls' := [(5, fz_i 0), (0, fz_r 44), (1, fz_i 0), (2, fz_i 1), (3, fz_i x), (4, fz_i dp)]) kX9_run rfl (by decide) rfl ?_
            refine fz_gets kX9_run rfl ?_
            refine fz_iload kX9_run rfl rfl ?_
            refine fz_taldV (v := (-1)) kX9_run rfl ⟨by decide, by decide⟩ (by omega) (by rw [hI.2.2.2.2]; decide) (by rw [hI.2.2.2.2]; rfl) ?_
            refine fz_istore (ls' := [(6, fz_i (-1)), (5, fz_i 0), (0, fz_r 44), (1, fz_i 0), (2, fz_i 1), (3, fz_i x), (4, fz_i dp)]) kX9_run rfl (by decide) rfl ?_
            refine fz_iload kX9_run rfl rfl ?_
            refine fz_iconst ⟨by decide, by decide⟩ kX9_run rfl ?_
            refine fz_iaddN kX9_run rfl (by omega) ?_
            refine fz_istore (ls' := [(7, fz_i (dp + 1)), (6, fz_i (-1)), (5, fz_i 0), (0, fz_r 44), (1, fz_i 0), (2, fz_i 1), (3, fz_i x), (4, fz_i dp)]) kX9_run rfl (by decide) rfl ?_
            refine fz_gets kX9_run rfl ?_
            refine fz_iload kX9_run rfl rfl ?_
            refine fz_iconst ⟨by decide, by decide⟩ kX9_run rfl ?_
            refine fz_imulN kX9_run rfl ⟨by decide, by decide⟩ ?_
            refine fz_eqi (y := 0) rfl ?_
            refine fz_iload_n kX9_run rfl rfl ?_
            refine fz_iaddN kX9_run rfl ⟨by decide, by decide⟩ ?_
            refine fz_eqi (y := 1) rfl ?_
            refine fz_taldV (v := 10) kX9_run rfl ⟨by decide, by decide⟩ (by omega) (by rw [hI.2.2.2.1]; decide) (by rw [hI.2.2.2.1]; rfl) ?_
            refine fz_istore (ls' := [(8, fz_i 10), (7, fz_i (dp + 1)), (6, fz_i (-1)), (5, fz_i 0), (0, fz_r 44), (1, fz_i 0), (2, fz_i 1), (3, fz_i x), (4, fz_i dp)]) kX9_run rfl (by decide) rfl ?_
            refine fz_aload_n kX9_run rfl rfl ?_
            refine fz_iload kX9_run rfl rfl ?_
            refine fz_callV (d' := 0) (M' := mX9_note) (As := [fz_i 10]) (st := []) kX9_run rfl rfl vX9_note rfl rfl rfl rfl (Nat.le_of_ble_eq_true rfl) (Nat.le_of_ble_eq_true rfl) (by decide) (sX9_note h hI 10 (by omega)) (fun H26 r27 q28 o29 => ?_)
            obtain ⟨hI30, hf31, rfl, f32⟩ := q28
            clear o29
            have hf33 := fz_fr_tr hf hf31 (show fz_su [(44, 3), (46, 99999)] [(44, 3), (46, 99999)] = true from rfl)
            refine fz_iload kX9_run rfl rfl ?_
            refine fz_lsw (tgt := 213) kX9_run rfl (by decide) (show Op.lookupswitch.offset [(1, 113), (2, 120), (10, 146), (11, 161), (20, 168), (30, 181), (40, 193), (41, 206), (50, 219), (60, 243), (70, 256), (80, 269), (81, 293)] 306 10 = 146 from rfl) (by decide) ?_
            refine fz_aload_n kX9_run rfl rfl ?_
            refine fz_aload_n kX9_run rfl rfl ?_
            refine fz_getV (v := h 44 5) kX9_run rfl rfl (hf33 44 5 rfl) ?_
            have b34 : 0 ≤ h 44 5 ∧ h 44 5 ≤ 7 := hI.1 44 _
            refine fz_eqi (show (h 44 5) = 0 by omega) ?_
            refine fz_iconst ⟨by decide, by decide⟩ kX9_run rfl ?_
            refine fz_iload_n kX9_run rfl rfl ?_
            refine fz_iload kX9_run rfl rfl ?_
            have b35 : (-2147483648) ≤ H26 44 3 ∧ H26 44 3 ≤ 2147483647 := hI30.1 44 _
            have e36 : H26 44 5 = h 44 5 := hf33 44 5 rfl
            refine fz_callV (d' := 1) (M' := mX9_run) (As := [fz_i 0, fz_i 0, fz_i x, fz_i (dp + 1)]) (st := []) kX9_run rfl rfl vX9_run rfl rfl rfl rfl (Nat.le_of_ble_eq_true rfl) (Nat.le_of_ble_eq_true rfl) (by decide) (sX9_run_0_0_0 H26 hI30 x (dp + 1) (by omega) (by omega) (by omega)) (fun H37 r38 q39 o40 => ?_)
            obtain ⟨hI41, hf42, y44, rfl, f43⟩ := q39
            clear o40
            have hf45 := fz_fr_tr hf33 hf42 (show fz_su [(44, 3), (46, 99999)] [(44, 3), (46, 99999)] = true from rfl)
            refine fz_iconst ⟨by decide, by decide⟩ kX9_run rfl ?_
            refine fz_imul kX9_run rfl ?_
            refine fz_nmw (fun z46 e47 => ?_)
            exact fz_iret kX9_run rfl rfl (fun _ => ⟨hI41, hf45, _, rfl, (by omega)⟩)
          · exfalso; omega
    · refine fz_if_eq (tgt := 24) kX9_run rfl (by decide) (fun c48 => ?_) (fun c48 => ?_)
      · refine fz_iconst ⟨by decide, by decide⟩ kX9_run rfl ?_
        exact fz_iret kX9_run rfl rfl (fun _ => ⟨hI, hf, _, rfl, (by omega)⟩)
      · exfalso; omega

abbrev qX9_run_0_0_2 (h : fz_H) (x dp : Int) : fz_H → Option fz_V → Prop := fun h' r0 => fz_Iv h' ∧ fz_fr [(44, 3), (46, 99999)] h h' ∧ ∃ r : Int, r0 = some (fz_i r) ∧ (h' 44 3 = h 44 3 + 1)
set_option maxHeartbeats 1000000 in
set_option maxRecDepth 100000 in
theorem sX9_run_0_0_2 (h : fz_H) (hI : fz_Iv h) (x dp : Int) (hp0 : h 44 5 = 0) (hp1 : 0 ≤ dp ∧ dp ≤ 39) (hp2 : 0 ≤ h 44 3 ∧ h 44 3 ≤ 899) : fz_R 1 mX9_run 0 [(0, fz_r 44), (1, fz_i 0), (2, fz_i 2), (3, fz_i x), (4, fz_i dp)] [] h (qX9_run_0_0_2 h x dp) := by
  refine fz_knowl (fun hk => ?_)
  have hr_x : -2147483648 ≤ x ∧ x < 2147483648 := hk _ (List.Mem.tail _ (List.Mem.tail _ (List.Mem.tail _ (List.Mem.head _))))
  have hr_dp : -2147483648 ≤ dp ∧ dp < 2147483648 := hk _ (List.Mem.tail _ (List.Mem.tail _ (List.Mem.tail _ (List.Mem.tail _ (List.Mem.head _)))))
  clear hk
  have hf : fz_fr [(44, 3), (46, 99999)] h h := fz_fr_rf
  have b1 : 0 ≤ h 44 5 ∧ h 44 5 ≤ 7 := hI.1 44 _
  have b2 : (-2147483648) ≤ h 44 3 ∧ h 44 3 ≤ 2147483647 := hI.1 44 _
  refine fz_iload kX9_run rfl rfl ?_
  refine fz_bipush ⟨by decide, by decide⟩ kX9_run rfl ?_
  refine fz_icmp_gt (tgt := 24) kX9_run rfl (by decide) (fun c3 => ?_) (fun c3 => ?_)
  · exfalso; omega
  · refine fz_aload_n kX9_run rfl rfl ?_
    refine fz_iload_n kX9_run rfl rfl ?_
    refine fz_callV (d' := 0) (M' := mX9_isKind) (As := [fz_i 0]) (st := []) kX9_run rfl rfl vX9_isKind rfl rfl rfl rfl (Nat.le_of_ble_eq_true rfl) (Nat.le_of_ble_eq_true rfl) (by decide) (sX9_isKind h hI 0 ) (fun H4 r5 q6 o7 => ?_)
    obtain ⟨e8, y9, rfl, p10⟩ := q6
    subst H4
    clear o7
    rcases p10 with ⟨rfl, c11⟩ | ⟨rfl, c11⟩
    · refine fz_if_eq (tgt := 24) kX9_run rfl (by decide) (fun c12 => ?_) (fun c12 => ?_)
      · exfalso; omega
      · refine fz_iload_n kX9_run rfl rfl ?_
        refine fz_if_lt (tgt := 24) kX9_run rfl (by decide) (fun c13 => ?_) (fun c13 => ?_)
        · exfalso; omega
        · refine fz_iload_n kX9_run rfl rfl ?_
          refine fz_iconst ⟨by decide, by decide⟩ kX9_run rfl ?_
          refine fz_icmp_lt (tgt := 26) kX9_run rfl (by decide) (fun c14 => ?_) (fun c14 => ?_)
          · refine fz_iload_n kX9_run rfl rfl ?_
            refine fz_iload_n kX9_run rfl rfl ?_
            refine fz_callS (d' := 0) (M' := mX9_ownerFrom) (As := [fz_i 0, fz_i 2]) (st := []) kX9_run rfl rfl vX9_ownerFrom rfl rfl (Nat.le_of_ble_eq_true rfl) (Nat.le_of_ble_eq_true rfl) (by decide) (sX9_ownerFrom_0_2 h hI  ) (fun H15 r16 q17 o18 => ?_)
            obtain ⟨e19, y21, rfl, f20⟩ := q17
            subst H15
            clear o18
            refine fz_eqi (show y21 = 0 by omega) ?_
            refine fz_istore (ls' := [(5, fz_i 0), (0, fz_r 44), (1, fz_i 0), (2, fz_i 2), (3, fz_i x), (4, fz_i dp)]) kX9_run rfl (by decide) rfl ?_
            refine fz_gets kX9_run rfl ?_
            refine fz_iload kX9_run rfl rfl ?_
            refine fz_taldV (v := (-1)) kX9_run rfl ⟨by decide, by decide⟩ (by omega) (by rw [hI.2.2.2.2]; decide) (by rw [hI.2.2.2.2]; rfl) ?_
            refine fz_istore (ls' := [(6, fz_i (-1)), (5, fz_i 0), (0, fz_r 44), (1, fz_i 0), (2, fz_i 2), (3, fz_i x), (4, fz_i dp)]) kX9_run rfl (by decide) rfl ?_
            refine fz_iload kX9_run rfl rfl ?_
            refine fz_iconst ⟨by decide, by decide⟩ kX9_run rfl ?_
            refine fz_iaddN kX9_run rfl (by omega) ?_
            refine fz_istore (ls' := [(7, fz_i (dp + 1)), (6, fz_i (-1)), (5, fz_i 0), (0, fz_r 44), (1, fz_i 0), (2, fz_i 2), (3, fz_i x), (4, fz_i dp)]) kX9_run rfl (by decide) rfl ?_
            refine fz_gets kX9_run rfl ?_
            refine fz_iload kX9_run rfl rfl ?_
            refine fz_iconst ⟨by decide, by decide⟩ kX9_run rfl ?_
            refine fz_imulN kX9_run rfl ⟨by decide, by decide⟩ ?_
            refine fz_eqi (y := 0) rfl ?_
            refine fz_iload_n kX9_run rfl rfl ?_
            refine fz_iaddN kX9_run rfl ⟨by decide, by decide⟩ ?_
            refine fz_eqi (y := 2) rfl ?_
            refine fz_taldV (v := 11) kX9_run rfl ⟨by decide, by decide⟩ (by omega) (by rw [hI.2.2.2.1]; decide) (by rw [hI.2.2.2.1]; rfl) ?_
            refine fz_istore (ls' := [(8, fz_i 11), (7, fz_i (dp + 1)), (6, fz_i (-1)), (5, fz_i 0), (0, fz_r 44), (1, fz_i 0), (2, fz_i 2), (3, fz_i x), (4, fz_i dp)]) kX9_run rfl (by decide) rfl ?_
            refine fz_aload_n kX9_run rfl rfl ?_
            refine fz_iload kX9_run rfl rfl ?_
            refine fz_callV (d' := 0) (M' := mX9_note) (As := [fz_i 11]) (st := []) kX9_run rfl rfl vX9_note rfl rfl rfl rfl (Nat.le_of_ble_eq_true rfl) (Nat.le_of_ble_eq_true rfl) (by decide) (sX9_note h hI 11 (by omega)) (fun H26 r27 q28 o29 => ?_)
            obtain ⟨hI30, hf31, rfl, f32⟩ := q28
            clear o29
            have hf33 := fz_fr_tr hf hf31 (show fz_su [(44, 3), (46, 99999)] [(44, 3), (46, 99999)] = true from rfl)
            refine fz_iload kX9_run rfl rfl ?_
            refine fz_lsw (tgt := 228) kX9_run rfl (by decide) (show Op.lookupswitch.offset [(1, 113), (2, 120), (10, 146), (11, 161), (20, 168), (30, 181), (40, 193), (41, 206), (50, 219), (60, 243), (70, 256), (80, 269), (81, 293)] 306 11 = 161 from rfl) (by decide) ?_
            refine fz_iload_n kX9_run rfl rfl ?_
            refine fz_aload_n kX9_run rfl rfl ?_
            refine fz_getV (v := h 44 4) kX9_run rfl rfl (hf33 44 4 rfl) ?_
            have b34 : 0 ≤ h 44 4 ∧ h 44 4 ≤ 49 := hI.1 44 _
            refine fz_ixor kX9_run rfl ?_
            have b35 : -2147483648 ≤ (fz_xor x (h 44 4)) ∧ (fz_xor x (h 44 4)) < 2147483648 := fz_b32 _
            exact fz_iret kX9_run rfl rfl (fun _ => ⟨hI30, hf33, _, rfl, (by omega)⟩)
          · exfalso; omega
    · refine fz_if_eq (tgt := 24) kX9_run rfl (by decide) (fun c36 => ?_) (fun c36 => ?_)
      · refine fz_iconst ⟨by decide, by decide⟩ kX9_run rfl ?_
        exact fz_iret kX9_run rfl rfl (fun _ => ⟨hI, hf, _, rfl, (by omega)⟩)
      · exfalso; omega

abbrev qX9_run_0_0_3 (h : fz_H) (x dp : Int) : fz_H → Option fz_V → Prop := fun h' r0 => fz_Iv h' ∧ fz_fr [(44, 3), (46, 99999)] h h' ∧ ∃ r : Int, r0 = some (fz_i r) ∧ (h' 44 3 = h 44 3 + 4)
set_option maxHeartbeats 1000000 in
set_option maxRecDepth 100000 in
theorem sX9_run_0_0_3 (h : fz_H) (hI : fz_Iv h) (x dp : Int) (hp0 : h 44 5 = 0) (hp1 : 0 ≤ dp ∧ dp ≤ 37) (hp2 : 0 ≤ h 44 3 ∧ h 44 3 ≤ 896) : fz_R 3 mX9_run 0 [(0, fz_r 44), (1, fz_i 0), (2, fz_i 3), (3, fz_i x), (4, fz_i dp)] [] h (qX9_run_0_0_3 h x dp) := by
  refine fz_knowl (fun hk => ?_)
  have hr_x : -2147483648 ≤ x ∧ x < 2147483648 := hk _ (List.Mem.tail _ (List.Mem.tail _ (List.Mem.tail _ (List.Mem.head _))))
  have hr_dp : -2147483648 ≤ dp ∧ dp < 2147483648 := hk _ (List.Mem.tail _ (List.Mem.tail _ (List.Mem.tail _ (List.Mem.tail _ (List.Mem.head _)))))
  clear hk
  have hf : fz_fr [(44, 3), (46, 99999)] h h := fz_fr_rf
  have b1 : 0 ≤ h 44 5 ∧ h 44 5 ≤ 7 := hI.1 44 _
  have b2 : (-2147483648) ≤ h 44 3 ∧ h 44 3 ≤ 2147483647 := hI.1 44 _
  refine fz_iload kX9_run rfl rfl ?_
  refine fz_bipush ⟨by decide, by decide⟩ kX9_run rfl ?_
  refine fz_icmp_gt (tgt := 24) kX9_run rfl (by decide) (fun c3 => ?_) (fun c3 => ?_)
  · exfalso; omega
  · refine fz_aload_n kX9_run rfl rfl ?_
    refine fz_iload_n kX9_run rfl rfl ?_
    refine fz_callV (d' := 0) (M' := mX9_isKind) (As := [fz_i 0]) (st := []) kX9_run rfl rfl vX9_isKind rfl rfl rfl rfl (Nat.le_of_ble_eq_true rfl) (Nat.le_of_ble_eq_true rfl) (by decide) (sX9_isKind h hI 0 ) (fun H4 r5 q6 o7 => ?_)
    obtain ⟨e8, y9, rfl, p10⟩ := q6
    subst H4
    clear o7
    rcases p10 with ⟨rfl, c11⟩ | ⟨rfl, c11⟩
    · refine fz_if_eq (tgt := 24) kX9_run rfl (by decide) (fun c12 => ?_) (fun c12 => ?_)
      · exfalso; omega
      · refine fz_iload_n kX9_run rfl rfl ?_
        refine fz_if_lt (tgt := 24) kX9_run rfl (by decide) (fun c13 => ?_) (fun c13 => ?_)
        · exfalso; omega
        · refine fz_iload_n kX9_run rfl rfl ?_
          refine fz_iconst ⟨by decide, by decide⟩ kX9_run rfl ?_
          refine fz_icmp_lt (tgt := 26) kX9_run rfl (by decide) (fun c14 => ?_) (fun c14 => ?_)
          · refine fz_iload_n kX9_run rfl rfl ?_
            refine fz_iload_n kX9_run rfl rfl ?_
            refine fz_callS (d' := 0) (M' := mX9_ownerFrom) (As := [fz_i 0, fz_i 3]) (st := []) kX9_run rfl rfl vX9_ownerFrom rfl rfl (Nat.le_of_ble_eq_true rfl) (Nat.le_of_ble_eq_true rfl) (by decide) (sX9_ownerFrom_0_3 h hI  ) (fun H15 r16 q17 o18 => ?_)
            obtain ⟨e19, y21, rfl, f20⟩ := q17
            subst H15
            clear o18
            refine fz_eqi (show y21 = 0 by omega) ?_
            refine fz_istore (ls' := [(5, fz_i 0), (0, fz_r 44), (1, fz_i 0), (2, fz_i 3), (3, fz_i x), (4, fz_i dp)]) kX9_run rfl (by decide) rfl ?_
            refine fz_gets kX9_run rfl ?_
            refine fz_iload kX9_run rfl rfl ?_
            refine fz_taldV (v := (-1)) kX9_run rfl ⟨by decide, by decide⟩ (by omega) (by rw [hI.2.2.2.2]; decide) (by rw [hI.2.2.2.2]; rfl) ?_
            refine fz_istore (ls' := [(6, fz_i (-1)), (5, fz_i 0), (0, fz_r 44), (1, fz_i 0), (2, fz_i 3), (3, fz_i x), (4, fz_i dp)]) kX9_run rfl (by decide) rfl ?_
            refine fz_iload kX9_run rfl rfl ?_
            refine fz_iconst ⟨by decide, by decide⟩ kX9_run rfl ?_
            refine fz_iaddN kX9_run rfl (by omega) ?_
            refine fz_istore (ls' := [(7, fz_i (dp + 1)), (6, fz_i (-1)), (5, fz_i 0), (0, fz_r 44), (1, fz_i 0), (2, fz_i 3), (3, fz_i x), (4, fz_i dp)]) kX9_run rfl (by decide) rfl ?_
            refine fz_gets kX9_run rfl ?_
            refine fz_iload kX9_run rfl rfl ?_
            refine fz_iconst ⟨by decide, by decide⟩ kX9_run rfl ?_
            refine fz_imulN kX9_run rfl ⟨by decide, by decide⟩ ?_
            refine fz_eqi (y := 0) rfl ?_
            refine fz_iload_n kX9_run rfl rfl ?_
            refine fz_iaddN kX9_run rfl ⟨by decide, by decide⟩ ?_
            refine fz_eqi (y := 3) rfl ?_
            refine fz_taldV (v := 2) kX9_run rfl ⟨by decide, by decide⟩ (by omega) (by rw [hI.2.2.2.1]; decide) (by rw [hI.2.2.2.1]; rfl) ?_
            refine fz_istore (ls' := [(8, fz_i 2), (7, fz_i (dp + 1)), (6, fz_i (-1)), (5, fz_i 0), (0, fz_r 44), (1, fz_i 0), (2, fz_i 3), (3, fz_i x), (4, fz_i dp)]) kX9_run rfl (by decide) rfl ?_
            refine fz_aload_n kX9_run rfl rfl ?_
            refine fz_iload kX9_run rfl rfl ?_
            refine fz_callV (d' := 0) (M' := mX9_note) (As := [fz_i 2]) (st := []) kX9_run rfl rfl vX9_note rfl rfl rfl rfl (Nat.le_of_ble_eq_true rfl) (Nat.le_of_ble_eq_true rfl) (by decide) (sX9_note h hI 2 (by omega)) (fun H26 r27 q28 o29 => ?_)
            obtain ⟨hI30, hf31, rfl, f32⟩ := q28
            clear o29
            have hf33 := fz_fr_tr hf hf31 (show fz_su [(44, 3), (46, 99999)] [(44, 3), (46, 99999)] = true from rfl)
            refine fz_iload kX9_run rfl rfl ?_
            refine fz_lsw (tgt := 187) kX9_run rfl (by decide) (show Op.lookupswitch.offset [(1, 113), (2, 120), (10, 146), (11, 161), (20, 168), (30, 181), (40, 193), (41, 206), (50, 219), (60, 243), (70, 256), (80, 269), (81, 293)] 306 2 = 120 from rfl) (by decide) ?_
            refine fz_aload_n kX9_run rfl rfl ?_
            refine fz_aload_n kX9_run rfl rfl ?_
            refine fz_getV (v := h 44 5) kX9_run rfl rfl (hf33 44 5 rfl) ?_
            have b34 : 0 ≤ h 44 5 ∧ h 44 5 ≤ 7 := hI.1 44 _
            refine fz_eqi (show (h 44 5) = 0 by omega) ?_
            refine fz_iconst ⟨by decide, by decide⟩ kX9_run rfl ?_
            refine fz_iload_n kX9_run rfl rfl ?_
            refine fz_iload kX9_run rfl rfl ?_
            have b35 : (-2147483648) ≤ H26 44 3 ∧ H26 44 3 ≤ 2147483647 := hI30.1 44 _
            have e36 : H26 44 5 = h 44 5 := hf33 44 5 rfl
            refine fz_callV (d' := 2) (M' := mX9_run) (As := [fz_i 0, fz_i 1, fz_i x, fz_i (dp + 1)]) (st := []) kX9_run rfl rfl vX9_run rfl rfl rfl rfl (Nat.le_of_ble_eq_true rfl) (Nat.le_of_ble_eq_true rfl) (by decide) (sX9_run_0_0_1 H26 hI30 x (dp + 1) (by omega) (by omega) (by omega)) (fun H37 r38 q39 o40 => ?_)
            obtain ⟨hI41, hf42, y44, rfl, f43⟩ := q39
            clear o40
            have hf45 := fz_fr_tr hf33 hf42 (show fz_su [(44, 3), (46, 99999)] [(44, 3), (46, 99999)] = true from rfl)
            refine fz_aload_n kX9_run rfl rfl ?_
            refine fz_aload_n kX9_run rfl rfl ?_
            refine fz_getV (v := h 44 5) kX9_run rfl rfl (hf45 44 5 rfl) ?_
            refine fz_eqi (show (h 44 5) = 0 by omega) ?_
            refine fz_iconst ⟨by decide, by decide⟩ kX9_run rfl ?_
            refine fz_iconst ⟨by decide, by decide⟩ kX9_run rfl ?_
            refine fz_iload kX9_run rfl rfl ?_
            have b46 : (-2147483648) ≤ H37 44 3 ∧ H37 44 3 ≤ 2147483647 := hI41.1 44 _
            have e47 : H37 44 5 = h 44 5 := hf45 44 5 rfl
            refine fz_callV (d' := 1) (M' := mX9_run) (As := [fz_i 0, fz_i 2, fz_i 1, fz_i (dp + 1)]) (st := [fz_i y44]) kX9_run rfl rfl vX9_run rfl rfl rfl rfl (Nat.le_of_ble_eq_true rfl) (Nat.le_of_ble_eq_true rfl) (by decide) (sX9_run_0_0_2 H37 hI41 1 (dp + 1) (by omega) (by omega) (by omega)) (fun H48 r49 q50 o51 => ?_)
            obtain ⟨hI52, hf53, y55, rfl, f54⟩ := q50
            clear o51
            have hf56 := fz_fr_tr hf45 hf53 (show fz_su [(44, 3), (46, 99999)] [(44, 3), (46, 99999)] = true from rfl)
            refine fz_isub kX9_run rfl ?_
            refine fz_nmw (fun z57 e58 => ?_)
            exact fz_iret kX9_run rfl rfl (fun _ => ⟨hI52, hf56, _, rfl, (by omega)⟩)
          · exfalso; omega
    · refine fz_if_eq (tgt := 24) kX9_run rfl (by decide) (fun c59 => ?_) (fun c59 => ?_)
      · refine fz_iconst ⟨by decide, by decide⟩ kX9_run rfl ?_
        exact fz_iret kX9_run rfl rfl (fun _ => ⟨hI, hf, _, rfl, (by omega)⟩)
      · exfalso; omega

abbrev qX9_run_1_0_0 (h : fz_H) (x dp : Int) : fz_H → Option fz_V → Prop := fun h' r0 => fz_Iv h' ∧ fz_fr [(44, 3), (46, 99999)] h h' ∧ ∃ r : Int, r0 = some (fz_i r) ∧ (h' 44 3 = h 44 3 + 1)
set_option maxHeartbeats 1000000 in
set_option maxRecDepth 100000 in
theorem sX9_run_1_0_0 (h : fz_H) (hI : fz_Iv h) (x dp : Int) (hp0 : h 44 5 = 1) (hp1 : 0 ≤ dp ∧ dp ≤ 39) (hp2 : 0 ≤ h 44 3 ∧ h 44 3 ≤ 899) : fz_R 1 mX9_run 0 [(0, fz_r 44), (1, fz_i 0), (2, fz_i 0), (3, fz_i x), (4, fz_i dp)] [] h (qX9_run_1_0_0 h x dp) := by
  refine fz_knowl (fun hk => ?_)
  have hr_x : -2147483648 ≤ x ∧ x < 2147483648 := hk _ (List.Mem.tail _ (List.Mem.tail _ (List.Mem.tail _ (List.Mem.head _))))
  have hr_dp : -2147483648 ≤ dp ∧ dp < 2147483648 := hk _ (List.Mem.tail _ (List.Mem.tail _ (List.Mem.tail _ (List.Mem.tail _ (List.Mem.head _)))))
  clear hk
  have hf : fz_fr [(44, 3), (46, 99999)] h h := fz_fr_rf
  have b1 : 0 ≤ h 44 5 ∧ h 44 5 ≤ 7 := hI.1 44 _
  have b2 : (-2147483648) ≤ h 44 3 ∧ h 44 3 ≤ 2147483647 := hI.1 44 _
  refine fz_iload kX9_run rfl rfl ?_
  refine fz_bipush ⟨by decide, by decide⟩ kX9_run rfl ?_
  refine fz_icmp_gt (tgt := 24) kX9_run rfl (by decide) (fun c3 => ?_) (fun c3 => ?_)
  · exfalso; omega
  · refine fz_aload_n kX9_run rfl rfl ?_
    refine fz_iload_n kX9_run rfl rfl ?_
    refine fz_callV (d' := 0) (M' := mX9_isKind) (As := [fz_i 0]) (st := []) kX9_run rfl rfl vX9_isKind rfl rfl rfl rfl (Nat.le_of_ble_eq_true rfl) (Nat.le_of_ble_eq_true rfl) (by decide) (sX9_isKind h hI 0 ) (fun H4 r5 q6 o7 => ?_)
    obtain ⟨e8, y9, rfl, p10⟩ := q6
    subst H4
    clear o7
    rcases p10 with ⟨rfl, c11⟩ | ⟨rfl, c11⟩
    · refine fz_if_eq (tgt := 24) kX9_run rfl (by decide) (fun c12 => ?_) (fun c12 => ?_)
      · exfalso; omega
      · refine fz_iload_n kX9_run rfl rfl ?_
        refine fz_if_lt (tgt := 24) kX9_run rfl (by decide) (fun c13 => ?_) (fun c13 => ?_)
        · exfalso; omega
        · refine fz_iload_n kX9_run rfl rfl ?_
          refine fz_iconst ⟨by decide, by decide⟩ kX9_run rfl ?_
          refine fz_icmp_lt (tgt := 26) kX9_run rfl (by decide) (fun c14 => ?_) (fun c14 => ?_)
          · refine fz_iload_n kX9_run rfl rfl ?_
            refine fz_iload_n kX9_run rfl rfl ?_
            refine fz_callS (d' := 0) (M' := mX9_ownerFrom) (As := [fz_i 0, fz_i 0]) (st := []) kX9_run rfl rfl vX9_ownerFrom rfl rfl (Nat.le_of_ble_eq_true rfl) (Nat.le_of_ble_eq_true rfl) (by decide) (sX9_ownerFrom_0_0 h hI  ) (fun H15 r16 q17 o18 => ?_)
            obtain ⟨e19, y21, rfl, f20⟩ := q17
            subst H15
            clear o18
            refine fz_eqi (show y21 = 0 by omega) ?_
            refine fz_istore (ls' := [(5, fz_i 0), (0, fz_r 44), (1, fz_i 0), (2, fz_i 0), (3, fz_i x), (4, fz_i dp)]) kX9_run rfl (by decide) rfl ?_
            refine fz_gets kX9_run rfl ?_
            refine fz_iload kX9_run rfl rfl ?_
            refine fz_taldV (v := (-1)) kX9_run rfl ⟨by decide, by decide⟩ (by omega) (by rw [hI.2.2.2.2]; decide) (by rw [hI.2.2.2.2]; rfl) ?_
            refine fz_istore (ls' := [(6, fz_i (-1)), (5, fz_i 0), (0, fz_r 44), (1, fz_i 0), (2, fz_i 0), (3, fz_i x), (4, fz_i dp)]) kX9_run rfl (by decide) rfl ?_
            refine fz_iload kX9_run rfl rfl ?_
            refine fz_iconst ⟨by decide, by decide⟩ kX9_run rfl ?_
            refine fz_iaddN kX9_run rfl (by omega) ?_
            refine fz_istore (ls' := [(7, fz_i (dp + 1)), (6, fz_i (-1)), (5, fz_i 0), (0, fz_r 44), (1, fz_i 0), (2, fz_i 0), (3, fz_i x), (4, fz_i dp)]) kX9_run rfl (by decide) rfl ?_
            refine fz_gets kX9_run rfl ?_
            refine fz_iload kX9_run rfl rfl ?_
            refine fz_iconst ⟨by decide, by decide⟩ kX9_run rfl ?_
            refine fz_imulN kX9_run rfl ⟨by decide, by decide⟩ ?_
            refine fz_eqi (y := 0) rfl ?_
            refine fz_iload_n kX9_run rfl rfl ?_
            refine fz_iaddN kX9_run rfl ⟨by decide, by decide⟩ ?_
            refine fz_eqi (y := 0) rfl ?_
            refine fz_taldV (v := 1) kX9_run rfl ⟨by decide, by decide⟩ (by omega) (by rw [hI.2.2.2.1]; decide) (by rw [hI.2.2.2.1]; rfl) ?_
            refine fz_istore (ls' := [(8, fz_i 1), (7, fz_i (dp + 1)), (6, fz_i (-1)), (5, fz_i 0), (0, fz_r 44), (1, fz_i 0), (2, fz_i 0), (3, fz_i x), (4, fz_i dp)]) kX9_run rfl (by decide) rfl ?_
            refine fz_aload_n kX9_run rfl rfl ?_
            refine fz_iload kX9_run rfl rfl ?_
            refine fz_callV (d' := 0) (M' := mX9_note) (As := [fz_i 1]) (st := []) kX9_run rfl rfl vX9_note rfl rfl rfl rfl (Nat.le_of_ble_eq_true rfl) (Nat.le_of_ble_eq_true rfl) (by decide) (sX9_note h hI 1 (by omega)) (fun H26 r27 q28 o29 => ?_)
            obtain ⟨hI30, hf31, rfl, f32⟩ := q28
            clear o29
            have hf33 := fz_fr_tr hf hf31 (show fz_su [(44, 3), (46, 99999)] [(44, 3), (46, 99999)] = true from rfl)
            refine fz_iload kX9_run rfl rfl ?_
            refine fz_lsw (tgt := 180) kX9_run rfl (by decide) (show Op.lookupswitch.offset [(1, 113), (2, 120), (10, 146), (11, 161), (20, 168), (30, 181), (40, 193), (41, 206), (50, 219), (60, 243), (70, 256), (80, 269), (81, 293)] 306 1 = 113 from rfl) (by decide) ?_
            refine fz_iload_n kX9_run rfl rfl ?_
            refine fz_aload_n kX9_run rfl rfl ?_
            refine fz_getV (v := h 44 4) kX9_run rfl rfl (hf33 44 4 rfl) ?_
            have b34 : 0 ≤ h 44 4 ∧ h 44 4 ≤ 49 := hI.1 44 _
            refine fz_iadd kX9_run rfl ?_
            refine fz_nmw (fun z35 e36 => ?_)
            exact fz_iret kX9_run rfl rfl (fun _ => ⟨hI30, hf33, _, rfl, (by omega)⟩)
          · exfalso; omega
    · refine fz_if_eq (tgt := 24) kX9_run rfl (by decide) (fun c37 => ?_) (fun c37 => ?_)
      · refine fz_iconst ⟨by decide, by decide⟩ kX9_run rfl ?_
        exact fz_iret kX9_run rfl rfl (fun _ => ⟨hI, hf, _, rfl, (by omega)⟩)
      · exfalso; omega

abbrev qX9_run_1_1_0 (h : fz_H) (x dp : Int) : fz_H → Option fz_V → Prop := fun h' r0 => fz_Iv h' ∧ fz_fr [(44, 3), (46, 99999)] h h' ∧ ∃ r : Int, r0 = some (fz_i r) ∧ (h' 44 3 = h 44 3 + 2)
set_option maxHeartbeats 1000000 in
set_option maxRecDepth 100000 in
theorem sX9_run_1_1_0 (h : fz_H) (hI : fz_Iv h) (x dp : Int) (hp0 : h 44 5 = 1) (hp1 : 0 ≤ dp ∧ dp ≤ 38) (hp2 : 0 ≤ h 44 3 ∧ h 44 3 ≤ 898) : fz_R 2 mX9_run 0 [(0, fz_r 44), (1, fz_i 1), (2, fz_i 0), (3, fz_i x), (4, fz_i dp)] [] h (qX9_run_1_1_0 h x dp) := by
  refine fz_knowl (fun hk => ?_)
  have hr_x : -2147483648 ≤ x ∧ x < 2147483648 := hk _ (List.Mem.tail _ (List.Mem.tail _ (List.Mem.tail _ (List.Mem.head _))))
  have hr_dp : -2147483648 ≤ dp ∧ dp < 2147483648 := hk _ (List.Mem.tail _ (List.Mem.tail _ (List.Mem.tail _ (List.Mem.tail _ (List.Mem.head _)))))
  clear hk
  have hf : fz_fr [(44, 3), (46, 99999)] h h := fz_fr_rf
  have b1 : 0 ≤ h 44 5 ∧ h 44 5 ≤ 7 := hI.1 44 _
  have b2 : (-2147483648) ≤ h 44 3 ∧ h 44 3 ≤ 2147483647 := hI.1 44 _
  refine fz_iload kX9_run rfl rfl ?_
  refine fz_bipush ⟨by decide, by decide⟩ kX9_run rfl ?_
  refine fz_icmp_gt (tgt := 24) kX9_run rfl (by decide) (fun c3 => ?_) (fun c3 => ?_)
  · exfalso; omega
  · refine fz_aload_n kX9_run rfl rfl ?_
    refine fz_iload_n kX9_run rfl rfl ?_
    refine fz_callV (d' := 0) (M' := mX9_isKind) (As := [fz_i 1]) (st := []) kX9_run rfl rfl vX9_isKind rfl rfl rfl rfl (Nat.le_of_ble_eq_true rfl) (Nat.le_of_ble_eq_true rfl) (by decide) (sX9_isKind h hI 1 ) (fun H4 r5 q6 o7 => ?_)
    obtain ⟨e8, y9, rfl, p10⟩ := q6
    subst H4
    clear o7
    rcases p10 with ⟨rfl, c11⟩ | ⟨rfl, c11⟩
    · refine fz_if_eq (tgt := 24) kX9_run rfl (by decide) (fun c12 => ?_) (fun c12 => ?_)
      · exfalso; omega
      · refine fz_iload_n kX9_run rfl rfl ?_
        refine fz_if_lt (tgt := 24) kX9_run rfl (by decide) (fun c13 => ?_) (fun c13 => ?_)
        · exfalso; omega
        · refine fz_iload_n kX9_run rfl rfl ?_
          refine fz_iconst ⟨by decide, by decide⟩ kX9_run rfl ?_
          refine fz_icmp_lt (tgt := 26) kX9_run rfl (by decide) (fun c14 => ?_) (fun c14 => ?_)
          · refine fz_iload_n kX9_run rfl rfl ?_
            refine fz_iload_n kX9_run rfl rfl ?_
            refine fz_callS (d' := 0) (M' := mX9_ownerFrom) (As := [fz_i 1, fz_i 0]) (st := []) kX9_run rfl rfl vX9_ownerFrom rfl rfl (Nat.le_of_ble_eq_true rfl) (Nat.le_of_ble_eq_true rfl) (by decide) (sX9_ownerFrom_1_0 h hI  ) (fun H15 r16 q17 o18 => ?_)
            obtain ⟨e19, y21, rfl, f20⟩ := q17
            subst H15
            clear o18
            refine fz_eqi (show y21 = 1 by omega) ?_
            refine fz_istore (ls' := [(5, fz_i 1), (0, fz_r 44), (1, fz_i 1), (2, fz_i 0), (3, fz_i x), (4, fz_i dp)]) kX9_run rfl (by decide) rfl ?_
            refine fz_gets kX9_run rfl ?_
            refine fz_iload kX9_run rfl rfl ?_
            refine fz_taldV (v := 0) kX9_run rfl ⟨by decide, by decide⟩ (by omega) (by rw [hI.2.2.2.2]; decide) (by rw [hI.2.2.2.2]; rfl) ?_
            refine fz_istore (ls' := [(6, fz_i 0), (5, fz_i 1), (0, fz_r 44), (1, fz_i 1), (2, fz_i 0), (3, fz_i x), (4, fz_i dp)]) kX9_run rfl (by decide) rfl ?_
            refine fz_iload kX9_run rfl rfl ?_
            refine fz_iconst ⟨by decide, by decide⟩ kX9_run rfl ?_
            refine fz_iaddN kX9_run rfl (by omega) ?_
            refine fz_istore (ls' := [(7, fz_i (dp + 1)), (6, fz_i 0), (5, fz_i 1), (0, fz_r 44), (1, fz_i 1), (2, fz_i 0), (3, fz_i x), (4, fz_i dp)]) kX9_run rfl (by decide) rfl ?_
            refine fz_gets kX9_run rfl ?_
            refine fz_iload kX9_run rfl rfl ?_
            refine fz_iconst ⟨by decide, by decide⟩ kX9_run rfl ?_
            refine fz_imulN kX9_run rfl ⟨by decide, by decide⟩ ?_
            refine fz_eqi (y := 4) rfl ?_
            refine fz_iload_n kX9_run rfl rfl ?_
            refine fz_iaddN kX9_run rfl ⟨by decide, by decide⟩ ?_
            refine fz_eqi (y := 4) rfl ?_
            refine fz_taldV (v := 20) kX9_run rfl ⟨by decide, by decide⟩ (by omega) (by rw [hI.2.2.2.1]; decide) (by rw [hI.2.2.2.1]; rfl) ?_
            refine fz_istore (ls' := [(8, fz_i 20), (7, fz_i (dp + 1)), (6, fz_i 0), (5, fz_i 1), (0, fz_r 44), (1, fz_i 1), (2, fz_i 0), (3, fz_i x), (4, fz_i dp)]) kX9_run rfl (by decide) rfl ?_
            refine fz_aload_n kX9_run rfl rfl ?_
            refine fz_iload kX9_run rfl rfl ?_
            refine fz_callV (d' := 0) (M' := mX9_note) (As := [fz_i 20]) (st := []) kX9_run rfl rfl vX9_note rfl rfl rfl rfl (Nat.le_of_ble_eq_true rfl) (Nat.le_of_ble_eq_true rfl) (by decide) (sX9_note h hI 20 (by omega)) (fun H26 r27 q28 o29 => ?_)
            obtain ⟨hI30, hf31, rfl, f32⟩ := q28
            clear o29
            have hf33 := fz_fr_tr hf hf31 (show fz_su [(44, 3), (46, 99999)] [(44, 3), (46, 99999)] = true from rfl)
            refine fz_iload kX9_run rfl rfl ?_
            refine fz_lsw (tgt := 235) kX9_run rfl (by decide) (show Op.lookupswitch.offset [(1, 113), (2, 120), (10, 146), (11, 161), (20, 168), (30, 181), (40, 193), (41, 206), (50, 219), (60, 243), (70, 256), (80, 269), (81, 293)] 306 20 = 168 from rfl) (by decide) ?_
            refine fz_aload_n kX9_run rfl rfl ?_
            refine fz_iload kX9_run rfl rfl ?_
            refine fz_iconst ⟨by decide, by decide⟩ kX9_run rfl ?_
            refine fz_iload_n kX9_run rfl rfl ?_
            refine fz_iload kX9_run rfl rfl ?_
            have b34 : (-2147483648) ≤ H26 44 3 ∧ H26 44 3 ≤ 2147483647 := hI30.1 44 _
            have e35 : H26 44 5 = h 44 5 := hf33 44 5 rfl
            refine fz_callV (d' := 1) (M' := mX9_run) (As := [fz_i 0, fz_i 0, fz_i x, fz_i (dp + 1)]) (st := []) kX9_run rfl rfl vX9_run rfl rfl rfl rfl (Nat.le_of_ble_eq_true rfl) (Nat.le_of_ble_eq_true rfl) (by decide) (sX9_run_1_0_0 H26 hI30 x (dp + 1) (by omega) (by omega) (by omega)) (fun H36 r37 q38 o39 => ?_)
            obtain ⟨hI40, hf41, y43, rfl, f42⟩ := q38
            clear o39
            have hf44 := fz_fr_tr hf33 hf41 (show fz_su [(44, 3), (46, 99999)] [(44, 3), (46, 99999)] = true from rfl)
            refine fz_iconst ⟨by decide, by decide⟩ kX9_run rfl ?_
            refine fz_iadd kX9_run rfl ?_
            refine fz_nmw (fun z45 e46 => ?_)
            exact fz_iret kX9_run rfl rfl (fun _ => ⟨hI40, hf44, _, rfl, (by omega)⟩)
          · exfalso; omega
    · refine fz_if_eq (tgt := 24) kX9_run rfl (by decide) (fun c47 => ?_) (fun c47 => ?_)
      · refine fz_iconst ⟨by decide, by decide⟩ kX9_run rfl ?_
        exact fz_iret kX9_run rfl rfl (fun _ => ⟨hI, hf, _, rfl, (by omega)⟩)
      · exfalso; omega

abbrev qX9_run_1_1_1 (h : fz_H) (x dp : Int) : fz_H → Option fz_V → Prop := fun h' r0 => fz_Iv h' ∧ fz_fr [(44, 3), (46, 99999)] h h' ∧ ∃ r : Int, r0 = some (fz_i r) ∧ (h' 44 3 = h 44 3 + 3)
set_option maxHeartbeats 1000000 in
set_option maxRecDepth 100000 in
theorem sX9_run_1_1_1 (h : fz_H) (hI : fz_Iv h) (x dp : Int) (hp0 : h 44 5 = 1) (hp1 : 0 ≤ dp ∧ dp ≤ 37) (hp2 : 0 ≤ h 44 3 ∧ h 44 3 ≤ 897) : fz_R 3 mX9_run 0 [(0, fz_r 44), (1, fz_i 1), (2, fz_i 1), (3, fz_i x), (4, fz_i dp)] [] h (qX9_run_1_1_1 h x dp) := by
  refine fz_knowl (fun hk => ?_)
  have hr_x : -2147483648 ≤ x ∧ x < 2147483648 := hk _ (List.Mem.tail _ (List.Mem.tail _ (List.Mem.tail _ (List.Mem.head _))))
  have hr_dp : -2147483648 ≤ dp ∧ dp < 2147483648 := hk _ (List.Mem.tail _ (List.Mem.tail _ (List.Mem.tail _ (List.Mem.tail _ (List.Mem.head _)))))
  clear hk
  have hf : fz_fr [(44, 3), (46, 99999)] h h := fz_fr_rf
  have b1 : 0 ≤ h 44 5 ∧ h 44 5 ≤ 7 := hI.1 44 _
  have b2 : (-2147483648) ≤ h 44 3 ∧ h 44 3 ≤ 2147483647 := hI.1 44 _
  refine fz_iload kX9_run rfl rfl ?_
  refine fz_bipush ⟨by decide, by decide⟩ kX9_run rfl ?_
  refine fz_icmp_gt (tgt := 24) kX9_run rfl (by decide) (fun c3 => ?_) (fun c3 => ?_)
  · exfalso; omega
  · refine fz_aload_n kX9_run rfl rfl ?_
    refine fz_iload_n kX9_run rfl rfl ?_
    refine fz_callV (d' := 0) (M' := mX9_isKind) (As := [fz_i 1]) (st := []) kX9_run rfl rfl vX9_isKind rfl rfl rfl rfl (Nat.le_of_ble_eq_true rfl) (Nat.le_of_ble_eq_true rfl) (by decide) (sX9_isKind h hI 1 ) (fun H4 r5 q6 o7 => ?_)
    obtain ⟨e8, y9, rfl, p10⟩ := q6
    subst H4
    clear o7
    rcases p10 with ⟨rfl, c11⟩ | ⟨rfl, c11⟩
    · refine fz_if_eq (tgt := 24) kX9_run rfl (by decide) (fun c12 => ?_) (fun c12 => ?_)
      · exfalso; omega
      · refine fz_iload_n kX9_run rfl rfl ?_
        refine fz_if_lt (tgt := 24) kX9_run rfl (by decide) (fun c13 => ?_) (fun c13 => ?_)
        · exfalso; omega
        · refine fz_iload_n kX9_run rfl rfl ?_
          refine fz_iconst ⟨by decide, by decide⟩ kX9_run rfl ?_
          refine fz_icmp_lt (tgt := 26) kX9_run rfl (by decide) (fun c14 => ?_) (fun c14 => ?_)
          · refine fz_iload_n kX9_run rfl rfl ?_
            refine fz_iload_n kX9_run rfl rfl ?_
            refine fz_callS (d' := 0) (M' := mX9_ownerFrom) (As := [fz_i 1, fz_i 1]) (st := []) kX9_run rfl rfl vX9_ownerFrom rfl rfl (Nat.le_of_ble_eq_true rfl) (Nat.le_of_ble_eq_true rfl) (by decide) (sX9_ownerFrom_1_1 h hI  ) (fun H15 r16 q17 o18 => ?_)
            obtain ⟨e19, y21, rfl, f20⟩ := q17
            subst H15
            clear o18
            refine fz_eqi (show y21 = 0 by omega) ?_
            refine fz_istore (ls' := [(5, fz_i 0), (0, fz_r 44), (1, fz_i 1), (2, fz_i 1), (3, fz_i x), (4, fz_i dp)]) kX9_run rfl (by decide) rfl ?_
            refine fz_gets kX9_run rfl ?_
            refine fz_iload kX9_run rfl rfl ?_
            refine fz_taldV (v := (-1)) kX9_run rfl ⟨by decide, by decide⟩ (by omega) (by rw [hI.2.2.2.2]; decide) (by rw [hI.2.2.2.2]; rfl) ?_
            refine fz_istore (ls' := [(6, fz_i (-1)), (5, fz_i 0), (0, fz_r 44), (1, fz_i 1), (2, fz_i 1), (3, fz_i x), (4, fz_i dp)]) kX9_run rfl (by decide) rfl ?_
            refine fz_iload kX9_run rfl rfl ?_
            refine fz_iconst ⟨by decide, by decide⟩ kX9_run rfl ?_
            refine fz_iaddN kX9_run rfl (by omega) ?_
            refine fz_istore (ls' := [(7, fz_i (dp + 1)), (6, fz_i (-1)), (5, fz_i 0), (0, fz_r 44), (1, fz_i 1), (2, fz_i 1), (3, fz_i x), (4, fz_i dp)]) kX9_run rfl (by decide) rfl ?_
            refine fz_gets kX9_run rfl ?_
            refine fz_iload kX9_run rfl rfl ?_
            refine fz_iconst ⟨by decide, by decide⟩ kX9_run rfl ?_
            refine fz_imulN kX9_run rfl ⟨by decide, by decide⟩ ?_
            refine fz_eqi (y := 0) rfl ?_
            refine fz_iload_n kX9_run rfl rfl ?_
            refine fz_iaddN kX9_run rfl ⟨by decide, by decide⟩ ?_
            refine fz_eqi (y := 1) rfl ?_
            refine fz_taldV (v := 10) kX9_run rfl ⟨by decide, by decide⟩ (by omega) (by rw [hI.2.2.2.1]; decide) (by rw [hI.2.2.2.1]; rfl) ?_
            refine fz_istore (ls' := [(8, fz_i 10), (7, fz_i (dp + 1)), (6, fz_i (-1)), (5, fz_i 0), (0, fz_r 44), (1, fz_i 1), (2, fz_i 1), (3, fz_i x), (4, fz_i dp)]) kX9_run rfl (by decide) rfl ?_
            refine fz_aload_n kX9_run rfl rfl ?_
            refine fz_iload kX9_run rfl rfl ?_
            refine fz_callV (d' := 0) (M' := mX9_note) (As := [fz_i 10]) (st := []) kX9_run rfl rfl vX9_note rfl rfl rfl rfl (Nat.le_of_ble_eq_true rfl) (Nat.le_of_ble_eq_true rfl) (by decide) (sX9_note h hI 10 (by omega)) (fun H26 r27 q28 o29 => ?_)
            obtain ⟨hI30, hf31, rfl, f32⟩ := q28
            clear o29
            have hf33 := fz_fr_tr hf hf31 (show fz_su [(44, 3), (46, 99999)] [(44, 3), (46, 99999)] = true from rfl)
            refine fz_iload kX9_run rfl rfl ?_
            refine fz_lsw (tgt := 213) kX9_run rfl (by decide) (show Op.lookupswitch.offset [(1, 113), (2, 120), (10, 146), (11, 161), (20, 168), (30, 181), (40, 193), (41, 206), (50, 219), (60, 243), (70, 256), (80, 269), (81, 293)] 306 10 = 146 from rfl) (by decide) ?_
            refine fz_aload_n kX9_run rfl rfl ?_
            refine fz_aload_n kX9_run rfl rfl ?_
            refine fz_getV (v := h 44 5) kX9_run rfl rfl (hf33 44 5 rfl) ?_
            have b34 : 0 ≤ h 44 5 ∧ h 44 5 ≤ 7 := hI.1 44 _
            refine fz_eqi (show (h 44 5) = 1 by omega) ?_
            refine fz_iconst ⟨by decide, by decide⟩ kX9_run rfl ?_
            refine fz_iload_n kX9_run rfl rfl ?_
            refine fz_iload kX9_run rfl rfl ?_
            have b35 : (-2147483648) ≤ H26 44 3 ∧ H26 44 3 ≤ 2147483647 := hI30.1 44 _
            have e36 : H26 44 5 = h 44 5 := hf33 44 5 rfl
            refine fz_callV (d' := 2) (M' := mX9_run) (As := [fz_i 1, fz_i 0, fz_i x, fz_i (dp + 1)]) (st := []) kX9_run rfl rfl vX9_run rfl rfl rfl rfl (Nat.le_of_ble_eq_true rfl) (Nat.le_of_ble_eq_true rfl) (by decide) (sX9_run_1_1_0 H26 hI30 x (dp + 1) (by omega) (by omega) (by omega)) (fun H37 r38 q39 o40 => ?_)
            obtain ⟨hI41, hf42, y44, rfl, f43⟩ := q39
            clear o40
            have hf45 := fz_fr_tr hf33 hf42 (show fz_su [(44, 3), (46, 99999)] [(44, 3), (46, 99999)] = true from rfl)
            refine fz_iconst ⟨by decide, by decide⟩ kX9_run rfl ?_
            refine fz_imul kX9_run rfl ?_
            refine fz_nmw (fun z46 e47 => ?_)
            exact fz_iret kX9_run rfl rfl (fun _ => ⟨hI41, hf45, _, rfl, (by omega)⟩)
          · exfalso; omega
    · refine fz_if_eq (tgt := 24) kX9_run rfl (by decide) (fun c48 => ?_) (fun c48 => ?_)
      · refine fz_iconst ⟨by decide, by decide⟩ kX9_run rfl ?_
        exact fz_iret kX9_run rfl rfl (fun _ => ⟨hI, hf, _, rfl, (by omega)⟩)
      · exfalso; omega

abbrev qX9_run_1_1_2 (h : fz_H) (x dp : Int) : fz_H → Option fz_V → Prop := fun h' r0 => fz_Iv h' ∧ fz_fr [(44, 3), (46, 99999)] h h' ∧ ∃ r : Int, r0 = some (fz_i r) ∧ (h' 44 3 = h 44 3 + 1)
set_option maxHeartbeats 1000000 in
set_option maxRecDepth 100000 in
theorem sX9_run_1_1_2 (h : fz_H) (hI : fz_Iv h) (x dp : Int) (hp0 : h 44 5 = 1) (hp1 : 0 ≤ dp ∧ dp ≤ 39) (hp2 : 0 ≤ h 44 3 ∧ h 44 3 ≤ 899) : fz_R 1 mX9_run 0 [(0, fz_r 44), (1, fz_i 1), (2, fz_i 2), (3, fz_i x), (4, fz_i dp)] [] h (qX9_run_1_1_2 h x dp) := by
  refine fz_knowl (fun hk => ?_)
  have hr_x : -2147483648 ≤ x ∧ x < 2147483648 := hk _ (List.Mem.tail _ (List.Mem.tail _ (List.Mem.tail _ (List.Mem.head _))))
  have hr_dp : -2147483648 ≤ dp ∧ dp < 2147483648 := hk _ (List.Mem.tail _ (List.Mem.tail _ (List.Mem.tail _ (List.Mem.tail _ (List.Mem.head _)))))
  clear hk
  have hf : fz_fr [(44, 3), (46, 99999)] h h := fz_fr_rf
  have b1 : 0 ≤ h 44 5 ∧ h 44 5 ≤ 7 := hI.1 44 _
  have b2 : (-2147483648) ≤ h 44 3 ∧ h 44 3 ≤ 2147483647 := hI.1 44 _
  refine fz_iload kX9_run rfl rfl ?_
  refine fz_bipush ⟨by decide, by decide⟩ kX9_run rfl ?_
  refine fz_icmp_gt (tgt := 24) kX9_run rfl (by decide) (fun c3 => ?_) (fun c3 => ?_)
  · exfalso; omega
  · refine fz_aload_n kX9_run rfl rfl ?_
    refine fz_iload_n kX9_run rfl rfl ?_
    refine fz_callV (d' := 0) (M' := mX9_isKind) (As := [fz_i 1]) (st := []) kX9_run rfl rfl vX9_isKind rfl rfl rfl rfl (Nat.le_of_ble_eq_true rfl) (Nat.le_of_ble_eq_true rfl) (by decide) (sX9_isKind h hI 1 ) (fun H4 r5 q6 o7 => ?_)
    obtain ⟨e8, y9, rfl, p10⟩ := q6
    subst H4
    clear o7
    rcases p10 with ⟨rfl, c11⟩ | ⟨rfl, c11⟩
    · refine fz_if_eq (tgt := 24) kX9_run rfl (by decide) (fun c12 => ?_) (fun c12 => ?_)
      · exfalso; omega
      · refine fz_iload_n kX9_run rfl rfl ?_
        refine fz_if_lt (tgt := 24) kX9_run rfl (by decide) (fun c13 => ?_) (fun c13 => ?_)
        · exfalso; omega
        · refine fz_iload_n kX9_run rfl rfl ?_
          refine fz_iconst ⟨by decide, by decide⟩ kX9_run rfl ?_
          refine fz_icmp_lt (tgt := 26) kX9_run rfl (by decide) (fun c14 => ?_) (fun c14 => ?_)
          · refine fz_iload_n kX9_run rfl rfl ?_
            refine fz_iload_n kX9_run rfl rfl ?_
            refine fz_callS (d' := 0) (M' := mX9_ownerFrom) (As := [fz_i 1, fz_i 2]) (st := []) kX9_run rfl rfl vX9_ownerFrom rfl rfl (Nat.le_of_ble_eq_true rfl) (Nat.le_of_ble_eq_true rfl) (by decide) (sX9_ownerFrom_1_2 h hI  ) (fun H15 r16 q17 o18 => ?_)
            obtain ⟨e19, y21, rfl, f20⟩ := q17
            subst H15
            clear o18
            refine fz_eqi (show y21 = 0 by omega) ?_
            refine fz_istore (ls' := [(5, fz_i 0), (0, fz_r 44), (1, fz_i 1), (2, fz_i 2), (3, fz_i x), (4, fz_i dp)]) kX9_run rfl (by decide) rfl ?_
            refine fz_gets kX9_run rfl ?_
            refine fz_iload kX9_run rfl rfl ?_
            refine fz_taldV (v := (-1)) kX9_run rfl ⟨by decide, by decide⟩ (by omega) (by rw [hI.2.2.2.2]; decide) (by rw [hI.2.2.2.2]; rfl) ?_
            refine fz_istore (ls' := [(6, fz_i (-1)), (5, fz_i 0), (0, fz_r 44), (1, fz_i 1), (2, fz_i 2), (3, fz_i x), (4, fz_i dp)]) kX9_run rfl (by decide) rfl ?_
            refine fz_iload kX9_run rfl rfl ?_
            refine fz_iconst ⟨by decide, by decide⟩ kX9_run rfl ?_
            refine fz_iaddN kX9_run rfl (by omega) ?_
            refine fz_istore (ls' := [(7, fz_i (dp + 1)), (6, fz_i (-1)), (5, fz_i 0), (0, fz_r 44), (1, fz_i 1), (2, fz_i 2), (3, fz_i x), (4, fz_i dp)]) kX9_run rfl (by decide) rfl ?_
            refine fz_gets kX9_run rfl ?_
            refine fz_iload kX9_run rfl rfl ?_
            refine fz_iconst ⟨by decide, by decide⟩ kX9_run rfl ?_
            refine fz_imulN kX9_run rfl ⟨by decide, by decide⟩ ?_
            refine fz_eqi (y := 0) rfl ?_
            refine fz_iload_n kX9_run rfl rfl ?_
            refine fz_iaddN kX9_run rfl ⟨by decide, by decide⟩ ?_
            refine fz_eqi (y := 2) rfl ?_
            refine fz_taldV (v := 11) kX9_run rfl ⟨by decide, by decide⟩ (by omega) (by rw [hI.2.2.2.1]; decide) (by rw [hI.2.2.2.1]; rfl) ?_
            refine fz_istore (ls' := [(8, fz_i 11), (7, fz_i (dp + 1)), (6, fz_i (-1)), (5, fz_i 0), (0, fz_r 44), (1, fz_i 1), (2, fz_i 2), (3, fz_i x), (4, fz_i dp)]) kX9_run rfl (by decide) rfl ?_
            refine fz_aload_n kX9_run rfl rfl ?_
            refine fz_iload kX9_run rfl rfl ?_
            refine fz_callV (d' := 0) (M' := mX9_note) (As := [fz_i 11]) (st := []) kX9_run rfl rfl vX9_note rfl rfl rfl rfl (Nat.le_of_ble_eq_true rfl) (Nat.le_of_ble_eq_true rfl) (by decide) (sX9_note h hI 11 (by omega)) (fun H26 r27 q28 o29 => ?_)
            obtain ⟨hI30, hf31, rfl, f32⟩ := q28
            clear o29
            have hf33 := fz_fr_tr hf hf31 (show fz_su [(44, 3), (46, 99999)] [(44, 3), (46, 99999)] = true from rfl)
            refine fz_iload kX9_run rfl rfl ?_
            refine fz_lsw (tgt := 228) kX9_run rfl (by decide) (show Op.lookupswitch.offset [(1, 113), (2, 120), (10, 146), (11, 161), (20, 168), (30, 181), (40, 193), (41, 206), (50, 219), (60, 243), (70, 256), (80, 269), (81, 293)] 306 11 = 161 from rfl) (by decide) ?_
            refine fz_iload_n kX9_run rfl rfl ?_
            refine fz_aload_n kX9_run rfl rfl ?_
            refine fz_getV (v := h 44 4) kX9_run rfl rfl (hf33 44 4 rfl) ?_
            have b34 : 0 ≤ h 44 4 ∧ h 44 4 ≤ 49 := hI.1 44 _
            refine fz_ixor kX9_run rfl ?_
            have b35 : -2147483648 ≤ (fz_xor x (h 44 4)) ∧ (fz_xor x (h 44 4)) < 2147483648 := fz_b32 _
            exact fz_iret kX9_run rfl rfl (fun _ => ⟨hI30, hf33, _, rfl, (by omega)⟩)
          · exfalso; omega
    · refine fz_if_eq (tgt := 24) kX9_run rfl (by decide) (fun c36 => ?_) (fun c36 => ?_)
      · refine fz_iconst ⟨by decide, by decide⟩ kX9_run rfl ?_
        exact fz_iret kX9_run rfl rfl (fun _ => ⟨hI, hf, _, rfl, (by omega)⟩)
      · exfalso; omega

abbrev qX9_run_1_1_3 (h : fz_H) (x dp : Int) : fz_H → Option fz_V → Prop := fun h' r0 => fz_Iv h' ∧ fz_fr [(44, 3), (46, 99999)] h h' ∧ ∃ r : Int, r0 = some (fz_i r) ∧ (h' 44 3 = h 44 3 + 5)
set_option maxHeartbeats 1000000 in
set_option maxRecDepth 100000 in
theorem sX9_run_1_1_3 (h : fz_H) (hI : fz_Iv h) (x dp : Int) (hp0 : h 44 5 = 1) (hp1 : 0 ≤ dp ∧ dp ≤ 36) (hp2 : 0 ≤ h 44 3 ∧ h 44 3 ≤ 895) : fz_R 4 mX9_run 0 [(0, fz_r 44), (1, fz_i 1), (2, fz_i 3), (3, fz_i x), (4, fz_i dp)] [] h (qX9_run_1_1_3 h x dp) := by
  refine fz_knowl (fun hk => ?_)
  have hr_x : -2147483648 ≤ x ∧ x < 2147483648 := hk _ (List.Mem.tail _ (List.Mem.tail _ (List.Mem.tail _ (List.Mem.head _))))
  have hr_dp : -2147483648 ≤ dp ∧ dp < 2147483648 := hk _ (List.Mem.tail _ (List.Mem.tail _ (List.Mem.tail _ (List.Mem.tail _ (List.Mem.head _)))))
  clear hk
  have hf : fz_fr [(44, 3), (46, 99999)] h h := fz_fr_rf
  have b1 : 0 ≤ h 44 5 ∧ h 44 5 ≤ 7 := hI.1 44 _
  have b2 : (-2147483648) ≤ h 44 3 ∧ h 44 3 ≤ 2147483647 := hI.1 44 _
  refine fz_iload kX9_run rfl rfl ?_
  refine fz_bipush ⟨by decide, by decide⟩ kX9_run rfl ?_
  refine fz_icmp_gt (tgt := 24) kX9_run rfl (by decide) (fun c3 => ?_) (fun c3 => ?_)
  · exfalso; omega
  · refine fz_aload_n kX9_run rfl rfl ?_
    refine fz_iload_n kX9_run rfl rfl ?_
    refine fz_callV (d' := 0) (M' := mX9_isKind) (As := [fz_i 1]) (st := []) kX9_run rfl rfl vX9_isKind rfl rfl rfl rfl (Nat.le_of_ble_eq_true rfl) (Nat.le_of_ble_eq_true rfl) (by decide) (sX9_isKind h hI 1 ) (fun H4 r5 q6 o7 => ?_)
    obtain ⟨e8, y9, rfl, p10⟩ := q6
    subst H4
    clear o7
    rcases p10 with ⟨rfl, c11⟩ | ⟨rfl, c11⟩
    · refine fz_if_eq (tgt := 24) kX9_run rfl (by decide) (fun c12 => ?_) (fun c12 => ?_)
      · exfalso; omega
      · refine fz_iload_n kX9_run rfl rfl ?_
        refine fz_if_lt (tgt := 24) kX9_run rfl (by decide) (fun c13 => ?_) (fun c13 => ?_)
        · exfalso; omega
        · refine fz_iload_n kX9_run rfl rfl ?_
          refine fz_iconst ⟨by decide, by decide⟩ kX9_run rfl ?_
          refine fz_icmp_lt (tgt := 26) kX9_run rfl (by decide) (fun c14 => ?_) (fun c14 => ?_)
          · refine fz_iload_n kX9_run rfl rfl ?_
            refine fz_iload_n kX9_run rfl rfl ?_
            refine fz_callS (d' := 0) (M' := mX9_ownerFrom) (As := [fz_i 1, fz_i 3]) (st := []) kX9_run rfl rfl vX9_ownerFrom rfl rfl (Nat.le_of_ble_eq_true rfl) (Nat.le_of_ble_eq_true rfl) (by decide) (sX9_ownerFrom_1_3 h hI  ) (fun H15 r16 q17 o18 => ?_)
            obtain ⟨e19, y21, rfl, f20⟩ := q17
            subst H15
            clear o18
            refine fz_eqi (show y21 = 0 by omega) ?_
            refine fz_istore (ls' := [(5, fz_i 0), (0, fz_r 44), (1, fz_i 1), (2, fz_i 3), (3, fz_i x), (4, fz_i dp)]) kX9_run rfl (by decide) rfl ?_
            refine fz_gets kX9_run rfl ?_
            refine fz_iload kX9_run rfl rfl ?_
            refine fz_taldV (v := (-1)) kX9_run rfl ⟨by decide, by decide⟩ (by omega) (by rw [hI.2.2.2.2]; decide) (by rw [hI.2.2.2.2]; rfl) ?_
            refine fz_istore (ls' := [(6, fz_i (-1)), (5, fz_i 0), (0, fz_r 44), (1, fz_i 1), (2, fz_i 3), (3, fz_i x), (4, fz_i dp)]) kX9_run rfl (by decide) rfl ?_
            refine fz_iload kX9_run rfl rfl ?_
            refine fz_iconst ⟨by decide, by decide⟩ kX9_run rfl ?_
            refine fz_iaddN kX9_run rfl (by omega) ?_
            refine fz_istore (ls' := [(7, fz_i (dp + 1)), (6, fz_i (-1)), (5, fz_i 0), (0, fz_r 44), (1, fz_i 1), (2, fz_i 3), (3, fz_i x), (4, fz_i dp)]) kX9_run rfl (by decide) rfl ?_
            refine fz_gets kX9_run rfl ?_
            refine fz_iload kX9_run rfl rfl ?_
            refine fz_iconst ⟨by decide, by decide⟩ kX9_run rfl ?_
            refine fz_imulN kX9_run rfl ⟨by decide, by decide⟩ ?_
            refine fz_eqi (y := 0) rfl ?_
            refine fz_iload_n kX9_run rfl rfl ?_
            refine fz_iaddN kX9_run rfl ⟨by decide, by decide⟩ ?_
            refine fz_eqi (y := 3) rfl ?_
            refine fz_taldV (v := 2) kX9_run rfl ⟨by decide, by decide⟩ (by omega) (by rw [hI.2.2.2.1]; decide) (by rw [hI.2.2.2.1]; rfl) ?_
            refine fz_istore (ls' := [(8, fz_i 2), (7, fz_i (dp + 1)), (6, fz_i (-1)), (5, fz_i 0), (0, fz_r 44), (1, fz_i 1), (2, fz_i 3), (3, fz_i x), (4, fz_i dp)]) kX9_run rfl (by decide) rfl ?_
            refine fz_aload_n kX9_run rfl rfl ?_
            refine fz_iload kX9_run rfl rfl ?_
            refine fz_callV (d' := 0) (M' := mX9_note) (As := [fz_i 2]) (st := []) kX9_run rfl rfl vX9_note rfl rfl rfl rfl (Nat.le_of_ble_eq_true rfl) (Nat.le_of_ble_eq_true rfl) (by decide) (sX9_note h hI 2 (by omega)) (fun H26 r27 q28 o29 => ?_)
            obtain ⟨hI30, hf31, rfl, f32⟩ := q28
            clear o29
            have hf33 := fz_fr_tr hf hf31 (show fz_su [(44, 3), (46, 99999)] [(44, 3), (46, 99999)] = true from rfl)
            refine fz_iload kX9_run rfl rfl ?_
            refine fz_lsw (tgt := 187) kX9_run rfl (by decide) (show Op.lookupswitch.offset [(1, 113), (2, 120), (10, 146), (11, 161), (20, 168), (30, 181), (40, 193), (41, 206), (50, 219), (60, 243), (70, 256), (80, 269), (81, 293)] 306 2 = 120 from rfl) (by decide) ?_
            refine fz_aload_n kX9_run rfl rfl ?_
            refine fz_aload_n kX9_run rfl rfl ?_
            refine fz_getV (v := h 44 5) kX9_run rfl rfl (hf33 44 5 rfl) ?_
            have b34 : 0 ≤ h 44 5 ∧ h 44 5 ≤ 7 := hI.1 44 _
            refine fz_eqi (show (h 44 5) = 1 by omega) ?_
            refine fz_iconst ⟨by decide, by decide⟩ kX9_run rfl ?_
            refine fz_iload_n kX9_run rfl rfl ?_
            refine fz_iload kX9_run rfl rfl ?_
            have b35 : (-2147483648) ≤ H26 44 3 ∧ H26 44 3 ≤ 2147483647 := hI30.1 44 _
            have e36 : H26 44 5 = h 44 5 := hf33 44 5 rfl
            refine fz_callV (d' := 3) (M' := mX9_run) (As := [fz_i 1, fz_i 1, fz_i x, fz_i (dp + 1)]) (st := []) kX9_run rfl rfl vX9_run rfl rfl rfl rfl (Nat.le_of_ble_eq_true rfl) (Nat.le_of_ble_eq_true rfl) (by decide) (sX9_run_1_1_1 H26 hI30 x (dp + 1) (by omega) (by omega) (by omega)) (fun H37 r38 q39 o40 => ?_)
            obtain ⟨hI41, hf42, y44, rfl, f43⟩ := q39
            clear o40
            have hf45 := fz_fr_tr hf33 hf42 (show fz_su [(44, 3), (46, 99999)] [(44, 3), (46, 99999)] = true from rfl)
            refine fz_aload_n kX9_run rfl rfl ?_
            refine fz_aload_n kX9_run rfl rfl ?_
            refine fz_getV (v := h 44 5) kX9_run rfl rfl (hf45 44 5 rfl) ?_
            refine fz_eqi (show (h 44 5) = 1 by omega) ?_
            refine fz_iconst ⟨by decide, by decide⟩ kX9_run rfl ?_
            refine fz_iconst ⟨by decide, by decide⟩ kX9_run rfl ?_
            refine fz_iload kX9_run rfl rfl ?_
            have b46 : (-2147483648) ≤ H37 44 3 ∧ H37 44 3 ≤ 2147483647 := hI41.1 44 _
            have e47 : H37 44 5 = h 44 5 := hf45 44 5 rfl
            refine fz_callV (d' := 1) (M' := mX9_run) (As := [fz_i 1, fz_i 2, fz_i 1, fz_i (dp + 1)]) (st := [fz_i y44]) kX9_run rfl rfl vX9_run rfl rfl rfl rfl (Nat.le_of_ble_eq_true rfl) (Nat.le_of_ble_eq_true rfl) (by decide) (sX9_run_1_1_2 H37 hI41 1 (dp + 1) (by omega) (by omega) (by omega)) (fun H48 r49 q50 o51 => ?_)
            obtain ⟨hI52, hf53, y55, rfl, f54⟩ := q50
            clear o51
            have hf56 := fz_fr_tr hf45 hf53 (show fz_su [(44, 3), (46, 99999)] [(44, 3), (46, 99999)] = true from rfl)
            refine fz_isub kX9_run rfl ?_
            refine fz_nmw (fun z57 e58 => ?_)
            exact fz_iret kX9_run rfl rfl (fun _ => ⟨hI52, hf56, _, rfl, (by omega)⟩)
          · exfalso; omega
    · refine fz_if_eq (tgt := 24) kX9_run rfl (by decide) (fun c59 => ?_) (fun c59 => ?_)
      · refine fz_iconst ⟨by decide, by decide⟩ kX9_run rfl ?_
        exact fz_iret kX9_run rfl rfl (fun _ => ⟨hI, hf, _, rfl, (by omega)⟩)
      · exfalso; omega

abbrev qX9_run_2_2_0 (h : fz_H) (x dp : Int) : fz_H → Option fz_V → Prop := fun h' r0 => fz_Iv h' ∧ fz_fr [(44, 3), (46, 99999)] h h' ∧ ∃ r : Int, r0 = some (fz_i r) ∧ (h' 44 3 = h 44 3 + 1)
set_option maxHeartbeats 1000000 in
set_option maxRecDepth 100000 in
theorem sX9_run_2_2_0 (h : fz_H) (hI : fz_Iv h) (x dp : Int) (hp0 : h 44 5 = 2) (hp1 : 0 ≤ dp ∧ dp ≤ 39) (hp2 : 0 ≤ h 44 3 ∧ h 44 3 ≤ 899) : fz_R 1 mX9_run 0 [(0, fz_r 44), (1, fz_i 2), (2, fz_i 0), (3, fz_i x), (4, fz_i dp)] [] h (qX9_run_2_2_0 h x dp) := by
  refine fz_knowl (fun hk => ?_)
  have hr_x : -2147483648 ≤ x ∧ x < 2147483648 := hk _ (List.Mem.tail _ (List.Mem.tail _ (List.Mem.tail _ (List.Mem.head _))))
  have hr_dp : -2147483648 ≤ dp ∧ dp < 2147483648 := hk _ (List.Mem.tail _ (List.Mem.tail _ (List.Mem.tail _ (List.Mem.tail _ (List.Mem.head _)))))
  clear hk
  have hf : fz_fr [(44, 3), (46, 99999)] h h := fz_fr_rf
  have b1 : 0 ≤ h 44 5 ∧ h 44 5 ≤ 7 := hI.1 44 _
  have b2 : (-2147483648) ≤ h 44 3 ∧ h 44 3 ≤ 2147483647 := hI.1 44 _
  refine fz_iload kX9_run rfl rfl ?_
  refine fz_bipush ⟨by decide, by decide⟩ kX9_run rfl ?_
  refine fz_icmp_gt (tgt := 24) kX9_run rfl (by decide) (fun c3 => ?_) (fun c3 => ?_)
  · exfalso; omega
  · refine fz_aload_n kX9_run rfl rfl ?_
    refine fz_iload_n kX9_run rfl rfl ?_
    refine fz_callV (d' := 0) (M' := mX9_isKind) (As := [fz_i 2]) (st := []) kX9_run rfl rfl vX9_isKind rfl rfl rfl rfl (Nat.le_of_ble_eq_true rfl) (Nat.le_of_ble_eq_true rfl) (by decide) (sX9_isKind h hI 2 ) (fun H4 r5 q6 o7 => ?_)
    obtain ⟨e8, y9, rfl, p10⟩ := q6
    subst H4
    clear o7
    rcases p10 with ⟨rfl, c11⟩ | ⟨rfl, c11⟩
    · refine fz_if_eq (tgt := 24) kX9_run rfl (by decide) (fun c12 => ?_) (fun c12 => ?_)
      · exfalso; omega
      · refine fz_iload_n kX9_run rfl rfl ?_
        refine fz_if_lt (tgt := 24) kX9_run rfl (by decide) (fun c13 => ?_) (fun c13 => ?_)
        · exfalso; omega
        · refine fz_iload_n kX9_run rfl rfl ?_
          refine fz_iconst ⟨by decide, by decide⟩ kX9_run rfl ?_
          refine fz_icmp_lt (tgt := 26) kX9_run rfl (by decide) (fun c14 => ?_) (fun c14 => ?_)
          · refine fz_iload_n kX9_run rfl rfl ?_
            refine fz_iload_n kX9_run rfl rfl ?_
            refine fz_callS (d' := 0) (M' := mX9_ownerFrom) (As := [fz_i 2, fz_i 0]) (st := []) kX9_run rfl rfl vX9_ownerFrom rfl rfl (Nat.le_of_ble_eq_true rfl) (Nat.le_of_ble_eq_true rfl) (by decide) (sX9_ownerFrom_2_0 h hI  ) (fun H15 r16 q17 o18 => ?_)
            obtain ⟨e19, y21, rfl, f20⟩ := q17
            subst H15
            clear o18
            refine fz_eqi (show y21 = 0 by omega) ?_
            refine fz_istore (ls' := [(5, fz_i 0), (0, fz_r 44), (1, fz_i 2), (2, fz_i 0), (3, fz_i x), (4, fz_i dp)]) kX9_run rfl (by decide) rfl ?_
            refine fz_gets kX9_run rfl ?_
            refine fz_iload kX9_run rfl rfl ?_
            refine fz_taldV (v := (-1)) kX9_run rfl ⟨by decide, by decide⟩ (by omega) (by rw [hI.2.2.2.2]; decide) (by rw [hI.2.2.2.2]; rfl) ?_
            refine fz_istore (ls' := [(6, fz_i (-1)), (5, fz_i 0), (0, fz_r 44), (1, fz_i 2), (2, fz_i 0), (3, fz_i x), (4, fz_i dp)]) kX9_run rfl (by decide) rfl ?_
            refine fz_iload kX9_run rfl rfl ?_
            refine fz_iconst ⟨by decide, by decide⟩ kX9_run rfl ?_
            refine fz_iaddN kX9_run rfl (by omega) ?_
            refine fz_istore (ls' := [(7, fz_i (dp + 1)), (6, fz_i (-1)), (5, fz_i 0), (0, fz_r 44), (1, fz_i 2), (2, fz_i 0), (3, fz_i x), (4, fz_i dp)]) kX9_run rfl (by decide) rfl ?_
            refine fz_gets kX9_run rfl ?_
            refine fz_iload kX9_run rfl rfl ?_
            refine fz_iconst ⟨by decide, by decide⟩ kX9_run rfl ?_
            refine fz_imulN kX9_run rfl ⟨by decide, by decide⟩ ?_
            refine fz_eqi (y := 0) rfl ?_
            refine fz_iload_n kX9_run rfl rfl ?_
            refine fz_iaddN kX9_run rfl ⟨by decide, by decide⟩ ?_
            refine fz_eqi (y := 0) rfl ?_
            refine fz_taldV (v := 1) kX9_run rfl ⟨by decide, by decide⟩ (by omega) (by rw [hI.2.2.2.1]; decide) (by rw [hI.2.2.2.1]; rfl) ?_
            refine fz_istore (ls' := [(8, fz_i 1), (7, fz_i (dp + 1)), (6, fz_i (-1)), (5, fz_i 0), (0, fz_r 44), (1, fz_i 2), (2, fz_i 0), (3, fz_i x), (4, fz_i dp)]) kX9_run rfl (by decide) rfl ?_
            refine fz_aload_n kX9_run rfl rfl ?_
            refine fz_iload kX9_run rfl rfl ?_
            refine fz_callV (d' := 0) (M' := mX9_note) (As := [fz_i 1]) (st := []) kX9_run rfl rfl vX9_note rfl rfl rfl rfl (Nat.le_of_ble_eq_true rfl) (Nat.le_of_ble_eq_true rfl) (by decide) (sX9_note h hI 1 (by omega)) (fun H26 r27 q28 o29 => ?_)
            obtain ⟨hI30, hf31, rfl, f32⟩ := q28
            clear o29
            have hf33 := fz_fr_tr hf hf31 (show fz_su [(44, 3), (46, 99999)] [(44, 3), (46, 99999)] = true from rfl)
            refine fz_iload kX9_run rfl rfl ?_
            refine fz_lsw (tgt := 180) kX9_run rfl (by decide) (show Op.lookupswitch.offset [(1, 113), (2, 120), (10, 146), (11, 161), (20, 168), (30, 181), (40, 193), (41, 206), (50, 219), (60, 243), (70, 256), (80, 269), (81, 293)] 306 1 = 113 from rfl) (by decide) ?_
            refine fz_iload_n kX9_run rfl rfl ?_
            refine fz_aload_n kX9_run rfl rfl ?_
            refine fz_getV (v := h 44 4) kX9_run rfl rfl (hf33 44 4 rfl) ?_
            have b34 : 0 ≤ h 44 4 ∧ h 44 4 ≤ 49 := hI.1 44 _
            refine fz_iadd kX9_run rfl ?_
            refine fz_nmw (fun z35 e36 => ?_)
            exact fz_iret kX9_run rfl rfl (fun _ => ⟨hI30, hf33, _, rfl, (by omega)⟩)
          · exfalso; omega
    · refine fz_if_eq (tgt := 24) kX9_run rfl (by decide) (fun c37 => ?_) (fun c37 => ?_)
      · refine fz_iconst ⟨by decide, by decide⟩ kX9_run rfl ?_
        exact fz_iret kX9_run rfl rfl (fun _ => ⟨hI, hf, _, rfl, (by omega)⟩)
      · exfalso; omega

abbrev qX9_run_2_0_1 (h : fz_H) (x dp : Int) : fz_H → Option fz_V → Prop := fun h' r0 => fz_Iv h' ∧ fz_fr [(44, 3), (46, 99999)] h h' ∧ ∃ r : Int, r0 = some (fz_i r) ∧ (h' 44 3 = h 44 3 + 2)
set_option maxHeartbeats 1000000 in
set_option maxRecDepth 100000 in
theorem sX9_run_2_0_1 (h : fz_H) (hI : fz_Iv h) (x dp : Int) (hp0 : h 44 5 = 2) (hp1 : 0 ≤ dp ∧ dp ≤ 38) (hp2 : 0 ≤ h 44 3 ∧ h 44 3 ≤ 898) : fz_R 2 mX9_run 0 [(0, fz_r 44), (1, fz_i 0), (2, fz_i 1), (3, fz_i x), (4, fz_i dp)] [] h (qX9_run_2_0_1 h x dp) := by
  refine fz_knowl (fun hk => ?_)
  have hr_x : -2147483648 ≤ x ∧ x < 2147483648 := hk _ (List.Mem.tail _ (List.Mem.tail _ (List.Mem.tail _ (List.Mem.head _))))
  have hr_dp : -2147483648 ≤ dp ∧ dp < 2147483648 := hk _ (List.Mem.tail _ (List.Mem.tail _ (List.Mem.tail _ (List.Mem.tail _ (List.Mem.head _)))))
  clear hk
  have hf : fz_fr [(44, 3), (46, 99999)] h h := fz_fr_rf
  have b1 : 0 ≤ h 44 5 ∧ h 44 5 ≤ 7 := hI.1 44 _
  have b2 : (-2147483648) ≤ h 44 3 ∧ h 44 3 ≤ 2147483647 := hI.1 44 _
  refine fz_iload kX9_run rfl rfl ?_
  refine fz_bipush ⟨by decide, by decide⟩ kX9_run rfl ?_
  refine fz_icmp_gt (tgt := 24) kX9_run rfl (by decide) (fun c3 => ?_) (fun c3 => ?_)
  · exfalso; omega
  · refine fz_aload_n kX9_run rfl rfl ?_
    refine fz_iload_n kX9_run rfl rfl ?_
    refine fz_callV (d' := 0) (M' := mX9_isKind) (As := [fz_i 0]) (st := []) kX9_run rfl rfl vX9_isKind rfl rfl rfl rfl (Nat.le_of_ble_eq_true rfl) (Nat.le_of_ble_eq_true rfl) (by decide) (sX9_isKind h hI 0 ) (fun H4 r5 q6 o7 => ?_)
    obtain ⟨e8, y9, rfl, p10⟩ := q6
    subst H4
    clear o7
    rcases p10 with ⟨rfl, c11⟩ | ⟨rfl, c11⟩
    · refine fz_if_eq (tgt := 24) kX9_run rfl (by decide) (fun c12 => ?_) (fun c12 => ?_)
      · exfalso; omega
      · refine fz_iload_n kX9_run rfl rfl ?_
        refine fz_if_lt (tgt := 24) kX9_run rfl (by decide) (fun c13 => ?_) (fun c13 => ?_)
        · exfalso; omega
        · refine fz_iload_n kX9_run rfl rfl ?_
          refine fz_iconst ⟨by decide, by decide⟩ kX9_run rfl ?_
          refine fz_icmp_lt (tgt := 26) kX9_run rfl (by decide) (fun c14 => ?_) (fun c14 => ?_)
          · refine fz_iload_n kX9_run rfl rfl ?_
            refine fz_iload_n kX9_run rfl rfl ?_
            refine fz_callS (d' := 0) (M' := mX9_ownerFrom) (As := [fz_i 0, fz_i 1]) (st := []) kX9_run rfl rfl vX9_ownerFrom rfl rfl (Nat.le_of_ble_eq_true rfl) (Nat.le_of_ble_eq_true rfl) (by decide) (sX9_ownerFrom_0_1 h hI  ) (fun H15 r16 q17 o18 => ?_)
            obtain ⟨e19, y21, rfl, f20⟩ := q17
            subst H15
            clear o18
            refine fz_eqi (show y21 = 0 by omega) ?_
            refine fz_istore (ls' := [(5, fz_i 0), (0, fz_r 44), (1, fz_i 0), (2, fz_i 1), (3, fz_i x), (4, fz_i dp)]) kX9_run rfl (by decide) rfl ?_
            refine fz_gets kX9_run rfl ?_
            refine fz_iload kX9_run rfl rfl ?_
            refine fz_taldV (v := (-1)) kX9_run rfl ⟨by decide, by decide⟩ (by omega) (by rw [hI.2.2.2.2]; decide) (by rw [hI.2.2.2.2]; rfl) ?_
            refine fz_istore (ls' := [(6, fz_i (-1)), (5, fz_i 0), (0, fz_r 44), (1, fz_i 0), (2, fz_i 1), (3, fz_i x), (4, fz_i dp)]) kX9_run rfl (by decide) rfl ?_
            refine fz_iload kX9_run rfl rfl ?_
            refine fz_iconst ⟨by decide, by decide⟩ kX9_run rfl ?_
            refine fz_iaddN kX9_run rfl (by omega) ?_
            refine fz_istore (ls' := [(7, fz_i (dp + 1)), (6, fz_i (-1)), (5, fz_i 0), (0, fz_r 44), (1, fz_i 0), (2, fz_i 1), (3, fz_i x), (4, fz_i dp)]) kX9_run rfl (by decide) rfl ?_
            refine fz_gets kX9_run rfl ?_
            refine fz_iload kX9_run rfl rfl ?_
            refine fz_iconst ⟨by decide, by decide⟩ kX9_run rfl ?_
            refine fz_imulN kX9_run rfl ⟨by decide, by decide⟩ ?_
            refine fz_eqi (y := 0) rfl ?_
            refine fz_iload_n kX9_run rfl rfl ?_
            refine fz_iaddN kX9_run rfl ⟨by decide, by decide⟩ ?_
            refine fz_eqi (y := 1) rfl ?_
            refine fz_taldV (v := 10) kX9_run rfl ⟨by decide, by decide⟩ (by omega) (by rw [hI.2.2.2.1]; decide) (by rw [hI.2.2.2.1]; rfl) ?_
            refine fz_istore (ls' := [(8, fz_i 10), (7, fz_i (dp + 1)), (6, fz_i (-1)), (5, fz_i 0), (0, fz_r 44), (1, fz_i 0), (2, fz_i 1), (3, fz_i x), (4, fz_i dp)]) kX9_run rfl (by decide) rfl ?_
            refine fz_aload_n kX9_run rfl rfl ?_
            refine fz_iload kX9_run rfl rfl ?_
            refine fz_callV (d' := 0) (M' := mX9_note) (As := [fz_i 10]) (st := []) kX9_run rfl rfl vX9_note rfl rfl rfl rfl (Nat.le_of_ble_eq_true rfl) (Nat.le_of_ble_eq_true rfl) (by decide) (sX9_note h hI 10 (by omega)) (fun H26 r27 q28 o29 => ?_)
            obtain ⟨hI30, hf31, rfl, f32⟩ := q28
            clear o29
            have hf33 := fz_fr_tr hf hf31 (show fz_su [(44, 3), (46, 99999)] [(44, 3), (46, 99999)] = true from rfl)
            refine fz_iload kX9_run rfl rfl ?_
            refine fz_lsw (tgt := 213) kX9_run rfl (by decide) (show Op.lookupswitch.offset [(1, 113), (2, 120), (10, 146), (11, 161), (20, 168), (30, 181), (40, 193), (41, 206), (50, 219), (60, 243), (70, 256), (80, 269), (81, 293)] 306 10 = 146 from rfl) (by decide) ?_
            refine fz_aload_n kX9_run rfl rfl ?_
            refine fz_aload_n kX9_run rfl rfl ?_
            refine fz_getV (v := h 44 5) kX9_run rfl rfl (hf33 44 5 rfl) ?_
            have b34 : 0 ≤ h 44 5 ∧ h 44 5 ≤ 7 := hI.1 44 _
            refine fz_eqi (show (h 44 5) = 2 by omega) ?_
            refine fz_iconst ⟨by decide, by decide⟩ kX9_run rfl ?_
            refine fz_iload_n kX9_run rfl rfl ?_
            refine fz_iload kX9_run rfl rfl ?_
            have b35 : (-2147483648) ≤ H26 44 3 ∧ H26 44 3 ≤ 2147483647 := hI30.1 44 _
            have e36 : H26 44 5 = h 44 5 := hf33 44 5 rfl
            refine fz_callV (d' := 1) (M' := mX9_run) (As := [fz_i 2, fz_i 0, fz_i x, fz_i (dp + 1)]) (st := []) kX9_run rfl rfl vX9_run rfl rfl rfl rfl (Nat.le_of_ble_eq_true rfl) (Nat.le_of_ble_eq_true rfl) (by decide) (sX9_run_2_2_0 H26 hI30 x (dp + 1) (by omega) (by omega) (by omega)) (fun H37 r38 q39 o40 => ?_)
            obtain ⟨hI41, hf42, y44, rfl, f43⟩ := q39
            clear o40
            have hf45 := fz_fr_tr hf33 hf42 (show fz_su [(44, 3), (46, 99999)] [(44, 3), (46, 99999)] = true from rfl)
            refine fz_iconst ⟨by decide, by decide⟩ kX9_run rfl ?_
            refine fz_imul kX9_run rfl ?_
            refine fz_nmw (fun z46 e47 => ?_)
            exact fz_iret kX9_run rfl rfl (fun _ => ⟨hI41, hf45, _, rfl, (by omega)⟩)
          · exfalso; omega
    · refine fz_if_eq (tgt := 24) kX9_run rfl (by decide) (fun c48 => ?_) (fun c48 => ?_)
      · refine fz_iconst ⟨by decide, by decide⟩ kX9_run rfl ?_
        exact fz_iret kX9_run rfl rfl (fun _ => ⟨hI, hf, _, rfl, (by omega)⟩)
      · exfalso; omega

abbrev qX9_run_2_2_1 (h : fz_H) (x dp : Int) : fz_H → Option fz_V → Prop := fun h' r0 => fz_Iv h' ∧ fz_fr [(44, 3), (46, 99999)] h h' ∧ ∃ r : Int, r0 = some (fz_i r) ∧ (h' 44 3 = h 44 3 + 3)
set_option maxHeartbeats 1000000 in
set_option maxRecDepth 100000 in
theorem sX9_run_2_2_1 (h : fz_H) (hI : fz_Iv h) (x dp : Int) (hp0 : h 44 5 = 2) (hp1 : 0 ≤ dp ∧ dp ≤ 37) (hp2 : 0 ≤ h 44 3 ∧ h 44 3 ≤ 897) : fz_R 3 mX9_run 0 [(0, fz_r 44), (1, fz_i 2), (2, fz_i 1), (3, fz_i x), (4, fz_i dp)] [] h (qX9_run_2_2_1 h x dp) := by
  refine fz_knowl (fun hk => ?_)
  have hr_x : -2147483648 ≤ x ∧ x < 2147483648 := hk _ (List.Mem.tail _ (List.Mem.tail _ (List.Mem.tail _ (List.Mem.head _))))
  have hr_dp : -2147483648 ≤ dp ∧ dp < 2147483648 := hk _ (List.Mem.tail _ (List.Mem.tail _ (List.Mem.tail _ (List.Mem.tail _ (List.Mem.head _)))))
  clear hk
  have hf : fz_fr [(44, 3), (46, 99999)] h h := fz_fr_rf
  have b1 : 0 ≤ h 44 5 ∧ h 44 5 ≤ 7 := hI.1 44 _
  have b2 : (-2147483648) ≤ h 44 3 ∧ h 44 3 ≤ 2147483647 := hI.1 44 _
  refine fz_iload kX9_run rfl rfl ?_
  refine fz_bipush ⟨by decide, by decide⟩ kX9_run rfl ?_
  refine fz_icmp_gt (tgt := 24) kX9_run rfl (by decide) (fun c3 => ?_) (fun c3 => ?_)
  · exfalso; omega
  · refine fz_aload_n kX9_run rfl rfl ?_
    refine fz_iload_n kX9_run rfl rfl ?_
    refine fz_callV (d' := 0) (M' := mX9_isKind) (As := [fz_i 2]) (st := []) kX9_run rfl rfl vX9_isKind rfl rfl rfl rfl (Nat.le_of_ble_eq_true rfl) (Nat.le_of_ble_eq_true rfl) (by decide) (sX9_isKind h hI 2 ) (fun H4 r5 q6 o7 => ?_)
    obtain ⟨e8, y9, rfl, p10⟩ := q6
    subst H4
    clear o7
    rcases p10 with ⟨rfl, c11⟩ | ⟨rfl, c11⟩
    · refine fz_if_eq (tgt := 24) kX9_run rfl (by decide) (fun c12 => ?_) (fun c12 => ?_)
      · exfalso; omega
      · refine fz_iload_n kX9_run rfl rfl ?_
        refine fz_if_lt (tgt := 24) kX9_run rfl (by decide) (fun c13 => ?_) (fun c13 => ?_)
        · exfalso; omega
        · refine fz_iload_n kX9_run rfl rfl ?_
          refine fz_iconst ⟨by decide, by decide⟩ kX9_run rfl ?_
          refine fz_icmp_lt (tgt := 26) kX9_run rfl (by decide) (fun c14 => ?_) (fun c14 => ?_)
          · refine fz_iload_n kX9_run rfl rfl ?_
            refine fz_iload_n kX9_run rfl rfl ?_
            refine fz_callS (d' := 0) (M' := mX9_ownerFrom) (As := [fz_i 2, fz_i 1]) (st := []) kX9_run rfl rfl vX9_ownerFrom rfl rfl (Nat.le_of_ble_eq_true rfl) (Nat.le_of_ble_eq_true rfl) (by decide) (sX9_ownerFrom_2_1 h hI  ) (fun H15 r16 q17 o18 => ?_)
            obtain ⟨e19, y21, rfl, f20⟩ := q17
            subst H15
            clear o18
            refine fz_eqi (show y21 = 2 by omega) ?_
            refine fz_istore (ls' := [(5, fz_i 2), (0, fz_r 44), (1, fz_i 2), (2, fz_i 1), (3, fz_i x), (4, fz_i dp)]) kX9_run rfl (by decide) rfl ?_
            refine fz_gets kX9_run rfl ?_
            refine fz_iload kX9_run rfl rfl ?_
            refine fz_taldV (v := 0) kX9_run rfl ⟨by decide, by decide⟩ (by omega) (by rw [hI.2.2.2.2]; decide) (by rw [hI.2.2.2.2]; rfl) ?_
            refine fz_istore (ls' := [(6, fz_i 0), (5, fz_i 2), (0, fz_r 44), (1, fz_i 2), (2, fz_i 1), (3, fz_i x), (4, fz_i dp)]) kX9_run rfl (by decide) rfl ?_
            refine fz_iload kX9_run rfl rfl ?_
            refine fz_iconst ⟨by decide, by decide⟩ kX9_run rfl ?_
            refine fz_iaddN kX9_run rfl (by omega) ?_
            refine fz_istore (ls' := [(7, fz_i (dp + 1)), (6, fz_i 0), (5, fz_i 2), (0, fz_r 44), (1, fz_i 2), (2, fz_i 1), (3, fz_i x), (4, fz_i dp)]) kX9_run rfl (by decide) rfl ?_
            refine fz_gets kX9_run rfl ?_
            refine fz_iload kX9_run rfl rfl ?_
            refine fz_iconst ⟨by decide, by decide⟩ kX9_run rfl ?_
            refine fz_imulN kX9_run rfl ⟨by decide, by decide⟩ ?_
            refine fz_eqi (y := 8) rfl ?_
            refine fz_iload_n kX9_run rfl rfl ?_
            refine fz_iaddN kX9_run rfl ⟨by decide, by decide⟩ ?_
            refine fz_eqi (y := 9) rfl ?_
            refine fz_taldV (v := 30) kX9_run rfl ⟨by decide, by decide⟩ (by omega) (by rw [hI.2.2.2.1]; decide) (by rw [hI.2.2.2.1]; rfl) ?_
            refine fz_istore (ls' := [(8, fz_i 30), (7, fz_i (dp + 1)), (6, fz_i 0), (5, fz_i 2), (0, fz_r 44), (1, fz_i 2), (2, fz_i 1), (3, fz_i x), (4, fz_i dp)]) kX9_run rfl (by decide) rfl ?_
            refine fz_aload_n kX9_run rfl rfl ?_
            refine fz_iload kX9_run rfl rfl ?_
            refine fz_callV (d' := 0) (M' := mX9_note) (As := [fz_i 30]) (st := []) kX9_run rfl rfl vX9_note rfl rfl rfl rfl (Nat.le_of_ble_eq_true rfl) (Nat.le_of_ble_eq_true rfl) (by decide) (sX9_note h hI 30 (by omega)) (fun H26 r27 q28 o29 => ?_)
            obtain ⟨hI30, hf31, rfl, f32⟩ := q28
            clear o29
            have hf33 := fz_fr_tr hf hf31 (show fz_su [(44, 3), (46, 99999)] [(44, 3), (46, 99999)] = true from rfl)
            refine fz_iload kX9_run rfl rfl ?_
            refine fz_lsw (tgt := 248) kX9_run rfl (by decide) (show Op.lookupswitch.offset [(1, 113), (2, 120), (10, 146), (11, 161), (20, 168), (30, 181), (40, 193), (41, 206), (50, 219), (60, 243), (70, 256), (80, 269), (81, 293)] 306 30 = 181 from rfl) (by decide) ?_
            refine fz_aload_n kX9_run rfl rfl ?_
            refine fz_iload kX9_run rfl rfl ?_
            refine fz_iconst ⟨by decide, by decide⟩ kX9_run rfl ?_
            refine fz_iload_n kX9_run rfl rfl ?_
            refine fz_iload kX9_run rfl rfl ?_
            have b34 : (-2147483648) ≤ H26 44 3 ∧ H26 44 3 ≤ 2147483647 := hI30.1 44 _
            have e35 : H26 44 5 = h 44 5 := hf33 44 5 rfl
            refine fz_callV (d' := 2) (M' := mX9_run) (As := [fz_i 0, fz_i 1, fz_i x, fz_i (dp + 1)]) (st := []) kX9_run rfl rfl vX9_run rfl rfl rfl rfl (Nat.le_of_ble_eq_true rfl) (Nat.le_of_ble_eq_true rfl) (by decide) (sX9_run_2_0_1 H26 hI30 x (dp + 1) (by omega) (by omega) (by omega)) (fun H36 r37 q38 o39 => ?_)
            obtain ⟨hI40, hf41, y43, rfl, f42⟩ := q38
            clear o39
            have hf44 := fz_fr_tr hf33 hf41 (show fz_su [(44, 3), (46, 99999)] [(44, 3), (46, 99999)] = true from rfl)
            refine fz_ineg kX9_run rfl ?_
            refine fz_nmw (fun z45 e46 => ?_)
            exact fz_iret kX9_run rfl rfl (fun _ => ⟨hI40, hf44, _, rfl, (by omega)⟩)
          · exfalso; omega
    · refine fz_if_eq (tgt := 24) kX9_run rfl (by decide) (fun c47 => ?_) (fun c47 => ?_)
      · refine fz_iconst ⟨by decide, by decide⟩ kX9_run rfl ?_
        exact fz_iret kX9_run rfl rfl (fun _ => ⟨hI, hf, _, rfl, (by omega)⟩)
      · exfalso; omega

abbrev qX9_run_2_2_2 (h : fz_H) (x dp : Int) : fz_H → Option fz_V → Prop := fun h' r0 => fz_Iv h' ∧ fz_fr [(44, 3), (46, 99999)] h h' ∧ ∃ r : Int, r0 = some (fz_i r) ∧ (h' 44 3 = h 44 3 + 1)
set_option maxHeartbeats 1000000 in
set_option maxRecDepth 100000 in
theorem sX9_run_2_2_2 (h : fz_H) (hI : fz_Iv h) (x dp : Int) (hp0 : h 44 5 = 2) (hp1 : 0 ≤ dp ∧ dp ≤ 39) (hp2 : 0 ≤ h 44 3 ∧ h 44 3 ≤ 899) : fz_R 1 mX9_run 0 [(0, fz_r 44), (1, fz_i 2), (2, fz_i 2), (3, fz_i x), (4, fz_i dp)] [] h (qX9_run_2_2_2 h x dp) := by
  refine fz_knowl (fun hk => ?_)
  have hr_x : -2147483648 ≤ x ∧ x < 2147483648 := hk _ (List.Mem.tail _ (List.Mem.tail _ (List.Mem.tail _ (List.Mem.head _))))
  have hr_dp : -2147483648 ≤ dp ∧ dp < 2147483648 := hk _ (List.Mem.tail _ (List.Mem.tail _ (List.Mem.tail _ (List.Mem.tail _ (List.Mem.head _)))))
  clear hk
  have hf : fz_fr [(44, 3), (46, 99999)] h h := fz_fr_rf
  have b1 : 0 ≤ h 44 5 ∧ h 44 5 ≤ 7 := hI.1 44 _
  have b2 : (-2147483648) ≤ h 44 3 ∧ h 44 3 ≤ 2147483647 := hI.1 44 _
  refine fz_iload kX9_run rfl rfl ?_
  refine fz_bipush ⟨by decide, by decide⟩ kX9_run rfl ?_
  refine fz_icmp_gt (tgt := 24) kX9_run rfl (by decide) (fun c3 => ?_) (fun c3 => ?_)
  · exfalso; omega
  · refine fz_aload_n kX9_run rfl rfl ?_
    refine fz_iload_n kX9_run rfl rfl ?_
    refine fz_callV (d' := 0) (M' := mX9_isKind) (As := [fz_i 2]) (st := []) kX9_run rfl rfl vX9_isKind rfl rfl rfl rfl (Nat.le_of_ble_eq_true rfl) (Nat.le_of_ble_eq_true rfl) (by decide) (sX9_isKind h hI 2 ) (fun H4 r5 q6 o7 => ?_)
    obtain ⟨e8, y9, rfl, p10⟩ := q6
    subst H4
    clear o7
    rcases p10 with ⟨rfl, c11⟩ | ⟨rfl, c11⟩
    · refine fz_if_eq (tgt := 24) kX9_run rfl (by decide) (fun c12 => ?_) (fun c12 => ?_)
      · exfalso; omega
      · refine fz_iload_n kX9_run rfl rfl ?_
        refine fz_if_lt (tgt := 24) kX9_run rfl (by decide) (fun c13 => ?_) (fun c13 => ?_)
        · exfalso; omega
        · refine fz_iload_n kX9_run rfl rfl ?_
          refine fz_iconst ⟨by decide, by decide⟩ kX9_run rfl ?_
          refine fz_icmp_lt (tgt := 26) kX9_run rfl (by decide) (fun c14 => ?_) (fun c14 => ?_)
          · refine fz_iload_n kX9_run rfl rfl ?_
            refine fz_iload_n kX9_run rfl rfl ?_
            refine fz_callS (d' := 0) (M' := mX9_ownerFrom) (As := [fz_i 2, fz_i 2]) (st := []) kX9_run rfl rfl vX9_ownerFrom rfl rfl (Nat.le_of_ble_eq_true rfl) (Nat.le_of_ble_eq_true rfl) (by decide) (sX9_ownerFrom_2_2 h hI  ) (fun H15 r16 q17 o18 => ?_)
            obtain ⟨e19, y21, rfl, f20⟩ := q17
            subst H15
            clear o18
            refine fz_eqi (show y21 = 0 by omega) ?_
            refine fz_istore (ls' := [(5, fz_i 0), (0, fz_r 44), (1, fz_i 2), (2, fz_i 2), (3, fz_i x), (4, fz_i dp)]) kX9_run rfl (by decide) rfl ?_
            refine fz_gets kX9_run rfl ?_
            refine fz_iload kX9_run rfl rfl ?_
            refine fz_taldV (v := (-1)) kX9_run rfl ⟨by decide, by decide⟩ (by omega) (by rw [hI.2.2.2.2]; decide) (by rw [hI.2.2.2.2]; rfl) ?_
            refine fz_istore (ls' := [(6, fz_i (-1)), (5, fz_i 0), (0, fz_r 44), (1, fz_i 2), (2, fz_i 2), (3, fz_i x), (4, fz_i dp)]) kX9_run rfl (by decide) rfl ?_
            refine fz_iload kX9_run rfl rfl ?_
            refine fz_iconst ⟨by decide, by decide⟩ kX9_run rfl ?_
            refine fz_iaddN kX9_run rfl (by omega) ?_
            refine fz_istore (ls' := [(7, fz_i (dp + 1)), (6, fz_i (-1)), (5, fz_i 0), (0, fz_r 44), (1, fz_i 2), (2, fz_i 2), (3, fz_i x), (4, fz_i dp)]) kX9_run rfl (by decide) rfl ?_
            refine fz_gets kX9_run rfl ?_
            refine fz_iload kX9_run rfl rfl ?_
            refine fz_iconst ⟨by decide, by decide⟩ kX9_run rfl ?_
            refine fz_imulN kX9_run rfl ⟨by decide, by decide⟩ ?_
            refine fz_eqi (y := 0) rfl ?_
            refine fz_iload_n kX9_run rfl rfl ?_
            refine fz_iaddN kX9_run rfl ⟨by decide, by decide⟩ ?_
            refine fz_eqi (y := 2) rfl ?_
            refine fz_taldV (v := 11) kX9_run rfl ⟨by decide, by decide⟩ (by omega) (by rw [hI.2.2.2.1]; decide) (by rw [hI.2.2.2.1]; rfl) ?_
            refine fz_istore (ls' := [(8, fz_i 11), (7, fz_i (dp + 1)), (6, fz_i (-1)), (5, fz_i 0), (0, fz_r 44), (1, fz_i 2), (2, fz_i 2), (3, fz_i x), (4, fz_i dp)]) kX9_run rfl (by decide) rfl ?_
            refine fz_aload_n kX9_run rfl rfl ?_
            refine fz_iload kX9_run rfl rfl ?_
            refine fz_callV (d' := 0) (M' := mX9_note) (As := [fz_i 11]) (st := []) kX9_run rfl rfl vX9_note rfl rfl rfl rfl (Nat.le_of_ble_eq_true rfl) (Nat.le_of_ble_eq_true rfl) (by decide) (sX9_note h hI 11 (by omega)) (fun H26 r27 q28 o29 => ?_)
            obtain ⟨hI30, hf31, rfl, f32⟩ := q28
            clear o29
            have hf33 := fz_fr_tr hf hf31 (show fz_su [(44, 3), (46, 99999)] [(44, 3), (46, 99999)] = true from rfl)
            refine fz_iload kX9_run rfl rfl ?_
            refine fz_lsw (tgt := 228) kX9_run rfl (by decide) (show Op.lookupswitch.offset [(1, 113), (2, 120), (10, 146), (11, 161), (20, 168), (30, 181), (40, 193), (41, 206), (50, 219), (60, 243), (70, 256), (80, 269), (81, 293)] 306 11 = 161 from rfl) (by decide) ?_
            refine fz_iload_n kX9_run rfl rfl ?_
            refine fz_aload_n kX9_run rfl rfl ?_
            refine fz_getV (v := h 44 4) kX9_run rfl rfl (hf33 44 4 rfl) ?_
            have b34 : 0 ≤ h 44 4 ∧ h 44 4 ≤ 49 := hI.1 44 _
            refine fz_ixor kX9_run rfl ?_
            have b35 : -2147483648 ≤ (fz_xor x (h 44 4)) ∧ (fz_xor x (h 44 4)) < 2147483648 := fz_b32 _
            exact fz_iret kX9_run rfl rfl (fun _ => ⟨hI30, hf33, _, rfl, (by omega)⟩)
          · exfalso; omega
    · refine fz_if_eq (tgt := 24) kX9_run rfl (by decide) (fun c36 => ?_) (fun c36 => ?_)
      · refine fz_iconst ⟨by decide, by decide⟩ kX9_run rfl ?_
        exact fz_iret kX9_run rfl rfl (fun _ => ⟨hI, hf, _, rfl, (by omega)⟩)
      · exfalso; omega

abbrev qX9_run_2_2_3 (h : fz_H) (x dp : Int) : fz_H → Option fz_V → Prop := fun h' r0 => fz_Iv h' ∧ fz_fr [(44, 3), (46, 99999)] h h' ∧ ∃ r : Int, r0 = some (fz_i r) ∧ (h' 44 3 = h 44 3 + 5)
set_option maxHeartbeats 1000000 in
set_option maxRecDepth 100000 in
theorem sX9_run_2_2_3 (h : fz_H) (hI : fz_Iv h) (x dp : Int) (hp0 : h 44 5 = 2) (hp1 : 0 ≤ dp ∧ dp ≤ 36) (hp2 : 0 ≤ h 44 3 ∧ h 44 3 ≤ 895) : fz_R 4 mX9_run 0 [(0, fz_r 44), (1, fz_i 2), (2, fz_i 3), (3, fz_i x), (4, fz_i dp)] [] h (qX9_run_2_2_3 h x dp) := by
  refine fz_knowl (fun hk => ?_)
  have hr_x : -2147483648 ≤ x ∧ x < 2147483648 := hk _ (List.Mem.tail _ (List.Mem.tail _ (List.Mem.tail _ (List.Mem.head _))))
  have hr_dp : -2147483648 ≤ dp ∧ dp < 2147483648 := hk _ (List.Mem.tail _ (List.Mem.tail _ (List.Mem.tail _ (List.Mem.tail _ (List.Mem.head _)))))
  clear hk
  have hf : fz_fr [(44, 3), (46, 99999)] h h := fz_fr_rf
  have b1 : 0 ≤ h 44 5 ∧ h 44 5 ≤ 7 := hI.1 44 _
  have b2 : (-2147483648) ≤ h 44 3 ∧ h 44 3 ≤ 2147483647 := hI.1 44 _
  refine fz_iload kX9_run rfl rfl ?_
  refine fz_bipush ⟨by decide, by decide⟩ kX9_run rfl ?_
  refine fz_icmp_gt (tgt := 24) kX9_run rfl (by decide) (fun c3 => ?_) (fun c3 => ?_)
  · exfalso; omega
  · refine fz_aload_n kX9_run rfl rfl ?_
    refine fz_iload_n kX9_run rfl rfl ?_
    refine fz_callV (d' := 0) (M' := mX9_isKind) (As := [fz_i 2]) (st := []) kX9_run rfl rfl vX9_isKind rfl rfl rfl rfl (Nat.le_of_ble_eq_true rfl) (Nat.le_of_ble_eq_true rfl) (by decide) (sX9_isKind h hI 2 ) (fun H4 r5 q6 o7 => ?_)
    obtain ⟨e8, y9, rfl, p10⟩ := q6
    subst H4
    clear o7
    rcases p10 with ⟨rfl, c11⟩ | ⟨rfl, c11⟩
    · refine fz_if_eq (tgt := 24) kX9_run rfl (by decide) (fun c12 => ?_) (fun c12 => ?_)
      · exfalso; omega
      · refine fz_iload_n kX9_run rfl rfl ?_
        refine fz_if_lt (tgt := 24) kX9_run rfl (by decide) (fun c13 => ?_) (fun c13 => ?_)
        · exfalso; omega
        · refine fz_iload_n kX9_run rfl rfl ?_
          refine fz_iconst ⟨by decide, by decide⟩ kX9_run rfl ?_
          refine fz_icmp_lt (tgt := 26) kX9_run rfl (by decide) (fun c14 => ?_) (fun c14 => ?_)
          · refine fz_iload_n kX9_run rfl rfl ?_
            refine fz_iload_n kX9_run rfl rfl ?_
            refine fz_callS (d' := 0) (M' := mX9_ownerFrom) (As := [fz_i 2, fz_i 3]) (st := []) kX9_run rfl rfl vX9_ownerFrom rfl rfl (Nat.le_of_ble_eq_true rfl) (Nat.le_of_ble_eq_true rfl) (by decide) (sX9_ownerFrom_2_3 h hI  ) (fun H15 r16 q17 o18 => ?_)
            obtain ⟨e19, y21, rfl, f20⟩ := q17
            subst H15
            clear o18
            refine fz_eqi (show y21 = 0 by omega) ?_
            refine fz_istore (ls' := [(5, fz_i 0), (0, fz_r 44), (1, fz_i 2), (2, fz_i 3), (3, fz_i x), (4, fz_i dp)]) kX9_run rfl (by decide) rfl ?_
            refine fz_gets kX9_run rfl ?_
            refine fz_iload kX9_run rfl rfl ?_
            refine fz_taldV (v := (-1)) kX9_run rfl ⟨by decide, by decide⟩ (by omega) (by rw [hI.2.2.2.2]; decide) (by rw [hI.2.2.2.2]; rfl) ?_
            refine fz_istore (ls' := [(6, fz_i (-1)), (5, fz_i 0), (0, fz_r 44), (1, fz_i 2), (2, fz_i 3), (3, fz_i x), (4, fz_i dp)]) kX9_run rfl (by decide) rfl ?_
            refine fz_iload kX9_run rfl rfl ?_
            refine fz_iconst ⟨by decide, by decide⟩ kX9_run rfl ?_
            refine fz_iaddN kX9_run rfl (by omega) ?_
            refine fz_istore (ls' := [(7, fz_i (dp + 1)), (6, fz_i (-1)), (5, fz_i 0), (0, fz_r 44), (1, fz_i 2), (2, fz_i 3), (3, fz_i x), (4, fz_i dp)]) kX9_run rfl (by decide) rfl ?_
            refine fz_gets kX9_run rfl ?_
            refine fz_iload kX9_run rfl rfl ?_
            refine fz_iconst ⟨by decide, by decide⟩ kX9_run rfl ?_
            refine fz_imulN kX9_run rfl ⟨by decide, by decide⟩ ?_
            refine fz_eqi (y := 0) rfl ?_
            refine fz_iload_n kX9_run rfl rfl ?_
            refine fz_iaddN kX9_run rfl ⟨by decide, by decide⟩ ?_
            refine fz_eqi (y := 3) rfl ?_
            refine fz_taldV (v := 2) kX9_run rfl ⟨by decide, by decide⟩ (by omega) (by rw [hI.2.2.2.1]; decide) (by rw [hI.2.2.2.1]; rfl) ?_
            refine fz_istore (ls' := [(8, fz_i 2), (7, fz_i (dp + 1)), (6, fz_i (-1)), (5, fz_i 0), (0, fz_r 44), (1, fz_i 2), (2, fz_i 3), (3, fz_i x), (4, fz_i dp)]) kX9_run rfl (by decide) rfl ?_
            refine fz_aload_n kX9_run rfl rfl ?_
            refine fz_iload kX9_run rfl rfl ?_
            refine fz_callV (d' := 0) (M' := mX9_note) (As := [fz_i 2]) (st := []) kX9_run rfl rfl vX9_note rfl rfl rfl rfl (Nat.le_of_ble_eq_true rfl) (Nat.le_of_ble_eq_true rfl) (by decide) (sX9_note h hI 2 (by omega)) (fun H26 r27 q28 o29 => ?_)
            obtain ⟨hI30, hf31, rfl, f32⟩ := q28
            clear o29
            have hf33 := fz_fr_tr hf hf31 (show fz_su [(44, 3), (46, 99999)] [(44, 3), (46, 99999)] = true from rfl)
            refine fz_iload kX9_run rfl rfl ?_
            refine fz_lsw (tgt := 187) kX9_run rfl (by decide) (show Op.lookupswitch.offset [(1, 113), (2, 120), (10, 146), (11, 161), (20, 168), (30, 181), (40, 193), (41, 206), (50, 219), (60, 243), (70, 256), (80, 269), (81, 293)] 306 2 = 120 from rfl) (by decide) ?_
            refine fz_aload_n kX9_run rfl rfl ?_
            refine fz_aload_n kX9_run rfl rfl ?_
            refine fz_getV (v := h 44 5) kX9_run rfl rfl (hf33 44 5 rfl) ?_
            have b34 : 0 ≤ h 44 5 ∧ h 44 5 ≤ 7 := hI.1 44 _
            refine fz_eqi (show (h 44 5) = 2 by omega) ?_
            refine fz_iconst ⟨by decide, by decide⟩ kX9_run rfl ?_
            refine fz_iload_n kX9_run rfl rfl ?_
            refine fz_iload kX9_run rfl rfl ?_
            have b35 : (-2147483648) ≤ H26 44 3 ∧ H26 44 3 ≤ 2147483647 := hI30.1 44 _
            have e36 : H26 44 5 = h 44 5 := hf33 44 5 rfl
            refine fz_callV (d' := 3) (M' := mX9_run) (As := [fz_i 2, fz_i 1, fz_i x, fz_i (dp + 1)]) (st := []) kX9_run rfl rfl vX9_run rfl rfl rfl rfl (Nat.le_of_ble_eq_true rfl) (Nat.le_of_ble_eq_true rfl) (by decide) (sX9_run_2_2_1 H26 hI30 x (dp + 1) (by omega) (by omega) (by omega)) (fun H37 r38 q39 o40 => ?_)
            obtain ⟨hI41, hf42, y44, rfl, f43⟩ := q39
            clear o40
            have hf45 := fz_fr_tr hf33 hf42 (show fz_su [(44, 3), (46, 99999)] [(44, 3), (46, 99999)] = true from rfl)
            refine fz_aload_n kX9_run rfl rfl ?_
            refine fz_aload_n kX9_run rfl rfl ?_
            refine fz_getV (v := h 44 5) kX9_run rfl rfl (hf45 44 5 rfl) ?_
            refine fz_eqi (show (h 44 5) = 2 by omega) ?_
            refine fz_iconst ⟨by decide, by decide⟩ kX9_run rfl ?_
            refine fz_iconst ⟨by decide, by decide⟩ kX9_run rfl ?_
            refine fz_iload kX9_run rfl rfl ?_
            have b46 : (-2147483648) ≤ H37 44 3 ∧ H37 44 3 ≤ 2147483647 := hI41.1 44 _
            have e47 : H37 44 5 = h 44 5 := hf45 44 5 rfl
            refine fz_callV (d' := 1) (M' := mX9_run) (As := [fz_i 2, fz_i 2, fz_i 1, fz_i (dp + 1)]) (st := [fz_i y44]) kX9_run rfl rfl vX9_run rfl rfl rfl rfl (Nat.le_of_ble_eq_true rfl) (Nat.le_of_ble_eq_true rfl) (by decide) (sX9_run_2_2_2 H37 hI41 1 (dp + 1) (by omega) (by omega) (by omega)) (fun H48 r49 q50 o51 => ?_)
            obtain ⟨hI52, hf53, y55, rfl, f54⟩ := q50
            clear o51
            have hf56 := fz_fr_tr hf45 hf53 (show fz_su [(44, 3), (46, 99999)] [(44, 3), (46, 99999)] = true from rfl)
            refine fz_isub kX9_run rfl ?_
            refine fz_nmw (fun z57 e58 => ?_)
            exact fz_iret kX9_run rfl rfl (fun _ => ⟨hI52, hf56, _, rfl, (by omega)⟩)
          · exfalso; omega
    · refine fz_if_eq (tgt := 24) kX9_run rfl (by decide) (fun c59 => ?_) (fun c59 => ?_)
      · refine fz_iconst ⟨by decide, by decide⟩ kX9_run rfl ?_
        exact fz_iret kX9_run rfl rfl (fun _ => ⟨hI, hf, _, rfl, (by omega)⟩)
      · exfalso; omega

abbrev qX9_run_3_3_0 (h : fz_H) (x dp : Int) : fz_H → Option fz_V → Prop := fun h' r0 => fz_Iv h' ∧ fz_fr [(44, 3), (46, 99999)] h h' ∧ ∃ r : Int, r0 = some (fz_i r) ∧ (h' 44 3 = h 44 3 + 1)
set_option maxHeartbeats 1000000 in
set_option maxRecDepth 100000 in
theorem sX9_run_3_3_0 (h : fz_H) (hI : fz_Iv h) (x dp : Int) (hp0 : h 44 5 = 3) (hp1 : 0 ≤ dp ∧ dp ≤ 39) (hp2 : 0 ≤ h 44 3 ∧ h 44 3 ≤ 899) : fz_R 1 mX9_run 0 [(0, fz_r 44), (1, fz_i 3), (2, fz_i 0), (3, fz_i x), (4, fz_i dp)] [] h (qX9_run_3_3_0 h x dp) := by
  refine fz_knowl (fun hk => ?_)
  have hr_x : -2147483648 ≤ x ∧ x < 2147483648 := hk _ (List.Mem.tail _ (List.Mem.tail _ (List.Mem.tail _ (List.Mem.head _))))
  have hr_dp : -2147483648 ≤ dp ∧ dp < 2147483648 := hk _ (List.Mem.tail _ (List.Mem.tail _ (List.Mem.tail _ (List.Mem.tail _ (List.Mem.head _)))))
  clear hk
  have hf : fz_fr [(44, 3), (46, 99999)] h h := fz_fr_rf
  have b1 : 0 ≤ h 44 5 ∧ h 44 5 ≤ 7 := hI.1 44 _
  have b2 : (-2147483648) ≤ h 44 3 ∧ h 44 3 ≤ 2147483647 := hI.1 44 _
  refine fz_iload kX9_run rfl rfl ?_
  refine fz_bipush ⟨by decide, by decide⟩ kX9_run rfl ?_
  refine fz_icmp_gt (tgt := 24) kX9_run rfl (by decide) (fun c3 => ?_) (fun c3 => ?_)
  · exfalso; omega
  · refine fz_aload_n kX9_run rfl rfl ?_
    refine fz_iload_n kX9_run rfl rfl ?_
    refine fz_callV (d' := 0) (M' := mX9_isKind) (As := [fz_i 3]) (st := []) kX9_run rfl rfl vX9_isKind rfl rfl rfl rfl (Nat.le_of_ble_eq_true rfl) (Nat.le_of_ble_eq_true rfl) (by decide) (sX9_isKind h hI 3 ) (fun H4 r5 q6 o7 => ?_)
    obtain ⟨e8, y9, rfl, p10⟩ := q6
    subst H4
    clear o7
    rcases p10 with ⟨rfl, c11⟩ | ⟨rfl, c11⟩
    · refine fz_if_eq (tgt := 24) kX9_run rfl (by decide) (fun c12 => ?_) (fun c12 => ?_)
      · exfalso; omega
      · refine fz_iload_n kX9_run rfl rfl ?_
        refine fz_if_lt (tgt := 24) kX9_run rfl (by decide) (fun c13 => ?_) (fun c13 => ?_)
        · exfalso; omega
        · refine fz_iload_n kX9_run rfl rfl ?_
          refine fz_iconst ⟨by decide, by decide⟩ kX9_run rfl ?_
          refine fz_icmp_lt (tgt := 26) kX9_run rfl (by decide) (fun c14 => ?_) (fun c14 => ?_)
          · refine fz_iload_n kX9_run rfl rfl ?_
            refine fz_iload_n kX9_run rfl rfl ?_
            refine fz_callS (d' := 0) (M' := mX9_ownerFrom) (As := [fz_i 3, fz_i 0]) (st := []) kX9_run rfl rfl vX9_ownerFrom rfl rfl (Nat.le_of_ble_eq_true rfl) (Nat.le_of_ble_eq_true rfl) (by decide) (sX9_ownerFrom_3_0 h hI  ) (fun H15 r16 q17 o18 => ?_)
            obtain ⟨e19, y21, rfl, f20⟩ := q17
            subst H15
            clear o18
            refine fz_eqi (show y21 = 0 by omega) ?_
            refine fz_istore (ls' := [(5, fz_i 0), (0, fz_r 44), (1, fz_i 3), (2, fz_i 0), (3, fz_i x), (4, fz_i dp)]) kX9_run rfl (by decide) rfl ?_
            refine fz_gets kX9_run rfl ?_
            refine fz_iload kX9_run rfl rfl ?_
            refine fz_taldV (v := (-1)) kX9_run rfl ⟨by decide, by decide⟩ (by omega) (by rw [hI.2.2.2.2]; decide) (by rw [hI.2.2.2.2]; rfl) ?_
            refine fz_istore (ls' := [(6, fz_i (-1)), (5, fz_i 0), (0, fz_r 44), (1, fz_i 3), (2, fz_i 0), (3, fz_i x), (4, fz_i dp)]) kX9_run rfl (by decide) rfl ?_
            refine fz_iload kX9_run rfl rfl ?_
            refine fz_iconst ⟨by decide, by decide⟩ kX9_run rfl ?_
            refine fz_iaddN kX9_run rfl (by omega) ?_
            refine fz_istore (ls' := [(7, fz_i (dp + 1)), (6, fz_i (-1)), (5, fz_i 0), (0, fz_r 44), (1, fz_i 3), (2, fz_i 0), (3, fz_i x), (4, fz_i dp)]) kX9_run rfl (by decide) rfl ?_
            refine fz_gets kX9_run rfl ?_
            refine fz_iload kX9_run rfl rfl ?_
            refine fz_iconst ⟨by decide, by decide⟩ kX9_run rfl ?_
            refine fz_imulN kX9_run rfl ⟨by decide, by decide⟩ ?_
            refine fz_eqi (y := 0) rfl ?_
            refine fz_iload_n kX9_run rfl rfl ?_
            refine fz_iaddN kX9_run rfl ⟨by decide, by decide⟩ ?_
            refine fz_eqi (y := 0) rfl ?_
            refine fz_taldV (v := 1) kX9_run rfl ⟨by decide, by decide⟩ (by omega) (by rw [hI.2.2.2.1]; decide) (by rw [hI.2.2.2.1]; rfl) ?_
            refine fz_istore (ls' := [(8, fz_i 1), (7, fz_i (dp + 1)), (6, fz_i (-1)), (5, fz_i 0), (0, fz_r 44), (1, fz_i 3), (2, fz_i 0), (3, fz_i x), (4, fz_i dp)]) kX9_run rfl (by decide) rfl ?_
            refine fz_aload_n kX9_run rfl rfl ?_
            refine fz_iload kX9_run rfl rfl ?_
            refine fz_callV (d' := 0) (M' := mX9_note) (As := [fz_i 1]) (st := []) kX9_run rfl rfl vX9_note rfl rfl rfl rfl (Nat.le_of_ble_eq_true rfl) (Nat.le_of_ble_eq_true rfl) (by decide) (sX9_note h hI 1 (by omega)) (fun H26 r27 q28 o29 => ?_)
            obtain ⟨hI30, hf31, rfl, f32⟩ := q28
            clear o29
            have hf33 := fz_fr_tr hf hf31 (show fz_su [(44, 3), (46, 99999)] [(44, 3), (46, 99999)] = true from rfl)
            refine fz_iload kX9_run rfl rfl ?_
            refine fz_lsw (tgt := 180) kX9_run rfl (by decide) (show Op.lookupswitch.offset [(1, 113), (2, 120), (10, 146), (11, 161), (20, 168), (30, 181), (40, 193), (41, 206), (50, 219), (60, 243), (70, 256), (80, 269), (81, 293)] 306 1 = 113 from rfl) (by decide) ?_
            refine fz_iload_n kX9_run rfl rfl ?_
            refine fz_aload_n kX9_run rfl rfl ?_
            refine fz_getV (v := h 44 4) kX9_run rfl rfl (hf33 44 4 rfl) ?_
            have b34 : 0 ≤ h 44 4 ∧ h 44 4 ≤ 49 := hI.1 44 _
            refine fz_iadd kX9_run rfl ?_
            refine fz_nmw (fun z35 e36 => ?_)
            exact fz_iret kX9_run rfl rfl (fun _ => ⟨hI30, hf33, _, rfl, (by omega)⟩)
          · exfalso; omega
    · refine fz_if_eq (tgt := 24) kX9_run rfl (by decide) (fun c37 => ?_) (fun c37 => ?_)
      · refine fz_iconst ⟨by decide, by decide⟩ kX9_run rfl ?_
        exact fz_iret kX9_run rfl rfl (fun _ => ⟨hI, hf, _, rfl, (by omega)⟩)
      · exfalso; omega

abbrev qX9_run_3_0_1 (h : fz_H) (x dp : Int) : fz_H → Option fz_V → Prop := fun h' r0 => fz_Iv h' ∧ fz_fr [(44, 3), (46, 99999)] h h' ∧ ∃ r : Int, r0 = some (fz_i r) ∧ (h' 44 3 = h 44 3 + 2)
set_option maxHeartbeats 1000000 in
set_option maxRecDepth 100000 in
theorem sX9_run_3_0_1 (h : fz_H) (hI : fz_Iv h) (x dp : Int) (hp0 : h 44 5 = 3) (hp1 : 0 ≤ dp ∧ dp ≤ 38) (hp2 : 0 ≤ h 44 3 ∧ h 44 3 ≤ 898) : fz_R 2 mX9_run 0 [(0, fz_r 44), (1, fz_i 0), (2, fz_i 1), (3, fz_i x), (4, fz_i dp)] [] h (qX9_run_3_0_1 h x dp) := by
  refine fz_knowl (fun hk => ?_)
  have hr_x : -2147483648 ≤ x ∧ x < 2147483648 := hk _ (List.Mem.tail _ (List.Mem.tail _ (List.Mem.tail _ (List.Mem.head _))))
  have hr_dp : -2147483648 ≤ dp ∧ dp < 2147483648 := hk _ (List.Mem.tail _ (List.Mem.tail _ (List.Mem.tail _ (List.Mem.tail _ (List.Mem.head _)))))
  clear hk
  have hf : fz_fr [(44, 3), (46, 99999)] h h := fz_fr_rf
  have b1 : 0 ≤ h 44 5 ∧ h 44 5 ≤ 7 := hI.1 44 _
  have b2 : (-2147483648) ≤ h 44 3 ∧ h 44 3 ≤ 2147483647 := hI.1 44 _
  refine fz_iload kX9_run rfl rfl ?_
  refine fz_bipush ⟨by decide, by decide⟩ kX9_run rfl ?_
  refine fz_icmp_gt (tgt := 24) kX9_run rfl (by decide) (fun c3 => ?_) (fun c3 => ?_)
  · exfalso; omega
  · refine fz_aload_n kX9_run rfl rfl ?_
    refine fz_iload_n kX9_run rfl rfl ?_
    refine fz_callV (d' := 0) (M' := mX9_isKind) (As := [fz_i 0]) (st := []) kX9_run rfl rfl vX9_isKind rfl rfl rfl rfl (Nat.le_of_ble_eq_true rfl) (Nat.le_of_ble_eq_true rfl) (by decide) (sX9_isKind h hI 0 ) (fun H4 r5 q6 o7 => ?_)
    obtain ⟨e8, y9, rfl, p10⟩ := q6
    subst H4
    clear o7
    rcases p10 with ⟨rfl, c11⟩ | ⟨rfl, c11⟩
    · refine fz_if_eq (tgt := 24) kX9_run rfl (by decide) (fun c12 => ?_) (fun c12 => ?_)
      · exfalso; omega
      · refine fz_iload_n kX9_run rfl rfl ?_
        refine fz_if_lt (tgt := 24) kX9_run rfl (by decide) (fun c13 => ?_) (fun c13 => ?_)
        · exfalso; omega
        · refine fz_iload_n kX9_run rfl rfl ?_
          refine fz_iconst ⟨by decide, by decide⟩ kX9_run rfl ?_
          refine fz_icmp_lt (tgt := 26) kX9_run rfl (by decide) (fun c14 => ?_) (fun c14 => ?_)
          · refine fz_iload_n kX9_run rfl rfl ?_
            refine fz_iload_n kX9_run rfl rfl ?_
            refine fz_callS (d' := 0) (M' := mX9_ownerFrom) (As := [fz_i 0, fz_i 1]) (st := []) kX9_run rfl rfl vX9_ownerFrom rfl rfl (Nat.le_of_ble_eq_true rfl) (Nat.le_of_ble_eq_true rfl) (by decide) (sX9_ownerFrom_0_1 h hI  ) (fun H15 r16 q17 o18 => ?_)
            obtain ⟨e19, y21, rfl, f20⟩ := q17
            subst H15
            clear o18
            refine fz_eqi (show y21 = 0 by omega) ?_
            refine fz_istore (ls' := [(5, fz_i 0), (0, fz_r 44), (1, fz_i 0), (2, fz_i 1), (3, fz_i x), (4, fz_i dp)]) kX9_run rfl (by decide) rfl ?_
            refine fz_gets kX9_run rfl ?_
            refine fz_iload kX9_run rfl rfl ?_
            refine fz_taldV (v := (-1)) kX9_run rfl ⟨by decide, by decide⟩ (by omega) (by rw [hI.2.2.2.2]; decide) (by rw [hI.2.2.2.2]; rfl) ?_
            refine fz_istore (ls' := [(6, fz_i (-1)), (5, fz_i 0), (0, fz_r 44), (1, fz_i 0), (2, fz_i 1), (3, fz_i x), (4, fz_i dp)]) kX9_run rfl (by decide) rfl ?_
            refine fz_iload kX9_run rfl rfl ?_
            refine fz_iconst ⟨by decide, by decide⟩ kX9_run rfl ?_
            refine fz_iaddN kX9_run rfl (by omega) ?_
            refine fz_istore (ls' := [(7, fz_i (dp + 1)), (6, fz_i (-1)), (5, fz_i 0), (0, fz_r 44), (1, fz_i 0), (2, fz_i 1), (3, fz_i x), (4, fz_i dp)]) kX9_run rfl (by decide) rfl ?_
            refine fz_gets kX9_run rfl ?_
            refine fz_iload kX9_run rfl rfl ?_
            refine fz_iconst ⟨by decide, by decide⟩ kX9_run rfl ?_
            refine fz_imulN kX9_run rfl ⟨by decide, by decide⟩ ?_
            refine fz_eqi (y := 0) rfl ?_
            refine fz_iload_n kX9_run rfl rfl ?_
            refine fz_iaddN kX9_run rfl ⟨by decide, by decide⟩ ?_
            refine fz_eqi (y := 1) rfl ?_
            refine fz_taldV (v := 10) kX9_run rfl ⟨by decide, by decide⟩ (by omega) (by rw [hI.2.2.2.1]; decide) (by rw [hI.2.2.2.1]; rfl) ?_
            refine fz_istore (ls' := [(8, fz_i 10), (7, fz_i (dp + 1)), (6, fz_i (-1)), (5, fz_i 0), (0, fz_r 44), (1, fz_i 0), (2, fz_i 1), (3, fz_i x), (4, fz_i dp)]) kX9_run rfl (by decide) rfl ?_
            refine fz_aload_n kX9_run rfl rfl ?_
            refine fz_iload kX9_run rfl rfl ?_
            refine fz_callV (d' := 0) (M' := mX9_note) (As := [fz_i 10]) (st := []) kX9_run rfl rfl vX9_note rfl rfl rfl rfl (Nat.le_of_ble_eq_true rfl) (Nat.le_of_ble_eq_true rfl) (by decide) (sX9_note h hI 10 (by omega)) (fun H26 r27 q28 o29 => ?_)
            obtain ⟨hI30, hf31, rfl, f32⟩ := q28
            clear o29
            have hf33 := fz_fr_tr hf hf31 (show fz_su [(44, 3), (46, 99999)] [(44, 3), (46, 99999)] = true from rfl)
            refine fz_iload kX9_run rfl rfl ?_
            refine fz_lsw (tgt := 213) kX9_run rfl (by decide) (show Op.lookupswitch.offset [(1, 113), (2, 120), (10, 146), (11, 161), (20, 168), (30, 181), (40, 193), (41, 206), (50, 219), (60, 243), (70, 256), (80, 269), (81, 293)] 306 10 = 146 from rfl) (by decide) ?_
            refine fz_aload_n kX9_run rfl rfl ?_
            refine fz_aload_n kX9_run rfl rfl ?_
            refine fz_getV (v := h 44 5) kX9_run rfl rfl (hf33 44 5 rfl) ?_
            have b34 : 0 ≤ h 44 5 ∧ h 44 5 ≤ 7 := hI.1 44 _
            refine fz_eqi (show (h 44 5) = 3 by omega) ?_
            refine fz_iconst ⟨by decide, by decide⟩ kX9_run rfl ?_
            refine fz_iload_n kX9_run rfl rfl ?_
            refine fz_iload kX9_run rfl rfl ?_
            have b35 : (-2147483648) ≤ H26 44 3 ∧ H26 44 3 ≤ 2147483647 := hI30.1 44 _
            have e36 : H26 44 5 = h 44 5 := hf33 44 5 rfl
            refine fz_callV (d' := 1) (M' := mX9_run) (As := [fz_i 3, fz_i 0, fz_i x, fz_i (dp + 1)]) (st := []) kX9_run rfl rfl vX9_run rfl rfl rfl rfl (Nat.le_of_ble_eq_true rfl) (Nat.le_of_ble_eq_true rfl) (by decide) (sX9_run_3_3_0 H26 hI30 x (dp + 1) (by omega) (by omega) (by omega)) (fun H37 r38 q39 o40 => ?_)
            obtain ⟨hI41, hf42, y44, rfl, f43⟩ := q39
            clear o40
            have hf45 := fz_fr_tr hf33 hf42 (show fz_su [(44, 3), (46, 99999)] [(44, 3), (46, 99999)] = true from rfl)
            refine fz_iconst ⟨by decide, by decide⟩ kX9_run rfl ?_
            refine fz_imul kX9_run rfl ?_
            refine fz_nmw (fun z46 e47 => ?_)
            exact fz_iret kX9_run rfl rfl (fun _ => ⟨hI41, hf45, _, rfl, (by omega)⟩)
          · exfalso; omega
    · refine fz_if_eq (tgt := 24) kX9_run rfl (by decide) (fun c48 => ?_) (fun c48 => ?_)
      · refine fz_iconst ⟨by decide, by decide⟩ kX9_run rfl ?_
        exact fz_iret kX9_run rfl rfl (fun _ => ⟨hI, hf, _, rfl, (by omega)⟩)
      · exfalso; omega

abbrev qX9_run_3_2_1 (h : fz_H) (x dp : Int) : fz_H → Option fz_V → Prop := fun h' r0 => fz_Iv h' ∧ fz_fr [(44, 3), (46, 99999)] h h' ∧ ∃ r : Int, r0 = some (fz_i r) ∧ (h' 44 3 = h 44 3 + 3)
set_option maxHeartbeats 1000000 in
set_option maxRecDepth 100000 in
theorem sX9_run_3_2_1 (h : fz_H) (hI : fz_Iv h) (x dp : Int) (hp0 : h 44 5 = 3) (hp1 : 0 ≤ dp ∧ dp ≤ 37) (hp2 : 0 ≤ h 44 3 ∧ h 44 3 ≤ 897) : fz_R 3 mX9_run 0 [(0, fz_r 44), (1, fz_i 2), (2, fz_i 1), (3, fz_i x), (4, fz_i dp)] [] h (qX9_run_3_2_1 h x dp) := by
  refine fz_knowl (fun hk => ?_)
  have hr_x : -2147483648 ≤ x ∧ x < 2147483648 := hk _ (List.Mem.tail _ (List.Mem.tail _ (List.Mem.tail _ (List.Mem.head _))))
  have hr_dp : -2147483648 ≤ dp ∧ dp < 2147483648 := hk _ (List.Mem.tail _ (List.Mem.tail _ (List.Mem.tail _ (List.Mem.tail _ (List.Mem.head _)))))
  clear hk
  have hf : fz_fr [(44, 3), (46, 99999)] h h := fz_fr_rf
  have b1 : 0 ≤ h 44 5 ∧ h 44 5 ≤ 7 := hI.1 44 _
  have b2 : (-2147483648) ≤ h 44 3 ∧ h 44 3 ≤ 2147483647 := hI.1 44 _
  refine fz_iload kX9_run rfl rfl ?_
  refine fz_bipush ⟨by decide, by decide⟩ kX9_run rfl ?_
  refine fz_icmp_gt (tgt := 24) kX9_run rfl (by decide) (fun c3 => ?_) (fun c3 => ?_)
  · exfalso; omega
  · refine fz_aload_n kX9_run rfl rfl ?_
    refine fz_iload_n kX9_run rfl rfl ?_
    refine fz_callV (d' := 0) (M' := mX9_isKind) (As := [fz_i 2]) (st := []) kX9_run rfl rfl vX9_isKind rfl rfl rfl rfl (Nat.le_of_ble_eq_true rfl) (Nat.le_of_ble_eq_true rfl) (by decide) (sX9_isKind h hI 2 ) (fun H4 r5 q6 o7 => ?_)
    obtain ⟨e8, y9, rfl, p10⟩ := q6
    subst H4
    clear o7
    rcases p10 with ⟨rfl, c11⟩ | ⟨rfl, c11⟩
    · refine fz_if_eq (tgt := 24) kX9_run rfl (by decide) (fun c12 => ?_) (fun c12 => ?_)
      · exfalso; omega
      · refine fz_iload_n kX9_run rfl rfl ?_
        refine fz_if_lt (tgt := 24) kX9_run rfl (by decide) (fun c13 => ?_) (fun c13 => ?_)
        · exfalso; omega
        · refine fz_iload_n kX9_run rfl rfl ?_
          refine fz_iconst ⟨by decide, by decide⟩ kX9_run rfl ?_
          refine fz_icmp_lt (tgt := 26) kX9_run rfl (by decide) (fun c14 => ?_) (fun c14 => ?_)
          · refine fz_iload_n kX9_run rfl rfl ?_
            refine fz_iload_n kX9_run rfl rfl ?_
            refine fz_callS (d' := 0) (M' := mX9_ownerFrom) (As := [fz_i 2, fz_i 1]) (st := []) kX9_run rfl rfl vX9_ownerFrom rfl rfl (Nat.le_of_ble_eq_true rfl) (Nat.le_of_ble_eq_true rfl) (by decide) (sX9_ownerFrom_2_1 h hI  ) (fun H15 r16 q17 o18 => ?_)
            obtain ⟨e19, y21, rfl, f20⟩ := q17
            subst H15
            clear o18
            refine fz_eqi (show y21 = 2 by omega) ?_
            refine fz_istore (ls' := [(5, fz_i 2), (0, fz_r 44), (1, fz_i 2), (2, fz_i 1), (3, fz_i x), (4, fz_i dp)]) kX9_run rfl (by decide) rfl ?_
            refine fz_gets kX9_run rfl ?_
            refine fz_iload kX9_run rfl rfl ?_
            refine fz_taldV (v := 0) kX9_run rfl ⟨by decide, by decide⟩ (by omega) (by rw [hI.2.2.2.2]; decide) (by rw [hI.2.2.2.2]; rfl) ?_
            refine fz_istore (ls' := [(6, fz_i 0), (5, fz_i 2), (0, fz_r 44), (1, fz_i 2), (2, fz_i 1), (3, fz_i x), (4, fz_i dp)]) kX9_run rfl (by decide) rfl ?_
            refine fz_iload kX9_run rfl rfl ?_
            refine fz_iconst ⟨by decide, by decide⟩ kX9_run rfl ?_
            refine fz_iaddN kX9_run rfl (by omega) ?_
            refine fz_istore (ls' := [(7, fz_i (dp + 1)), (6, fz_i 0), (5, fz_i 2), (0, fz_r 44), (1, fz_i 2), (2, fz_i 1), (3, fz_i x), (4, fz_i dp)]) kX9_run rfl (by decide) rfl ?_
            refine fz_gets kX9_run rfl ?_
            refine fz_iload kX9_run rfl rfl ?_
            refine fz_iconst ⟨by decide, by decide⟩ kX9_run rfl ?_
            refine fz_imulN kX9_run rfl ⟨by decide, by decide⟩ ?_
            refine fz_eqi (y := 8) rfl ?_
            refine fz_iload_n kX9_run rfl rfl ?_
            refine fz_iaddN kX9_run rfl ⟨by decide, by decide⟩ ?_
            refine fz_eqi (y := 9) rfl ?_
            refine fz_taldV (v := 30) kX9_run rfl ⟨by decide, by decide⟩ (by omega) (by rw [hI.2.2.2.1]; decide) (by rw [hI.2.2.2.1]; rfl) ?_
            refine fz_istore (ls' := [(8, fz_i 30), (7, fz_i (dp + 1)), (6, fz_i 0), (5, fz_i 2), (0, fz_r 44), (1, fz_i 2), (2, fz_i 1), (3, fz_i x), (4, fz_i dp)]) kX9_run rfl (by decide) rfl ?_
            refine fz_aload_n kX9_run rfl rfl ?_
            refine fz_iload kX9_run rfl rfl ?_
            refine fz_callV (d' := 0) (M' := mX9_note) (As := [fz_i 30]) (st := []) kX9_run rfl rfl vX9_note rfl rfl rfl rfl (Nat.le_of_ble_eq_true rfl) (Nat.le_of_ble_eq_true rfl) (by decide) (sX9_note h hI 30 (by omega)) (fun H26 r27 q28 o29 => ?_)
            obtain ⟨hI30, hf31, rfl, f32⟩ := q28
            clear o29
            have hf33 := fz_fr_tr hf hf31 (show fz_su [(44, 3), (46, 99999)] [(44, 3), (46, 99999)] = true from rfl)
            refine fz_iload kX9_run rfl rfl ?_
            refine fz_lsw (tgt := 248) kX9_run rfl (by decide) (show Op.lookupswitch.offset [(1, 113), (2, 120), (10, 146), (11, 161), (20, 168), (30, 181), (40, 193), (41, 206), (50, 219), (60, 243), (70, 256), (80, 269), (81, 293)] 306 30 = 181 from rfl) (by decide) ?_
            refine fz_aload_n kX9_run rfl rfl ?_
            refine fz_iload kX9_run rfl rfl ?_
            refine fz_iconst ⟨by decide, by decide⟩ kX9_run rfl ?_
            refine fz_iload_n kX9_run rfl rfl ?_
            refine fz_iload kX9_run rfl rfl ?_
            have b34 : (-2147483648) ≤ H26 44 3 ∧ H26 44 3 ≤ 2147483647 := hI30.1 44 _
            have e35 : H26 44 5 = h 44 5 := hf33 44 5 rfl
            refine fz_callV (d' := 2) (M' := mX9_run) (As := [fz_i 0, fz_i 1, fz_i x, fz_i (dp + 1)]) (st := []) kX9_run rfl rfl vX9_run rfl rfl rfl rfl (Nat.le_of_ble_eq_true rfl) (Nat.le_of_ble_eq_true rfl) (by decide) (sX9_run_3_0_1 H26 hI30 x (dp + 1) (by omega) (by omega) (by omega)) (fun H36 r37 q38 o39 => ?_)
            obtain ⟨hI40, hf41, y43, rfl, f42⟩ := q38
            clear o39
            have hf44 := fz_fr_tr hf33 hf41 (show fz_su [(44, 3), (46, 99999)] [(44, 3), (46, 99999)] = true from rfl)
            refine fz_ineg kX9_run rfl ?_
            refine fz_nmw (fun z45 e46 => ?_)
            exact fz_iret kX9_run rfl rfl (fun _ => ⟨hI40, hf44, _, rfl, (by omega)⟩)
          · exfalso; omega
    · refine fz_if_eq (tgt := 24) kX9_run rfl (by decide) (fun c47 => ?_) (fun c47 => ?_)
      · refine fz_iconst ⟨by decide, by decide⟩ kX9_run rfl ?_
        exact fz_iret kX9_run rfl rfl (fun _ => ⟨hI, hf, _, rfl, (by omega)⟩)
      · exfalso; omega

abbrev qX9_run_3_3_1 (h : fz_H) (x dp : Int) : fz_H → Option fz_V → Prop := fun h' r0 => fz_Iv h' ∧ fz_fr [(44, 3), (46, 99999)] h h' ∧ ∃ r : Int, r0 = some (fz_i r) ∧ (h' 44 3 = h 44 3 + 4)
set_option maxHeartbeats 1000000 in
set_option maxRecDepth 100000 in
theorem sX9_run_3_3_1 (h : fz_H) (hI : fz_Iv h) (x dp : Int) (hp0 : h 44 5 = 3) (hp1 : 0 ≤ dp ∧ dp ≤ 36) (hp2 : 0 ≤ h 44 3 ∧ h 44 3 ≤ 896) : fz_R 4 mX9_run 0 [(0, fz_r 44), (1, fz_i 3), (2, fz_i 1), (3, fz_i x), (4, fz_i dp)] [] h (qX9_run_3_3_1 h x dp) := by
  refine fz_knowl (fun hk => ?_)
  have hr_x : -2147483648 ≤ x ∧ x < 2147483648 := hk _ (List.Mem.tail _ (List.Mem.tail _ (List.Mem.tail _ (List.Mem.head _))))
  have hr_dp : -2147483648 ≤ dp ∧ dp < 2147483648 := hk _ (List.Mem.tail _ (List.Mem.tail _ (List.Mem.tail _ (List.Mem.tail _ (List.Mem.head _)))))
  clear hk
  have hf : fz_fr [(44, 3), (46, 99999)] h h := fz_fr_rf
  have b1 : 0 ≤ h 44 5 ∧ h 44 5 ≤ 7 := hI.1 44 _
  have b2 : (-2147483648) ≤ h 44 3 ∧ h 44 3 ≤ 2147483647 := hI.1 44 _
  refine fz_iload kX9_run rfl rfl ?_
  refine fz_bipush ⟨by decide, by decide⟩ kX9_run rfl ?_
  refine fz_icmp_gt (tgt := 24) kX9_run rfl (by decide) (fun c3 => ?_) (fun c3 => ?_)
  · exfalso; omega
  · refine fz_aload_n kX9_run rfl rfl ?_
    refine fz_iload_n kX9_run rfl rfl ?_
    refine fz_callV (d' := 0) (M' := mX9_isKind) (As := [fz_i 3]) (st := []) kX9_run rfl rfl vX9_isKind rfl rfl rfl rfl (Nat.le_of_ble_eq_true rfl) (Nat.le_of_ble_eq_true rfl) (by decide) (sX9_isKind h hI 3 ) (fun H4 r5 q6 o7 => ?_)
    obtain ⟨e8, y9, rfl, p10⟩ := q6
    subst H4
    clear o7
    rcases p10 with ⟨rfl, c11⟩ | ⟨rfl, c11⟩
    · refine fz_if_eq (tgt := 24) kX9_run rfl (by decide) (fun c12 => ?_) (fun c12 => ?_)
      · exfalso; omega
      · refine fz_iload_n kX9_run rfl rfl ?_
        refine fz_if_lt (tgt := 24) kX9_run rfl (by decide) (fun c13 => ?_) (fun c13 => ?_)
        · exfalso; omega
        · refine fz_iload_n kX9_run rfl rfl ?_
          refine fz_iconst ⟨by decide, by decide⟩ kX9_run rfl ?_
          refine fz_icmp_lt (tgt := 26) kX9_run rfl (by decide) (fun c14 => ?_) (fun c14 => ?_)
          · refine fz_iload_n kX9_run rfl rfl ?_
            refine fz_iload_n kX9_run rfl rfl ?_
            refine fz_callS (d' := 0) (M' := mX9_ownerFrom) (As := [fz_i 3, fz_i 1]) (st := []) kX9_run rfl rfl vX9_ownerFrom rfl rfl (Nat.le_of_ble_eq_true rfl) (Nat.le_of_ble_eq_true rfl) (by decide) (sX9_ownerFrom_3_1 h hI  ) (fun H15 r16 q17 o18 => ?_)
            obtain ⟨e19, y21, rfl, f20⟩ := q17
            subst H15
            clear o18
            refine fz_eqi (show y21 = 3 by omega) ?_
            refine fz_istore (ls' := [(5, fz_i 3), (0, fz_r 44), (1, fz_i 3), (2, fz_i 1), (3, fz_i x), (4, fz_i dp)]) kX9_run rfl (by decide) rfl ?_
            refine fz_gets kX9_run rfl ?_
            refine fz_iload kX9_run rfl rfl ?_
            refine fz_taldV (v := 2) kX9_run rfl ⟨by decide, by decide⟩ (by omega) (by rw [hI.2.2.2.2]; decide) (by rw [hI.2.2.2.2]; rfl) ?_
            refine fz_istore (ls' := [(6, fz_i 2), (5, fz_i 3), (0, fz_r 44), (1, fz_i 3), (2, fz_i 1), (3, fz_i x), (4, fz_i dp)]) kX9_run rfl (by decide) rfl ?_
            refine fz_iload kX9_run rfl rfl ?_
            refine fz_iconst ⟨by decide, by decide⟩ kX9_run rfl ?_
            refine fz_iaddN kX9_run rfl (by omega) ?_
            refine fz_istore (ls' := [(7, fz_i (dp + 1)), (6, fz_i 2), (5, fz_i 3), (0, fz_r 44), (1, fz_i 3), (2, fz_i 1), (3, fz_i x), (4, fz_i dp)]) kX9_run rfl (by decide) rfl ?_
            refine fz_gets kX9_run rfl ?_
            refine fz_iload kX9_run rfl rfl ?_
            refine fz_iconst ⟨by decide, by decide⟩ kX9_run rfl ?_
            refine fz_imulN kX9_run rfl ⟨by decide, by decide⟩ ?_
            refine fz_eqi (y := 12) rfl ?_
            refine fz_iload_n kX9_run rfl rfl ?_
            refine fz_iaddN kX9_run rfl ⟨by decide, by decide⟩ ?_
            refine fz_eqi (y := 13) rfl ?_
            refine fz_taldV (v := 41) kX9_run rfl ⟨by decide, by decide⟩ (by omega) (by rw [hI.2.2.2.1]; decide) (by rw [hI.2.2.2.1]; rfl) ?_
            refine fz_istore (ls' := [(8, fz_i 41), (7, fz_i (dp + 1)), (6, fz_i 2), (5, fz_i 3), (0, fz_r 44), (1, fz_i 3), (2, fz_i 1), (3, fz_i x), (4, fz_i dp)]) kX9_run rfl (by decide) rfl ?_
            refine fz_aload_n kX9_run rfl rfl ?_
            refine fz_iload kX9_run rfl rfl ?_
            refine fz_callV (d' := 0) (M' := mX9_note) (As := [fz_i 41]) (st := []) kX9_run rfl rfl vX9_note rfl rfl rfl rfl (Nat.le_of_ble_eq_true rfl) (Nat.le_of_ble_eq_true rfl) (by decide) (sX9_note h hI 41 (by omega)) (fun H26 r27 q28 o29 => ?_)
            obtain ⟨hI30, hf31, rfl, f32⟩ := q28
            clear o29
            have hf33 := fz_fr_tr hf hf31 (show fz_su [(44, 3), (46, 99999)] [(44, 3), (46, 99999)] = true from rfl)
            refine fz_iload kX9_run rfl rfl ?_
            refine fz_lsw (tgt := 273) kX9_run rfl (by decide) (show Op.lookupswitch.offset [(1, 113), (2, 120), (10, 146), (11, 161), (20, 168), (30, 181), (40, 193), (41, 206), (50, 219), (60, 243), (70, 256), (80, 269), (81, 293)] 306 41 = 206 from rfl) (by decide) ?_
            refine fz_aload_n kX9_run rfl rfl ?_
            refine fz_iload kX9_run rfl rfl ?_
            refine fz_iconst ⟨by decide, by decide⟩ kX9_run rfl ?_
            refine fz_iload_n kX9_run rfl rfl ?_
            refine fz_iconst ⟨by decide, by decide⟩ kX9_run rfl ?_
            refine fz_iadd kX9_run rfl ?_
            refine fz_nmw (fun z34 e35 => ?_)
            refine fz_iload kX9_run rfl rfl ?_
            have b36 : (-2147483648) ≤ H26 44 3 ∧ H26 44 3 ≤ 2147483647 := hI30.1 44 _
            have e37 : H26 44 5 = h 44 5 := hf33 44 5 rfl
            refine fz_callV (d' := 3) (M' := mX9_run) (As := [fz_i 2, fz_i 1, fz_i z34, fz_i (dp + 1)]) (st := []) kX9_run rfl rfl vX9_run rfl rfl rfl rfl (Nat.le_of_ble_eq_true rfl) (Nat.le_of_ble_eq_true rfl) (by decide) (sX9_run_3_2_1 H26 hI30 z34 (dp + 1) (by omega) (by omega) (by omega)) (fun H38 r39 q40 o41 => ?_)
            obtain ⟨hI42, hf43, y45, rfl, f44⟩ := q40
            clear o41
            have hf46 := fz_fr_tr hf33 hf43 (show fz_su [(44, 3), (46, 99999)] [(44, 3), (46, 99999)] = true from rfl)
            exact fz_iret kX9_run rfl rfl (fun _ => ⟨hI42, hf46, _, rfl, (by omega)⟩)
          · exfalso; omega
    · refine fz_if_eq (tgt := 24) kX9_run rfl (by decide) (fun c47 => ?_) (fun c47 => ?_)
      · refine fz_iconst ⟨by decide, by decide⟩ kX9_run rfl ?_
        exact fz_iret kX9_run rfl rfl (fun _ => ⟨hI, hf, _, rfl, (by omega)⟩)
      · exfalso; omega

abbrev qX9_run_3_2_2 (h : fz_H) (x dp : Int) : fz_H → Option fz_V → Prop := fun h' r0 => fz_Iv h' ∧ fz_fr [(44, 3), (46, 99999)] h h' ∧ ∃ r : Int, r0 = some (fz_i r) ∧ (h' 44 3 = h 44 3 + 1)
set_option maxHeartbeats 1000000 in
set_option maxRecDepth 100000 in
theorem sX9_run_3_2_2 (h : fz_H) (hI : fz_Iv h) (x dp : Int) (hp0 : h 44 5 = 3) (hp1 : 0 ≤ dp ∧ dp ≤ 39) (hp2 : 0 ≤ h 44 3 ∧ h 44 3 ≤ 899) : fz_R 1 mX9_run 0 [(0, fz_r 44), (1, fz_i 2), (2, fz_i 2), (3, fz_i x), (4, fz_i dp)] [] h (qX9_run_3_2_2 h x dp) := by
  refine fz_knowl (fun hk => ?_)
  have hr_x : -2147483648 ≤ x ∧ x < 2147483648 := hk _ (List.Mem.tail _ (List.Mem.tail _ (List.Mem.tail _ (List.Mem.head _))))
  have hr_dp : -2147483648 ≤ dp ∧ dp < 2147483648 := hk _ (List.Mem.tail _ (List.Mem.tail _ (List.Mem.tail _ (List.Mem.tail _ (List.Mem.head _)))))
  clear hk
  have hf : fz_fr [(44, 3), (46, 99999)] h h := fz_fr_rf
  have b1 : 0 ≤ h 44 5 ∧ h 44 5 ≤ 7 := hI.1 44 _
  have b2 : (-2147483648) ≤ h 44 3 ∧ h 44 3 ≤ 2147483647 := hI.1 44 _
  refine fz_iload kX9_run rfl rfl ?_
  refine fz_bipush ⟨by decide, by decide⟩ kX9_run rfl ?_
  refine fz_icmp_gt (tgt := 24) kX9_run rfl (by decide) (fun c3 => ?_) (fun c3 => ?_)
  · exfalso; omega
  · refine fz_aload_n kX9_run rfl rfl ?_
    refine fz_iload_n kX9_run rfl rfl ?_
    refine fz_callV (d' := 0) (M' := mX9_isKind) (As := [fz_i 2]) (st := []) kX9_run rfl rfl vX9_isKind rfl rfl rfl rfl (Nat.le_of_ble_eq_true rfl) (Nat.le_of_ble_eq_true rfl) (by decide) (sX9_isKind h hI 2 ) (fun H4 r5 q6 o7 => ?_)
    obtain ⟨e8, y9, rfl, p10⟩ := q6
    subst H4
    clear o7
    rcases p10 with ⟨rfl, c11⟩ | ⟨rfl, c11⟩
    · refine fz_if_eq (tgt := 24) kX9_run rfl (by decide) (fun c12 => ?_) (fun c12 => ?_)
      · exfalso; omega
      · refine fz_iload_n kX9_run rfl rfl ?_
        refine fz_if_lt (tgt := 24) kX9_run rfl (by decide) (fun c13 => ?_) (fun c13 => ?_)
        · exfalso; omega
        · refine fz_iload_n kX9_run rfl rfl ?_
          refine fz_iconst ⟨by decide, by decide⟩ kX9_run rfl ?_
          refine fz_icmp_lt (tgt := 26) kX9_run rfl (by decide) (fun c14 => ?_) (fun c14 => ?_)
          · refine fz_iload_n kX9_run rfl rfl ?_
            refine fz_iload_n kX9_run rfl rfl ?_
            refine fz_callS (d' := 0) (M' := mX9_ownerFrom) (As := [fz_i 2, fz_i 2]) (st := []) kX9_run rfl rfl vX9_ownerFrom rfl rfl (Nat.le_of_ble_eq_true rfl) (Nat.le_of_ble_eq_true rfl) (by decide) (sX9_ownerFrom_2_2 h hI  ) (fun H15 r16 q17 o18 => ?_)
            obtain ⟨e19, y21, rfl, f20⟩ := q17
            subst H15
            clear o18
            refine fz_eqi (show y21 = 0 by omega) ?_
            refine fz_istore (ls' := [(5, fz_i 0), (0, fz_r 44), (1, fz_i 2), (2, fz_i 2), (3, fz_i x), (4, fz_i dp)]) kX9_run rfl (by decide) rfl ?_
            refine fz_gets kX9_run rfl ?_
            refine fz_iload kX9_run rfl rfl ?_
            refine fz_taldV (v := (-1)) kX9_run rfl ⟨by decide, by decide⟩ (by omega) (by rw [hI.2.2.2.2]; decide) (by rw [hI.2.2.2.2]; rfl) ?_
            refine fz_istore (ls' := [(6, fz_i (-1)), (5, fz_i 0), (0, fz_r 44), (1, fz_i 2), (2, fz_i 2), (3, fz_i x), (4, fz_i dp)]) kX9_run rfl (by decide) rfl ?_
            refine fz_iload kX9_run rfl rfl ?_
            refine fz_iconst ⟨by decide, by decide⟩ kX9_run rfl ?_
            refine fz_iaddN kX9_run rfl (by omega) ?_
            refine fz_istore (ls' := [(7, fz_i (dp + 1)), (6, fz_i (-1)), (5, fz_i 0), (0, fz_r 44), (1, fz_i 2), (2, fz_i 2), (3, fz_i x), (4, fz_i dp)]) kX9_run rfl (by decide) rfl ?_
            refine fz_gets kX9_run rfl ?_
            refine fz_iload kX9_run rfl rfl ?_
            refine fz_iconst ⟨by decide, by decide⟩ kX9_run rfl ?_
            refine fz_imulN kX9_run rfl ⟨by decide, by decide⟩ ?_
            refine fz_eqi (y := 0) rfl ?_
            refine fz_iload_n kX9_run rfl rfl ?_
            refine fz_iaddN kX9_run rfl ⟨by decide, by decide⟩ ?_
            refine fz_eqi (y := 2) rfl ?_
            refine fz_taldV (v := 11) kX9_run rfl ⟨by decide, by decide⟩ (by omega) (by rw [hI.2.2.2.1]; decide) (by rw [hI.2.2.2.1]; rfl) ?_
            refine fz_istore (ls' := [(8, fz_i 11), (7, fz_i (dp + 1)), (6, fz_i (-1)), (5, fz_i 0), (0, fz_r 44), (1, fz_i 2), (2, fz_i 2), (3, fz_i x), (4, fz_i dp)]) kX9_run rfl (by decide) rfl ?_
            refine fz_aload_n kX9_run rfl rfl ?_
            refine fz_iload kX9_run rfl rfl ?_
            refine fz_callV (d' := 0) (M' := mX9_note) (As := [fz_i 11]) (st := []) kX9_run rfl rfl vX9_note rfl rfl rfl rfl (Nat.le_of_ble_eq_true rfl) (Nat.le_of_ble_eq_true rfl) (by decide) (sX9_note h hI 11 (by omega)) (fun H26 r27 q28 o29 => ?_)
            obtain ⟨hI30, hf31, rfl, f32⟩ := q28
            clear o29
            have hf33 := fz_fr_tr hf hf31 (show fz_su [(44, 3), (46, 99999)] [(44, 3), (46, 99999)] = true from rfl)
            refine fz_iload kX9_run rfl rfl ?_
            refine fz_lsw (tgt := 228) kX9_run rfl (by decide) (show Op.lookupswitch.offset [(1, 113), (2, 120), (10, 146), (11, 161), (20, 168), (30, 181), (40, 193), (41, 206), (50, 219), (60, 243), (70, 256), (80, 269), (81, 293)] 306 11 = 161 from rfl) (by decide) ?_
            refine fz_iload_n kX9_run rfl rfl ?_
            refine fz_aload_n kX9_run rfl rfl ?_
            refine fz_getV (v := h 44 4) kX9_run rfl rfl (hf33 44 4 rfl) ?_
            have b34 : 0 ≤ h 44 4 ∧ h 44 4 ≤ 49 := hI.1 44 _
            refine fz_ixor kX9_run rfl ?_
            have b35 : -2147483648 ≤ (fz_xor x (h 44 4)) ∧ (fz_xor x (h 44 4)) < 2147483648 := fz_b32 _
            exact fz_iret kX9_run rfl rfl (fun _ => ⟨hI30, hf33, _, rfl, (by omega)⟩)
          · exfalso; omega
    · refine fz_if_eq (tgt := 24) kX9_run rfl (by decide) (fun c36 => ?_) (fun c36 => ?_)
      · refine fz_iconst ⟨by decide, by decide⟩ kX9_run rfl ?_
        exact fz_iret kX9_run rfl rfl (fun _ => ⟨hI, hf, _, rfl, (by omega)⟩)
      · exfalso; omega

abbrev qX9_run_3_3_2 (h : fz_H) (x dp : Int) : fz_H → Option fz_V → Prop := fun h' r0 => fz_Iv h' ∧ fz_fr [(44, 3), (46, 99999)] h h' ∧ ∃ r : Int, r0 = some (fz_i r) ∧ (h' 44 3 = h 44 3 + 2)
set_option maxHeartbeats 1000000 in
set_option maxRecDepth 100000 in
theorem sX9_run_3_3_2 (h : fz_H) (hI : fz_Iv h) (x dp : Int) (hp0 : h 44 5 = 3) (hp1 : 0 ≤ dp ∧ dp ≤ 38) (hp2 : 0 ≤ h 44 3 ∧ h 44 3 ≤ 898) : fz_R 2 mX9_run 0 [(0, fz_r 44), (1, fz_i 3), (2, fz_i 2), (3, fz_i x), (4, fz_i dp)] [] h (qX9_run_3_3_2 h x dp) := by
  refine fz_knowl (fun hk => ?_)
  have hr_x : -2147483648 ≤ x ∧ x < 2147483648 := hk _ (List.Mem.tail _ (List.Mem.tail _ (List.Mem.tail _ (List.Mem.head _))))
  have hr_dp : -2147483648 ≤ dp ∧ dp < 2147483648 := hk _ (List.Mem.tail _ (List.Mem.tail _ (List.Mem.tail _ (List.Mem.tail _ (List.Mem.head _)))))
  clear hk
  have hf : fz_fr [(44, 3), (46, 99999)] h h := fz_fr_rf
  have b1 : 0 ≤ h 44 5 ∧ h 44 5 ≤ 7 := hI.1 44 _
  have b2 : (-2147483648) ≤ h 44 3 ∧ h 44 3 ≤ 2147483647 := hI.1 44 _
  refine fz_iload kX9_run rfl rfl ?_
  refine fz_bipush ⟨by decide, by decide⟩ kX9_run rfl ?_
  refine fz_icmp_gt (tgt := 24) kX9_run rfl (by decide) (fun c3 => ?_) (fun c3 => ?_)
  · exfalso; omega
  · refine fz_aload_n kX9_run rfl rfl ?_
    refine fz_iload_n kX9_run rfl rfl ?_
    refine fz_callV (d' := 0) (M' := mX9_isKind) (As := [fz_i 3]) (st := []) kX9_run rfl rfl vX9_isKind rfl rfl rfl rfl (Nat.le_of_ble_eq_true rfl) (Nat.le_of_ble_eq_true rfl) (by decide) (sX9_isKind h hI 3 ) (fun H4 r5 q6 o7 => ?_)
    obtain ⟨e8, y9, rfl, p10⟩ := q6
    subst H4
    clear o7
    rcases p10 with ⟨rfl, c11⟩ | ⟨rfl, c11⟩
    · refine fz_if_eq (tgt := 24) kX9_run rfl (by decide) (fun c12 => ?_) (fun c12 => ?_)
      · exfalso; omega
      · refine fz_iload_n kX9_run rfl rfl ?_
        refine fz_if_lt (tgt := 24) kX9_run rfl (by decide) (fun c13 => ?_) (fun c13 => ?_)
        · exfalso; omega
        · refine fz_iload_n kX9_run rfl rfl ?_
          refine fz_iconst ⟨by decide, by decide⟩ kX9_run rfl ?_
          refine fz_icmp_lt (tgt := 26) kX9_run rfl (by decide) (fun c14 => ?_) (fun c14 => ?_)
          · refine fz_iload_n kX9_run rfl rfl ?_
            refine fz_iload_n kX9_run rfl rfl ?_
            refine fz_callS (d' := 0) (M' := mX9_ownerFrom) (As := [fz_i 3, fz_i 2]) (st := []) kX9_run rfl rfl vX9_ownerFrom rfl rfl (Nat.le_of_ble_eq_true rfl) (Nat.le_of_ble_eq_true rfl) (by decide) (sX9_ownerFrom_3_2 h hI  ) (fun H15 r16 q17 o18 => ?_)
            obtain ⟨e19, y21, rfl, f20⟩ := q17
            subst H15
            clear o18
            refine fz_eqi (show y21 = 3 by omega) ?_
            refine fz_istore (ls' := [(5, fz_i 3), (0, fz_r 44), (1, fz_i 3), (2, fz_i 2), (3, fz_i x), (4, fz_i dp)]) kX9_run rfl (by decide) rfl ?_
            refine fz_gets kX9_run rfl ?_
            refine fz_iload kX9_run rfl rfl ?_
            refine fz_taldV (v := 2) kX9_run rfl ⟨by decide, by decide⟩ (by omega) (by rw [hI.2.2.2.2]; decide) (by rw [hI.2.2.2.2]; rfl) ?_
            refine fz_istore (ls' := [(6, fz_i 2), (5, fz_i 3), (0, fz_r 44), (1, fz_i 3), (2, fz_i 2), (3, fz_i x), (4, fz_i dp)]) kX9_run rfl (by decide) rfl ?_
            refine fz_iload kX9_run rfl rfl ?_
            refine fz_iconst ⟨by decide, by decide⟩ kX9_run rfl ?_
            refine fz_iaddN kX9_run rfl (by omega) ?_
            refine fz_istore (ls' := [(7, fz_i (dp + 1)), (6, fz_i 2), (5, fz_i 3), (0, fz_r 44), (1, fz_i 3), (2, fz_i 2), (3, fz_i x), (4, fz_i dp)]) kX9_run rfl (by decide) rfl ?_
            refine fz_gets kX9_run rfl ?_
            refine fz_iload kX9_run rfl rfl ?_
            refine fz_iconst ⟨by decide, by decide⟩ kX9_run rfl ?_
            refine fz_imulN kX9_run rfl ⟨by decide, by decide⟩ ?_
            refine fz_eqi (y := 12) rfl ?_
            refine fz_iload_n kX9_run rfl rfl ?_
            refine fz_iaddN kX9_run rfl ⟨by decide, by decide⟩ ?_
            refine fz_eqi (y := 14) rfl ?_
            refine fz_taldV (v := 40) kX9_run rfl ⟨by decide, by decide⟩ (by omega) (by rw [hI.2.2.2.1]; decide) (by rw [hI.2.2.2.1]; rfl) ?_
            refine fz_istore (ls' := [(8, fz_i 40), (7, fz_i (dp + 1)), (6, fz_i 2), (5, fz_i 3), (0, fz_r 44), (1, fz_i 3), (2, fz_i 2), (3, fz_i x), (4, fz_i dp)]) kX9_run rfl (by decide) rfl ?_
            refine fz_aload_n kX9_run rfl rfl ?_
            refine fz_iload kX9_run rfl rfl ?_
            refine fz_callV (d' := 0) (M' := mX9_note) (As := [fz_i 40]) (st := []) kX9_run rfl rfl vX9_note rfl rfl rfl rfl (Nat.le_of_ble_eq_true rfl) (Nat.le_of_ble_eq_true rfl) (by decide) (sX9_note h hI 40 (by omega)) (fun H26 r27 q28 o29 => ?_)
            obtain ⟨hI30, hf31, rfl, f32⟩ := q28
            clear o29
            have hf33 := fz_fr_tr hf hf31 (show fz_su [(44, 3), (46, 99999)] [(44, 3), (46, 99999)] = true from rfl)
            refine fz_iload kX9_run rfl rfl ?_
            refine fz_lsw (tgt := 260) kX9_run rfl (by decide) (show Op.lookupswitch.offset [(1, 113), (2, 120), (10, 146), (11, 161), (20, 168), (30, 181), (40, 193), (41, 206), (50, 219), (60, 243), (70, 256), (80, 269), (81, 293)] 306 40 = 193 from rfl) (by decide) ?_
            refine fz_aload_n kX9_run rfl rfl ?_
            refine fz_iload kX9_run rfl rfl ?_
            refine fz_iconst ⟨by decide, by decide⟩ kX9_run rfl ?_
            refine fz_iload_n kX9_run rfl rfl ?_
            refine fz_iload kX9_run rfl rfl ?_
            have b34 : (-2147483648) ≤ H26 44 3 ∧ H26 44 3 ≤ 2147483647 := hI30.1 44 _
            have e35 : H26 44 5 = h 44 5 := hf33 44 5 rfl
            refine fz_callV (d' := 1) (M' := mX9_run) (As := [fz_i 2, fz_i 2, fz_i x, fz_i (dp + 1)]) (st := []) kX9_run rfl rfl vX9_run rfl rfl rfl rfl (Nat.le_of_ble_eq_true rfl) (Nat.le_of_ble_eq_true rfl) (by decide) (sX9_run_3_2_2 H26 hI30 x (dp + 1) (by omega) (by omega) (by omega)) (fun H36 r37 q38 o39 => ?_)
            obtain ⟨hI40, hf41, y43, rfl, f42⟩ := q38
            clear o39
            have hf44 := fz_fr_tr hf33 hf41 (show fz_su [(44, 3), (46, 99999)] [(44, 3), (46, 99999)] = true from rfl)
            refine fz_iconst ⟨by decide, by decide⟩ kX9_run rfl ?_
            refine fz_imul kX9_run rfl ?_
            refine fz_nmw (fun z45 e46 => ?_)
            exact fz_iret kX9_run rfl rfl (fun _ => ⟨hI40, hf44, _, rfl, (by omega)⟩)
          · exfalso; omega
    · refine fz_if_eq (tgt := 24) kX9_run rfl (by decide) (fun c47 => ?_) (fun c47 => ?_)
      · refine fz_iconst ⟨by decide, by decide⟩ kX9_run rfl ?_
        exact fz_iret kX9_run rfl rfl (fun _ => ⟨hI, hf, _, rfl, (by omega)⟩)
      · exfalso; omega

abbrev qX9_run_3_3_3 (h : fz_H) (x dp : Int) : fz_H → Option fz_V → Prop := fun h' r0 => fz_Iv h' ∧ fz_fr [(44, 3), (46, 99999)] h h' ∧ ∃ r : Int, r0 = some (fz_i r) ∧ (h' 44 3 = h 44 3 + 7)
set_option maxHeartbeats 1000000 in
set_option maxRecDepth 100000 in
theorem sX9_run_3_3_3 (h : fz_H) (hI : fz_Iv h) (x dp : Int) (hp0 : h 44 5 = 3) (hp1 : 0 ≤ dp ∧ dp ≤ 35) (hp2 : 0 ≤ h 44 3 ∧ h 44 3 ≤ 893) : fz_R 5 mX9_run 0 [(0, fz_r 44), (1, fz_i 3), (2, fz_i 3), (3, fz_i x), (4, fz_i dp)] [] h (qX9_run_3_3_3 h x dp) := by
  refine fz_knowl (fun hk => ?_)
  have hr_x : -2147483648 ≤ x ∧ x < 2147483648 := hk _ (List.Mem.tail _ (List.Mem.tail _ (List.Mem.tail _ (List.Mem.head _))))
  have hr_dp : -2147483648 ≤ dp ∧ dp < 2147483648 := hk _ (List.Mem.tail _ (List.Mem.tail _ (List.Mem.tail _ (List.Mem.tail _ (List.Mem.head _)))))
  clear hk
  have hf : fz_fr [(44, 3), (46, 99999)] h h := fz_fr_rf
  have b1 : 0 ≤ h 44 5 ∧ h 44 5 ≤ 7 := hI.1 44 _
  have b2 : (-2147483648) ≤ h 44 3 ∧ h 44 3 ≤ 2147483647 := hI.1 44 _
  refine fz_iload kX9_run rfl rfl ?_
  refine fz_bipush ⟨by decide, by decide⟩ kX9_run rfl ?_
  refine fz_icmp_gt (tgt := 24) kX9_run rfl (by decide) (fun c3 => ?_) (fun c3 => ?_)
  · exfalso; omega
  · refine fz_aload_n kX9_run rfl rfl ?_
    refine fz_iload_n kX9_run rfl rfl ?_
    refine fz_callV (d' := 0) (M' := mX9_isKind) (As := [fz_i 3]) (st := []) kX9_run rfl rfl vX9_isKind rfl rfl rfl rfl (Nat.le_of_ble_eq_true rfl) (Nat.le_of_ble_eq_true rfl) (by decide) (sX9_isKind h hI 3 ) (fun H4 r5 q6 o7 => ?_)
    obtain ⟨e8, y9, rfl, p10⟩ := q6
    subst H4
    clear o7
    rcases p10 with ⟨rfl, c11⟩ | ⟨rfl, c11⟩
    · refine fz_if_eq (tgt := 24) kX9_run rfl (by decide) (fun c12 => ?_) (fun c12 => ?_)
      · exfalso; omega
      · refine fz_iload_n kX9_run rfl rfl ?_
        refine fz_if_lt (tgt := 24) kX9_run rfl (by decide) (fun c13 => ?_) (fun c13 => ?_)
        · exfalso; omega
        · refine fz_iload_n kX9_run rfl rfl ?_
          refine fz_iconst ⟨by decide, by decide⟩ kX9_run rfl ?_
          refine fz_icmp_lt (tgt := 26) kX9_run rfl (by decide) (fun c14 => ?_) (fun c14 => ?_)
          · refine fz_iload_n kX9_run rfl rfl ?_
            refine fz_iload_n kX9_run rfl rfl ?_
            refine fz_callS (d' := 0) (M' := mX9_ownerFrom) (As := [fz_i 3, fz_i 3]) (st := []) kX9_run rfl rfl vX9_ownerFrom rfl rfl (Nat.le_of_ble_eq_true rfl) (Nat.le_of_ble_eq_true rfl) (by decide) (sX9_ownerFrom_3_3 h hI  ) (fun H15 r16 q17 o18 => ?_)
            obtain ⟨e19, y21, rfl, f20⟩ := q17
            subst H15
            clear o18
            refine fz_eqi (show y21 = 0 by omega) ?_
            refine fz_istore (ls' := [(5, fz_i 0), (0, fz_r 44), (1, fz_i 3), (2, fz_i 3), (3, fz_i x), (4, fz_i dp)]) kX9_run rfl (by decide) rfl ?_
            refine fz_gets kX9_run rfl ?_
            refine fz_iload kX9_run rfl rfl ?_
            refine fz_taldV (v := (-1)) kX9_run rfl ⟨by decide, by decide⟩ (by omega) (by rw [hI.2.2.2.2]; decide) (by rw [hI.2.2.2.2]; rfl) ?_
            refine fz_istore (ls' := [(6, fz_i (-1)), (5, fz_i 0), (0, fz_r 44), (1, fz_i 3), (2, fz_i 3), (3, fz_i x), (4, fz_i dp)]) kX9_run rfl (by decide) rfl ?_
            refine fz_iload kX9_run rfl rfl ?_
            refine fz_iconst ⟨by decide, by decide⟩ kX9_run rfl ?_
            refine fz_iaddN kX9_run rfl (by omega) ?_
            refine fz_istore (ls' := [(7, fz_i (dp + 1)), (6, fz_i (-1)), (5, fz_i 0), (0, fz_r 44), (1, fz_i 3), (2, fz_i 3), (3, fz_i x), (4, fz_i dp)]) kX9_run rfl (by decide) rfl ?_
            refine fz_gets kX9_run rfl ?_
            refine fz_iload kX9_run rfl rfl ?_
            refine fz_iconst ⟨by decide, by decide⟩ kX9_run rfl ?_
            refine fz_imulN kX9_run rfl ⟨by decide, by decide⟩ ?_
            refine fz_eqi (y := 0) rfl ?_
            refine fz_iload_n kX9_run rfl rfl ?_
            refine fz_iaddN kX9_run rfl ⟨by decide, by decide⟩ ?_
            refine fz_eqi (y := 3) rfl ?_
            refine fz_taldV (v := 2) kX9_run rfl ⟨by decide, by decide⟩ (by omega) (by rw [hI.2.2.2.1]; decide) (by rw [hI.2.2.2.1]; rfl) ?_
            refine fz_istore (ls' := [(8, fz_i 2), (7, fz_i (dp + 1)), (6, fz_i (-1)), (5, fz_i 0), (0, fz_r 44), (1, fz_i 3), (2, fz_i 3), (3, fz_i x), (4, fz_i dp)]) kX9_run rfl (by decide) rfl ?_
            refine fz_aload_n kX9_run rfl rfl ?_
            refine fz_iload kX9_run rfl rfl ?_
            refine fz_callV (d' := 0) (M' := mX9_note) (As := [fz_i 2]) (st := []) kX9_run rfl rfl vX9_note rfl rfl rfl rfl (Nat.le_of_ble_eq_true rfl) (Nat.le_of_ble_eq_true rfl) (by decide) (sX9_note h hI 2 (by omega)) (fun H26 r27 q28 o29 => ?_)
            obtain ⟨hI30, hf31, rfl, f32⟩ := q28
            clear o29
            have hf33 := fz_fr_tr hf hf31 (show fz_su [(44, 3), (46, 99999)] [(44, 3), (46, 99999)] = true from rfl)
            refine fz_iload kX9_run rfl rfl ?_
            refine fz_lsw (tgt := 187) kX9_run rfl (by decide) (show Op.lookupswitch.offset [(1, 113), (2, 120), (10, 146), (11, 161), (20, 168), (30, 181), (40, 193), (41, 206), (50, 219), (60, 243), (70, 256), (80, 269), (81, 293)] 306 2 = 120 from rfl) (by decide) ?_
            refine fz_aload_n kX9_run rfl rfl ?_
            refine fz_aload_n kX9_run rfl rfl ?_
            refine fz_getV (v := h 44 5) kX9_run rfl rfl (hf33 44 5 rfl) ?_
            have b34 : 0 ≤ h 44 5 ∧ h 44 5 ≤ 7 := hI.1 44 _
            refine fz_eqi (show (h 44 5) = 3 by omega) ?_
            refine fz_iconst ⟨by decide, by decide⟩ kX9_run rfl ?_
            refine fz_iload_n kX9_run rfl rfl ?_
            refine fz_iload kX9_run rfl rfl ?_
            have b35 : (-2147483648) ≤ H26 44 3 ∧ H26 44 3 ≤ 2147483647 := hI30.1 44 _
            have e36 : H26 44 5 = h 44 5 := hf33 44 5 rfl
            refine fz_callV (d' := 4) (M' := mX9_run) (As := [fz_i 3, fz_i 1, fz_i x, fz_i (dp + 1)]) (st := []) kX9_run rfl rfl vX9_run rfl rfl rfl rfl (Nat.le_of_ble_eq_true rfl) (Nat.le_of_ble_eq_true rfl) (by decide) (sX9_run_3_3_1 H26 hI30 x (dp + 1) (by omega) (by omega) (by omega)) (fun H37 r38 q39 o40 => ?_)
            obtain ⟨hI41, hf42, y44, rfl, f43⟩ := q39
            clear o40
            have hf45 := fz_fr_tr hf33 hf42 (show fz_su [(44, 3), (46, 99999)] [(44, 3), (46, 99999)] = true from rfl)
            refine fz_aload_n kX9_run rfl rfl ?_
            refine fz_aload_n kX9_run rfl rfl ?_
            refine fz_getV (v := h 44 5) kX9_run rfl rfl (hf45 44 5 rfl) ?_
            refine fz_eqi (show (h 44 5) = 3 by omega) ?_
            refine fz_iconst ⟨by decide, by decide⟩ kX9_run rfl ?_
            refine fz_iconst ⟨by decide, by decide⟩ kX9_run rfl ?_
            refine fz_iload kX9_run rfl rfl ?_
            have b46 : (-2147483648) ≤ H37 44 3 ∧ H37 44 3 ≤ 2147483647 := hI41.1 44 _
            have e47 : H37 44 5 = h 44 5 := hf45 44 5 rfl
            refine fz_callV (d' := 2) (M' := mX9_run) (As := [fz_i 3, fz_i 2, fz_i 1, fz_i (dp + 1)]) (st := [fz_i y44]) kX9_run rfl rfl vX9_run rfl rfl rfl rfl (Nat.le_of_ble_eq_true rfl) (Nat.le_of_ble_eq_true rfl) (by decide) (sX9_run_3_3_2 H37 hI41 1 (dp + 1) (by omega) (by omega) (by omega)) (fun H48 r49 q50 o51 => ?_)
            obtain ⟨hI52, hf53, y55, rfl, f54⟩ := q50
            clear o51
            have hf56 := fz_fr_tr hf45 hf53 (show fz_su [(44, 3), (46, 99999)] [(44, 3), (46, 99999)] = true from rfl)
            refine fz_isub kX9_run rfl ?_
            refine fz_nmw (fun z57 e58 => ?_)
            exact fz_iret kX9_run rfl rfl (fun _ => ⟨hI52, hf56, _, rfl, (by omega)⟩)
          · exfalso; omega
    · refine fz_if_eq (tgt := 24) kX9_run rfl (by decide) (fun c59 => ?_) (fun c59 => ?_)
      · refine fz_iconst ⟨by decide, by decide⟩ kX9_run rfl ?_
        exact fz_iret kX9_run rfl rfl (fun _ => ⟨hI, hf, _, rfl, (by omega)⟩)
      · exfalso; omega

abbrev qX9_run_4_0_0 (h : fz_H) (x dp : Int) : fz_H → Option fz_V → Prop := fun h' r0 => fz_Iv h' ∧ fz_fr [(44, 3), (46, 99999)] h h' ∧ ∃ r : Int, r0 = some (fz_i r) ∧ (h' 44 3 = h 44 3 + 1)
set_option maxHeartbeats 1000000 in
set_option maxRecDepth 100000 in
theorem sX9_run_4_0_0 (h : fz_H) (hI : fz_Iv h) (x dp : Int) (hp0 : h 44 5 = 4) (hp1 : 0 ≤ dp ∧ dp ≤ 39) (hp2 : 0 ≤ h 44 3 ∧ h 44 3 ≤ 899) : fz_R 1 mX9_run 0 [(0, fz_r 44), (1, fz_i 0), (2, fz_i 0), (3, fz_i x), (4, fz_i dp)] [] h (qX9_run_4_0_0 h x dp) := by
  refine fz_knowl (fun hk => ?_)
  have hr_x : -2147483648 ≤ x ∧ x < 2147483648 := hk _ (List.Mem.tail _ (List.Mem.tail _ (List.Mem.tail _ (List.Mem.head _))))
  have hr_dp : -2147483648 ≤ dp ∧ dp < 2147483648 := hk _ (List.Mem.tail _ (List.Mem.tail _ (List.Mem.tail _ (List.Mem.tail _ (List.Mem.head _)))))
  clear hk
  have hf : fz_fr [(44, 3), (46, 99999)] h h := fz_fr_rf
  have b1 : 0 ≤ h 44 5 ∧ h 44 5 ≤ 7 := hI.1 44 _
  have b2 : (-2147483648) ≤ h 44 3 ∧ h 44 3 ≤ 2147483647 := hI.1 44 _
  refine fz_iload kX9_run rfl rfl ?_
  refine fz_bipush ⟨by decide, by decide⟩ kX9_run rfl ?_
  refine fz_icmp_gt (tgt := 24) kX9_run rfl (by decide) (fun c3 => ?_) (fun c3 => ?_)
  · exfalso; omega
  · refine fz_aload_n kX9_run rfl rfl ?_
    refine fz_iload_n kX9_run rfl rfl ?_
    refine fz_callV (d' := 0) (M' := mX9_isKind) (As := [fz_i 0]) (st := []) kX9_run rfl rfl vX9_isKind rfl rfl rfl rfl (Nat.le_of_ble_eq_true rfl) (Nat.le_of_ble_eq_true rfl) (by decide) (sX9_isKind h hI 0 ) (fun H4 r5 q6 o7 => ?_)
    obtain ⟨e8, y9, rfl, p10⟩ := q6
    subst H4
    clear o7
    rcases p10 with ⟨rfl, c11⟩ | ⟨rfl, c11⟩
    · refine fz_if_eq (tgt := 24) kX9_run rfl (by decide) (fun c12 => ?_) (fun c12 => ?_)
      · exfalso; omega
      · refine fz_iload_n kX9_run rfl rfl ?_
        refine fz_if_lt (tgt := 24) kX9_run rfl (by decide) (fun c13 => ?_) (fun c13 => ?_)
        · exfalso; omega
        · refine fz_iload_n kX9_run rfl rfl ?_
          refine fz_iconst ⟨by decide, by decide⟩ kX9_run rfl ?_
          refine fz_icmp_lt (tgt := 26) kX9_run rfl (by decide) (fun c14 => ?_) (fun c14 => ?_)
          · refine fz_iload_n kX9_run rfl rfl ?_
            refine fz_iload_n kX9_run rfl rfl ?_
            refine fz_callS (d' := 0) (M' := mX9_ownerFrom) (As := [fz_i 0, fz_i 0]) (st := []) kX9_run rfl rfl vX9_ownerFrom rfl rfl (Nat.le_of_ble_eq_true rfl) (Nat.le_of_ble_eq_true rfl) (by decide) (sX9_ownerFrom_0_0 h hI  ) (fun H15 r16 q17 o18 => ?_)
            obtain ⟨e19, y21, rfl, f20⟩ := q17
            subst H15
            clear o18
            refine fz_eqi (show y21 = 0 by omega) ?_
            refine fz_istore (ls' := [(5, fz_i 0), (0, fz_r 44), (1, fz_i 0), (2, fz_i 0), (3, fz_i x), (4, fz_i dp)]) kX9_run rfl (by decide) rfl ?_
            refine fz_gets kX9_run rfl ?_
            refine fz_iload kX9_run rfl rfl ?_
            refine fz_taldV (v := (-1)) kX9_run rfl ⟨by decide, by decide⟩ (by omega) (by rw [hI.2.2.2.2]; decide) (by rw [hI.2.2.2.2]; rfl) ?_
            refine fz_istore (ls' := [(6, fz_i (-1)), (5, fz_i 0), (0, fz_r 44), (1, fz_i 0), (2, fz_i 0), (3, fz_i x), (4, fz_i dp)]) kX9_run rfl (by decide) rfl ?_
            refine fz_iload kX9_run rfl rfl ?_
            refine fz_iconst ⟨by decide, by decide⟩ kX9_run rfl ?_
            refine fz_iaddN kX9_run rfl (by omega) ?_
            refine fz_istore (ls' := [(7, fz_i (dp + 1)), (6, fz_i (-1)), (5, fz_i 0), (0, fz_r 44), (1, fz_i 0), (2, fz_i 0), (3, fz_i x), (4, fz_i dp)]) kX9_run rfl (by decide) rfl ?_
            refine fz_gets kX9_run rfl ?_
            refine fz_iload kX9_run rfl rfl ?_
            refine fz_iconst ⟨by decide, by decide⟩ kX9_run rfl ?_
            refine fz_imulN kX9_run rfl ⟨by decide, by decide⟩ ?_
            refine fz_eqi (y := 0) rfl ?_
            refine fz_iload_n kX9_run rfl rfl ?_
            refine fz_iaddN kX9_run rfl ⟨by decide, by decide⟩ ?_
            refine fz_eqi (y := 0) rfl ?_
            refine fz_taldV (v := 1) kX9_run rfl ⟨by decide, by decide⟩ (by omega) (by rw [hI.2.2.2.1]; decide) (by rw [hI.2.2.2.1]; rfl) ?_
            refine fz_istore (ls' := [(8, fz_i 1), (7, fz_i (dp + 1)), (6, fz_i (-1)), (5, fz_i 0), (0, fz_r 44), (1, fz_i 0), (2, fz_i 0), (3, fz_i x), (4, fz_i dp)]) kX9_run rfl (by decide) rfl ?_
            refine fz_aload_n kX9_run rfl rfl ?_
            refine fz_iload kX9_run rfl rfl ?_
            refine fz_callV (d' := 0) (M' := mX9_note) (As := [fz_i 1]) (st := []) kX9_run rfl rfl vX9_note rfl rfl rfl rfl (Nat.le_of_ble_eq_true rfl) (Nat.le_of_ble_eq_true rfl) (by decide) (sX9_note h hI 1 (by omega)) (fun H26 r27 q28 o29 => ?_)
            obtain ⟨hI30, hf31, rfl, f32⟩ := q28
            clear o29
            have hf33 := fz_fr_tr hf hf31 (show fz_su [(44, 3), (46, 99999)] [(44, 3), (46, 99999)] = true from rfl)
            refine fz_iload kX9_run rfl rfl ?_
            refine fz_lsw (tgt := 180) kX9_run rfl (by decide) (show Op.lookupswitch.offset [(1, 113), (2, 120), (10, 146), (11, 161), (20, 168), (30, 181), (40, 193), (41, 206), (50, 219), (60, 243), (70, 256), (80, 269), (81, 293)] 306 1 = 113 from rfl) (by decide) ?_
            refine fz_iload_n kX9_run rfl rfl ?_
            refine fz_aload_n kX9_run rfl rfl ?_
            refine fz_getV (v := h 44 4) kX9_run rfl rfl (hf33 44 4 rfl) ?_
            have b34 : 0 ≤ h 44 4 ∧ h 44 4 ≤ 49 := hI.1 44 _
            refine fz_iadd kX9_run rfl ?_
            refine fz_nmw (fun z35 e36 => ?_)
            exact fz_iret kX9_run rfl rfl (fun _ => ⟨hI30, hf33, _, rfl, (by omega)⟩)
          · exfalso; omega
    · refine fz_if_eq (tgt := 24) kX9_run rfl (by decide) (fun c37 => ?_) (fun c37 => ?_)
      · refine fz_iconst ⟨by decide, by decide⟩ kX9_run rfl ?_
        exact fz_iret kX9_run rfl rfl (fun _ => ⟨hI, hf, _, rfl, (by omega)⟩)
      · exfalso; omega

abbrev qX9_run_4_4_0 (h : fz_H) (x dp : Int) : fz_H → Option fz_V → Prop := fun h' r0 => fz_Iv h' ∧ fz_fr [(44, 3), (46, 99999)] h h' ∧ ∃ r : Int, r0 = some (fz_i r) ∧ (h' 44 3 = h 44 3 + 2)
set_option maxHeartbeats 1000000 in
set_option maxRecDepth 100000 in
theorem sX9_run_4_4_0 (h : fz_H) (hI : fz_Iv h) (x dp : Int) (hp0 : h 44 5 = 4) (hp1 : 0 ≤ dp ∧ dp ≤ 38) (hp2 : 0 ≤ h 44 3 ∧ h 44 3 ≤ 898) : fz_R 2 mX9_run 0 [(0, fz_r 44), (1, fz_i 4), (2, fz_i 0), (3, fz_i x), (4, fz_i dp)] [] h (qX9_run_4_4_0 h x dp) := by
  refine fz_knowl (fun hk => ?_)
  have hr_x : -2147483648 ≤ x ∧ x < 2147483648 := hk _ (List.Mem.tail _ (List.Mem.tail _ (List.Mem.tail _ (List.Mem.head _))))
  have hr_dp : -2147483648 ≤ dp ∧ dp < 2147483648 := hk _ (List.Mem.tail _ (List.Mem.tail _ (List.Mem.tail _ (List.Mem.tail _ (List.Mem.head _)))))
  clear hk
  have hf : fz_fr [(44, 3), (46, 99999)] h h := fz_fr_rf
  have b1 : 0 ≤ h 44 5 ∧ h 44 5 ≤ 7 := hI.1 44 _
  have b2 : (-2147483648) ≤ h 44 3 ∧ h 44 3 ≤ 2147483647 := hI.1 44 _
  refine fz_iload kX9_run rfl rfl ?_
  refine fz_bipush ⟨by decide, by decide⟩ kX9_run rfl ?_
  refine fz_icmp_gt (tgt := 24) kX9_run rfl (by decide) (fun c3 => ?_) (fun c3 => ?_)
  · exfalso; omega
  · refine fz_aload_n kX9_run rfl rfl ?_
    refine fz_iload_n kX9_run rfl rfl ?_
    refine fz_callV (d' := 0) (M' := mX9_isKind) (As := [fz_i 4]) (st := []) kX9_run rfl rfl vX9_isKind rfl rfl rfl rfl (Nat.le_of_ble_eq_true rfl) (Nat.le_of_ble_eq_true rfl) (by decide) (sX9_isKind h hI 4 ) (fun H4 r5 q6 o7 => ?_)
    obtain ⟨e8, y9, rfl, p10⟩ := q6
    subst H4
    clear o7
    rcases p10 with ⟨rfl, c11⟩ | ⟨rfl, c11⟩
    · refine fz_if_eq (tgt := 24) kX9_run rfl (by decide) (fun c12 => ?_) (fun c12 => ?_)
      · exfalso; omega
      · refine fz_iload_n kX9_run rfl rfl ?_
        refine fz_if_lt (tgt := 24) kX9_run rfl (by decide) (fun c13 => ?_) (fun c13 => ?_)
        · exfalso; omega
        · refine fz_iload_n kX9_run rfl rfl ?_
          refine fz_iconst ⟨by decide, by decide⟩ kX9_run rfl ?_
          refine fz_icmp_lt (tgt := 26) kX9_run rfl (by decide) (fun c14 => ?_) (fun c14 => ?_)
          · refine fz_iload_n kX9_run rfl rfl ?_
            refine fz_iload_n kX9_run rfl rfl ?_
            refine fz_callS (d' := 0) (M' := mX9_ownerFrom) (As := [fz_i 4, fz_i 0]) (st := []) kX9_run rfl rfl vX9_ownerFrom rfl rfl (Nat.le_of_ble_eq_true rfl) (Nat.le_of_ble_eq_true rfl) (by decide) (sX9_ownerFrom_4_0 h hI  ) (fun H15 r16 q17 o18 => ?_)
            obtain ⟨e19, y21, rfl, f20⟩ := q17
            subst H15
            clear o18
            refine fz_eqi (show y21 = 1 by omega) ?_
            refine fz_istore (ls' := [(5, fz_i 1), (0, fz_r 44), (1, fz_i 4), (2, fz_i 0), (3, fz_i x), (4, fz_i dp)]) kX9_run rfl (by decide) rfl ?_
            refine fz_gets kX9_run rfl ?_
            refine fz_iload kX9_run rfl rfl ?_
            refine fz_taldV (v := 0) kX9_run rfl ⟨by decide, by decide⟩ (by omega) (by rw [hI.2.2.2.2]; decide) (by rw [hI.2.2.2.2]; rfl) ?_
            refine fz_istore (ls' := [(6, fz_i 0), (5, fz_i 1), (0, fz_r 44), (1, fz_i 4), (2, fz_i 0), (3, fz_i x), (4, fz_i dp)]) kX9_run rfl (by decide) rfl ?_
            refine fz_iload kX9_run rfl rfl ?_
            refine fz_iconst ⟨by decide, by decide⟩ kX9_run rfl ?_
            refine fz_iaddN kX9_run rfl (by omega) ?_
            refine fz_istore (ls' := [(7, fz_i (dp + 1)), (6, fz_i 0), (5, fz_i 1), (0, fz_r 44), (1, fz_i 4), (2, fz_i 0), (3, fz_i x), (4, fz_i dp)]) kX9_run rfl (by decide) rfl ?_
            refine fz_gets kX9_run rfl ?_
            refine fz_iload kX9_run rfl rfl ?_
            refine fz_iconst ⟨by decide, by decide⟩ kX9_run rfl ?_
            refine fz_imulN kX9_run rfl ⟨by decide, by decide⟩ ?_
            refine fz_eqi (y := 4) rfl ?_
            refine fz_iload_n kX9_run rfl rfl ?_
            refine fz_iaddN kX9_run rfl ⟨by decide, by decide⟩ ?_
            refine fz_eqi (y := 4) rfl ?_
            refine fz_taldV (v := 20) kX9_run rfl ⟨by decide, by decide⟩ (by omega) (by rw [hI.2.2.2.1]; decide) (by rw [hI.2.2.2.1]; rfl) ?_
            refine fz_istore (ls' := [(8, fz_i 20), (7, fz_i (dp + 1)), (6, fz_i 0), (5, fz_i 1), (0, fz_r 44), (1, fz_i 4), (2, fz_i 0), (3, fz_i x), (4, fz_i dp)]) kX9_run rfl (by decide) rfl ?_
            refine fz_aload_n kX9_run rfl rfl ?_
            refine fz_iload kX9_run rfl rfl ?_
            refine fz_callV (d' := 0) (M' := mX9_note) (As := [fz_i 20]) (st := []) kX9_run rfl rfl vX9_note rfl rfl rfl rfl (Nat.le_of_ble_eq_true rfl) (Nat.le_of_ble_eq_true rfl) (by decide) (sX9_note h hI 20 (by omega)) (fun H26 r27 q28 o29 => ?_)
            obtain ⟨hI30, hf31, rfl, f32⟩ := q28
            clear o29
            have hf33 := fz_fr_tr hf hf31 (show fz_su [(44, 3), (46, 99999)] [(44, 3), (46, 99999)] = true from rfl)
            refine fz_iload kX9_run rfl rfl ?_
            refine fz_lsw (tgt := 235) kX9_run rfl (by decide) (show Op.lookupswitch.offset [(1, 113), (2, 120), (10, 146), (11, 161), (20, 168), (30, 181), (40, 193), (41, 206), (50, 219), (60, 243), (70, 256), (80, 269), (81, 293)] 306 20 = 168 from rfl) (by decide) ?_
            refine fz_aload_n kX9_run rfl rfl ?_
            refine fz_iload kX9_run rfl rfl ?_
            refine fz_iconst ⟨by decide, by decide⟩ kX9_run rfl ?_
            refine fz_iload_n kX9_run rfl rfl ?_
            refine fz_iload kX9_run rfl rfl ?_
            have b34 : (-2147483648) ≤ H26 44 3 ∧ H26 44 3 ≤ 2147483647 := hI30.1 44 _
            have e35 : H26 44 5 = h 44 5 := hf33 44 5 rfl
            refine fz_callV (d' := 1) (M' := mX9_run) (As := [fz_i 0, fz_i 0, fz_i x, fz_i (dp + 1)]) (st := []) kX9_run rfl rfl vX9_run rfl rfl rfl rfl (Nat.le_of_ble_eq_true rfl) (Nat.le_of_ble_eq_true rfl) (by decide) (sX9_run_4_0_0 H26 hI30 x (dp + 1) (by omega) (by omega) (by omega)) (fun H36 r37 q38 o39 => ?_)
            obtain ⟨hI40, hf41, y43, rfl, f42⟩ := q38
            clear o39
            have hf44 := fz_fr_tr hf33 hf41 (show fz_su [(44, 3), (46, 99999)] [(44, 3), (46, 99999)] = true from rfl)
            refine fz_iconst ⟨by decide, by decide⟩ kX9_run rfl ?_
            refine fz_iadd kX9_run rfl ?_
            refine fz_nmw (fun z45 e46 => ?_)
            exact fz_iret kX9_run rfl rfl (fun _ => ⟨hI40, hf44, _, rfl, (by omega)⟩)
          · exfalso; omega
    · refine fz_if_eq (tgt := 24) kX9_run rfl (by decide) (fun c47 => ?_) (fun c47 => ?_)
      · refine fz_iconst ⟨by decide, by decide⟩ kX9_run rfl ?_
        exact fz_iret kX9_run rfl rfl (fun _ => ⟨hI, hf, _, rfl, (by omega)⟩)
      · exfalso; omega

abbrev qX9_run_4_4_1 (h : fz_H) (x dp : Int) : fz_H → Option fz_V → Prop := fun h' r0 => fz_Iv h' ∧ fz_fr [(44, 3), (46, 99999)] h h' ∧ ∃ r : Int, r0 = some (fz_i r) ∧ (h' 44 3 = h 44 3 + 3)
set_option maxHeartbeats 1000000 in
set_option maxRecDepth 100000 in
theorem sX9_run_4_4_1 (h : fz_H) (hI : fz_Iv h) (x dp : Int) (hp0 : h 44 5 = 4) (hp1 : 0 ≤ dp ∧ dp ≤ 37) (hp2 : 0 ≤ h 44 3 ∧ h 44 3 ≤ 897) : fz_R 3 mX9_run 0 [(0, fz_r 44), (1, fz_i 4), (2, fz_i 1), (3, fz_i x), (4, fz_i dp)] [] h (qX9_run_4_4_1 h x dp) := by
  refine fz_knowl (fun hk => ?_)
  have hr_x : -2147483648 ≤ x ∧ x < 2147483648 := hk _ (List.Mem.tail _ (List.Mem.tail _ (List.Mem.tail _ (List.Mem.head _))))
  have hr_dp : -2147483648 ≤ dp ∧ dp < 2147483648 := hk _ (List.Mem.tail _ (List.Mem.tail _ (List.Mem.tail _ (List.Mem.tail _ (List.Mem.head _)))))
  clear hk
  have hf : fz_fr [(44, 3), (46, 99999)] h h := fz_fr_rf
  have b1 : 0 ≤ h 44 5 ∧ h 44 5 ≤ 7 := hI.1 44 _
  have b2 : (-2147483648) ≤ h 44 3 ∧ h 44 3 ≤ 2147483647 := hI.1 44 _
  refine fz_iload kX9_run rfl rfl ?_
  refine fz_bipush ⟨by decide, by decide⟩ kX9_run rfl ?_
  refine fz_icmp_gt (tgt := 24) kX9_run rfl (by decide) (fun c3 => ?_) (fun c3 => ?_)
  · exfalso; omega
  · refine fz_aload_n kX9_run rfl rfl ?_
    refine fz_iload_n kX9_run rfl rfl ?_
    refine fz_callV (d' := 0) (M' := mX9_isKind) (As := [fz_i 4]) (st := []) kX9_run rfl rfl vX9_isKind rfl rfl rfl rfl (Nat.le_of_ble_eq_true rfl) (Nat.le_of_ble_eq_true rfl) (by decide) (sX9_isKind h hI 4 ) (fun H4 r5 q6 o7 => ?_)
    obtain ⟨e8, y9, rfl, p10⟩ := q6
    subst H4
    clear o7
    rcases p10 with ⟨rfl, c11⟩ | ⟨rfl, c11⟩
    · refine fz_if_eq (tgt := 24) kX9_run rfl (by decide) (fun c12 => ?_) (fun c12 => ?_)
      · exfalso; omega
      · refine fz_iload_n kX9_run rfl rfl ?_
        refine fz_if_lt (tgt := 24) kX9_run rfl (by decide) (fun c13 => ?_) (fun c13 => ?_)
        · exfalso; omega
        · refine fz_iload_n kX9_run rfl rfl ?_
          refine fz_iconst ⟨by decide, by decide⟩ kX9_run rfl ?_
          refine fz_icmp_lt (tgt := 26) kX9_run rfl (by decide) (fun c14 => ?_) (fun c14 => ?_)
          · refine fz_iload_n kX9_run rfl rfl ?_
            refine fz_iload_n kX9_run rfl rfl ?_
            refine fz_callS (d' := 0) (M' := mX9_ownerFrom) (As := [fz_i 4, fz_i 1]) (st := []) kX9_run rfl rfl vX9_ownerFrom rfl rfl (Nat.le_of_ble_eq_true rfl) (Nat.le_of_ble_eq_true rfl) (by decide) (sX9_ownerFrom_4_1 h hI  ) (fun H15 r16 q17 o18 => ?_)
            obtain ⟨e19, y21, rfl, f20⟩ := q17
            subst H15
            clear o18
            refine fz_eqi (show y21 = 0 by omega) ?_
            refine fz_istore (ls' := [(5, fz_i 0), (0, fz_r 44), (1, fz_i 4), (2, fz_i 1), (3, fz_i x), (4, fz_i dp)]) kX9_run rfl (by decide) rfl ?_
            refine fz_gets kX9_run rfl ?_
            refine fz_iload kX9_run rfl rfl ?_
            refine fz_taldV (v := (-1)) kX9_run rfl ⟨by decide, by decide⟩ (by omega) (by rw [hI.2.2.2.2]; decide) (by rw [hI.2.2.2.2]; rfl) ?_
            refine fz_istore (ls' := [(6, fz_i (-1)), (5, fz_i 0), (0, fz_r 44), (1, fz_i 4), (2, fz_i 1), (3, fz_i x), (4, fz_i dp)]) kX9_run rfl (by decide) rfl ?_
            refine fz_iload kX9_run rfl rfl ?_
            refine fz_iconst ⟨by decide, by decide⟩ kX9_run rfl ?_
            refine fz_iaddN kX9_run rfl (by omega) ?_
            refine fz_istore (ls' := [(7, fz_i (dp + 1)), (6, fz_i (-1)), (5, fz_i 0), (0, fz_r 44), (1, fz_i 4), (2, fz_i 1), (3, fz_i x), (4, fz_i dp)]) kX9_run rfl (by decide) rfl ?_
            refine fz_gets kX9_run rfl ?_
            refine fz_iload kX9_run rfl rfl ?_
            refine fz_iconst ⟨by decide, by decide⟩ kX9_run rfl ?_
            refine fz_imulN kX9_run rfl ⟨by decide, by decide⟩ ?_
            refine fz_eqi (y := 0) rfl ?_
            refine fz_iload_n kX9_run rfl rfl ?_
            refine fz_iaddN kX9_run rfl ⟨by decide, by decide⟩ ?_
            refine fz_eqi (y := 1) rfl ?_
            refine fz_taldV (v := 10) kX9_run rfl ⟨by decide, by decide⟩ (by omega) (by rw [hI.2.2.2.1]; decide) (by rw [hI.2.2.2.1]; rfl) ?_
            refine fz_istore (ls' := [(8, fz_i 10), (7, fz_i (dp + 1)), (6, fz_i (-1)), (5, fz_i 0), (0, fz_r 44), (1, fz_i 4), (2, fz_i 1), (3, fz_i x), (4, fz_i dp)]) kX9_run rfl (by decide) rfl ?_
            refine fz_aload_n kX9_run rfl rfl ?_
            refine fz_iload kX9_run rfl rfl ?_
            refine fz_callV (d' := 0) (M' := mX9_note) (As := [fz_i 10]) (st := []) kX9_run rfl rfl vX9_note rfl rfl rfl rfl (Nat.le_of_ble_eq_true rfl) (Nat.le_of_ble_eq_true rfl) (by decide) (sX9_note h hI 10 (by omega)) (fun H26 r27 q28 o29 => ?_)
            obtain ⟨hI30, hf31, rfl, f32⟩ := q28
            clear o29
            have hf33 := fz_fr_tr hf hf31 (show fz_su [(44, 3), (46, 99999)] [(44, 3), (46, 99999)] = true from rfl)
            refine fz_iload kX9_run rfl rfl ?_
            refine fz_lsw (tgt := 213) kX9_run rfl (by decide) (show Op.lookupswitch.offset [(1, 113), (2, 120), (10, 146), (11, 161), (20, 168), (30, 181), (40, 193), (41, 206), (50, 219), (60, 243), (70, 256), (80, 269), (81, 293)] 306 10 = 146 from rfl) (by decide) ?_
            refine fz_aload_n kX9_run rfl rfl ?_
            refine fz_aload_n kX9_run rfl rfl ?_
            refine fz_getV (v := h 44 5) kX9_run rfl rfl (hf33 44 5 rfl) ?_
            have b34 : 0 ≤ h 44 5 ∧ h 44 5 ≤ 7 := hI.1 44 _
            refine fz_eqi (show (h 44 5) = 4 by omega) ?_
            refine fz_iconst ⟨by decide, by decide⟩ kX9_run rfl ?_
            refine fz_iload_n kX9_run rfl rfl ?_
            refine fz_iload kX9_run rfl rfl ?_
            have b35 : (-2147483648) ≤ H26 44 3 ∧ H26 44 3 ≤ 2147483647 := hI30.1 44 _
            have e36 : H26 44 5 = h 44 5 := hf33 44 5 rfl
            refine fz_callV (d' := 2) (M' := mX9_run) (As := [fz_i 4, fz_i 0, fz_i x, fz_i (dp + 1)]) (st := []) kX9_run rfl rfl vX9_run rfl rfl rfl rfl (Nat.le_of_ble_eq_true rfl) (Nat.le_of_ble_eq_true rfl) (by decide) (sX9_run_4_4_0 H26 hI30 x (dp + 1) (by omega) (by omega) (by omega)) (fun H37 r38 q39 o40 => ?_)
            obtain ⟨hI41, hf42, y44, rfl, f43⟩ := q39
            clear o40
            have hf45 := fz_fr_tr hf33 hf42 (show fz_su [(44, 3), (46, 99999)] [(44, 3), (46, 99999)] = true from rfl)
            refine fz_iconst ⟨by decide, by decide⟩ kX9_run rfl ?_
            refine fz_imul kX9_run rfl ?_
            refine fz_nmw (fun z46 e47 => ?_)
            exact fz_iret kX9_run rfl rfl (fun _ => ⟨hI41, hf45, _, rfl, (by omega)⟩)
          · exfalso; omega
    · refine fz_if_eq (tgt := 24) kX9_run rfl (by decide) (fun c48 => ?_) (fun c48 => ?_)
      · refine fz_iconst ⟨by decide, by decide⟩ kX9_run rfl ?_
        exact fz_iret kX9_run rfl rfl (fun _ => ⟨hI, hf, _, rfl, (by omega)⟩)
      · exfalso; omega

abbrev qX9_run_4_1_2 (h : fz_H) (x dp : Int) : fz_H → Option fz_V → Prop := fun h' r0 => fz_Iv h' ∧ fz_fr [(44, 3), (46, 99999)] h h' ∧ ∃ r : Int, r0 = some (fz_i r) ∧ (h' 44 3 = h 44 3 + 1)
set_option maxHeartbeats 1000000 in
set_option maxRecDepth 100000 in
theorem sX9_run_4_1_2 (h : fz_H) (hI : fz_Iv h) (x dp : Int) (hp0 : h 44 5 = 4) (hp1 : 0 ≤ dp ∧ dp ≤ 39) (hp2 : 0 ≤ h 44 3 ∧ h 44 3 ≤ 899) : fz_R 1 mX9_run 0 [(0, fz_r 44), (1, fz_i 1), (2, fz_i 2), (3, fz_i x), (4, fz_i dp)] [] h (qX9_run_4_1_2 h x dp) := by
  refine fz_knowl (fun hk => ?_)
  have hr_x : -2147483648 ≤ x ∧ x < 2147483648 := hk _ (List.Mem.tail _ (List.Mem.tail _ (List.Mem.tail _ (List.Mem.head _))))
  have hr_dp : -2147483648 ≤ dp ∧ dp < 2147483648 := hk _ (List.Mem.tail _ (List.Mem.tail _ (List.Mem.tail _ (List.Mem.tail _ (List.Mem.head _)))))
  clear hk
  have hf : fz_fr [(44, 3), (46, 99999)] h h := fz_fr_rf
  have b1 : 0 ≤ h 44 5 ∧ h 44 5 ≤ 7 := hI.1 44 _
  have b2 : (-2147483648) ≤ h 44 3 ∧ h 44 3 ≤ 2147483647 := hI.1 44 _
  refine fz_iload kX9_run rfl rfl ?_
  refine fz_bipush ⟨by decide, by decide⟩ kX9_run rfl ?_
  refine fz_icmp_gt (tgt := 24) kX9_run rfl (by decide) (fun c3 => ?_) (fun c3 => ?_)
  · exfalso; omega
  · refine fz_aload_n kX9_run rfl rfl ?_
    refine fz_iload_n kX9_run rfl rfl ?_
    refine fz_callV (d' := 0) (M' := mX9_isKind) (As := [fz_i 1]) (st := []) kX9_run rfl rfl vX9_isKind rfl rfl rfl rfl (Nat.le_of_ble_eq_true rfl) (Nat.le_of_ble_eq_true rfl) (by decide) (sX9_isKind h hI 1 ) (fun H4 r5 q6 o7 => ?_)
    obtain ⟨e8, y9, rfl, p10⟩ := q6
    subst H4
    clear o7
    rcases p10 with ⟨rfl, c11⟩ | ⟨rfl, c11⟩
    · refine fz_if_eq (tgt := 24) kX9_run rfl (by decide) (fun c12 => ?_) (fun c12 => ?_)
      · exfalso; omega
      · refine fz_iload_n kX9_run rfl rfl ?_
        refine fz_if_lt (tgt := 24) kX9_run rfl (by decide) (fun c13 => ?_) (fun c13 => ?_)
        · exfalso; omega
        · refine fz_iload_n kX9_run rfl rfl ?_
          refine fz_iconst ⟨by decide, by decide⟩ kX9_run rfl ?_
          refine fz_icmp_lt (tgt := 26) kX9_run rfl (by decide) (fun c14 => ?_) (fun c14 => ?_)
          · refine fz_iload_n kX9_run rfl rfl ?_
            refine fz_iload_n kX9_run rfl rfl ?_
            refine fz_callS (d' := 0) (M' := mX9_ownerFrom) (As := [fz_i 1, fz_i 2]) (st := []) kX9_run rfl rfl vX9_ownerFrom rfl rfl (Nat.le_of_ble_eq_true rfl) (Nat.le_of_ble_eq_true rfl) (by decide) (sX9_ownerFrom_1_2 h hI  ) (fun H15 r16 q17 o18 => ?_)
            obtain ⟨e19, y21, rfl, f20⟩ := q17
            subst H15
            clear o18
            refine fz_eqi (show y21 = 0 by omega) ?_
            refine fz_istore (ls' := [(5, fz_i 0), (0, fz_r 44), (1, fz_i 1), (2, fz_i 2), (3, fz_i x), (4, fz_i dp)]) kX9_run rfl (by decide) rfl ?_
            refine fz_gets kX9_run rfl ?_
            refine fz_iload kX9_run rfl rfl ?_
            refine fz_taldV (v := (-1)) kX9_run rfl ⟨by decide, by decide⟩ (by omega) (by rw [hI.2.2.2.2]; decide) (by rw [hI.2.2.2.2]; rfl) ?_
            refine fz_istore (ls' := [(6, fz_i (-1)), (5, fz_i 0), (0, fz_r 44), (1, fz_i 1), (2, fz_i 2), (3, fz_i x), (4, fz_i dp)]) kX9_run rfl (by decide) rfl ?_
            refine fz_iload kX9_run rfl rfl ?_
            refine fz_iconst ⟨by decide, by decide⟩ kX9_run rfl ?_
            refine fz_iaddN kX9_run rfl (by omega) ?_
            refine fz_istore (ls' := [(7, fz_i (dp + 1)), (6, fz_i (-1)), (5, fz_i 0), (0, fz_r 44), (1, fz_i 1), (2, fz_i 2), (3, fz_i x), (4, fz_i dp)]) kX9_run rfl (by decide) rfl ?_
            refine fz_gets kX9_run rfl ?_
            refine fz_iload kX9_run rfl rfl ?_
            refine fz_iconst ⟨by decide, by decide⟩ kX9_run rfl ?_
            refine fz_imulN kX9_run rfl ⟨by decide, by decide⟩ ?_
            refine fz_eqi (y := 0) rfl ?_
            refine fz_iload_n kX9_run rfl rfl ?_
            refine fz_iaddN kX9_run rfl ⟨by decide, by decide⟩ ?_
            refine fz_eqi (y := 2) rfl ?_
            refine fz_taldV (v := 11) kX9_run rfl ⟨by decide, by decide⟩ (by omega) (by rw [hI.2.2.2.1]; decide) (by rw [hI.2.2.2.1]; rfl) ?_
            refine fz_istore (ls' := [(8, fz_i 11), (7, fz_i (dp + 1)), (6, fz_i (-1)), (5, fz_i 0), (0, fz_r 44), (1, fz_i 1), (2, fz_i 2), (3, fz_i x), (4, fz_i dp)]) kX9_run rfl (by decide) rfl ?_
            refine fz_aload_n kX9_run rfl rfl ?_
            refine fz_iload kX9_run rfl rfl ?_
            refine fz_callV (d' := 0) (M' := mX9_note) (As := [fz_i 11]) (st := []) kX9_run rfl rfl vX9_note rfl rfl rfl rfl (Nat.le_of_ble_eq_true rfl) (Nat.le_of_ble_eq_true rfl) (by decide) (sX9_note h hI 11 (by omega)) (fun H26 r27 q28 o29 => ?_)
            obtain ⟨hI30, hf31, rfl, f32⟩ := q28
            clear o29
            have hf33 := fz_fr_tr hf hf31 (show fz_su [(44, 3), (46, 99999)] [(44, 3), (46, 99999)] = true from rfl)
            refine fz_iload kX9_run rfl rfl ?_
            refine fz_lsw (tgt := 228) kX9_run rfl (by decide) (show Op.lookupswitch.offset [(1, 113), (2, 120), (10, 146), (11, 161), (20, 168), (30, 181), (40, 193), (41, 206), (50, 219), (60, 243), (70, 256), (80, 269), (81, 293)] 306 11 = 161 from rfl) (by decide) ?_
            refine fz_iload_n kX9_run rfl rfl ?_
            refine fz_aload_n kX9_run rfl rfl ?_
            refine fz_getV (v := h 44 4) kX9_run rfl rfl (hf33 44 4 rfl) ?_
            have b34 : 0 ≤ h 44 4 ∧ h 44 4 ≤ 49 := hI.1 44 _
            refine fz_ixor kX9_run rfl ?_
            have b35 : -2147483648 ≤ (fz_xor x (h 44 4)) ∧ (fz_xor x (h 44 4)) < 2147483648 := fz_b32 _
            exact fz_iret kX9_run rfl rfl (fun _ => ⟨hI30, hf33, _, rfl, (by omega)⟩)
          · exfalso; omega
    · refine fz_if_eq (tgt := 24) kX9_run rfl (by decide) (fun c36 => ?_) (fun c36 => ?_)
      · refine fz_iconst ⟨by decide, by decide⟩ kX9_run rfl ?_
        exact fz_iret kX9_run rfl rfl (fun _ => ⟨hI, hf, _, rfl, (by omega)⟩)
      · exfalso; omega

abbrev qX9_run_4_4_2 (h : fz_H) (x dp : Int) : fz_H → Option fz_V → Prop := fun h' r0 => fz_Iv h' ∧ fz_fr [(44, 3), (46, 99999)] h h' ∧ ∃ r : Int, r0 = some (fz_i r) ∧ (h' 44 3 = h 44 3 + 4)
set_option maxHeartbeats 1000000 in
set_option maxRecDepth 100000 in
theorem sX9_run_4_4_2 (h : fz_H) (hI : fz_Iv h) (x dp : Int) (hp0 : h 44 5 = 4) (hp1 : 0 ≤ dp ∧ dp ≤ 37) (hp2 : 0 ≤ h 44 3 ∧ h 44 3 ≤ 896) : fz_R 3 mX9_run 0 [(0, fz_r 44), (1, fz_i 4), (2, fz_i 2), (3, fz_i x), (4, fz_i dp)] [] h (qX9_run_4_4_2 h x dp) := by
  refine fz_knowl (fun hk => ?_)
  have hr_x : -2147483648 ≤ x ∧ x < 2147483648 := hk _ (List.Mem.tail _ (List.Mem.tail _ (List.Mem.tail _ (List.Mem.head _))))
  have hr_dp : -2147483648 ≤ dp ∧ dp < 2147483648 := hk _ (List.Mem.tail _ (List.Mem.tail _ (List.Mem.tail _ (List.Mem.tail _ (List.Mem.head _)))))
  clear hk
  have hf : fz_fr [(44, 3), (46, 99999)] h h := fz_fr_rf
  have b1 : 0 ≤ h 44 5 ∧ h 44 5 ≤ 7 := hI.1 44 _
  have b2 : (-2147483648) ≤ h 44 3 ∧ h 44 3 ≤ 2147483647 := hI.1 44 _
  refine fz_iload kX9_run rfl rfl ?_
  refine fz_bipush ⟨by decide, by decide⟩ kX9_run rfl ?_
  refine fz_icmp_gt (tgt := 24) kX9_run rfl (by decide) (fun c3 => ?_) (fun c3 => ?_)
  · exfalso; omega
  · refine fz_aload_n kX9_run rfl rfl ?_
    refine fz_iload_n kX9_run rfl rfl ?_
    refine fz_callV (d' := 0) (M' := mX9_isKind) (As := [fz_i 4]) (st := []) kX9_run rfl rfl vX9_isKind rfl rfl rfl rfl (Nat.le_of_ble_eq_true rfl) (Nat.le_of_ble_eq_true rfl) (by decide) (sX9_isKind h hI 4 ) (fun H4 r5 q6 o7 => ?_)
    obtain ⟨e8, y9, rfl, p10⟩ := q6
    subst H4
    clear o7
    rcases p10 with ⟨rfl, c11⟩ | ⟨rfl, c11⟩
    · refine fz_if_eq (tgt := 24) kX9_run rfl (by decide) (fun c12 => ?_) (fun c12 => ?_)
      · exfalso; omega
      · refine fz_iload_n kX9_run rfl rfl ?_
        refine fz_if_lt (tgt := 24) kX9_run rfl (by decide) (fun c13 => ?_) (fun c13 => ?_)
        · exfalso; omega
        · refine fz_iload_n kX9_run rfl rfl ?_
          refine fz_iconst ⟨by decide, by decide⟩ kX9_run rfl ?_
          refine fz_icmp_lt (tgt := 26) kX9_run rfl (by decide) (fun c14 => ?_) (fun c14 => ?_)
          · refine fz_iload_n kX9_run rfl rfl ?_
            refine fz_iload_n kX9_run rfl rfl ?_
            refine fz_callS (d' := 0) (M' := mX9_ownerFrom) (As := [fz_i 4, fz_i 2]) (st := []) kX9_run rfl rfl vX9_ownerFrom rfl rfl (Nat.le_of_ble_eq_true rfl) (Nat.le_of_ble_eq_true rfl) (by decide) (sX9_ownerFrom_4_2 h hI  ) (fun H15 r16 q17 o18 => ?_)
            obtain ⟨e19, y21, rfl, f20⟩ := q17
            subst H15
            clear o18
            refine fz_eqi (show y21 = 4 by omega) ?_
            refine fz_istore (ls' := [(5, fz_i 4), (0, fz_r 44), (1, fz_i 4), (2, fz_i 2), (3, fz_i x), (4, fz_i dp)]) kX9_run rfl (by decide) rfl ?_
            refine fz_gets kX9_run rfl ?_
            refine fz_iload kX9_run rfl rfl ?_
            refine fz_taldV (v := 1) kX9_run rfl ⟨by decide, by decide⟩ (by omega) (by rw [hI.2.2.2.2]; decide) (by rw [hI.2.2.2.2]; rfl) ?_
            refine fz_istore (ls' := [(6, fz_i 1), (5, fz_i 4), (0, fz_r 44), (1, fz_i 4), (2, fz_i 2), (3, fz_i x), (4, fz_i dp)]) kX9_run rfl (by decide) rfl ?_
            refine fz_iload kX9_run rfl rfl ?_
            refine fz_iconst ⟨by decide, by decide⟩ kX9_run rfl ?_
            refine fz_iaddN kX9_run rfl (by omega) ?_
            refine fz_istore (ls' := [(7, fz_i (dp + 1)), (6, fz_i 1), (5, fz_i 4), (0, fz_r 44), (1, fz_i 4), (2, fz_i 2), (3, fz_i x), (4, fz_i dp)]) kX9_run rfl (by decide) rfl ?_
            refine fz_gets kX9_run rfl ?_
            refine fz_iload kX9_run rfl rfl ?_
            refine fz_iconst ⟨by decide, by decide⟩ kX9_run rfl ?_
            refine fz_imulN kX9_run rfl ⟨by decide, by decide⟩ ?_
            refine fz_eqi (y := 16) rfl ?_
            refine fz_iload_n kX9_run rfl rfl ?_
            refine fz_iaddN kX9_run rfl ⟨by decide, by decide⟩ ?_
            refine fz_eqi (y := 18) rfl ?_
            refine fz_taldV (v := 50) kX9_run rfl ⟨by decide, by decide⟩ (by omega) (by rw [hI.2.2.2.1]; decide) (by rw [hI.2.2.2.1]; rfl) ?_
            refine fz_istore (ls' := [(8, fz_i 50), (7, fz_i (dp + 1)), (6, fz_i 1), (5, fz_i 4), (0, fz_r 44), (1, fz_i 4), (2, fz_i 2), (3, fz_i x), (4, fz_i dp)]) kX9_run rfl (by decide) rfl ?_
            refine fz_aload_n kX9_run rfl rfl ?_
            refine fz_iload kX9_run rfl rfl ?_
            refine fz_callV (d' := 0) (M' := mX9_note) (As := [fz_i 50]) (st := []) kX9_run rfl rfl vX9_note rfl rfl rfl rfl (Nat.le_of_ble_eq_true rfl) (Nat.le_of_ble_eq_true rfl) (by decide) (sX9_note h hI 50 (by omega)) (fun H26 r27 q28 o29 => ?_)
            obtain ⟨hI30, hf31, rfl, f32⟩ := q28
            clear o29
            have hf33 := fz_fr_tr hf hf31 (show fz_su [(44, 3), (46, 99999)] [(44, 3), (46, 99999)] = true from rfl)
            refine fz_iload kX9_run rfl rfl ?_
            refine fz_lsw (tgt := 286) kX9_run rfl (by decide) (show Op.lookupswitch.offset [(1, 113), (2, 120), (10, 146), (11, 161), (20, 168), (30, 181), (40, 193), (41, 206), (50, 219), (60, 243), (70, 256), (80, 269), (81, 293)] 306 50 = 219 from rfl) (by decide) ?_
            refine fz_aload_n kX9_run rfl rfl ?_
            refine fz_iload kX9_run rfl rfl ?_
            refine fz_iconst ⟨by decide, by decide⟩ kX9_run rfl ?_
            refine fz_iload_n kX9_run rfl rfl ?_
            refine fz_iload kX9_run rfl rfl ?_
            have b34 : (-2147483648) ≤ H26 44 3 ∧ H26 44 3 ≤ 2147483647 := hI30.1 44 _
            have e35 : H26 44 5 = h 44 5 := hf33 44 5 rfl
            refine fz_callV (d' := 1) (M' := mX9_run) (As := [fz_i 1, fz_i 2, fz_i x, fz_i (dp + 1)]) (st := []) kX9_run rfl rfl vX9_run rfl rfl rfl rfl (Nat.le_of_ble_eq_true rfl) (Nat.le_of_ble_eq_true rfl) (by decide) (sX9_run_4_1_2 H26 hI30 x (dp + 1) (by omega) (by omega) (by omega)) (fun H36 r37 q38 o39 => ?_)
            obtain ⟨hI40, hf41, y43, rfl, f42⟩ := q38
            clear o39
            have hf44 := fz_fr_tr hf33 hf41 (show fz_su [(44, 3), (46, 99999)] [(44, 3), (46, 99999)] = true from rfl)
            refine fz_aload_n kX9_run rfl rfl ?_
            refine fz_aload_n kX9_run rfl rfl ?_
            refine fz_getV (v := h 44 5) kX9_run rfl rfl (hf44 44 5 rfl) ?_
            have b45 : 0 ≤ h 44 5 ∧ h 44 5 ≤ 7 := hI.1 44 _
            refine fz_eqi (show (h 44 5) = 4 by omega) ?_
            refine fz_iconst ⟨by decide, by decide⟩ kX9_run rfl ?_
            refine fz_iconst ⟨by decide, by decide⟩ kX9_run rfl ?_
            refine fz_iload kX9_run rfl rfl ?_
            have b46 : (-2147483648) ≤ H36 44 3 ∧ H36 44 3 ≤ 2147483647 := hI40.1 44 _
            have e47 : H36 44 5 = h 44 5 := hf44 44 5 rfl
            refine fz_callV (d' := 2) (M' := mX9_run) (As := [fz_i 4, fz_i 0, fz_i 2, fz_i (dp + 1)]) (st := [fz_i y43]) kX9_run rfl rfl vX9_run rfl rfl rfl rfl (Nat.le_of_ble_eq_true rfl) (Nat.le_of_ble_eq_true rfl) (by decide) (sX9_run_4_4_0 H36 hI40 2 (dp + 1) (by omega) (by omega) (by omega)) (fun H48 r49 q50 o51 => ?_)
            obtain ⟨hI52, hf53, y55, rfl, f54⟩ := q50
            clear o51
            have hf56 := fz_fr_tr hf44 hf53 (show fz_su [(44, 3), (46, 99999)] [(44, 3), (46, 99999)] = true from rfl)
            refine fz_isub kX9_run rfl ?_
            refine fz_nmw (fun z57 e58 => ?_)
            exact fz_iret kX9_run rfl rfl (fun _ => ⟨hI52, hf56, _, rfl, (by omega)⟩)
          · exfalso; omega
    · refine fz_if_eq (tgt := 24) kX9_run rfl (by decide) (fun c59 => ?_) (fun c59 => ?_)
      · refine fz_iconst ⟨by decide, by decide⟩ kX9_run rfl ?_
        exact fz_iret kX9_run rfl rfl (fun _ => ⟨hI, hf, _, rfl, (by omega)⟩)
      · exfalso; omega

abbrev qX9_run_4_4_3 (h : fz_H) (x dp : Int) : fz_H → Option fz_V → Prop := fun h' r0 => fz_Iv h' ∧ fz_fr [(44, 3), (46, 99999)] h h' ∧ ∃ r : Int, r0 = some (fz_i r) ∧ (h' 44 3 = h 44 3 + 8)
set_option maxHeartbeats 1000000 in
set_option maxRecDepth 100000 in
theorem sX9_run_4_4_3 (h : fz_H) (hI : fz_Iv h) (x dp : Int) (hp0 : h 44 5 = 4) (hp1 : 0 ≤ dp ∧ dp ≤ 36) (hp2 : 0 ≤ h 44 3 ∧ h 44 3 ≤ 892) : fz_R 4 mX9_run 0 [(0, fz_r 44), (1, fz_i 4), (2, fz_i 3), (3, fz_i x), (4, fz_i dp)] [] h (qX9_run_4_4_3 h x dp) := by
  refine fz_knowl (fun hk => ?_)
  have hr_x : -2147483648 ≤ x ∧ x < 2147483648 := hk _ (List.Mem.tail _ (List.Mem.tail _ (List.Mem.tail _ (List.Mem.head _))))
  have hr_dp : -2147483648 ≤ dp ∧ dp < 2147483648 := hk _ (List.Mem.tail _ (List.Mem.tail _ (List.Mem.tail _ (List.Mem.tail _ (List.Mem.head _)))))
  clear hk
  have hf : fz_fr [(44, 3), (46, 99999)] h h := fz_fr_rf
  have b1 : 0 ≤ h 44 5 ∧ h 44 5 ≤ 7 := hI.1 44 _
  have b2 : (-2147483648) ≤ h 44 3 ∧ h 44 3 ≤ 2147483647 := hI.1 44 _
  refine fz_iload kX9_run rfl rfl ?_
  refine fz_bipush ⟨by decide, by decide⟩ kX9_run rfl ?_
  refine fz_icmp_gt (tgt := 24) kX9_run rfl (by decide) (fun c3 => ?_) (fun c3 => ?_)
  · exfalso; omega
  · refine fz_aload_n kX9_run rfl rfl ?_
    refine fz_iload_n kX9_run rfl rfl ?_
    refine fz_callV (d' := 0) (M' := mX9_isKind) (As := [fz_i 4]) (st := []) kX9_run rfl rfl vX9_isKind rfl rfl rfl rfl (Nat.le_of_ble_eq_true rfl) (Nat.le_of_ble_eq_true rfl) (by decide) (sX9_isKind h hI 4 ) (fun H4 r5 q6 o7 => ?_)
    obtain ⟨e8, y9, rfl, p10⟩ := q6
    subst H4
    clear o7
    rcases p10 with ⟨rfl, c11⟩ | ⟨rfl, c11⟩
    · refine fz_if_eq (tgt := 24) kX9_run rfl (by decide) (fun c12 => ?_) (fun c12 => ?_)
      · exfalso; omega
      · refine fz_iload_n kX9_run rfl rfl ?_
        refine fz_if_lt (tgt := 24) kX9_run rfl (by decide) (fun c13 => ?_) (fun c13 => ?_)
        · exfalso; omega
        · refine fz_iload_n kX9_run rfl rfl ?_
          refine fz_iconst ⟨by decide, by decide⟩ kX9_run rfl ?_
          refine fz_icmp_lt (tgt := 26) kX9_run rfl (by decide) (fun c14 => ?_) (fun c14 => ?_)
          · refine fz_iload_n kX9_run rfl rfl ?_
            refine fz_iload_n kX9_run rfl rfl ?_
            refine fz_callS (d' := 0) (M' := mX9_ownerFrom) (As := [fz_i 4, fz_i 3]) (st := []) kX9_run rfl rfl vX9_ownerFrom rfl rfl (Nat.le_of_ble_eq_true rfl) (Nat.le_of_ble_eq_true rfl) (by decide) (sX9_ownerFrom_4_3 h hI  ) (fun H15 r16 q17 o18 => ?_)
            obtain ⟨e19, y21, rfl, f20⟩ := q17
            subst H15
            clear o18
            refine fz_eqi (show y21 = 0 by omega) ?_
            refine fz_istore (ls' := [(5, fz_i 0), (0, fz_r 44), (1, fz_i 4), (2, fz_i 3), (3, fz_i x), (4, fz_i dp)]) kX9_run rfl (by decide) rfl ?_
            refine fz_gets kX9_run rfl ?_
            refine fz_iload kX9_run rfl rfl ?_
            refine fz_taldV (v := (-1)) kX9_run rfl ⟨by decide, by decide⟩ (by omega) (by rw [hI.2.2.2.2]; decide) (by rw [hI.2.2.2.2]; rfl) ?_
            refine fz_istore (ls' := [(6, fz_i (-1)), (5, fz_i 0), (0, fz_r 44), (1, fz_i 4), (2, fz_i 3), (3, fz_i x), (4, fz_i dp)]) kX9_run rfl (by decide) rfl ?_
            refine fz_iload kX9_run rfl rfl ?_
            refine fz_iconst ⟨by decide, by decide⟩ kX9_run rfl ?_
            refine fz_iaddN kX9_run rfl (by omega) ?_
            refine fz_istore (ls' := [(7, fz_i (dp + 1)), (6, fz_i (-1)), (5, fz_i 0), (0, fz_r 44), (1, fz_i 4), (2, fz_i 3), (3, fz_i x), (4, fz_i dp)]) kX9_run rfl (by decide) rfl ?_
            refine fz_gets kX9_run rfl ?_
            refine fz_iload kX9_run rfl rfl ?_
            refine fz_iconst ⟨by decide, by decide⟩ kX9_run rfl ?_
            refine fz_imulN kX9_run rfl ⟨by decide, by decide⟩ ?_
            refine fz_eqi (y := 0) rfl ?_
            refine fz_iload_n kX9_run rfl rfl ?_
            refine fz_iaddN kX9_run rfl ⟨by decide, by decide⟩ ?_
            refine fz_eqi (y := 3) rfl ?_
            refine fz_taldV (v := 2) kX9_run rfl ⟨by decide, by decide⟩ (by omega) (by rw [hI.2.2.2.1]; decide) (by rw [hI.2.2.2.1]; rfl) ?_
            refine fz_istore (ls' := [(8, fz_i 2), (7, fz_i (dp + 1)), (6, fz_i (-1)), (5, fz_i 0), (0, fz_r 44), (1, fz_i 4), (2, fz_i 3), (3, fz_i x), (4, fz_i dp)]) kX9_run rfl (by decide) rfl ?_
            refine fz_aload_n kX9_run rfl rfl ?_
            refine fz_iload kX9_run rfl rfl ?_
            refine fz_callV (d' := 0) (M' := mX9_note) (As := [fz_i 2]) (st := []) kX9_run rfl rfl vX9_note rfl rfl rfl rfl (Nat.le_of_ble_eq_true rfl) (Nat.le_of_ble_eq_true rfl) (by decide) (sX9_note h hI 2 (by omega)) (fun H26 r27 q28 o29 => ?_)
            obtain ⟨hI30, hf31, rfl, f32⟩ := q28
            clear o29
            have hf33 := fz_fr_tr hf hf31 (show fz_su [(44, 3), (46, 99999)] [(44, 3), (46, 99999)] = true from rfl)
            refine fz_iload kX9_run rfl rfl ?_
            refine fz_lsw (tgt := 187) kX9_run rfl (by decide) (show Op.lookupswitch.offset [(1, 113), (2, 120), (10, 146), (11, 161), (20, 168), (30, 181), (40, 193), (41, 206), (50, 219), (60, 243), (70, 256), (80, 269), (81, 293)] 306 2 = 120 from rfl) (by decide) ?_
            refine fz_aload_n kX9_run rfl rfl ?_
            refine fz_aload_n kX9_run rfl rfl ?_
            refine fz_getV (v := h 44 5) kX9_run rfl rfl (hf33 44 5 rfl) ?_
            have b34 : 0 ≤ h 44 5 ∧ h 44 5 ≤ 7 := hI.1 44 _
            refine fz_eqi (show (h 44 5) = 4 by omega) ?_
            refine fz_iconst ⟨by decide, by decide⟩ kX9_run rfl ?_
            refine fz_iload_n kX9_run rfl rfl ?_
            refine fz_iload kX9_run rfl rfl ?_
            have b35 : (-2147483648) ≤ H26 44 3 ∧ H26 44 3 ≤ 2147483647 := hI30.1 44 _
            have e36 : H26 44 5 = h 44 5 := hf33 44 5 rfl
            refine fz_callV (d' := 3) (M' := mX9_run) (As := [fz_i 4, fz_i 1, fz_i x, fz_i (dp + 1)]) (st := []) kX9_run rfl rfl vX9_run rfl rfl rfl rfl (Nat.le_of_ble_eq_true rfl) (Nat.le_of_ble_eq_true rfl) (by decide) (sX9_run_4_4_1 H26 hI30 x (dp + 1) (by omega) (by omega) (by omega)) (fun H37 r38 q39 o40 => ?_)
            obtain ⟨hI41, hf42, y44, rfl, f43⟩ := q39
            clear o40
            have hf45 := fz_fr_tr hf33 hf42 (show fz_su [(44, 3), (46, 99999)] [(44, 3), (46, 99999)] = true from rfl)
            refine fz_aload_n kX9_run rfl rfl ?_
            refine fz_aload_n kX9_run rfl rfl ?_
            refine fz_getV (v := h 44 5) kX9_run rfl rfl (hf45 44 5 rfl) ?_
            refine fz_eqi (show (h 44 5) = 4 by omega) ?_
            refine fz_iconst ⟨by decide, by decide⟩ kX9_run rfl ?_
            refine fz_iconst ⟨by decide, by decide⟩ kX9_run rfl ?_
            refine fz_iload kX9_run rfl rfl ?_
            have b46 : (-2147483648) ≤ H37 44 3 ∧ H37 44 3 ≤ 2147483647 := hI41.1 44 _
            have e47 : H37 44 5 = h 44 5 := hf45 44 5 rfl
            refine fz_callV (d' := 3) (M' := mX9_run) (As := [fz_i 4, fz_i 2, fz_i 1, fz_i (dp + 1)]) (st := [fz_i y44]) kX9_run rfl rfl vX9_run rfl rfl rfl rfl (Nat.le_of_ble_eq_true rfl) (Nat.le_of_ble_eq_true rfl) (by decide) (sX9_run_4_4_2 H37 hI41 1 (dp + 1) (by omega) (by omega) (by omega)) (fun H48 r49 q50 o51 => ?_)
            obtain ⟨hI52, hf53, y55, rfl, f54⟩ := q50
            clear o51
            have hf56 := fz_fr_tr hf45 hf53 (show fz_su [(44, 3), (46, 99999)] [(44, 3), (46, 99999)] = true from rfl)
            refine fz_isub kX9_run rfl ?_
            refine fz_nmw (fun z57 e58 => ?_)
            exact fz_iret kX9_run rfl rfl (fun _ => ⟨hI52, hf56, _, rfl, (by omega)⟩)
          · exfalso; omega
    · refine fz_if_eq (tgt := 24) kX9_run rfl (by decide) (fun c59 => ?_) (fun c59 => ?_)
      · refine fz_iconst ⟨by decide, by decide⟩ kX9_run rfl ?_
        exact fz_iret kX9_run rfl rfl (fun _ => ⟨hI, hf, _, rfl, (by omega)⟩)
      · exfalso; omega

abbrev qX9_run_5_5_0 (h : fz_H) (x dp : Int) : fz_H → Option fz_V → Prop := fun h' r0 => fz_Iv h' ∧ fz_fr [(44, 3), (46, 99999)] h h' ∧ ∃ r : Int, r0 = some (fz_i r) ∧ (h' 44 3 = h 44 3 + 1)
set_option maxHeartbeats 1000000 in
set_option maxRecDepth 100000 in
theorem sX9_run_5_5_0 (h : fz_H) (hI : fz_Iv h) (x dp : Int) (hp0 : h 44 5 = 5) (hp1 : 0 ≤ dp ∧ dp ≤ 39) (hp2 : 0 ≤ h 44 3 ∧ h 44 3 ≤ 899) : fz_R 1 mX9_run 0 [(0, fz_r 44), (1, fz_i 5), (2, fz_i 0), (3, fz_i x), (4, fz_i dp)] [] h (qX9_run_5_5_0 h x dp) := by
  refine fz_knowl (fun hk => ?_)
  have hr_x : -2147483648 ≤ x ∧ x < 2147483648 := hk _ (List.Mem.tail _ (List.Mem.tail _ (List.Mem.tail _ (List.Mem.head _))))
  have hr_dp : -2147483648 ≤ dp ∧ dp < 2147483648 := hk _ (List.Mem.tail _ (List.Mem.tail _ (List.Mem.tail _ (List.Mem.tail _ (List.Mem.head _)))))
  clear hk
  have hf : fz_fr [(44, 3), (46, 99999)] h h := fz_fr_rf
  have b1 : 0 ≤ h 44 5 ∧ h 44 5 ≤ 7 := hI.1 44 _
  have b2 : (-2147483648) ≤ h 44 3 ∧ h 44 3 ≤ 2147483647 := hI.1 44 _
  refine fz_iload kX9_run rfl rfl ?_
  refine fz_bipush ⟨by decide, by decide⟩ kX9_run rfl ?_
  refine fz_icmp_gt (tgt := 24) kX9_run rfl (by decide) (fun c3 => ?_) (fun c3 => ?_)
  · exfalso; omega
  · refine fz_aload_n kX9_run rfl rfl ?_
    refine fz_iload_n kX9_run rfl rfl ?_
    refine fz_callV (d' := 0) (M' := mX9_isKind) (As := [fz_i 5]) (st := []) kX9_run rfl rfl vX9_isKind rfl rfl rfl rfl (Nat.le_of_ble_eq_true rfl) (Nat.le_of_ble_eq_true rfl) (by decide) (sX9_isKind h hI 5 ) (fun H4 r5 q6 o7 => ?_)
    obtain ⟨e8, y9, rfl, p10⟩ := q6
    subst H4
    clear o7
    rcases p10 with ⟨rfl, c11⟩ | ⟨rfl, c11⟩
    · refine fz_if_eq (tgt := 24) kX9_run rfl (by decide) (fun c12 => ?_) (fun c12 => ?_)
      · exfalso; omega
      · refine fz_iload_n kX9_run rfl rfl ?_
        refine fz_if_lt (tgt := 24) kX9_run rfl (by decide) (fun c13 => ?_) (fun c13 => ?_)
        · exfalso; omega
        · refine fz_iload_n kX9_run rfl rfl ?_
          refine fz_iconst ⟨by decide, by decide⟩ kX9_run rfl ?_
          refine fz_icmp_lt (tgt := 26) kX9_run rfl (by decide) (fun c14 => ?_) (fun c14 => ?_)
          · refine fz_iload_n kX9_run rfl rfl ?_
            refine fz_iload_n kX9_run rfl rfl ?_
            refine fz_callS (d' := 0) (M' := mX9_ownerFrom) (As := [fz_i 5, fz_i 0]) (st := []) kX9_run rfl rfl vX9_ownerFrom rfl rfl (Nat.le_of_ble_eq_true rfl) (Nat.le_of_ble_eq_true rfl) (by decide) (sX9_ownerFrom_5_0 h hI  ) (fun H15 r16 q17 o18 => ?_)
            obtain ⟨e19, y21, rfl, f20⟩ := q17
            subst H15
            clear o18
            refine fz_eqi (show y21 = 0 by omega) ?_
            refine fz_istore (ls' := [(5, fz_i 0), (0, fz_r 44), (1, fz_i 5), (2, fz_i 0), (3, fz_i x), (4, fz_i dp)]) kX9_run rfl (by decide) rfl ?_
            refine fz_gets kX9_run rfl ?_
            refine fz_iload kX9_run rfl rfl ?_
            refine fz_taldV (v := (-1)) kX9_run rfl ⟨by decide, by decide⟩ (by omega) (by rw [hI.2.2.2.2]; decide) (by rw [hI.2.2.2.2]; rfl) ?_
            refine fz_istore (ls' := [(6, fz_i (-1)), (5, fz_i 0), (0, fz_r 44), (1, fz_i 5), (2, fz_i 0), (3, fz_i x), (4, fz_i dp)]) kX9_run rfl (by decide) rfl ?_
            refine fz_iload kX9_run rfl rfl ?_
            refine fz_iconst ⟨by decide, by decide⟩ kX9_run rfl ?_
            refine fz_iaddN kX9_run rfl (by omega) ?_
            refine fz_istore (ls' := [(7, fz_i (dp + 1)), (6, fz_i (-1)), (5, fz_i 0), (0, fz_r 44), (1, fz_i 5), (2, fz_i 0), (3, fz_i x), (4, fz_i dp)]) kX9_run rfl (by decide) rfl ?_
            refine fz_gets kX9_run rfl ?_
            refine fz_iload kX9_run rfl rfl ?_
            refine fz_iconst ⟨by decide, by decide⟩ kX9_run rfl ?_
            refine fz_imulN kX9_run rfl ⟨by decide, by decide⟩ ?_
            refine fz_eqi (y := 0) rfl ?_
            refine fz_iload_n kX9_run rfl rfl ?_
            refine fz_iaddN kX9_run rfl ⟨by decide, by decide⟩ ?_
            refine fz_eqi (y := 0) rfl ?_
            refine fz_taldV (v := 1) kX9_run rfl ⟨by decide, by decide⟩ (by omega) (by rw [hI.2.2.2.1]; decide) (by rw [hI.2.2.2.1]; rfl) ?_
            refine fz_istore (ls' := [(8, fz_i 1), (7, fz_i (dp + 1)), (6, fz_i (-1)), (5, fz_i 0), (0, fz_r 44), (1, fz_i 5), (2, fz_i 0), (3, fz_i x), (4, fz_i dp)]) kX9_run rfl (by decide) rfl ?_
            refine fz_aload_n kX9_run rfl rfl ?_
            refine fz_iload kX9_run rfl rfl ?_
            refine fz_callV (d' := 0) (M' := mX9_note) (As := [fz_i 1]) (st := []) kX9_run rfl rfl vX9_note rfl rfl rfl rfl (Nat.le_of_ble_eq_true rfl) (Nat.le_of_ble_eq_true rfl) (by decide) (sX9_note h hI 1 (by omega)) (fun H26 r27 q28 o29 => ?_)
            obtain ⟨hI30, hf31, rfl, f32⟩ := q28
            clear o29
            have hf33 := fz_fr_tr hf hf31 (show fz_su [(44, 3), (46, 99999)] [(44, 3), (46, 99999)] = true from rfl)
            refine fz_iload kX9_run rfl rfl ?_
            refine fz_lsw (tgt := 180) kX9_run rfl (by decide) (show Op.lookupswitch.offset [(1, 113), (2, 120), (10, 146), (11, 161), (20, 168), (30, 181), (40, 193), (41, 206), (50, 219), (60, 243), (70, 256), (80, 269), (81, 293)] 306 1 = 113 from rfl) (by decide) ?_
            refine fz_iload_n kX9_run rfl rfl ?_
            refine fz_aload_n kX9_run rfl rfl ?_
            refine fz_getV (v := h 44 4) kX9_run rfl rfl (hf33 44 4 rfl) ?_
            have b34 : 0 ≤ h 44 4 ∧ h 44 4 ≤ 49 := hI.1 44 _
            refine fz_iadd kX9_run rfl ?_
            refine fz_nmw (fun z35 e36 => ?_)
            exact fz_iret kX9_run rfl rfl (fun _ => ⟨hI30, hf33, _, rfl, (by omega)⟩)
          · exfalso; omega
    · refine fz_if_eq (tgt := 24) kX9_run rfl (by decide) (fun c37 => ?_) (fun c37 => ?_)
      · refine fz_iconst ⟨by decide, by decide⟩ kX9_run rfl ?_
        exact fz_iret kX9_run rfl rfl (fun _ => ⟨hI, hf, _, rfl, (by omega)⟩)
      · exfalso; omega

abbrev qX9_run_5_0_1 (h : fz_H) (x dp : Int) : fz_H → Option fz_V → Prop := fun h' r0 => fz_Iv h' ∧ fz_fr [(44, 3), (46, 99999)] h h' ∧ ∃ r : Int, r0 = some (fz_i r) ∧ (h' 44 3 = h 44 3 + 2)
set_option maxHeartbeats 1000000 in
set_option maxRecDepth 100000 in
theorem sX9_run_5_0_1 (h : fz_H) (hI : fz_Iv h) (x dp : Int) (hp0 : h 44 5 = 5) (hp1 : 0 ≤ dp ∧ dp ≤ 38) (hp2 : 0 ≤ h 44 3 ∧ h 44 3 ≤ 898) : fz_R 2 mX9_run 0 [(0, fz_r 44), (1, fz_i 0), (2, fz_i 1), (3, fz_i x), (4, fz_i dp)] [] h (qX9_run_5_0_1 h x dp) := by
  refine fz_knowl (fun hk => ?_)
  have hr_x : -2147483648 ≤ x ∧ x < 2147483648 := hk _ (List.Mem.tail _ (List.Mem.tail _ (List.Mem.tail _ (List.Mem.head _))))
  have hr_dp : -2147483648 ≤ dp ∧ dp < 2147483648 := hk _ (List.Mem.tail _ (List.Mem.tail _ (List.Mem.tail _ (List.Mem.tail _ (List.Mem.head _)))))
  clear hk
  have hf : fz_fr [(44, 3), (46, 99999)] h h := fz_fr_rf
  have b1 : 0 ≤ h 44 5 ∧ h 44 5 ≤ 7 := hI.1 44 _
  have b2 : (-2147483648) ≤ h 44 3 ∧ h 44 3 ≤ 2147483647 := hI.1 44 _
  refine fz_iload kX9_run rfl rfl ?_
  refine fz_bipush ⟨by decide, by decide⟩ kX9_run rfl ?_
  refine fz_icmp_gt (tgt := 24) kX9_run rfl (by decide) (fun c3 => ?_) (fun c3 => ?_)
  · exfalso; omega
  · refine fz_aload_n kX9_run rfl rfl ?_
    refine fz_iload_n kX9_run rfl rfl ?_
    refine fz_callV (d' := 0) (M' := mX9_isKind) (As := [fz_i 0]) (st := []) kX9_run rfl rfl vX9_isKind rfl rfl rfl rfl (Nat.le_of_ble_eq_true rfl) (Nat.le_of_ble_eq_true rfl) (by decide) (sX9_isKind h hI 0 ) (fun H4 r5 q6 o7 => ?_)
    obtain ⟨e8, y9, rfl, p10⟩ := q6
    subst H4
    clear o7
    rcases p10 with ⟨rfl, c11⟩ | ⟨rfl, c11⟩
    · refine fz_if_eq (tgt := 24) kX9_run rfl (by decide) (fun c12 => ?_) (fun c12 => ?_)
      · exfalso; omega
      · refine fz_iload_n kX9_run rfl rfl ?_
        refine fz_if_lt (tgt := 24) kX9_run rfl (by decide) (fun c13 => ?_) (fun c13 => ?_)
        · exfalso; omega
        · refine fz_iload_n kX9_run rfl rfl ?_
          refine fz_iconst ⟨by decide, by decide⟩ kX9_run rfl ?_
          refine fz_icmp_lt (tgt := 26) kX9_run rfl (by decide) (fun c14 => ?_) (fun c14 => ?_)
          · refine fz_iload_n kX9_run rfl rfl ?_
            refine fz_iload_n kX9_run rfl rfl ?_
            refine fz_callS (d' := 0) (M' := mX9_ownerFrom) (As := [fz_i 0, fz_i 1]) (st := []) kX9_run rfl rfl vX9_ownerFrom rfl rfl (Nat.le_of_ble_eq_true rfl) (Nat.le_of_ble_eq_true rfl) (by decide) (sX9_ownerFrom_0_1 h hI  ) (fun H15 r16 q17 o18 => ?_)
            obtain ⟨e19, y21, rfl, f20⟩ := q17
            subst H15
            clear o18
            refine fz_eqi (show y21 = 0 by omega) ?_
            refine fz_istore (ls' := [(5, fz_i 0), (0, fz_r 44), (1, fz_i 0), (2, fz_i 1), (3, fz_i x), (4, fz_i dp)]) kX9_run rfl (by decide) rfl ?_
            refine fz_gets kX9_run rfl ?_
            refine fz_iload kX9_run rfl rfl ?_
            refine fz_taldV (v := (-1)) kX9_run rfl ⟨by decide, by decide⟩ (by omega) (by rw [hI.2.2.2.2]; decide) (by rw [hI.2.2.2.2]; rfl) ?_
            refine fz_istore (ls' := [(6, fz_i (-1)), (5, fz_i 0), (0, fz_r 44), (1, fz_i 0), (2, fz_i 1), (3, fz_i x), (4, fz_i dp)]) kX9_run rfl (by decide) rfl ?_
            refine fz_iload kX9_run rfl rfl ?_
            refine fz_iconst ⟨by decide, by decide⟩ kX9_run rfl ?_
            refine fz_iaddN kX9_run rfl (by omega) ?_
            refine fz_istore (ls' := [(7, fz_i (dp + 1)), (6, fz_i (-1)), (5, fz_i 0), (0, fz_r 44), (1, fz_i 0), (2, fz_i 1), (3, fz_i x), (4, fz_i dp)]) kX9_run rfl (by decide) rfl ?_
            refine fz_gets kX9_run rfl ?_
            refine fz_iload kX9_run rfl rfl ?_
            refine fz_iconst ⟨by decide, by decide⟩ kX9_run rfl ?_
            refine fz_imulN kX9_run rfl ⟨by decide, by decide⟩ ?_
            refine fz_eqi (y := 0) rfl ?_
            refine fz_iload_n kX9_run rfl rfl ?_
            refine fz_iaddN kX9_run rfl ⟨by decide, by decide⟩ ?_
            refine fz_eqi (y := 1) rfl ?_
            refine fz_taldV (v := 10) kX9_run rfl ⟨by decide, by decide⟩ (by omega) (by rw [hI.2.2.2.1]; decide) (by rw [hI.2.2.2.1]; rfl) ?_
            refine fz_istore (ls' := [(8, fz_i 10), (7, fz_i (dp + 1)), (6, fz_i (-1)), (5, fz_i 0), (0, fz_r 44), (1, fz_i 0), (2, fz_i 1), (3, fz_i x), (4, fz_i dp)]) kX9_run rfl (by decide) rfl ?_
            refine fz_aload_n kX9_run rfl rfl ?_
            refine fz_iload kX9_run rfl rfl ?_
            refine fz_callV (d' := 0) (M' := mX9_note) (As := [fz_i 10]) (st := []) kX9_run rfl rfl vX9_note rfl rfl rfl rfl (Nat.le_of_ble_eq_true rfl) (Nat.le_of_ble_eq_true rfl) (by decide) (sX9_note h hI 10 (by omega)) (fun H26 r27 q28 o29 => ?_)
            obtain ⟨hI30, hf31, rfl, f32⟩ := q28
            clear o29
            have hf33 := fz_fr_tr hf hf31 (show fz_su [(44, 3), (46, 99999)] [(44, 3), (46, 99999)] = true from rfl)
            refine fz_iload kX9_run rfl rfl ?_
            refine fz_lsw (tgt := 213) kX9_run rfl (by decide) (show Op.lookupswitch.offset [(1, 113), (2, 120), (10, 146), (11, 161), (20, 168), (30, 181), (40, 193), (41, 206), (50, 219), (60, 243), (70, 256), (80, 269), (81, 293)] 306 10 = 146 from rfl) (by decide) ?_
            refine fz_aload_n kX9_run rfl rfl ?_
            refine fz_aload_n kX9_run rfl rfl ?_
            refine fz_getV (v := h 44 5) kX9_run rfl rfl (hf33 44 5 rfl) ?_
            have b34 : 0 ≤ h 44 5 ∧ h 44 5 ≤ 7 := hI.1 44 _
            refine fz_eqi (show (h 44 5) = 5 by omega) ?_
            refine fz_iconst ⟨by decide, by decide⟩ kX9_run rfl ?_
            refine fz_iload_n kX9_run rfl rfl ?_
            refine fz_iload kX9_run rfl rfl ?_
            have b35 : (-2147483648) ≤ H26 44 3 ∧ H26 44 3 ≤ 2147483647 := hI30.1 44 _
            have e36 : H26 44 5 = h 44 5 := hf33 44 5 rfl
            refine fz_callV (d' := 1) (M' := mX9_run) (As := [fz_i 5, fz_i 0, fz_i x, fz_i (dp + 1)]) (st := []) kX9_run rfl rfl vX9_run rfl rfl rfl rfl (Nat.le_of_ble_eq_true rfl) (Nat.le_of_ble_eq_true rfl) (by decide) (sX9_run_5_5_0 H26 hI30 x (dp + 1) (by omega) (by omega) (by omega)) (fun H37 r38 q39 o40 => ?_)
            obtain ⟨hI41, hf42, y44, rfl, f43⟩ := q39
            clear o40
            have hf45 := fz_fr_tr hf33 hf42 (show fz_su [(44, 3), (46, 99999)] [(44, 3), (46, 99999)] = true from rfl)
            refine fz_iconst ⟨by decide, by decide⟩ kX9_run rfl ?_
            refine fz_imul kX9_run rfl ?_
            refine fz_nmw (fun z46 e47 => ?_)
            exact fz_iret kX9_run rfl rfl (fun _ => ⟨hI41, hf45, _, rfl, (by omega)⟩)
          · exfalso; omega
    · refine fz_if_eq (tgt := 24) kX9_run rfl (by decide) (fun c48 => ?_) (fun c48 => ?_)
      · refine fz_iconst ⟨by decide, by decide⟩ kX9_run rfl ?_
        exact fz_iret kX9_run rfl rfl (fun _ => ⟨hI, hf, _, rfl, (by omega)⟩)
      · exfalso; omega

abbrev qX9_run_5_2_1 (h : fz_H) (x dp : Int) : fz_H → Option fz_V → Prop := fun h' r0 => fz_Iv h' ∧ fz_fr [(44, 3), (46, 99999)] h h' ∧ ∃ r : Int, r0 = some (fz_i r) ∧ (h' 44 3 = h 44 3 + 3)
set_option maxHeartbeats 1000000 in
set_option maxRecDepth 100000 in
theorem sX9_run_5_2_1 (h : fz_H) (hI : fz_Iv h) (x dp : Int) (hp0 : h 44 5 = 5) (hp1 : 0 ≤ dp ∧ dp ≤ 37) (hp2 : 0 ≤ h 44 3 ∧ h 44 3 ≤ 897) : fz_R 3 mX9_run 0 [(0, fz_r 44), (1, fz_i 2), (2, fz_i 1), (3, fz_i x), (4, fz_i dp)] [] h (qX9_run_5_2_1 h x dp) := by
  refine fz_knowl (fun hk => ?_)
  have hr_x : -2147483648 ≤ x ∧ x < 2147483648 := hk _ (List.Mem.tail _ (List.Mem.tail _ (List.Mem.tail _ (List.Mem.head _))))
  have hr_dp : -2147483648 ≤ dp ∧ dp < 2147483648 := hk _ (List.Mem.tail _ (List.Mem.tail _ (List.Mem.tail _ (List.Mem.tail _ (List.Mem.head _)))))
  clear hk
  have hf : fz_fr [(44, 3), (46, 99999)] h h := fz_fr_rf
  have b1 : 0 ≤ h 44 5 ∧ h 44 5 ≤ 7 := hI.1 44 _
  have b2 : (-2147483648) ≤ h 44 3 ∧ h 44 3 ≤ 2147483647 := hI.1 44 _
  refine fz_iload kX9_run rfl rfl ?_
  refine fz_bipush ⟨by decide, by decide⟩ kX9_run rfl ?_
  refine fz_icmp_gt (tgt := 24) kX9_run rfl (by decide) (fun c3 => ?_) (fun c3 => ?_)
  · exfalso; omega
  · refine fz_aload_n kX9_run rfl rfl ?_
    refine fz_iload_n kX9_run rfl rfl ?_
    refine fz_callV (d' := 0) (M' := mX9_isKind) (As := [fz_i 2]) (st := []) kX9_run rfl rfl vX9_isKind rfl rfl rfl rfl (Nat.le_of_ble_eq_true rfl) (Nat.le_of_ble_eq_true rfl) (by decide) (sX9_isKind h hI 2 ) (fun H4 r5 q6 o7 => ?_)
    obtain ⟨e8, y9, rfl, p10⟩ := q6
    subst H4
    clear o7
    rcases p10 with ⟨rfl, c11⟩ | ⟨rfl, c11⟩
    · refine fz_if_eq (tgt := 24) kX9_run rfl (by decide) (fun c12 => ?_) (fun c12 => ?_)
      · exfalso; omega
      · refine fz_iload_n kX9_run rfl rfl ?_
        refine fz_if_lt (tgt := 24) kX9_run rfl (by decide) (fun c13 => ?_) (fun c13 => ?_)
        · exfalso; omega
        · refine fz_iload_n kX9_run rfl rfl ?_
          refine fz_iconst ⟨by decide, by decide⟩ kX9_run rfl ?_
          refine fz_icmp_lt (tgt := 26) kX9_run rfl (by decide) (fun c14 => ?_) (fun c14 => ?_)
          · refine fz_iload_n kX9_run rfl rfl ?_
            refine fz_iload_n kX9_run rfl rfl ?_
            refine fz_callS (d' := 0) (M' := mX9_ownerFrom) (As := [fz_i 2, fz_i 1]) (st := []) kX9_run rfl rfl vX9_ownerFrom rfl rfl (Nat.le_of_ble_eq_true rfl) (Nat.le_of_ble_eq_true rfl) (by decide) (sX9_ownerFrom_2_1 h hI  ) (fun H15 r16 q17 o18 => ?_)
            obtain ⟨e19, y21, rfl, f20⟩ := q17
            subst H15
            clear o18
            refine fz_eqi (show y21 = 2 by omega) ?_
            refine fz_istore (ls' := [(5, fz_i 2), (0, fz_r 44), (1, fz_i 2), (2, fz_i 1), (3, fz_i x), (4, fz_i dp)]) kX9_run rfl (by decide) rfl ?_
            refine fz_gets kX9_run rfl ?_
            refine fz_iload kX9_run rfl rfl ?_
            refine fz_taldV (v := 0) kX9_run rfl ⟨by decide, by decide⟩ (by omega) (by rw [hI.2.2.2.2]; decide) (by rw [hI.2.2.2.2]; rfl) ?_
            refine fz_istore (ls' := [(6, fz_i 0), (5, fz_i 2), (0, fz_r 44), (1, fz_i 2), (2, fz_i 1), (3, fz_i x), (4, fz_i dp)]) kX9_run rfl (by decide) rfl ?_
            refine fz_iload kX9_run rfl rfl ?_
            refine fz_iconst ⟨by decide, by decide⟩ kX9_run rfl ?_
            refine fz_iaddN kX9_run rfl (by omega) ?_
            refine fz_istore (ls' := [(7, fz_i (dp + 1)), (6, fz_i 0), (5, fz_i 2), (0, fz_r 44), (1, fz_i 2), (2, fz_i 1), (3, fz_i x), (4, fz_i dp)]) kX9_run rfl (by decide) rfl ?_
            refine fz_gets kX9_run rfl ?_
            refine fz_iload kX9_run rfl rfl ?_
            refine fz_iconst ⟨by decide, by decide⟩ kX9_run rfl ?_
            refine fz_imulN kX9_run rfl ⟨by decide, by decide⟩ ?_
            refine fz_eqi (y := 8) rfl ?_
            refine fz_iload_n kX9_run rfl rfl ?_
            refine fz_iaddN kX9_run rfl ⟨by decide, by decide⟩ ?_
            refine fz_eqi (y := 9) rfl ?_
            refine fz_taldV (v := 30) kX9_run rfl ⟨by decide, by decide⟩ (by omega) (by rw [hI.2.2.2.1]; decide) (by rw [hI.2.2.2.1]; rfl) ?_
            refine fz_istore (ls' := [(8, fz_i 30), (7, fz_i (dp + 1)), (6, fz_i 0), (5, fz_i 2), (0, fz_r 44), (1, fz_i 2), (2, fz_i 1), (3, fz_i x), (4, fz_i dp)]) kX9_run rfl (by decide) rfl ?_
            refine fz_aload_n kX9_run rfl rfl ?_
            refine fz_iload kX9_run rfl rfl ?_
            refine fz_callV (d' := 0) (M' := mX9_note) (As := [fz_i 30]) (st := []) kX9_run rfl rfl vX9_note rfl rfl rfl rfl (Nat.le_of_ble_eq_true rfl) (Nat.le_of_ble_eq_true rfl) (by decide) (sX9_note h hI 30 (by omega)) (fun H26 r27 q28 o29 => ?_)
            obtain ⟨hI30, hf31, rfl, f32⟩ := q28
            clear o29
            have hf33 := fz_fr_tr hf hf31 (show fz_su [(44, 3), (46, 99999)] [(44, 3), (46, 99999)] = true from rfl)
            refine fz_iload kX9_run rfl rfl ?_
            refine fz_lsw (tgt := 248) kX9_run rfl (by decide) (show Op.lookupswitch.offset [(1, 113), (2, 120), (10, 146), (11, 161), (20, 168), (30, 181), (40, 193), (41, 206), (50, 219), (60, 243), (70, 256), (80, 269), (81, 293)] 306 30 = 181 from rfl) (by decide) ?_
            refine fz_aload_n kX9_run rfl rfl ?_
            refine fz_iload kX9_run rfl rfl ?_
            refine fz_iconst ⟨by decide, by decide⟩ kX9_run rfl ?_
            refine fz_iload_n kX9_run rfl rfl ?_
            refine fz_iload kX9_run rfl rfl ?_
            have b34 : (-2147483648) ≤ H26 44 3 ∧ H26 44 3 ≤ 2147483647 := hI30.1 44 _
            have e35 : H26 44 5 = h 44 5 := hf33 44 5 rfl
            refine fz_callV (d' := 2) (M' := mX9_run) (As := [fz_i 0, fz_i 1, fz_i x, fz_i (dp + 1)]) (st := []) kX9_run rfl rfl vX9_run rfl rfl rfl rfl (Nat.le_of_ble_eq_true rfl) (Nat.le_of_ble_eq_true rfl) (by decide) (sX9_run_5_0_1 H26 hI30 x (dp + 1) (by omega) (by omega) (by omega)) (fun H36 r37 q38 o39 => ?_)
            obtain ⟨hI40, hf41, y43, rfl, f42⟩ := q38
            clear o39
            have hf44 := fz_fr_tr hf33 hf41 (show fz_su [(44, 3), (46, 99999)] [(44, 3), (46, 99999)] = true from rfl)
            refine fz_ineg kX9_run rfl ?_
            refine fz_nmw (fun z45 e46 => ?_)
            exact fz_iret kX9_run rfl rfl (fun _ => ⟨hI40, hf44, _, rfl, (by omega)⟩)
          · exfalso; omega
    · refine fz_if_eq (tgt := 24) kX9_run rfl (by decide) (fun c47 => ?_) (fun c47 => ?_)
      · refine fz_iconst ⟨by decide, by decide⟩ kX9_run rfl ?_
        exact fz_iret kX9_run rfl rfl (fun _ => ⟨hI, hf, _, rfl, (by omega)⟩)
      · exfalso; omega

abbrev qX9_run_5_5_1 (h : fz_H) (x dp : Int) : fz_H → Option fz_V → Prop := fun h' r0 => fz_Iv h' ∧ fz_fr [(44, 3), (46, 99999)] h h' ∧ ∃ r : Int, r0 = some (fz_i r) ∧ (h' 44 3 = h 44 3 + 4)
set_option maxHeartbeats 1000000 in
set_option maxRecDepth 100000 in
theorem sX9_run_5_5_1 (h : fz_H) (hI : fz_Iv h) (x dp : Int) (hp0 : h 44 5 = 5) (hp1 : 0 ≤ dp ∧ dp ≤ 36) (hp2 : 0 ≤ h 44 3 ∧ h 44 3 ≤ 896) : fz_R 4 mX9_run 0 [(0, fz_r 44), (1, fz_i 5), (2, fz_i 1), (3, fz_i x), (4, fz_i dp)] [] h (qX9_run_5_5_1 h x dp) := by
  refine fz_knowl (fun hk => ?_)
  have hr_x : -2147483648 ≤ x ∧ x < 2147483648 := hk _ (List.Mem.tail _ (List.Mem.tail _ (List.Mem.tail _ (List.Mem.head _))))
  have hr_dp : -2147483648 ≤ dp ∧ dp < 2147483648 := hk _ (List.Mem.tail _ (List.Mem.tail _ (List.Mem.tail _ (List.Mem.tail _ (List.Mem.head _)))))
  clear hk
  have hf : fz_fr [(44, 3), (46, 99999)] h h := fz_fr_rf
  have b1 : 0 ≤ h 44 5 ∧ h 44 5 ≤ 7 := hI.1 44 _
  have b2 : (-2147483648) ≤ h 44 3 ∧ h 44 3 ≤ 2147483647 := hI.1 44 _
  refine fz_iload kX9_run rfl rfl ?_
  refine fz_bipush ⟨by decide, by decide⟩ kX9_run rfl ?_
  refine fz_icmp_gt (tgt := 24) kX9_run rfl (by decide) (fun c3 => ?_) (fun c3 => ?_)
  · exfalso; omega
  · refine fz_aload_n kX9_run rfl rfl ?_
    refine fz_iload_n kX9_run rfl rfl ?_
    refine fz_callV (d' := 0) (M' := mX9_isKind) (As := [fz_i 5]) (st := []) kX9_run rfl rfl vX9_isKind rfl rfl rfl rfl (Nat.le_of_ble_eq_true rfl) (Nat.le_of_ble_eq_true rfl) (by decide) (sX9_isKind h hI 5 ) (fun H4 r5 q6 o7 => ?_)
    obtain ⟨e8, y9, rfl, p10⟩ := q6
    subst H4
    clear o7
    rcases p10 with ⟨rfl, c11⟩ | ⟨rfl, c11⟩
    · refine fz_if_eq (tgt := 24) kX9_run rfl (by decide) (fun c12 => ?_) (fun c12 => ?_)
      · exfalso; omega
      · refine fz_iload_n kX9_run rfl rfl ?_
        refine fz_if_lt (tgt := 24) kX9_run rfl (by decide) (fun c13 => ?_) (fun c13 => ?_)
        · exfalso; omega
        · refine fz_iload_n kX9_run rfl rfl ?_
          refine fz_iconst ⟨by decide, by decide⟩ kX9_run rfl ?_
          refine fz_icmp_lt (tgt := 26) kX9_run rfl (by decide) (fun c14 => ?_) (fun c14 => ?_)
          · refine fz_iload_n kX9_run rfl rfl ?_
            refine fz_iload_n kX9_run rfl rfl ?_
            refine fz_callS (d' := 0) (M' := mX9_ownerFrom) (As := [fz_i 5, fz_i 1]) (st := []) kX9_run rfl rfl vX9_ownerFrom rfl rfl (Nat.le_of_ble_eq_true rfl) (Nat.le_of_ble_eq_true rfl) (by decide) (sX9_ownerFrom_5_1 h hI  ) (fun H15 r16 q17 o18 => ?_)
            obtain ⟨e19, y21, rfl, f20⟩ := q17
            subst H15
            clear o18
            refine fz_eqi (show y21 = 3 by omega) ?_
            refine fz_istore (ls' := [(5, fz_i 3), (0, fz_r 44), (1, fz_i 5), (2, fz_i 1), (3, fz_i x), (4, fz_i dp)]) kX9_run rfl (by decide) rfl ?_
            refine fz_gets kX9_run rfl ?_
            refine fz_iload kX9_run rfl rfl ?_
            refine fz_taldV (v := 2) kX9_run rfl ⟨by decide, by decide⟩ (by omega) (by rw [hI.2.2.2.2]; decide) (by rw [hI.2.2.2.2]; rfl) ?_
            refine fz_istore (ls' := [(6, fz_i 2), (5, fz_i 3), (0, fz_r 44), (1, fz_i 5), (2, fz_i 1), (3, fz_i x), (4, fz_i dp)]) kX9_run rfl (by decide) rfl ?_
            refine fz_iload kX9_run rfl rfl ?_
            refine fz_iconst ⟨by decide, by decide⟩ kX9_run rfl ?_
            refine fz_iaddN kX9_run rfl (by omega) ?_
            refine fz_istore (ls' := [(7, fz_i (dp + 1)), (6, fz_i 2), (5, fz_i 3), (0, fz_r 44), (1, fz_i 5), (2, fz_i 1), (3, fz_i x), (4, fz_i dp)]) kX9_run rfl (by decide) rfl ?_
            refine fz_gets kX9_run rfl ?_
            refine fz_iload kX9_run rfl rfl ?_
            refine fz_iconst ⟨by decide, by decide⟩ kX9_run rfl ?_
            refine fz_imulN kX9_run rfl ⟨by decide, by decide⟩ ?_
            refine fz_eqi (y := 12) rfl ?_
            refine fz_iload_n kX9_run rfl rfl ?_
            refine fz_iaddN kX9_run rfl ⟨by decide, by decide⟩ ?_
            refine fz_eqi (y := 13) rfl ?_
            refine fz_taldV (v := 41) kX9_run rfl ⟨by decide, by decide⟩ (by omega) (by rw [hI.2.2.2.1]; decide) (by rw [hI.2.2.2.1]; rfl) ?_
            refine fz_istore (ls' := [(8, fz_i 41), (7, fz_i (dp + 1)), (6, fz_i 2), (5, fz_i 3), (0, fz_r 44), (1, fz_i 5), (2, fz_i 1), (3, fz_i x), (4, fz_i dp)]) kX9_run rfl (by decide) rfl ?_
            refine fz_aload_n kX9_run rfl rfl ?_
            refine fz_iload kX9_run rfl rfl ?_
            refine fz_callV (d' := 0) (M' := mX9_note) (As := [fz_i 41]) (st := []) kX9_run rfl rfl vX9_note rfl rfl rfl rfl (Nat.le_of_ble_eq_true rfl) (Nat.le_of_ble_eq_true rfl) (by decide) (sX9_note h hI 41 (by omega)) (fun H26 r27 q28 o29 => ?_)
            obtain ⟨hI30, hf31, rfl, f32⟩ := q28
            clear o29
            have hf33 := fz_fr_tr hf hf31 (show fz_su [(44, 3), (46, 99999)] [(44, 3), (46, 99999)] = true from rfl)
            refine fz_iload kX9_run rfl rfl ?_
            refine fz_lsw (tgt := 273) kX9_run rfl (by decide) (show Op.lookupswitch.offset [(1, 113), (2, 120), (10, 146), (11, 161), (20, 168), (30, 181), (40, 193), (41, 206), (50, 219), (60, 243), (70, 256), (80, 269), (81, 293)] 306 41 = 206 from rfl) (by decide) ?_
            refine fz_aload_n kX9_run rfl rfl ?_
            refine fz_iload kX9_run rfl rfl ?_
            refine fz_iconst ⟨by decide, by decide⟩ kX9_run rfl ?_
            refine fz_iload_n kX9_run rfl rfl ?_
            refine fz_iconst ⟨by decide, by decide⟩ kX9_run rfl ?_
            refine fz_iadd kX9_run rfl ?_
            refine fz_nmw (fun z34 e35 => ?_)
            refine fz_iload kX9_run rfl rfl ?_
            have b36 : (-2147483648) ≤ H26 44 3 ∧ H26 44 3 ≤ 2147483647 := hI30.1 44 _
            have e37 : H26 44 5 = h 44 5 := hf33 44 5 rfl
            refine fz_callV (d' := 3) (M' := mX9_run) (As := [fz_i 2, fz_i 1, fz_i z34, fz_i (dp + 1)]) (st := []) kX9_run rfl rfl vX9_run rfl rfl rfl rfl (Nat.le_of_ble_eq_true rfl) (Nat.le_of_ble_eq_true rfl) (by decide) (sX9_run_5_2_1 H26 hI30 z34 (dp + 1) (by omega) (by omega) (by omega)) (fun H38 r39 q40 o41 => ?_)
            obtain ⟨hI42, hf43, y45, rfl, f44⟩ := q40
            clear o41
            have hf46 := fz_fr_tr hf33 hf43 (show fz_su [(44, 3), (46, 99999)] [(44, 3), (46, 99999)] = true from rfl)
            exact fz_iret kX9_run rfl rfl (fun _ => ⟨hI42, hf46, _, rfl, (by omega)⟩)
          · exfalso; omega
    · refine fz_if_eq (tgt := 24) kX9_run rfl (by decide) (fun c47 => ?_) (fun c47 => ?_)
      · refine fz_iconst ⟨by decide, by decide⟩ kX9_run rfl ?_
        exact fz_iret kX9_run rfl rfl (fun _ => ⟨hI, hf, _, rfl, (by omega)⟩)
      · exfalso; omega

abbrev qX9_run_5_2_2 (h : fz_H) (x dp : Int) : fz_H → Option fz_V → Prop := fun h' r0 => fz_Iv h' ∧ fz_fr [(44, 3), (46, 99999)] h h' ∧ ∃ r : Int, r0 = some (fz_i r) ∧ (h' 44 3 = h 44 3 + 1)
set_option maxHeartbeats 1000000 in
set_option maxRecDepth 100000 in
theorem sX9_run_5_2_2 (h : fz_H) (hI : fz_Iv h) (x dp : Int) (hp0 : h 44 5 = 5) (hp1 : 0 ≤ dp ∧ dp ≤ 39) (hp2 : 0 ≤ h 44 3 ∧ h 44 3 ≤ 899) : fz_R 1 mX9_run 0 [(0, fz_r 44), (1, fz_i 2), (2, fz_i 2), (3, fz_i x), (4, fz_i dp)] [] h (qX9_run_5_2_2 h x dp) := by
  refine fz_knowl (fun hk => ?_)
  have hr_x : -2147483648 ≤ x ∧ x < 2147483648 := hk _ (List.Mem.tail _ (List.Mem.tail _ (List.Mem.tail _ (List.Mem.head _))))
  have hr_dp : -2147483648 ≤ dp ∧ dp < 2147483648 := hk _ (List.Mem.tail _ (List.Mem.tail _ (List.Mem.tail _ (List.Mem.tail _ (List.Mem.head _)))))
  clear hk
  have hf : fz_fr [(44, 3), (46, 99999)] h h := fz_fr_rf
  have b1 : 0 ≤ h 44 5 ∧ h 44 5 ≤ 7 := hI.1 44 _
  have b2 : (-2147483648) ≤ h 44 3 ∧ h 44 3 ≤ 2147483647 := hI.1 44 _
  refine fz_iload kX9_run rfl rfl ?_
  refine fz_bipush ⟨by decide, by decide⟩ kX9_run rfl ?_
  refine fz_icmp_gt (tgt := 24) kX9_run rfl (by decide) (fun c3 => ?_) (fun c3 => ?_)
  · exfalso; omega
  · refine fz_aload_n kX9_run rfl rfl ?_
    refine fz_iload_n kX9_run rfl rfl ?_
    refine fz_callV (d' := 0) (M' := mX9_isKind) (As := [fz_i 2]) (st := []) kX9_run rfl rfl vX9_isKind rfl rfl rfl rfl (Nat.le_of_ble_eq_true rfl) (Nat.le_of_ble_eq_true rfl) (by decide) (sX9_isKind h hI 2 ) (fun H4 r5 q6 o7 => ?_)
    obtain ⟨e8, y9, rfl, p10⟩ := q6
    subst H4
    clear o7
    rcases p10 with ⟨rfl, c11⟩ | ⟨rfl, c11⟩
    · refine fz_if_eq (tgt := 24) kX9_run rfl (by decide) (fun c12 => ?_) (fun c12 => ?_)
      · exfalso; omega
      · refine fz_iload_n kX9_run rfl rfl ?_
        refine fz_if_lt (tgt := 24) kX9_run rfl (by decide) (fun c13 => ?_) (fun c13 => ?_)
        · exfalso; omega
        · refine fz_iload_n kX9_run rfl rfl ?_
          refine fz_iconst ⟨by decide, by decide⟩ kX9_run rfl ?_
          refine fz_icmp_lt (tgt := 26) kX9_run rfl (by decide) (fun c14 => ?_) (fun c14 => ?_)
          · refine fz_iload_n kX9_run rfl rfl ?_
            refine fz_iload_n kX9_run rfl rfl ?_
            refine fz_callS (d' := 0) (M' := mX9_ownerFrom) (As := [fz_i 2, fz_i 2]) (st := []) kX9_run rfl rfl vX9_ownerFrom rfl rfl (Nat.le_of_ble_eq_true rfl) (Nat.le_of_ble_eq_true rfl) (by decide) (sX9_ownerFrom_2_2 h hI  ) (fun H15 r16 q17 o18 => ?_)
            obtain ⟨e19, y21, rfl, f20⟩ := q17
            subst H15
            clear o18
            refine fz_eqi (show y21 = 0 by omega) ?_
            refine fz_istore (ls' := [(5, fz_i 0), (0, fz_r 44), (1, fz_i 2), (2, fz_i 2), (3, fz_i x), (4, fz_i dp)]) kX9_run rfl (by decide) rfl ?_
            refine fz_gets kX9_run rfl ?_
            refine fz_iload kX9_run rfl rfl ?_
            refine fz_taldV (v := (-1)) kX9_run rfl ⟨by decide, by decide⟩ (by omega) (by rw [hI.2.2.2.2]; decide) (by rw [hI.2.2.2.2]; rfl) ?_
            refine fz_istore (ls' := [(6, fz_i (-1)), (5, fz_i 0), (0, fz_r 44), (1, fz_i 2), (2, fz_i 2), (3, fz_i x), (4, fz_i dp)]) kX9_run rfl (by decide) rfl ?_
            refine fz_iload kX9_run rfl rfl ?_
            refine fz_iconst ⟨by decide, by decide⟩ kX9_run rfl ?_
            refine fz_iaddN kX9_run rfl (by omega) ?_
            refine fz_istore (ls' := [(7, fz_i (dp + 1)), (6, fz_i (-1)), (5, fz_i 0), (0, fz_r 44), (1, fz_i 2), (2, fz_i 2), (3, fz_i x), (4, fz_i dp)]) kX9_run rfl (by decide) rfl ?_
            refine fz_gets kX9_run rfl ?_
            refine fz_iload kX9_run rfl rfl ?_
            refine fz_iconst ⟨by decide, by decide⟩ kX9_run rfl ?_
            refine fz_imulN kX9_run rfl ⟨by decide, by decide⟩ ?_
            refine fz_eqi (y := 0) rfl ?_
            refine fz_iload_n kX9_run rfl rfl ?_
            refine fz_iaddN kX9_run rfl ⟨by decide, by decide⟩ ?_
            refine fz_eqi (y := 2) rfl ?_
            refine fz_taldV (v := 11) kX9_run rfl ⟨by decide, by decide⟩ (by omega) (by rw [hI.2.2.2.1]; decide) (by rw [hI.2.2.2.1]; rfl) ?_
            refine fz_istore (ls' := [(8, fz_i 11), (7, fz_i (dp + 1)), (6, fz_i (-1)), (5, fz_i 0), (0, fz_r 44), (1, fz_i 2), (2, fz_i 2), (3, fz_i x), (4, fz_i dp)]) kX9_run rfl (by decide) rfl ?_
            refine fz_aload_n kX9_run rfl rfl ?_
            refine fz_iload kX9_run rfl rfl ?_
            refine fz_callV (d' := 0) (M' := mX9_note) (As := [fz_i 11]) (st := []) kX9_run rfl rfl vX9_note rfl rfl rfl rfl (Nat.le_of_ble_eq_true rfl) (Nat.le_of_ble_eq_true rfl) (by decide) (sX9_note h hI 11 (by omega)) (fun H26 r27 q28 o29 => ?_)
            obtain ⟨hI30, hf31, rfl, f32⟩ := q28
            clear o29
            have hf33 := fz_fr_tr hf hf31 (show fz_su [(44, 3), (46, 99999)] [(44, 3), (46, 99999)] = true from rfl)
            refine fz_iload kX9_run rfl rfl ?_
            refine fz_lsw (tgt := 228) kX9_run rfl (by decide) (show Op.lookupswitch.offset [(1, 113), (2, 120), (10, 146), (11, 161), (20, 168), (30, 181), (40, 193), (41, 206), (50, 219), (60, 243), (70, 256), (80, 269), (81, 293)] 306 11 = 161 from rfl) (by decide) ?_
            refine fz_iload_n kX9_run rfl rfl ?_
            refine fz_aload_n kX9_run rfl rfl ?_
            refine fz_getV (v := h 44 4) kX9_run rfl rfl (hf33 44 4 rfl) ?_
            have b34 : 0 ≤ h 44 4 ∧ h 44 4 ≤ 49 := hI.1 44 _
            refine fz_ixor kX9_run rfl ?_
            have b35 : -2147483648 ≤ (fz_xor x (h 44 4)) ∧ (fz_xor x (h 44 4)) < 2147483648 := fz_b32 _
            exact fz_iret kX9_run rfl rfl (fun _ => ⟨hI30, hf33, _, rfl, (by omega)⟩)
          · exfalso; omega
    · refine fz_if_eq (tgt := 24) kX9_run rfl (by decide) (fun c36 => ?_) (fun c36 => ?_)
      · refine fz_iconst ⟨by decide, by decide⟩ kX9_run rfl ?_
        exact fz_iret kX9_run rfl rfl (fun _ => ⟨hI, hf, _, rfl, (by omega)⟩)
      · exfalso; omega

abbrev qX9_run_5_5_2 (h : fz_H) (x dp : Int) : fz_H → Option fz_V → Prop := fun h' r0 => fz_Iv h' ∧ fz_fr [(44, 3), (46, 99999)] h h' ∧ ∃ r : Int, r0 = some (fz_i r) ∧ (h' 44 3 = h 44 3 + 2)
set_option maxHeartbeats 1000000 in
set_option maxRecDepth 100000 in
theorem sX9_run_5_5_2 (h : fz_H) (hI : fz_Iv h) (x dp : Int) (hp0 : h 44 5 = 5) (hp1 : 0 ≤ dp ∧ dp ≤ 38) (hp2 : 0 ≤ h 44 3 ∧ h 44 3 ≤ 898) : fz_R 2 mX9_run 0 [(0, fz_r 44), (1, fz_i 5), (2, fz_i 2), (3, fz_i x), (4, fz_i dp)] [] h (qX9_run_5_5_2 h x dp) := by
  refine fz_knowl (fun hk => ?_)
  have hr_x : -2147483648 ≤ x ∧ x < 2147483648 := hk _ (List.Mem.tail _ (List.Mem.tail _ (List.Mem.tail _ (List.Mem.head _))))
  have hr_dp : -2147483648 ≤ dp ∧ dp < 2147483648 := hk _ (List.Mem.tail _ (List.Mem.tail _ (List.Mem.tail _ (List.Mem.tail _ (List.Mem.head _)))))
  clear hk
  have hf : fz_fr [(44, 3), (46, 99999)] h h := fz_fr_rf
  have b1 : 0 ≤ h 44 5 ∧ h 44 5 ≤ 7 := hI.1 44 _
  have b2 : (-2147483648) ≤ h 44 3 ∧ h 44 3 ≤ 2147483647 := hI.1 44 _
  refine fz_iload kX9_run rfl rfl ?_
  refine fz_bipush ⟨by decide, by decide⟩ kX9_run rfl ?_
  refine fz_icmp_gt (tgt := 24) kX9_run rfl (by decide) (fun c3 => ?_) (fun c3 => ?_)
  · exfalso; omega
  · refine fz_aload_n kX9_run rfl rfl ?_
    refine fz_iload_n kX9_run rfl rfl ?_
    refine fz_callV (d' := 0) (M' := mX9_isKind) (As := [fz_i 5]) (st := []) kX9_run rfl rfl vX9_isKind rfl rfl rfl rfl (Nat.le_of_ble_eq_true rfl) (Nat.le_of_ble_eq_true rfl) (by decide) (sX9_isKind h hI 5 ) (fun H4 r5 q6 o7 => ?_)
    obtain ⟨e8, y9, rfl, p10⟩ := q6
    subst H4
    clear o7
    rcases p10 with ⟨rfl, c11⟩ | ⟨rfl, c11⟩
    · refine fz_if_eq (tgt := 24) kX9_run rfl (by decide) (fun c12 => ?_) (fun c12 => ?_)
      · exfalso; omega
      · refine fz_iload_n kX9_run rfl rfl ?_
        refine fz_if_lt (tgt := 24) kX9_run rfl (by decide) (fun c13 => ?_) (fun c13 => ?_)
        · exfalso; omega
        · refine fz_iload_n kX9_run rfl rfl ?_
          refine fz_iconst ⟨by decide, by decide⟩ kX9_run rfl ?_
          refine fz_icmp_lt (tgt := 26) kX9_run rfl (by decide) (fun c14 => ?_) (fun c14 => ?_)
          · refine fz_iload_n kX9_run rfl rfl ?_
            refine fz_iload_n kX9_run rfl rfl ?_
            refine fz_callS (d' := 0) (M' := mX9_ownerFrom) (As := [fz_i 5, fz_i 2]) (st := []) kX9_run rfl rfl vX9_ownerFrom rfl rfl (Nat.le_of_ble_eq_true rfl) (Nat.le_of_ble_eq_true rfl) (by decide) (sX9_ownerFrom_5_2 h hI  ) (fun H15 r16 q17 o18 => ?_)
            obtain ⟨e19, y21, rfl, f20⟩ := q17
            subst H15
            clear o18
            refine fz_eqi (show y21 = 3 by omega) ?_
            refine fz_istore (ls' := [(5, fz_i 3), (0, fz_r 44), (1, fz_i 5), (2, fz_i 2), (3, fz_i x), (4, fz_i dp)]) kX9_run rfl (by decide) rfl ?_
            refine fz_gets kX9_run rfl ?_
            refine fz_iload kX9_run rfl rfl ?_
            refine fz_taldV (v := 2) kX9_run rfl ⟨by decide, by decide⟩ (by omega) (by rw [hI.2.2.2.2]; decide) (by rw [hI.2.2.2.2]; rfl) ?_
            refine fz_istore (ls' := [(6, fz_i 2), (5, fz_i 3), (0, fz_r 44), (1, fz_i 5), (2, fz_i 2), (3, fz_i x), (4, fz_i dp)]) kX9_run rfl (by decide) rfl ?_
            refine fz_iload kX9_run rfl rfl ?_
            refine fz_iconst ⟨by decide, by decide⟩ kX9_run rfl ?_
            refine fz_iaddN kX9_run rfl (by omega) ?_
            refine fz_istore (ls' := [(7, fz_i (dp + 1)), (6, fz_i 2), (5, fz_i 3), (0, fz_r 44), (1, fz_i 5), (2, fz_i 2), (3, fz_i x), (4, fz_i dp)]) kX9_run rfl (by decide) rfl ?_
            refine fz_gets kX9_run rfl ?_
            refine fz_iload kX9_run rfl rfl ?_
            refine fz_iconst ⟨by decide, by decide⟩ kX9_run rfl ?_
            refine fz_imulN kX9_run rfl ⟨by decide, by decide⟩ ?_
            refine fz_eqi (y := 12) rfl ?_
            refine fz_iload_n kX9_run rfl rfl ?_
            refine fz_iaddN kX9_run rfl ⟨by decide, by decide⟩ ?_
            refine fz_eqi (y := 14) rfl ?_
            refine fz_taldV (v := 40) kX9_run rfl ⟨by decide, by decide⟩ (by omega) (by rw [hI.2.2.2.1]; decide) (by rw [hI.2.2.2.1]; rfl) ?_
            refine fz_istore (ls' := [(8, fz_i 40), (7, fz_i (dp + 1)), (6, fz_i 2), (5, fz_i 3), (0, fz_r 44), (1, fz_i 5), (2, fz_i 2), (3, fz_i x), (4, fz_i dp)]) kX9_run rfl (by decide) rfl ?_
            refine fz_aload_n kX9_run rfl rfl ?_
            refine fz_iload kX9_run rfl rfl ?_
            refine fz_callV (d' := 0) (M' := mX9_note) (As := [fz_i 40]) (st := []) kX9_run rfl rfl vX9_note rfl rfl rfl rfl (Nat.le_of_ble_eq_true rfl) (Nat.le_of_ble_eq_true rfl) (by decide) (sX9_note h hI 40 (by omega)) (fun H26 r27 q28 o29 => ?_)
            obtain ⟨hI30, hf31, rfl, f32⟩ := q28
            clear o29
            have hf33 := fz_fr_tr hf hf31 (show fz_su [(44, 3), (46, 99999)] [(44, 3), (46, 99999)] = true from rfl)
            refine fz_iload kX9_run rfl rfl ?_
            refine fz_lsw (tgt := 260) kX9_run rfl (by decide) (show Op.lookupswitch.offset [(1, 113), (2, 120), (10, 146), (11, 161), (20, 168), (30, 181), (40, 193), (41, 206), (50, 219), (60, 243), (70, 256), (80, 269), (81, 293)] 306 40 = 193 from rfl) (by decide) ?_
            refine fz_aload_n kX9_run rfl rfl ?_
            refine fz_iload kX9_run rfl rfl ?_
            refine fz_iconst ⟨by decide, by decide⟩ kX9_run rfl ?_
            refine fz_iload_n kX9_run rfl rfl ?_
            refine fz_iload kX9_run rfl rfl ?_
            have b34 : (-2147483648) ≤ H26 44 3 ∧ H26 44 3 ≤ 2147483647 := hI30.1 44 _
            have e35 : H26 44 5 = h 44 5 := hf33 44 5 rfl
            refine fz_callV (d' := 1) (M' := mX9_run) (As := [fz_i 2, fz_i 2, fz_i x, fz_i (dp + 1)]) (st := []) kX9_run rfl rfl vX9_run rfl rfl rfl rfl (Nat.le_of_ble_eq_true rfl) (Nat.le_of_ble_eq_true rfl) (by decide) (sX9_run_5_2_2 H26 hI30 x (dp + 1) (by omega) (by omega) (by omega)) (fun H36 r37 q38 o39 => ?_)
            obtain ⟨hI40, hf41, y43, rfl, f42⟩ := q38
            clear o39
            have hf44 := fz_fr_tr hf33 hf41 (show fz_su [(44, 3), (46, 99999)] [(44, 3), (46, 99999)] = true from rfl)
            refine fz_iconst ⟨by decide, by decide⟩ kX9_run rfl ?_
            refine fz_imul kX9_run rfl ?_
            refine fz_nmw (fun z45 e46 => ?_)
            exact fz_iret kX9_run rfl rfl (fun _ => ⟨hI40, hf44, _, rfl, (by omega)⟩)
          · exfalso; omega
    · refine fz_if_eq (tgt := 24) kX9_run rfl (by decide) (fun c47 => ?_) (fun c47 => ?_)
      · refine fz_iconst ⟨by decide, by decide⟩ kX9_run rfl ?_
        exact fz_iret kX9_run rfl rfl (fun _ => ⟨hI, hf, _, rfl, (by omega)⟩)
      · exfalso; omega

abbrev qX9_run_5_3_3 (h : fz_H) (x dp : Int) : fz_H → Option fz_V → Prop := fun h' r0 => fz_Iv h' ∧ fz_fr [(44, 3), (46, 99999)] h h' ∧ ∃ r : Int, r0 = some (fz_i r) ∧ (h' 44 3 = h 44 3 + 7)
set_option maxHeartbeats 1000000 in
set_option maxRecDepth 100000 in
theorem sX9_run_5_3_3 (h : fz_H) (hI : fz_Iv h) (x dp : Int) (hp0 : h 44 5 = 5) (hp1 : 0 ≤ dp ∧ dp ≤ 35) (hp2 : 0 ≤ h 44 3 ∧ h 44 3 ≤ 893) : fz_R 5 mX9_run 0 [(0, fz_r 44), (1, fz_i 3), (2, fz_i 3), (3, fz_i x), (4, fz_i dp)] [] h (qX9_run_5_3_3 h x dp) := by
  refine fz_knowl (fun hk => ?_)
  have hr_x : -2147483648 ≤ x ∧ x < 2147483648 := hk _ (List.Mem.tail _ (List.Mem.tail _ (List.Mem.tail _ (List.Mem.head _))))
  have hr_dp : -2147483648 ≤ dp ∧ dp < 2147483648 := hk _ (List.Mem.tail _ (List.Mem.tail _ (List.Mem.tail _ (List.Mem.tail _ (List.Mem.head _)))))
  clear hk
  have hf : fz_fr [(44, 3), (46, 99999)] h h := fz_fr_rf
  have b1 : 0 ≤ h 44 5 ∧ h 44 5 ≤ 7 := hI.1 44 _
  have b2 : (-2147483648) ≤ h 44 3 ∧ h 44 3 ≤ 2147483647 := hI.1 44 _
  refine fz_iload kX9_run rfl rfl ?_
  refine fz_bipush ⟨by decide, by decide⟩ kX9_run rfl ?_
  refine fz_icmp_gt (tgt := 24) kX9_run rfl (by decide) (fun c3 => ?_) (fun c3 => ?_)
  · exfalso; omega
  · refine fz_aload_n kX9_run rfl rfl ?_
    refine fz_iload_n kX9_run rfl rfl ?_
    refine fz_callV (d' := 0) (M' := mX9_isKind) (As := [fz_i 3]) (st := []) kX9_run rfl rfl vX9_isKind rfl rfl rfl rfl (Nat.le_of_ble_eq_true rfl) (Nat.le_of_ble_eq_true rfl) (by decide) (sX9_isKind h hI 3 ) (fun H4 r5 q6 o7 => ?_)
    obtain ⟨e8, y9, rfl, p10⟩ := q6
    subst H4
    clear o7
    rcases p10 with ⟨rfl, c11⟩ | ⟨rfl, c11⟩
    · refine fz_if_eq (tgt := 24) kX9_run rfl (by decide) (fun c12 => ?_) (fun c12 => ?_)
      · exfalso; omega
      · refine fz_iload_n kX9_run rfl rfl ?_
        refine fz_if_lt (tgt := 24) kX9_run rfl (by decide) (fun c13 => ?_) (fun c13 => ?_)
        · exfalso; omega
        · refine fz_iload_n kX9_run rfl rfl ?_
          refine fz_iconst ⟨by decide, by decide⟩ kX9_run rfl ?_
          refine fz_icmp_lt (tgt := 26) kX9_run rfl (by decide) (fun c14 => ?_) (fun c14 => ?_)
          · refine fz_iload_n kX9_run rfl rfl ?_
            refine fz_iload_n kX9_run rfl rfl ?_
            refine fz_callS (d' := 0) (M' := mX9_ownerFrom) (As := [fz_i 3, fz_i 3]) (st := []) kX9_run rfl rfl vX9_ownerFrom rfl rfl (Nat.le_of_ble_eq_true rfl) (Nat.le_of_ble_eq_true rfl) (by decide) (sX9_ownerFrom_3_3 h hI  ) (fun H15 r16 q17 o18 => ?_)
            obtain ⟨e19, y21, rfl, f20⟩ := q17
            subst H15
            clear o18
            refine fz_eqi (show y21 = 0 by omega) ?_
            refine fz_istore (ls' := [(5, fz_i 0), (0, fz_r 44), (1, fz_i 3), (2, fz_i 3), (3, fz_i x), (4, fz_i dp)]) kX9_run rfl (by decide) rfl ?_
            refine fz_gets kX9_run rfl ?_
            refine fz_iload kX9_run rfl rfl ?_
            refine fz_taldV (v := (-1)) kX9_run rfl ⟨by decide, by decide⟩ (by omega) (by rw [hI.2.2.2.2]; decide) (by rw [hI.2.2.2.2]; rfl) ?_
            refine fz_istore (ls' := [(6, fz_i (-1)), (5, fz_i 0), (0, fz_r 44), (1, fz_i 3), (2, fz_i 3), (3, fz_i x), (4, fz_i dp)]) kX9_run rfl (by decide) rfl ?_
            refine fz_iload kX9_run rfl rfl ?_
            refine fz_iconst ⟨by decide, by decide⟩ kX9_run rfl ?_
            refine fz_iaddN kX9_run rfl (by omega) ?_
            refine fz_istore (ls' := [(7, fz_i (dp + 1)), (6, fz_i (-1)), (5, fz_i 0), (0, fz_r 44), (1, fz_i 3), (2, fz_i 3), (3, fz_i x), (4, fz_i dp)]) kX9_run rfl (by decide) rfl ?_
            refine fz_gets kX9_run rfl ?_
            refine fz_iload kX9_run rfl rfl ?_
            refine fz_iconst ⟨by decide, by decide⟩ kX9_run rfl ?_
            refine fz_imulN kX9_run rfl ⟨by decide, by decide⟩ ?_
            refine fz_eqi (y := 0) rfl ?_
            refine fz_iload_n kX9_run rfl rfl ?_
            refine fz_iaddN kX9_run rfl ⟨by decide, by decide⟩ ?_
            refine fz_eqi (y := 3) rfl ?_
            refine fz_taldV (v := 2) kX9_run rfl ⟨by decide, by decide⟩ (by omega) (by rw [hI.2.2.2.1]; decide) (by rw [hI.2.2.2.1]; rfl) ?_
            refine fz_istore (ls' := [(8, fz_i 2), (7, fz_i (dp + 1)), (6, fz_i (-1)), (5, fz_i 0), (0, fz_r 44), (1, fz_i 3), (2, fz_i 3), (3, fz_i x), (4, fz_i dp)]) kX9_run rfl (by decide) rfl ?_
            refine fz_aload_n kX9_run rfl rfl ?_
            refine fz_iload kX9_run rfl rfl ?_
            refine fz_callV (d' := 0) (M' := mX9_note) (As := [fz_i 2]) (st := []) kX9_run rfl rfl vX9_note rfl rfl rfl rfl (Nat.le_of_ble_eq_true rfl) (Nat.le_of_ble_eq_true rfl) (by decide) (sX9_note h hI 2 (by omega)) (fun H26 r27 q28 o29 => ?_)
            obtain ⟨hI30, hf31, rfl, f32⟩ := q28
            clear o29
            have hf33 := fz_fr_tr hf hf31 (show fz_su [(44, 3), (46, 99999)] [(44, 3), (46, 99999)] = true from rfl)
            refine fz_iload kX9_run rfl rfl ?_
            refine fz_lsw (tgt := 187) kX9_run rfl (by decide) (show Op.lookupswitch.offset [(1, 113), (2, 120), (10, 146), (11, 161), (20, 168), (30, 181), (40, 193), (41, 206), (50, 219), (60, 243), (70, 256), (80, 269), (81, 293)] 306 2 = 120 from rfl) (by decide) ?_
            refine fz_aload_n kX9_run rfl rfl ?_
            refine fz_aload_n kX9_run rfl rfl ?_
            refine fz_getV (v := h 44 5) kX9_run rfl rfl (hf33 44 5 rfl) ?_
            have b34 : 0 ≤ h 44 5 ∧ h 44 5 ≤ 7 := hI.1 44 _
            refine fz_eqi (show (h 44 5) = 5 by omega) ?_
            refine fz_iconst ⟨by decide, by decide⟩ kX9_run rfl ?_
            refine fz_iload_n kX9_run rfl rfl ?_
            refine fz_iload kX9_run rfl rfl ?_
            have b35 : (-2147483648) ≤ H26 44 3 ∧ H26 44 3 ≤ 2147483647 := hI30.1 44 _
            have e36 : H26 44 5 = h 44 5 := hf33 44 5 rfl
            refine fz_callV (d' := 4) (M' := mX9_run) (As := [fz_i 5, fz_i 1, fz_i x, fz_i (dp + 1)]) (st := []) kX9_run rfl rfl vX9_run rfl rfl rfl rfl (Nat.le_of_ble_eq_true rfl) (Nat.le_of_ble_eq_true rfl) (by decide) (sX9_run_5_5_1 H26 hI30 x (dp + 1) (by omega) (by omega) (by omega)) (fun H37 r38 q39 o40 => ?_)
            obtain ⟨hI41, hf42, y44, rfl, f43⟩ := q39
            clear o40
            have hf45 := fz_fr_tr hf33 hf42 (show fz_su [(44, 3), (46, 99999)] [(44, 3), (46, 99999)] = true from rfl)
            refine fz_aload_n kX9_run rfl rfl ?_
            refine fz_aload_n kX9_run rfl rfl ?_
            refine fz_getV (v := h 44 5) kX9_run rfl rfl (hf45 44 5 rfl) ?_
            refine fz_eqi (show (h 44 5) = 5 by omega) ?_
            refine fz_iconst ⟨by decide, by decide⟩ kX9_run rfl ?_
            refine fz_iconst ⟨by decide, by decide⟩ kX9_run rfl ?_
            refine fz_iload kX9_run rfl rfl ?_
            have b46 : (-2147483648) ≤ H37 44 3 ∧ H37 44 3 ≤ 2147483647 := hI41.1 44 _
            have e47 : H37 44 5 = h 44 5 := hf45 44 5 rfl
            refine fz_callV (d' := 2) (M' := mX9_run) (As := [fz_i 5, fz_i 2, fz_i 1, fz_i (dp + 1)]) (st := [fz_i y44]) kX9_run rfl rfl vX9_run rfl rfl rfl rfl (Nat.le_of_ble_eq_true rfl) (Nat.le_of_ble_eq_true rfl) (by decide) (sX9_run_5_5_2 H37 hI41 1 (dp + 1) (by omega) (by omega) (by omega)) (fun H48 r49 q50 o51 => ?_)
            obtain ⟨hI52, hf53, y55, rfl, f54⟩ := q50
            clear o51
            have hf56 := fz_fr_tr hf45 hf53 (show fz_su [(44, 3), (46, 99999)] [(44, 3), (46, 99999)] = true from rfl)
            refine fz_isub kX9_run rfl ?_
            refine fz_nmw (fun z57 e58 => ?_)
            exact fz_iret kX9_run rfl rfl (fun _ => ⟨hI52, hf56, _, rfl, (by omega)⟩)
          · exfalso; omega
    · refine fz_if_eq (tgt := 24) kX9_run rfl (by decide) (fun c59 => ?_) (fun c59 => ?_)
      · refine fz_iconst ⟨by decide, by decide⟩ kX9_run rfl ?_
        exact fz_iret kX9_run rfl rfl (fun _ => ⟨hI, hf, _, rfl, (by omega)⟩)
      · exfalso; omega

abbrev qX9_run_5_5_3 (h : fz_H) (x dp : Int) : fz_H → Option fz_V → Prop := fun h' r0 => fz_Iv h' ∧ fz_fr [(44, 3), (46, 99999)] h h' ∧ ∃ r : Int, r0 = some (fz_i r) ∧ (h' 44 3 = h 44 3 + 8)
set_option maxHeartbeats 1000000 in
set_option maxRecDepth 100000 in
theorem sX9_run_5_5_3 (h : fz_H) (hI : fz_Iv h) (x dp : Int) (hp0 : h 44 5 = 5) (hp1 : 0 ≤ dp ∧ dp ≤ 34) (hp2 : 0 ≤ h 44 3 ∧ h 44 3 ≤ 892) : fz_R 6 mX9_run 0 [(0, fz_r 44), (1, fz_i 5), (2, fz_i 3), (3, fz_i x), (4, fz_i dp)] [] h (qX9_run_5_5_3 h x dp) := by
  refine fz_knowl (fun hk => ?_)
  have hr_x : -2147483648 ≤ x ∧ x < 2147483648 := hk _ (List.Mem.tail _ (List.Mem.tail _ (List.Mem.tail _ (List.Mem.head _))))
  have hr_dp : -2147483648 ≤ dp ∧ dp < 2147483648 := hk _ (List.Mem.tail _ (List.Mem.tail _ (List.Mem.tail _ (List.Mem.tail _ (List.Mem.head _)))))
  clear hk
  have hf : fz_fr [(44, 3), (46, 99999)] h h := fz_fr_rf
  have b1 : 0 ≤ h 44 5 ∧ h 44 5 ≤ 7 := hI.1 44 _
  have b2 : (-2147483648) ≤ h 44 3 ∧ h 44 3 ≤ 2147483647 := hI.1 44 _
  refine fz_iload kX9_run rfl rfl ?_
  refine fz_bipush ⟨by decide, by decide⟩ kX9_run rfl ?_
  refine fz_icmp_gt (tgt := 24) kX9_run rfl (by decide) (fun c3 => ?_) (fun c3 => ?_)
  · exfalso; omega
  · refine fz_aload_n kX9_run rfl rfl ?_
    refine fz_iload_n kX9_run rfl rfl ?_
    refine fz_callV (d' := 0) (M' := mX9_isKind) (As := [fz_i 5]) (st := []) kX9_run rfl rfl vX9_isKind rfl rfl rfl rfl (Nat.le_of_ble_eq_true rfl) (Nat.le_of_ble_eq_true rfl) (by decide) (sX9_isKind h hI 5 ) (fun H4 r5 q6 o7 => ?_)
    obtain ⟨e8, y9, rfl, p10⟩ := q6
    subst H4
    clear o7
    rcases p10 with ⟨rfl, c11⟩ | ⟨rfl, c11⟩
    · refine fz_if_eq (tgt := 24) kX9_run rfl (by decide) (fun c12 => ?_) (fun c12 => ?_)
      · exfalso; omega
      · refine fz_iload_n kX9_run rfl rfl ?_
        refine fz_if_lt (tgt := 24) kX9_run rfl (by decide) (fun c13 => ?_) (fun c13 => ?_)
        · exfalso; omega
        · refine fz_iload_n kX9_run rfl rfl ?_
          refine fz_iconst ⟨by decide, by decide⟩ kX9_run rfl ?_
          refine fz_icmp_lt (tgt := 26) kX9_run rfl (by decide) (fun c14 => ?_) (fun c14 => ?_)
          · refine fz_iload_n kX9_run rfl rfl ?_
            refine fz_iload_n kX9_run rfl rfl ?_
            refine fz_callS (d' := 0) (M' := mX9_ownerFrom) (As := [fz_i 5, fz_i 3]) (st := []) kX9_run rfl rfl vX9_ownerFrom rfl rfl (Nat.le_of_ble_eq_true rfl) (Nat.le_of_ble_eq_true rfl) (by decide) (sX9_ownerFrom_5_3 h hI  ) (fun H15 r16 q17 o18 => ?_)
            obtain ⟨e19, y21, rfl, f20⟩ := q17
            subst H15
            clear o18
            refine fz_eqi (show y21 = 5 by omega) ?_
            refine fz_istore (ls' := [(5, fz_i 5), (0, fz_r 44), (1, fz_i 5), (2, fz_i 3), (3, fz_i x), (4, fz_i dp)]) kX9_run rfl (by decide) rfl ?_
            refine fz_gets kX9_run rfl ?_
            refine fz_iload kX9_run rfl rfl ?_
            refine fz_taldV (v := 3) kX9_run rfl ⟨by decide, by decide⟩ (by omega) (by rw [hI.2.2.2.2]; decide) (by rw [hI.2.2.2.2]; rfl) ?_
            refine fz_istore (ls' := [(6, fz_i 3), (5, fz_i 5), (0, fz_r 44), (1, fz_i 5), (2, fz_i 3), (3, fz_i x), (4, fz_i dp)]) kX9_run rfl (by decide) rfl ?_
            refine fz_iload kX9_run rfl rfl ?_
            refine fz_iconst ⟨by decide, by decide⟩ kX9_run rfl ?_
            refine fz_iaddN kX9_run rfl (by omega) ?_
            refine fz_istore (ls' := [(7, fz_i (dp + 1)), (6, fz_i 3), (5, fz_i 5), (0, fz_r 44), (1, fz_i 5), (2, fz_i 3), (3, fz_i x), (4, fz_i dp)]) kX9_run rfl (by decide) rfl ?_
            refine fz_gets kX9_run rfl ?_
            refine fz_iload kX9_run rfl rfl ?_
            refine fz_iconst ⟨by decide, by decide⟩ kX9_run rfl ?_
            refine fz_imulN kX9_run rfl ⟨by decide, by decide⟩ ?_
            refine fz_eqi (y := 20) rfl ?_
            refine fz_iload_n kX9_run rfl rfl ?_
            refine fz_iaddN kX9_run rfl ⟨by decide, by decide⟩ ?_
            refine fz_eqi (y := 23) rfl ?_
            refine fz_taldV (v := 60) kX9_run rfl ⟨by decide, by decide⟩ (by omega) (by rw [hI.2.2.2.1]; decide) (by rw [hI.2.2.2.1]; rfl) ?_
            refine fz_istore (ls' := [(8, fz_i 60), (7, fz_i (dp + 1)), (6, fz_i 3), (5, fz_i 5), (0, fz_r 44), (1, fz_i 5), (2, fz_i 3), (3, fz_i x), (4, fz_i dp)]) kX9_run rfl (by decide) rfl ?_
            refine fz_aload_n kX9_run rfl rfl ?_
            refine fz_iload kX9_run rfl rfl ?_
            refine fz_callV (d' := 0) (M' := mX9_note) (As := [fz_i 60]) (st := []) kX9_run rfl rfl vX9_note rfl rfl rfl rfl (Nat.le_of_ble_eq_true rfl) (Nat.le_of_ble_eq_true rfl) (by decide) (sX9_note h hI 60 (by omega)) (fun H26 r27 q28 o29 => ?_)
            obtain ⟨hI30, hf31, rfl, f32⟩ := q28
            clear o29
            have hf33 := fz_fr_tr hf hf31 (show fz_su [(44, 3), (46, 99999)] [(44, 3), (46, 99999)] = true from rfl)
            refine fz_iload kX9_run rfl rfl ?_
            refine fz_lsw (tgt := 310) kX9_run rfl (by decide) (show Op.lookupswitch.offset [(1, 113), (2, 120), (10, 146), (11, 161), (20, 168), (30, 181), (40, 193), (41, 206), (50, 219), (60, 243), (70, 256), (80, 269), (81, 293)] 306 60 = 243 from rfl) (by decide) ?_
            refine fz_aload_n kX9_run rfl rfl ?_
            refine fz_iload kX9_run rfl rfl ?_
            refine fz_iconst ⟨by decide, by decide⟩ kX9_run rfl ?_
            refine fz_iload_n kX9_run rfl rfl ?_
            refine fz_iload kX9_run rfl rfl ?_
            have b34 : (-2147483648) ≤ H26 44 3 ∧ H26 44 3 ≤ 2147483647 := hI30.1 44 _
            have e35 : H26 44 5 = h 44 5 := hf33 44 5 rfl
            refine fz_callV (d' := 5) (M' := mX9_run) (As := [fz_i 3, fz_i 3, fz_i x, fz_i (dp + 1)]) (st := []) kX9_run rfl rfl vX9_run rfl rfl rfl rfl (Nat.le_of_ble_eq_true rfl) (Nat.le_of_ble_eq_true rfl) (by decide) (sX9_run_5_3_3 H26 hI30 x (dp + 1) (by omega) (by omega) (by omega)) (fun H36 r37 q38 o39 => ?_)
            obtain ⟨hI40, hf41, y43, rfl, f42⟩ := q38
            clear o39
            have hf44 := fz_fr_tr hf33 hf41 (show fz_su [(44, 3), (46, 99999)] [(44, 3), (46, 99999)] = true from rfl)
            refine fz_iconst ⟨by decide, by decide⟩ kX9_run rfl ?_
            refine fz_ixor kX9_run rfl ?_
            have b45 : -2147483648 ≤ (fz_xor y43 5) ∧ (fz_xor y43 5) < 2147483648 := fz_b32 _
            exact fz_iret kX9_run rfl rfl (fun _ => ⟨hI40, hf44, _, rfl, (by omega)⟩)
          · exfalso; omega
    · refine fz_if_eq (tgt := 24) kX9_run rfl (by decide) (fun c46 => ?_) (fun c46 => ?_)
      · refine fz_iconst ⟨by decide, by decide⟩ kX9_run rfl ?_
        exact fz_iret kX9_run rfl rfl (fun _ => ⟨hI, hf, _, rfl, (by omega)⟩)
      · exfalso; omega

abbrev qX9_run_6_0_0 (h : fz_H) (x dp : Int) : fz_H → Option fz_V → Prop := fun h' r0 => fz_Iv h' ∧ fz_fr [(44, 3), (46, 99999)] h h' ∧ ∃ r : Int, r0 = some (fz_i r) ∧ (h' 44 3 = h 44 3 + 1)
set_option maxHeartbeats 1000000 in
set_option maxRecDepth 100000 in
theorem sX9_run_6_0_0 (h : fz_H) (hI : fz_Iv h) (x dp : Int) (hp0 : h 44 5 = 6) (hp1 : 0 ≤ dp ∧ dp ≤ 39) (hp2 : 0 ≤ h 44 3 ∧ h 44 3 ≤ 899) : fz_R 1 mX9_run 0 [(0, fz_r 44), (1, fz_i 0), (2, fz_i 0), (3, fz_i x), (4, fz_i dp)] [] h (qX9_run_6_0_0 h x dp) := by
  refine fz_knowl (fun hk => ?_)
  have hr_x : -2147483648 ≤ x ∧ x < 2147483648 := hk _ (List.Mem.tail _ (List.Mem.tail _ (List.Mem.tail _ (List.Mem.head _))))
  have hr_dp : -2147483648 ≤ dp ∧ dp < 2147483648 := hk _ (List.Mem.tail _ (List.Mem.tail _ (List.Mem.tail _ (List.Mem.tail _ (List.Mem.head _)))))
  clear hk
  have hf : fz_fr [(44, 3), (46, 99999)] h h := fz_fr_rf
  have b1 : 0 ≤ h 44 5 ∧ h 44 5 ≤ 7 := hI.1 44 _
  have b2 : (-2147483648) ≤ h 44 3 ∧ h 44 3 ≤ 2147483647 := hI.1 44 _
  refine fz_iload kX9_run rfl rfl ?_
  refine fz_bipush ⟨by decide, by decide⟩ kX9_run rfl ?_
  refine fz_icmp_gt (tgt := 24) kX9_run rfl (by decide) (fun c3 => ?_) (fun c3 => ?_)
  · exfalso; omega
  · refine fz_aload_n kX9_run rfl rfl ?_
    refine fz_iload_n kX9_run rfl rfl ?_
    refine fz_callV (d' := 0) (M' := mX9_isKind) (As := [fz_i 0]) (st := []) kX9_run rfl rfl vX9_isKind rfl rfl rfl rfl (Nat.le_of_ble_eq_true rfl) (Nat.le_of_ble_eq_true rfl) (by decide) (sX9_isKind h hI 0 ) (fun H4 r5 q6 o7 => ?_)
    obtain ⟨e8, y9, rfl, p10⟩ := q6
    subst H4
    clear o7
    rcases p10 with ⟨rfl, c11⟩ | ⟨rfl, c11⟩
    · refine fz_if_eq (tgt := 24) kX9_run rfl (by decide) (fun c12 => ?_) (fun c12 => ?_)
      · exfalso; omega
      · refine fz_iload_n kX9_run rfl rfl ?_
        refine fz_if_lt (tgt := 24) kX9_run rfl (by decide) (fun c13 => ?_) (fun c13 => ?_)
        · exfalso; omega
        · refine fz_iload_n kX9_run rfl rfl ?_
          refine fz_iconst ⟨by decide, by decide⟩ kX9_run rfl ?_
          refine fz_icmp_lt (tgt := 26) kX9_run rfl (by decide) (fun c14 => ?_) (fun c14 => ?_)
          · refine fz_iload_n kX9_run rfl rfl ?_
            refine fz_iload_n kX9_run rfl rfl ?_
            refine fz_callS (d' := 0) (M' := mX9_ownerFrom) (As := [fz_i 0, fz_i 0]) (st := []) kX9_run rfl rfl vX9_ownerFrom rfl rfl (Nat.le_of_ble_eq_true rfl) (Nat.le_of_ble_eq_true rfl) (by decide) (sX9_ownerFrom_0_0 h hI  ) (fun H15 r16 q17 o18 => ?_)
            obtain ⟨e19, y21, rfl, f20⟩ := q17
            subst H15
            clear o18
            refine fz_eqi (show y21 = 0 by omega) ?_
            refine fz_istore (ls' := [(5, fz_i 0), (0, fz_r 44), (1, fz_i 0), (2, fz_i 0), (3, fz_i x), (4, fz_i dp)]) kX9_run rfl (by decide) rfl ?_
            refine fz_gets kX9_run rfl ?_
            refine fz_iload kX9_run rfl rfl ?_
            refine fz_taldV (v := (-1)) kX9_run rfl ⟨by decide, by decide⟩ (by omega) (by rw [hI.2.2.2.2]; decide) (by rw [hI.2.2.2.2]; rfl) ?_
            refine fz_istore (ls' := [(6, fz_i (-1)), (5, fz_i 0), (0, fz_r 44), (1, fz_i 0), (2, fz_i 0), (3, fz_i x), (4, fz_i dp)]) kX9_run rfl (by decide) rfl ?_
            refine fz_iload kX9_run rfl rfl ?_
            refine fz_iconst ⟨by decide, by decide⟩ kX9_run rfl ?_
            refine fz_iaddN kX9_run rfl (by omega) ?_
            refine fz_istore (ls' := [(7, fz_i (dp + 1)), (6, fz_i (-1)), (5, fz_i 0), (0, fz_r 44), (1, fz_i 0), (2, fz_i 0), (3, fz_i x), (4, fz_i dp)]) kX9_run rfl (by decide) rfl ?_
            refine fz_gets kX9_run rfl ?_
            refine fz_iload kX9_run rfl rfl ?_
            refine fz_iconst ⟨by decide, by decide⟩ kX9_run rfl ?_
            refine fz_imulN kX9_run rfl ⟨by decide, by decide⟩ ?_
            refine fz_eqi (y := 0) rfl ?_
            refine fz_iload_n kX9_run rfl rfl ?_
            refine fz_iaddN kX9_run rfl ⟨by decide, by decide⟩ ?_
            refine fz_eqi (y := 0) rfl ?_
            refine fz_taldV (v := 1) kX9_run rfl ⟨by decide, by decide⟩ (by omega) (by rw [hI.2.2.2.1]; decide) (by rw [hI.2.2.2.1]; rfl) ?_
            refine fz_istore (ls' := [(8, fz_i 1), (7, fz_i (dp + 1)), (6, fz_i (-1)), (5, fz_i 0), (0, fz_r 44), (1, fz_i 0), (2, fz_i 0), (3, fz_i x), (4, fz_i dp)]) kX9_run rfl (by decide) rfl ?_
            refine fz_aload_n kX9_run rfl rfl ?_
            refine fz_iload kX9_run rfl rfl ?_
            refine fz_callV (d' := 0) (M' := mX9_note) (As := [fz_i 1]) (st := []) kX9_run rfl rfl vX9_note rfl rfl rfl rfl (Nat.le_of_ble_eq_true rfl) (Nat.le_of_ble_eq_true rfl) (by decide) (sX9_note h hI 1 (by omega)) (fun H26 r27 q28 o29 => ?_)
            obtain ⟨hI30, hf31, rfl, f32⟩ := q28
            clear o29
            have hf33 := fz_fr_tr hf hf31 (show fz_su [(44, 3), (46, 99999)] [(44, 3), (46, 99999)] = true from rfl)
            refine fz_iload kX9_run rfl rfl ?_
            refine fz_lsw (tgt := 180) kX9_run rfl (by decide) (show Op.lookupswitch.offset [(1, 113), (2, 120), (10, 146), (11, 161), (20, 168), (30, 181), (40, 193), (41, 206), (50, 219), (60, 243), (70, 256), (80, 269), (81, 293)] 306 1 = 113 from rfl) (by decide) ?_
            refine fz_iload_n kX9_run rfl rfl ?_
            refine fz_aload_n kX9_run rfl rfl ?_
            refine fz_getV (v := h 44 4) kX9_run rfl rfl (hf33 44 4 rfl) ?_
            have b34 : 0 ≤ h 44 4 ∧ h 44 4 ≤ 49 := hI.1 44 _
            refine fz_iadd kX9_run rfl ?_
            refine fz_nmw (fun z35 e36 => ?_)
            exact fz_iret kX9_run rfl rfl (fun _ => ⟨hI30, hf33, _, rfl, (by omega)⟩)
          · exfalso; omega
    · refine fz_if_eq (tgt := 24) kX9_run rfl (by decide) (fun c37 => ?_) (fun c37 => ?_)
      · refine fz_iconst ⟨by decide, by decide⟩ kX9_run rfl ?_
        exact fz_iret kX9_run rfl rfl (fun _ => ⟨hI, hf, _, rfl, (by omega)⟩)
      · exfalso; omega

abbrev qX9_run_6_6_0 (h : fz_H) (x dp : Int) : fz_H → Option fz_V → Prop := fun h' r0 => fz_Iv h' ∧ fz_fr [(44, 3), (46, 99999)] h h' ∧ ∃ r : Int, r0 = some (fz_i r) ∧ (h' 44 3 = h 44 3 + 2)
set_option maxHeartbeats 1000000 in
set_option maxRecDepth 100000 in
theorem sX9_run_6_6_0 (h : fz_H) (hI : fz_Iv h) (x dp : Int) (hp0 : h 44 5 = 6) (hp1 : 0 ≤ dp ∧ dp ≤ 38) (hp2 : 0 ≤ h 44 3 ∧ h 44 3 ≤ 898) : fz_R 2 mX9_run 0 [(0, fz_r 44), (1, fz_i 6), (2, fz_i 0), (3, fz_i x), (4, fz_i dp)] [] h (qX9_run_6_6_0 h x dp) := by
  refine fz_knowl (fun hk => ?_)
  have hr_x : -2147483648 ≤ x ∧ x < 2147483648 := hk _ (List.Mem.tail _ (List.Mem.tail _ (List.Mem.tail _ (List.Mem.head _))))
  have hr_dp : -2147483648 ≤ dp ∧ dp < 2147483648 := hk _ (List.Mem.tail _ (List.Mem.tail _ (List.Mem.tail _ (List.Mem.tail _ (List.Mem.head _)))))
  clear hk
  have hf : fz_fr [(44, 3), (46, 99999)] h h := fz_fr_rf
  have b1 : 0 ≤ h 44 5 ∧ h 44 5 ≤ 7 := hI.1 44 _
  have b2 : (-2147483648) ≤ h 44 3 ∧ h 44 3 ≤ 2147483647 := hI.1 44 _
  refine fz_iload kX9_run rfl rfl ?_
  refine fz_bipush ⟨by decide, by decide⟩ kX9_run rfl ?_
  refine fz_icmp_gt (tgt := 24) kX9_run rfl (by decide) (fun c3 => ?_) (fun c3 => ?_)
  · exfalso; omega
  · refine fz_aload_n kX9_run rfl rfl ?_
    refine fz_iload_n kX9_run rfl rfl ?_
    refine fz_callV (d' := 0) (M' := mX9_isKind) (As := [fz_i 6]) (st := []) kX9_run rfl rfl vX9_isKind rfl rfl rfl rfl (Nat.le_of_ble_eq_true rfl) (Nat.le_of_ble_eq_true rfl) (by decide) (sX9_isKind h hI 6 ) (fun H4 r5 q6 o7 => ?_)
    obtain ⟨e8, y9, rfl, p10⟩ := q6
    subst H4
    clear o7
    rcases p10 with ⟨rfl, c11⟩ | ⟨rfl, c11⟩
    · refine fz_if_eq (tgt := 24) kX9_run rfl (by decide) (fun c12 => ?_) (fun c12 => ?_)
      · exfalso; omega
      · refine fz_iload_n kX9_run rfl rfl ?_
        refine fz_if_lt (tgt := 24) kX9_run rfl (by decide) (fun c13 => ?_) (fun c13 => ?_)
        · exfalso; omega
        · refine fz_iload_n kX9_run rfl rfl ?_
          refine fz_iconst ⟨by decide, by decide⟩ kX9_run rfl ?_
          refine fz_icmp_lt (tgt := 26) kX9_run rfl (by decide) (fun c14 => ?_) (fun c14 => ?_)
          · refine fz_iload_n kX9_run rfl rfl ?_
            refine fz_iload_n kX9_run rfl rfl ?_
            refine fz_callS (d' := 0) (M' := mX9_ownerFrom) (As := [fz_i 6, fz_i 0]) (st := []) kX9_run rfl rfl vX9_ownerFrom rfl rfl (Nat.le_of_ble_eq_true rfl) (Nat.le_of_ble_eq_true rfl) (by decide) (sX9_ownerFrom_6_0 h hI  ) (fun H15 r16 q17 o18 => ?_)
            obtain ⟨e19, y21, rfl, f20⟩ := q17
            subst H15
            clear o18
            refine fz_eqi (show y21 = 6 by omega) ?_
            refine fz_istore (ls' := [(5, fz_i 6), (0, fz_r 44), (1, fz_i 6), (2, fz_i 0), (3, fz_i x), (4, fz_i dp)]) kX9_run rfl (by decide) rfl ?_
            refine fz_gets kX9_run rfl ?_
            refine fz_iload kX9_run rfl rfl ?_
            refine fz_taldV (v := 0) kX9_run rfl ⟨by decide, by decide⟩ (by omega) (by rw [hI.2.2.2.2]; decide) (by rw [hI.2.2.2.2]; rfl) ?_
            refine fz_istore (ls' := [(6, fz_i 0), (5, fz_i 6), (0, fz_r 44), (1, fz_i 6), (2, fz_i 0), (3, fz_i x), (4, fz_i dp)]) kX9_run rfl (by decide) rfl ?_
            refine fz_iload kX9_run rfl rfl ?_
            refine fz_iconst ⟨by decide, by decide⟩ kX9_run rfl ?_
            refine fz_iaddN kX9_run rfl (by omega) ?_
            refine fz_istore (ls' := [(7, fz_i (dp + 1)), (6, fz_i 0), (5, fz_i 6), (0, fz_r 44), (1, fz_i 6), (2, fz_i 0), (3, fz_i x), (4, fz_i dp)]) kX9_run rfl (by decide) rfl ?_
            refine fz_gets kX9_run rfl ?_
            refine fz_iload kX9_run rfl rfl ?_
            refine fz_iconst ⟨by decide, by decide⟩ kX9_run rfl ?_
            refine fz_imulN kX9_run rfl ⟨by decide, by decide⟩ ?_
            refine fz_eqi (y := 24) rfl ?_
            refine fz_iload_n kX9_run rfl rfl ?_
            refine fz_iaddN kX9_run rfl ⟨by decide, by decide⟩ ?_
            refine fz_eqi (y := 24) rfl ?_
            refine fz_taldV (v := 70) kX9_run rfl ⟨by decide, by decide⟩ (by omega) (by rw [hI.2.2.2.1]; decide) (by rw [hI.2.2.2.1]; rfl) ?_
            refine fz_istore (ls' := [(8, fz_i 70), (7, fz_i (dp + 1)), (6, fz_i 0), (5, fz_i 6), (0, fz_r 44), (1, fz_i 6), (2, fz_i 0), (3, fz_i x), (4, fz_i dp)]) kX9_run rfl (by decide) rfl ?_
            refine fz_aload_n kX9_run rfl rfl ?_
            refine fz_iload kX9_run rfl rfl ?_
            refine fz_callV (d' := 0) (M' := mX9_note) (As := [fz_i 70]) (st := []) kX9_run rfl rfl vX9_note rfl rfl rfl rfl (Nat.le_of_ble_eq_true rfl) (Nat.le_of_ble_eq_true rfl) (by decide) (sX9_note h hI 70 (by omega)) (fun H26 r27 q28 o29 => ?_)
            obtain ⟨hI30, hf31, rfl, f32⟩ := q28
            clear o29
            have hf33 := fz_fr_tr hf hf31 (show fz_su [(44, 3), (46, 99999)] [(44, 3), (46, 99999)] = true from rfl)
            refine fz_iload kX9_run rfl rfl ?_
            refine fz_lsw (tgt := 323) kX9_run rfl (by decide) (show Op.lookupswitch.offset [(1, 113), (2, 120), (10, 146), (11, 161), (20, 168), (30, 181), (40, 193), (41, 206), (50, 219), (60, 243), (70, 256), (80, 269), (81, 293)] 306 70 = 256 from rfl) (by decide) ?_
            refine fz_aload_n kX9_run rfl rfl ?_
            refine fz_iload kX9_run rfl rfl ?_
            refine fz_iconst ⟨by decide, by decide⟩ kX9_run rfl ?_
            refine fz_iload_n kX9_run rfl rfl ?_
            refine fz_iload kX9_run rfl rfl ?_
            have b34 : (-2147483648) ≤ H26 44 3 ∧ H26 44 3 ≤ 2147483647 := hI30.1 44 _
            have e35 : H26 44 5 = h 44 5 := hf33 44 5 rfl
            refine fz_callV (d' := 1) (M' := mX9_run) (As := [fz_i 0, fz_i 0, fz_i x, fz_i (dp + 1)]) (st := []) kX9_run rfl rfl vX9_run rfl rfl rfl rfl (Nat.le_of_ble_eq_true rfl) (Nat.le_of_ble_eq_true rfl) (by decide) (sX9_run_6_0_0 H26 hI30 x (dp + 1) (by omega) (by omega) (by omega)) (fun H36 r37 q38 o39 => ?_)
            obtain ⟨hI40, hf41, y43, rfl, f42⟩ := q38
            clear o39
            have hf44 := fz_fr_tr hf33 hf41 (show fz_su [(44, 3), (46, 99999)] [(44, 3), (46, 99999)] = true from rfl)
            refine fz_iconst ⟨by decide, by decide⟩ kX9_run rfl ?_
            refine fz_imul kX9_run rfl ?_
            refine fz_nmw (fun z45 e46 => ?_)
            exact fz_iret kX9_run rfl rfl (fun _ => ⟨hI40, hf44, _, rfl, (by omega)⟩)
          · exfalso; omega
    · refine fz_if_eq (tgt := 24) kX9_run rfl (by decide) (fun c47 => ?_) (fun c47 => ?_)
      · refine fz_iconst ⟨by decide, by decide⟩ kX9_run rfl ?_
        exact fz_iret kX9_run rfl rfl (fun _ => ⟨hI, hf, _, rfl, (by omega)⟩)
      · exfalso; omega

abbrev qX9_run_6_6_1 (h : fz_H) (x dp : Int) : fz_H → Option fz_V → Prop := fun h' r0 => fz_Iv h' ∧ fz_fr [(44, 3), (46, 99999)] h h' ∧ ∃ r : Int, r0 = some (fz_i r) ∧ (h' 44 3 = h 44 3 + 3)
set_option maxHeartbeats 1000000 in
set_option maxRecDepth 100000 in
theorem sX9_run_6_6_1 (h : fz_H) (hI : fz_Iv h) (x dp : Int) (hp0 : h 44 5 = 6) (hp1 : 0 ≤ dp ∧ dp ≤ 37) (hp2 : 0 ≤ h 44 3 ∧ h 44 3 ≤ 897) : fz_R 3 mX9_run 0 [(0, fz_r 44), (1, fz_i 6), (2, fz_i 1), (3, fz_i x), (4, fz_i dp)] [] h (qX9_run_6_6_1 h x dp) := by
  refine fz_knowl (fun hk => ?_)
  have hr_x : -2147483648 ≤ x ∧ x < 2147483648 := hk _ (List.Mem.tail _ (List.Mem.tail _ (List.Mem.tail _ (List.Mem.head _))))
  have hr_dp : -2147483648 ≤ dp ∧ dp < 2147483648 := hk _ (List.Mem.tail _ (List.Mem.tail _ (List.Mem.tail _ (List.Mem.tail _ (List.Mem.head _)))))
  clear hk
  have hf : fz_fr [(44, 3), (46, 99999)] h h := fz_fr_rf
  have b1 : 0 ≤ h 44 5 ∧ h 44 5 ≤ 7 := hI.1 44 _
  have b2 : (-2147483648) ≤ h 44 3 ∧ h 44 3 ≤ 2147483647 := hI.1 44 _
  refine fz_iload kX9_run rfl rfl ?_
  refine fz_bipush ⟨by decide, by decide⟩ kX9_run rfl ?_
  refine fz_icmp_gt (tgt := 24) kX9_run rfl (by decide) (fun c3 => ?_) (fun c3 => ?_)
  · exfalso; omega
  · refine fz_aload_n kX9_run rfl rfl ?_
    refine fz_iload_n kX9_run rfl rfl ?_
    refine fz_callV (d' := 0) (M' := mX9_isKind) (As := [fz_i 6]) (st := []) kX9_run rfl rfl vX9_isKind rfl rfl rfl rfl (Nat.le_of_ble_eq_true rfl) (Nat.le_of_ble_eq_true rfl) (by decide) (sX9_isKind h hI 6 ) (fun H4 r5 q6 o7 => ?_)
    obtain ⟨e8, y9, rfl, p10⟩ := q6
    subst H4
    clear o7
    rcases p10 with ⟨rfl, c11⟩ | ⟨rfl, c11⟩
    · refine fz_if_eq (tgt := 24) kX9_run rfl (by decide) (fun c12 => ?_) (fun c12 => ?_)
      · exfalso; omega
      · refine fz_iload_n kX9_run rfl rfl ?_
        refine fz_if_lt (tgt := 24) kX9_run rfl (by decide) (fun c13 => ?_) (fun c13 => ?_)
        · exfalso; omega
        · refine fz_iload_n kX9_run rfl rfl ?_
          refine fz_iconst ⟨by decide, by decide⟩ kX9_run rfl ?_
          refine fz_icmp_lt (tgt := 26) kX9_run rfl (by decide) (fun c14 => ?_) (fun c14 => ?_)
          · refine fz_iload_n kX9_run rfl rfl ?_
            refine fz_iload_n kX9_run rfl rfl ?_
            refine fz_callS (d' := 0) (M' := mX9_ownerFrom) (As := [fz_i 6, fz_i 1]) (st := []) kX9_run rfl rfl vX9_ownerFrom rfl rfl (Nat.le_of_ble_eq_true rfl) (Nat.le_of_ble_eq_true rfl) (by decide) (sX9_ownerFrom_6_1 h hI  ) (fun H15 r16 q17 o18 => ?_)
            obtain ⟨e19, y21, rfl, f20⟩ := q17
            subst H15
            clear o18
            refine fz_eqi (show y21 = 0 by omega) ?_
            refine fz_istore (ls' := [(5, fz_i 0), (0, fz_r 44), (1, fz_i 6), (2, fz_i 1), (3, fz_i x), (4, fz_i dp)]) kX9_run rfl (by decide) rfl ?_
            refine fz_gets kX9_run rfl ?_
            refine fz_iload kX9_run rfl rfl ?_
            refine fz_taldV (v := (-1)) kX9_run rfl ⟨by decide, by decide⟩ (by omega) (by rw [hI.2.2.2.2]; decide) (by rw [hI.2.2.2.2]; rfl) ?_
            refine fz_istore (ls' := [(6, fz_i (-1)), (5, fz_i 0), (0, fz_r 44), (1, fz_i 6), (2, fz_i 1), (3, fz_i x), (4, fz_i dp)]) kX9_run rfl (by decide) rfl ?_
            refine fz_iload kX9_run rfl rfl ?_
            refine fz_iconst ⟨by decide, by decide⟩ kX9_run rfl ?_
            refine fz_iaddN kX9_run rfl (by omega) ?_
            refine fz_istore (ls' := [(7, fz_i (dp + 1)), (6, fz_i (-1)), (5, fz_i 0), (0, fz_r 44), (1, fz_i 6), (2, fz_i 1), (3, fz_i x), (4, fz_i dp)]) kX9_run rfl (by decide) rfl ?_
            refine fz_gets kX9_run rfl ?_
            refine fz_iload kX9_run rfl rfl ?_
            refine fz_iconst ⟨by decide, by decide⟩ kX9_run rfl ?_
            refine fz_imulN kX9_run rfl ⟨by decide, by decide⟩ ?_
            refine fz_eqi (y := 0) rfl ?_
            refine fz_iload_n kX9_run rfl rfl ?_
            refine fz_iaddN kX9_run rfl ⟨by decide, by decide⟩ ?_
            refine fz_eqi (y := 1) rfl ?_
            refine fz_taldV (v := 10) kX9_run rfl ⟨by decide, by decide⟩ (by omega) (by rw [hI.2.2.2.1]; decide) (by rw [hI.2.2.2.1]; rfl) ?_
            refine fz_istore (ls' := [(8, fz_i 10), (7, fz_i (dp + 1)), (6, fz_i (-1)), (5, fz_i 0), (0, fz_r 44), (1, fz_i 6), (2, fz_i 1), (3, fz_i x), (4, fz_i dp)]) kX9_run rfl (by decide) rfl ?_
            refine fz_aload_n kX9_run rfl rfl ?_
            refine fz_iload kX9_run rfl rfl ?_
            refine fz_callV (d' := 0) (M' := mX9_note) (As := [fz_i 10]) (st := []) kX9_run rfl rfl vX9_note rfl rfl rfl rfl (Nat.le_of_ble_eq_true rfl) (Nat.le_of_ble_eq_true rfl) (by decide) (sX9_note h hI 10 (by omega)) (fun H26 r27 q28 o29 => ?_)
            obtain ⟨hI30, hf31, rfl, f32⟩ := q28
            clear o29
            have hf33 := fz_fr_tr hf hf31 (show fz_su [(44, 3), (46, 99999)] [(44, 3), (46, 99999)] = true from rfl)
            refine fz_iload kX9_run rfl rfl ?_
            refine fz_lsw (tgt := 213) kX9_run rfl (by decide) (show Op.lookupswitch.offset [(1, 113), (2, 120), (10, 146), (11, 161), (20, 168), (30, 181), (40, 193), (41, 206), (50, 219), (60, 243), (70, 256), (80, 269), (81, 293)] 306 10 = 146 from rfl) (by decide) ?_
            refine fz_aload_n kX9_run rfl rfl ?_
            refine fz_aload_n kX9_run rfl rfl ?_
            refine fz_getV (v := h 44 5) kX9_run rfl rfl (hf33 44 5 rfl) ?_
            have b34 : 0 ≤ h 44 5 ∧ h 44 5 ≤ 7 := hI.1 44 _
            refine fz_eqi (show (h 44 5) = 6 by omega) ?_
            refine fz_iconst ⟨by decide, by decide⟩ kX9_run rfl ?_
            refine fz_iload_n kX9_run rfl rfl ?_
            refine fz_iload kX9_run rfl rfl ?_
            have b35 : (-2147483648) ≤ H26 44 3 ∧ H26 44 3 ≤ 2147483647 := hI30.1 44 _
            have e36 : H26 44 5 = h 44 5 := hf33 44 5 rfl
            refine fz_callV (d' := 2) (M' := mX9_run) (As := [fz_i 6, fz_i 0, fz_i x, fz_i (dp + 1)]) (st := []) kX9_run rfl rfl vX9_run rfl rfl rfl rfl (Nat.le_of_ble_eq_true rfl) (Nat.le_of_ble_eq_true rfl) (by decide) (sX9_run_6_6_0 H26 hI30 x (dp + 1) (by omega) (by omega) (by omega)) (fun H37 r38 q39 o40 => ?_)
            obtain ⟨hI41, hf42, y44, rfl, f43⟩ := q39
            clear o40
            have hf45 := fz_fr_tr hf33 hf42 (show fz_su [(44, 3), (46, 99999)] [(44, 3), (46, 99999)] = true from rfl)
            refine fz_iconst ⟨by decide, by decide⟩ kX9_run rfl ?_
            refine fz_imul kX9_run rfl ?_
            refine fz_nmw (fun z46 e47 => ?_)
            exact fz_iret kX9_run rfl rfl (fun _ => ⟨hI41, hf45, _, rfl, (by omega)⟩)
          · exfalso; omega
    · refine fz_if_eq (tgt := 24) kX9_run rfl (by decide) (fun c48 => ?_) (fun c48 => ?_)
      · refine fz_iconst ⟨by decide, by decide⟩ kX9_run rfl ?_
        exact fz_iret kX9_run rfl rfl (fun _ => ⟨hI, hf, _, rfl, (by omega)⟩)
      · exfalso; omega

abbrev qX9_run_6_6_2 (h : fz_H) (x dp : Int) : fz_H → Option fz_V → Prop := fun h' r0 => fz_Iv h' ∧ fz_fr [(44, 3), (46, 99999)] h h' ∧ ∃ r : Int, r0 = some (fz_i r) ∧ (h' 44 3 = h 44 3 + 1)
set_option maxHeartbeats 1000000 in
set_option maxRecDepth 100000 in
theorem sX9_run_6_6_2 (h : fz_H) (hI : fz_Iv h) (x dp : Int) (hp0 : h 44 5 = 6) (hp1 : 0 ≤ dp ∧ dp ≤ 39) (hp2 : 0 ≤ h 44 3 ∧ h 44 3 ≤ 899) : fz_R 1 mX9_run 0 [(0, fz_r 44), (1, fz_i 6), (2, fz_i 2), (3, fz_i x), (4, fz_i dp)] [] h (qX9_run_6_6_2 h x dp) := by
  refine fz_knowl (fun hk => ?_)
  have hr_x : -2147483648 ≤ x ∧ x < 2147483648 := hk _ (List.Mem.tail _ (List.Mem.tail _ (List.Mem.tail _ (List.Mem.head _))))
  have hr_dp : -2147483648 ≤ dp ∧ dp < 2147483648 := hk _ (List.Mem.tail _ (List.Mem.tail _ (List.Mem.tail _ (List.Mem.tail _ (List.Mem.head _)))))
  clear hk
  have hf : fz_fr [(44, 3), (46, 99999)] h h := fz_fr_rf
  have b1 : 0 ≤ h 44 5 ∧ h 44 5 ≤ 7 := hI.1 44 _
  have b2 : (-2147483648) ≤ h 44 3 ∧ h 44 3 ≤ 2147483647 := hI.1 44 _
  refine fz_iload kX9_run rfl rfl ?_
  refine fz_bipush ⟨by decide, by decide⟩ kX9_run rfl ?_
  refine fz_icmp_gt (tgt := 24) kX9_run rfl (by decide) (fun c3 => ?_) (fun c3 => ?_)
  · exfalso; omega
  · refine fz_aload_n kX9_run rfl rfl ?_
    refine fz_iload_n kX9_run rfl rfl ?_
    refine fz_callV (d' := 0) (M' := mX9_isKind) (As := [fz_i 6]) (st := []) kX9_run rfl rfl vX9_isKind rfl rfl rfl rfl (Nat.le_of_ble_eq_true rfl) (Nat.le_of_ble_eq_true rfl) (by decide) (sX9_isKind h hI 6 ) (fun H4 r5 q6 o7 => ?_)
    obtain ⟨e8, y9, rfl, p10⟩ := q6
    subst H4
    clear o7
    rcases p10 with ⟨rfl, c11⟩ | ⟨rfl, c11⟩
    · refine fz_if_eq (tgt := 24) kX9_run rfl (by decide) (fun c12 => ?_) (fun c12 => ?_)
      · exfalso; omega
      · refine fz_iload_n kX9_run rfl rfl ?_
        refine fz_if_lt (tgt := 24) kX9_run rfl (by decide) (fun c13 => ?_) (fun c13 => ?_)
        · exfalso; omega
        · refine fz_iload_n kX9_run rfl rfl ?_
          refine fz_iconst ⟨by decide, by decide⟩ kX9_run rfl ?_
          refine fz_icmp_lt (tgt := 26) kX9_run rfl (by decide) (fun c14 => ?_) (fun c14 => ?_)
          · refine fz_iload_n kX9_run rfl rfl ?_
            refine fz_iload_n kX9_run rfl rfl ?_
            refine fz_callS (d' := 0) (M' := mX9_ownerFrom) (As := [fz_i 6, fz_i 2]) (st := []) kX9_run rfl rfl vX9_ownerFrom rfl rfl (Nat.le_of_ble_eq_true rfl) (Nat.le_of_ble_eq_true rfl) (by decide) (sX9_ownerFrom_6_2 h hI  ) (fun H15 r16 q17 o18 => ?_)
            obtain ⟨e19, y21, rfl, f20⟩ := q17
            subst H15
            clear o18
            refine fz_eqi (show y21 = 0 by omega) ?_
            refine fz_istore (ls' := [(5, fz_i 0), (0, fz_r 44), (1, fz_i 6), (2, fz_i 2), (3, fz_i x), (4, fz_i dp)]) kX9_run rfl (by decide) rfl ?_
            refine fz_gets kX9_run rfl ?_
            refine fz_iload kX9_run rfl rfl ?_
            refine fz_taldV (v := (-1)) kX9_run rfl ⟨by decide, by decide⟩ (by omega) (by rw [hI.2.2.2.2]; decide) (by rw [hI.2.2.2.2]; rfl) ?_
            refine fz_istore (ls' := [(6, fz_i (-1)), (5, fz_i 0), (0, fz_r 44), (1, fz_i 6), (2, fz_i 2), (3, fz_i x), (4, fz_i dp)]) kX9_run rfl (by decide) rfl ?_
            refine fz_iload kX9_run rfl rfl ?_
            refine fz_iconst ⟨by decide, by decide⟩ kX9_run rfl ?_
            refine fz_iaddN kX9_run rfl (by omega) ?_
            refine fz_istore (ls' := [(7, fz_i (dp + 1)), (6, fz_i (-1)), (5, fz_i 0), (0, fz_r 44), (1, fz_i 6), (2, fz_i 2), (3, fz_i x), (4, fz_i dp)]) kX9_run rfl (by decide) rfl ?_
            refine fz_gets kX9_run rfl ?_
            refine fz_iload kX9_run rfl rfl ?_
            refine fz_iconst ⟨by decide, by decide⟩ kX9_run rfl ?_
            refine fz_imulN kX9_run rfl ⟨by decide, by decide⟩ ?_
            refine fz_eqi (y := 0) rfl ?_
            refine fz_iload_n kX9_run rfl rfl ?_
            refine fz_iaddN kX9_run rfl ⟨by decide, by decide⟩ ?_
            refine fz_eqi (y := 2) rfl ?_
            refine fz_taldV (v := 11) kX9_run rfl ⟨by decide, by decide⟩ (by omega) (by rw [hI.2.2.2.1]; decide) (by rw [hI.2.2.2.1]; rfl) ?_
            refine fz_istore (ls' := [(8, fz_i 11), (7, fz_i (dp + 1)), (6, fz_i (-1)), (5, fz_i 0), (0, fz_r 44), (1, fz_i 6), (2, fz_i 2), (3, fz_i x), (4, fz_i dp)]) kX9_run rfl (by decide) rfl ?_
            refine fz_aload_n kX9_run rfl rfl ?_
            refine fz_iload kX9_run rfl rfl ?_
            refine fz_callV (d' := 0) (M' := mX9_note) (As := [fz_i 11]) (st := []) kX9_run rfl rfl vX9_note rfl rfl rfl rfl (Nat.le_of_ble_eq_true rfl) (Nat.le_of_ble_eq_true rfl) (by decide) (sX9_note h hI 11 (by omega)) (fun H26 r27 q28 o29 => ?_)
            obtain ⟨hI30, hf31, rfl, f32⟩ := q28
            clear o29
            have hf33 := fz_fr_tr hf hf31 (show fz_su [(44, 3), (46, 99999)] [(44, 3), (46, 99999)] = true from rfl)
            refine fz_iload kX9_run rfl rfl ?_
            refine fz_lsw (tgt := 228) kX9_run rfl (by decide) (show Op.lookupswitch.offset [(1, 113), (2, 120), (10, 146), (11, 161), (20, 168), (30, 181), (40, 193), (41, 206), (50, 219), (60, 243), (70, 256), (80, 269), (81, 293)] 306 11 = 161 from rfl) (by decide) ?_
            refine fz_iload_n kX9_run rfl rfl ?_
            refine fz_aload_n kX9_run rfl rfl ?_
            refine fz_getV (v := h 44 4) kX9_run rfl rfl (hf33 44 4 rfl) ?_
            have b34 : 0 ≤ h 44 4 ∧ h 44 4 ≤ 49 := hI.1 44 _
            refine fz_ixor kX9_run rfl ?_
            have b35 : -2147483648 ≤ (fz_xor x (h 44 4)) ∧ (fz_xor x (h 44 4)) < 2147483648 := fz_b32 _
            exact fz_iret kX9_run rfl rfl (fun _ => ⟨hI30, hf33, _, rfl, (by omega)⟩)
          · exfalso; omega
    · refine fz_if_eq (tgt := 24) kX9_run rfl (by decide) (fun c36 => ?_) (fun c36 => ?_)
      · refine fz_iconst ⟨by decide, by decide⟩ kX9_run rfl ?_
        exact fz_iret kX9_run rfl rfl (fun _ => ⟨hI, hf, _, rfl, (by omega)⟩)
      · exfalso; omega

abbrev qX9_run_6_6_3 (h : fz_H) (x dp : Int) : fz_H → Option fz_V → Prop := fun h' r0 => fz_Iv h' ∧ fz_fr [(44, 3), (46, 99999)] h h' ∧ ∃ r : Int, r0 = some (fz_i r) ∧ (h' 44 3 = h 44 3 + 5)
set_option maxHeartbeats 1000000 in
set_option maxRecDepth 100000 in
theorem sX9_run_6_6_3 (h : fz_H) (hI : fz_Iv h) (x dp : Int) (hp0 : h 44 5 = 6) (hp1 : 0 ≤ dp ∧ dp ≤ 36) (hp2 : 0 ≤ h 44 3 ∧ h 44 3 ≤ 895) : fz_R 4 mX9_run 0 [(0, fz_r 44), (1, fz_i 6), (2, fz_i 3), (3, fz_i x), (4, fz_i dp)] [] h (qX9_run_6_6_3 h x dp) := by
  refine fz_knowl (fun hk => ?_)
  have hr_x : -2147483648 ≤ x ∧ x < 2147483648 := hk _ (List.Mem.tail _ (List.Mem.tail _ (List.Mem.tail _ (List.Mem.head _))))
  have hr_dp : -2147483648 ≤ dp ∧ dp < 2147483648 := hk _ (List.Mem.tail _ (List.Mem.tail _ (List.Mem.tail _ (List.Mem.tail _ (List.Mem.head _)))))
  clear hk
  have hf : fz_fr [(44, 3), (46, 99999)] h h := fz_fr_rf
  have b1 : 0 ≤ h 44 5 ∧ h 44 5 ≤ 7 := hI.1 44 _
  have b2 : (-2147483648) ≤ h 44 3 ∧ h 44 3 ≤ 2147483647 := hI.1 44 _
  refine fz_iload kX9_run rfl rfl ?_
  refine fz_bipush ⟨by decide, by decide⟩ kX9_run rfl ?_
  refine fz_icmp_gt (tgt := 24) kX9_run rfl (by decide) (fun c3 => ?_) (fun c3 => ?_)
  · exfalso; omega
  · refine fz_aload_n kX9_run rfl rfl ?_
    refine fz_iload_n kX9_run rfl rfl ?_
    refine fz_callV (d' := 0) (M' := mX9_isKind) (As := [fz_i 6]) (st := []) kX9_run rfl rfl vX9_isKind rfl rfl rfl rfl (Nat.le_of_ble_eq_true rfl) (Nat.le_of_ble_eq_true rfl) (by decide) (sX9_isKind h hI 6 ) (fun H4 r5 q6 o7 => ?_)
    obtain ⟨e8, y9, rfl, p10⟩ := q6
    subst H4
    clear o7
    rcases p10 with ⟨rfl, c11⟩ | ⟨rfl, c11⟩
    · refine fz_if_eq (tgt := 24) kX9_run rfl (by decide) (fun c12 => ?_) (fun c12 => ?_)
      · exfalso; omega
      · refine fz_iload_n kX9_run rfl rfl ?_
        refine fz_if_lt (tgt := 24) kX9_run rfl (by decide) (fun c13 => ?_) (fun c13 => ?_)
        · exfalso; omega
        · refine fz_iload_n kX9_run rfl rfl ?_
          refine fz_iconst ⟨by decide, by decide⟩ kX9_run rfl ?_
          refine fz_icmp_lt (tgt := 26) kX9_run rfl (by decide) (fun c14 => ?_) (fun c14 => ?_)
          · refine fz_iload_n kX9_run rfl rfl ?_
            refine fz_iload_n kX9_run rfl rfl ?_
            refine fz_callS (d' := 0) (M' := mX9_ownerFrom) (As := [fz_i 6, fz_i 3]) (st := []) kX9_run rfl rfl vX9_ownerFrom rfl rfl (Nat.le_of_ble_eq_true rfl) (Nat.le_of_ble_eq_true rfl) (by decide) (sX9_ownerFrom_6_3 h hI  ) (fun H15 r16 q17 o18 => ?_)
            obtain ⟨e19, y21, rfl, f20⟩ := q17
            subst H15
            clear o18
            refine fz_eqi (show y21 = 0 by omega) ?_
            refine fz_istore (ls' := [(5, fz_i 0), (0, fz_r 44), (1, fz_i 6), (2, fz_i 3), (3, fz_i x), (4, fz_i dp)]) kX9_run rfl (by decide) rfl ?_
            refine fz_gets kX9_run rfl ?_
            refine fz_iload kX9_run rfl rfl ?_
            refine fz_taldV (v := (-1)) kX9_run rfl ⟨by decide, by decide⟩ (by omega) (by rw [hI.2.2.2.2]; decide) (by rw [hI.2.2.2.2]; rfl) ?_
            refine fz_istore (ls' := [(6, fz_i (-1)), (5, fz_i 0), (0, fz_r 44), (1, fz_i 6), (2, fz_i 3), (3, fz_i x), (4, fz_i dp)]) kX9_run rfl (by decide) rfl ?_
            refine fz_iload kX9_run rfl rfl ?_
            refine fz_iconst ⟨by decide, by decide⟩ kX9_run rfl ?_
            refine fz_iaddN kX9_run rfl (by omega) ?_
            refine fz_istore (ls' := [(7, fz_i (dp + 1)), (6, fz_i (-1)), (5, fz_i 0), (0, fz_r 44), (1, fz_i 6), (2, fz_i 3), (3, fz_i x), (4, fz_i dp)]) kX9_run rfl (by decide) rfl ?_
            refine fz_gets kX9_run rfl ?_
            refine fz_iload kX9_run rfl rfl ?_
            refine fz_iconst ⟨by decide, by decide⟩ kX9_run rfl ?_
            refine fz_imulN kX9_run rfl ⟨by decide, by decide⟩ ?_
            refine fz_eqi (y := 0) rfl ?_
            refine fz_iload_n kX9_run rfl rfl ?_
            refine fz_iaddN kX9_run rfl ⟨by decide, by decide⟩ ?_
            refine fz_eqi (y := 3) rfl ?_
            refine fz_taldV (v := 2) kX9_run rfl ⟨by decide, by decide⟩ (by omega) (by rw [hI.2.2.2.1]; decide) (by rw [hI.2.2.2.1]; rfl) ?_
            refine fz_istore (ls' := [(8, fz_i 2), (7, fz_i (dp + 1)), (6, fz_i (-1)), (5, fz_i 0), (0, fz_r 44), (1, fz_i 6), (2, fz_i 3), (3, fz_i x), (4, fz_i dp)]) kX9_run rfl (by decide) rfl ?_
            refine fz_aload_n kX9_run rfl rfl ?_
            refine fz_iload kX9_run rfl rfl ?_
            refine fz_callV (d' := 0) (M' := mX9_note) (As := [fz_i 2]) (st := []) kX9_run rfl rfl vX9_note rfl rfl rfl rfl (Nat.le_of_ble_eq_true rfl) (Nat.le_of_ble_eq_true rfl) (by decide) (sX9_note h hI 2 (by omega)) (fun H26 r27 q28 o29 => ?_)
            obtain ⟨hI30, hf31, rfl, f32⟩ := q28
            clear o29
            have hf33 := fz_fr_tr hf hf31 (show fz_su [(44, 3), (46, 99999)] [(44, 3), (46, 99999)] = true from rfl)
            refine fz_iload kX9_run rfl rfl ?_
            refine fz_lsw (tgt := 187) kX9_run rfl (by decide) (show Op.lookupswitch.offset [(1, 113), (2, 120), (10, 146), (11, 161), (20, 168), (30, 181), (40, 193), (41, 206), (50, 219), (60, 243), (70, 256), (80, 269), (81, 293)] 306 2 = 120 from rfl) (by decide) ?_
            refine fz_aload_n kX9_run rfl rfl ?_
            refine fz_aload_n kX9_run rfl rfl ?_
            refine fz_getV (v := h 44 5) kX9_run rfl rfl (hf33 44 5 rfl) ?_
            have b34 : 0 ≤ h 44 5 ∧ h 44 5 ≤ 7 := hI.1 44 _
            refine fz_eqi (show (h 44 5) = 6 by omega) ?_
            refine fz_iconst ⟨by decide, by decide⟩ kX9_run rfl ?_
            refine fz_iload_n kX9_run rfl rfl ?_
            refine fz_iload kX9_run rfl rfl ?_
            have b35 : (-2147483648) ≤ H26 44 3 ∧ H26 44 3 ≤ 2147483647 := hI30.1 44 _
            have e36 : H26 44 5 = h 44 5 := hf33 44 5 rfl
            refine fz_callV (d' := 3) (M' := mX9_run) (As := [fz_i 6, fz_i 1, fz_i x, fz_i (dp + 1)]) (st := []) kX9_run rfl rfl vX9_run rfl rfl rfl rfl (Nat.le_of_ble_eq_true rfl) (Nat.le_of_ble_eq_true rfl) (by decide) (sX9_run_6_6_1 H26 hI30 x (dp + 1) (by omega) (by omega) (by omega)) (fun H37 r38 q39 o40 => ?_)
            obtain ⟨hI41, hf42, y44, rfl, f43⟩ := q39
            clear o40
            have hf45 := fz_fr_tr hf33 hf42 (show fz_su [(44, 3), (46, 99999)] [(44, 3), (46, 99999)] = true from rfl)
            refine fz_aload_n kX9_run rfl rfl ?_
            refine fz_aload_n kX9_run rfl rfl ?_
            refine fz_getV (v := h 44 5) kX9_run rfl rfl (hf45 44 5 rfl) ?_
            refine fz_eqi (show (h 44 5) = 6 by omega) ?_
            refine fz_iconst ⟨by decide, by decide⟩ kX9_run rfl ?_
            refine fz_iconst ⟨by decide, by decide⟩ kX9_run rfl ?_
            refine fz_iload kX9_run rfl rfl ?_
            have b46 : (-2147483648) ≤ H37 44 3 ∧ H37 44 3 ≤ 2147483647 := hI41.1 44 _
            have e47 : H37 44 5 = h 44 5 := hf45 44 5 rfl
            refine fz_callV (d' := 1) (M' := mX9_run) (As := [fz_i 6, fz_i 2, fz_i 1, fz_i (dp + 1)]) (st := [fz_i y44]) kX9_run rfl rfl vX9_run rfl rfl rfl rfl (Nat.le_of_ble_eq_true rfl) (Nat.le_of_ble_eq_true rfl) (by decide) (sX9_run_6_6_2 H37 hI41 1 (dp + 1) (by omega) (by omega) (by omega)) (fun H48 r49 q50 o51 => ?_)
            obtain ⟨hI52, hf53, y55, rfl, f54⟩ := q50
            clear o51
            have hf56 := fz_fr_tr hf45 hf53 (show fz_su [(44, 3), (46, 99999)] [(44, 3), (46, 99999)] = true from rfl)
            refine fz_isub kX9_run rfl ?_
            refine fz_nmw (fun z57 e58 => ?_)
            exact fz_iret kX9_run rfl rfl (fun _ => ⟨hI52, hf56, _, rfl, (by omega)⟩)
          · exfalso; omega
    · refine fz_if_eq (tgt := 24) kX9_run rfl (by decide) (fun c59 => ?_) (fun c59 => ?_)
      · refine fz_iconst ⟨by decide, by decide⟩ kX9_run rfl ?_
        exact fz_iret kX9_run rfl rfl (fun _ => ⟨hI, hf, _, rfl, (by omega)⟩)
      · exfalso; omega

abbrev qX9_run_7_0_0 (h : fz_H) (x dp : Int) : fz_H → Option fz_V → Prop := fun h' r0 => fz_Iv h' ∧ fz_fr [(44, 3), (46, 99999)] h h' ∧ ∃ r : Int, r0 = some (fz_i r) ∧ (h' 44 3 = h 44 3 + 1)
set_option maxHeartbeats 1000000 in
set_option maxRecDepth 100000 in
theorem sX9_run_7_0_0 (h : fz_H) (hI : fz_Iv h) (x dp : Int) (hp0 : h 44 5 = 7) (hp1 : 0 ≤ dp ∧ dp ≤ 39) (hp2 : 0 ≤ h 44 3 ∧ h 44 3 ≤ 899) : fz_R 1 mX9_run 0 [(0, fz_r 44), (1, fz_i 0), (2, fz_i 0), (3, fz_i x), (4, fz_i dp)] [] h (qX9_run_7_0_0 h x dp) := by
  refine fz_knowl (fun hk => ?_)
  have hr_x : -2147483648 ≤ x ∧ x < 2147483648 := hk _ (List.Mem.tail _ (List.Mem.tail _ (List.Mem.tail _ (List.Mem.head _))))
  have hr_dp : -2147483648 ≤ dp ∧ dp < 2147483648 := hk _ (List.Mem.tail _ (List.Mem.tail _ (List.Mem.tail _ (List.Mem.tail _ (List.Mem.head _)))))
  clear hk
  have hf : fz_fr [(44, 3), (46, 99999)] h h := fz_fr_rf
  have b1 : 0 ≤ h 44 5 ∧ h 44 5 ≤ 7 := hI.1 44 _
  have b2 : (-2147483648) ≤ h 44 3 ∧ h 44 3 ≤ 2147483647 := hI.1 44 _
  refine fz_iload kX9_run rfl rfl ?_
  refine fz_bipush ⟨by decide, by decide⟩ kX9_run rfl ?_
  refine fz_icmp_gt (tgt := 24) kX9_run rfl (by decide) (fun c3 => ?_) (fun c3 => ?_)
  · exfalso; omega
  · refine fz_aload_n kX9_run rfl rfl ?_
    refine fz_iload_n kX9_run rfl rfl ?_
    refine fz_callV (d' := 0) (M' := mX9_isKind) (As := [fz_i 0]) (st := []) kX9_run rfl rfl vX9_isKind rfl rfl rfl rfl (Nat.le_of_ble_eq_true rfl) (Nat.le_of_ble_eq_true rfl) (by decide) (sX9_isKind h hI 0 ) (fun H4 r5 q6 o7 => ?_)
    obtain ⟨e8, y9, rfl, p10⟩ := q6
    subst H4
    clear o7
    rcases p10 with ⟨rfl, c11⟩ | ⟨rfl, c11⟩
    · refine fz_if_eq (tgt := 24) kX9_run rfl (by decide) (fun c12 => ?_) (fun c12 => ?_)
      · exfalso; omega
      · refine fz_iload_n kX9_run rfl rfl ?_
        refine fz_if_lt (tgt := 24) kX9_run rfl (by decide) (fun c13 => ?_) (fun c13 => ?_)
        · exfalso; omega
        · refine fz_iload_n kX9_run rfl rfl ?_
          refine fz_iconst ⟨by decide, by decide⟩ kX9_run rfl ?_
          refine fz_icmp_lt (tgt := 26) kX9_run rfl (by decide) (fun c14 => ?_) (fun c14 => ?_)
          · refine fz_iload_n kX9_run rfl rfl ?_
            refine fz_iload_n kX9_run rfl rfl ?_
            refine fz_callS (d' := 0) (M' := mX9_ownerFrom) (As := [fz_i 0, fz_i 0]) (st := []) kX9_run rfl rfl vX9_ownerFrom rfl rfl (Nat.le_of_ble_eq_true rfl) (Nat.le_of_ble_eq_true rfl) (by decide) (sX9_ownerFrom_0_0 h hI  ) (fun H15 r16 q17 o18 => ?_)
            obtain ⟨e19, y21, rfl, f20⟩ := q17
            subst H15
            clear o18
            refine fz_eqi (show y21 = 0 by omega) ?_
            refine fz_istore (ls' := [(5, fz_i 0), (0, fz_r 44), (1, fz_i 0), (2, fz_i 0), (3, fz_i x), (4, fz_i dp)]) kX9_run rfl (by decide) rfl ?_
            refine fz_gets kX9_run rfl ?_
            refine fz_iload kX9_run rfl rfl ?_
            refine fz_taldV (v := (-1)) kX9_run rfl ⟨by decide, by decide⟩ (by omega) (by rw [hI.2.2.2.2]; decide) (by rw [hI.2.2.2.2]; rfl) ?_
            refine fz_istore (ls' := [(6, fz_i (-1)), (5, fz_i 0), (0, fz_r 44), (1, fz_i 0), (2, fz_i 0), (3, fz_i x), (4, fz_i dp)]) kX9_run rfl (by decide) rfl ?_
            refine fz_iload kX9_run rfl rfl ?_
            refine fz_iconst ⟨by decide, by decide⟩ kX9_run rfl ?_
            refine fz_iaddN kX9_run rfl (by omega) ?_
            refine fz_istore (ls' := [(7, fz_i (dp + 1)), (6, fz_i (-1)), (5, fz_i 0), (0, fz_r 44), (1, fz_i 0), (2, fz_i 0), (3, fz_i x), (4, fz_i dp)]) kX9_run rfl (by decide) rfl ?_
            refine fz_gets kX9_run rfl ?_
            refine fz_iload kX9_run rfl rfl ?_
            refine fz_iconst ⟨by decide, by decide⟩ kX9_run rfl ?_
            refine fz_imulN kX9_run rfl ⟨by decide, by decide⟩ ?_
            refine fz_eqi (y := 0) rfl ?_
            refine fz_iload_n kX9_run rfl rfl ?_
            refine fz_iaddN kX9_run rfl ⟨by decide, by decide⟩ ?_
            refine fz_eqi (y := 0) rfl ?_
            refine fz_taldV (v := 1) kX9_run rfl ⟨by decide, by decide⟩ (by omega) (by rw [hI.2.2.2.1]; decide) (by rw [hI.2.2.2.1]; rfl) ?_
            refine fz_istore (ls' := [(8, fz_i 1), (7, fz_i (dp + 1)), (6, fz_i (-1)), (5, fz_i 0), (0, fz_r 44), (1, fz_i 0), (2, fz_i 0), (3, fz_i x), (4, fz_i dp)]) kX9_run rfl (by decide) rfl ?_
            refine fz_aload_n kX9_run rfl rfl ?_
            refine fz_iload kX9_run rfl rfl ?_
            refine fz_callV (d' := 0) (M' := mX9_note) (As := [fz_i 1]) (st := []) kX9_run rfl rfl vX9_note rfl rfl rfl rfl (Nat.le_of_ble_eq_true rfl) (Nat.le_of_ble_eq_true rfl) (by decide) (sX9_note h hI 1 (by omega)) (fun H26 r27 q28 o29 => ?_)
            obtain ⟨hI30, hf31, rfl, f32⟩ := q28
            clear o29
            have hf33 := fz_fr_tr hf hf31 (show fz_su [(44, 3), (46, 99999)] [(44, 3), (46, 99999)] = true from rfl)
            refine fz_iload kX9_run rfl rfl ?_
            refine fz_lsw (tgt := 180) kX9_run rfl (by decide) (show Op.lookupswitch.offset [(1, 113), (2, 120), (10, 146), (11, 161), (20, 168), (30, 181), (40, 193), (41, 206), (50, 219), (60, 243), (70, 256), (80, 269), (81, 293)] 306 1 = 113 from rfl) (by decide) ?_
            refine fz_iload_n kX9_run rfl rfl ?_
            refine fz_aload_n kX9_run rfl rfl ?_
            refine fz_getV (v := h 44 4) kX9_run rfl rfl (hf33 44 4 rfl) ?_
            have b34 : 0 ≤ h 44 4 ∧ h 44 4 ≤ 49 := hI.1 44 _
            refine fz_iadd kX9_run rfl ?_
            refine fz_nmw (fun z35 e36 => ?_)
            exact fz_iret kX9_run rfl rfl (fun _ => ⟨hI30, hf33, _, rfl, (by omega)⟩)
          · exfalso; omega
    · refine fz_if_eq (tgt := 24) kX9_run rfl (by decide) (fun c37 => ?_) (fun c37 => ?_)
      · refine fz_iconst ⟨by decide, by decide⟩ kX9_run rfl ?_
        exact fz_iret kX9_run rfl rfl (fun _ => ⟨hI, hf, _, rfl, (by omega)⟩)
      · exfalso; omega

abbrev qX9_run_7_7_0 (h : fz_H) (x dp : Int) : fz_H → Option fz_V → Prop := fun h' r0 => fz_Iv h' ∧ fz_fr [(44, 3), (46, 99999)] h h' ∧ ∃ r : Int, r0 = some (fz_i r) ∧ (h' 44 3 = h 44 3 + 2)
set_option maxHeartbeats 1000000 in
set_option maxRecDepth 100000 in
theorem sX9_run_7_7_0 (h : fz_H) (hI : fz_Iv h) (x dp : Int) (hp0 : h 44 5 = 7) (hp1 : 0 ≤ dp ∧ dp ≤ 38) (hp2 : 0 ≤ h 44 3 ∧ h 44 3 ≤ 898) : fz_R 2 mX9_run 0 [(0, fz_r 44), (1, fz_i 7), (2, fz_i 0), (3, fz_i x), (4, fz_i dp)] [] h (qX9_run_7_7_0 h x dp) := by
  refine fz_knowl (fun hk => ?_)
  have hr_x : -2147483648 ≤ x ∧ x < 2147483648 := hk _ (List.Mem.tail _ (List.Mem.tail _ (List.Mem.tail _ (List.Mem.head _))))
  have hr_dp : -2147483648 ≤ dp ∧ dp < 2147483648 := hk _ (List.Mem.tail _ (List.Mem.tail _ (List.Mem.tail _ (List.Mem.tail _ (List.Mem.head _)))))
  clear hk
  have hf : fz_fr [(44, 3), (46, 99999)] h h := fz_fr_rf
  have b1 : 0 ≤ h 44 5 ∧ h 44 5 ≤ 7 := hI.1 44 _
  have b2 : (-2147483648) ≤ h 44 3 ∧ h 44 3 ≤ 2147483647 := hI.1 44 _
  refine fz_iload kX9_run rfl rfl ?_
  refine fz_bipush ⟨by decide, by decide⟩ kX9_run rfl ?_
  refine fz_icmp_gt (tgt := 24) kX9_run rfl (by decide) (fun c3 => ?_) (fun c3 => ?_)
  · exfalso; omega
  · refine fz_aload_n kX9_run rfl rfl ?_
    refine fz_iload_n kX9_run rfl rfl ?_
    refine fz_callV (d' := 0) (M' := mX9_isKind) (As := [fz_i 7]) (st := []) kX9_run rfl rfl vX9_isKind rfl rfl rfl rfl (Nat.le_of_ble_eq_true rfl) (Nat.le_of_ble_eq_true rfl) (by decide) (sX9_isKind h hI 7 ) (fun H4 r5 q6 o7 => ?_)
    obtain ⟨e8, y9, rfl, p10⟩ := q6
    subst H4
    clear o7
    rcases p10 with ⟨rfl, c11⟩ | ⟨rfl, c11⟩
    · refine fz_if_eq (tgt := 24) kX9_run rfl (by decide) (fun c12 => ?_) (fun c12 => ?_)
      · exfalso; omega
      · refine fz_iload_n kX9_run rfl rfl ?_
        refine fz_if_lt (tgt := 24) kX9_run rfl (by decide) (fun c13 => ?_) (fun c13 => ?_)
        · exfalso; omega
        · refine fz_iload_n kX9_run rfl rfl ?_
          refine fz_iconst ⟨by decide, by decide⟩ kX9_run rfl ?_
          refine fz_icmp_lt (tgt := 26) kX9_run rfl (by decide) (fun c14 => ?_) (fun c14 => ?_)
          · refine fz_iload_n kX9_run rfl rfl ?_
            refine fz_iload_n kX9_run rfl rfl ?_
            refine fz_callS (d' := 0) (M' := mX9_ownerFrom) (As := [fz_i 7, fz_i 0]) (st := []) kX9_run rfl rfl vX9_ownerFrom rfl rfl (Nat.le_of_ble_eq_true rfl) (Nat.le_of_ble_eq_true rfl) (by decide) (sX9_ownerFrom_7_0 h hI  ) (fun H15 r16 q17 o18 => ?_)
            obtain ⟨e19, y21, rfl, f20⟩ := q17
            subst H15
            clear o18
            refine fz_eqi (show y21 = 1 by omega) ?_
            refine fz_istore (ls' := [(5, fz_i 1), (0, fz_r 44), (1, fz_i 7), (2, fz_i 0), (3, fz_i x), (4, fz_i dp)]) kX9_run rfl (by decide) rfl ?_
            refine fz_gets kX9_run rfl ?_
            refine fz_iload kX9_run rfl rfl ?_
            refine fz_taldV (v := 0) kX9_run rfl ⟨by decide, by decide⟩ (by omega) (by rw [hI.2.2.2.2]; decide) (by rw [hI.2.2.2.2]; rfl) ?_
            refine fz_istore (ls' := [(6, fz_i 0), (5, fz_i 1), (0, fz_r 44), (1, fz_i 7), (2, fz_i 0), (3, fz_i x), (4, fz_i dp)]) kX9_run rfl (by decide) rfl ?_
            refine fz_iload kX9_run rfl rfl ?_
            refine fz_iconst ⟨by decide, by decide⟩ kX9_run rfl ?_
            refine fz_iaddN kX9_run rfl (by omega) ?_
            refine fz_istore (ls' := [(7, fz_i (dp + 1)), (6, fz_i 0), (5, fz_i 1), (0, fz_r 44), (1, fz_i 7), (2, fz_i 0), (3, fz_i x), (4, fz_i dp)]) kX9_run rfl (by decide) rfl ?_
            refine fz_gets kX9_run rfl ?_
            refine fz_iload kX9_run rfl rfl ?_
            refine fz_iconst ⟨by decide, by decide⟩ kX9_run rfl ?_
            refine fz_imulN kX9_run rfl ⟨by decide, by decide⟩ ?_
            refine fz_eqi (y := 4) rfl ?_
            refine fz_iload_n kX9_run rfl rfl ?_
            refine fz_iaddN kX9_run rfl ⟨by decide, by decide⟩ ?_
            refine fz_eqi (y := 4) rfl ?_
            refine fz_taldV (v := 20) kX9_run rfl ⟨by decide, by decide⟩ (by omega) (by rw [hI.2.2.2.1]; decide) (by rw [hI.2.2.2.1]; rfl) ?_
            refine fz_istore (ls' := [(8, fz_i 20), (7, fz_i (dp + 1)), (6, fz_i 0), (5, fz_i 1), (0, fz_r 44), (1, fz_i 7), (2, fz_i 0), (3, fz_i x), (4, fz_i dp)]) kX9_run rfl (by decide) rfl ?_
            refine fz_aload_n kX9_run rfl rfl ?_
            refine fz_iload kX9_run rfl rfl ?_
            refine fz_callV (d' := 0) (M' := mX9_note) (As := [fz_i 20]) (st := []) kX9_run rfl rfl vX9_note rfl rfl rfl rfl (Nat.le_of_ble_eq_true rfl) (Nat.le_of_ble_eq_true rfl) (by decide) (sX9_note h hI 20 (by omega)) (fun H26 r27 q28 o29 => ?_)
            obtain ⟨hI30, hf31, rfl, f32⟩ := q28
            clear o29
            have hf33 := fz_fr_tr hf hf31 (show fz_su [(44, 3), (46, 99999)] [(44, 3), (46, 99999)] = true from rfl)
            refine fz_iload kX9_run rfl rfl ?_
            refine fz_lsw (tgt := 235) kX9_run rfl (by decide) (show Op.lookupswitch.offset [(1, 113), (2, 120), (10, 146), (11, 161), (20, 168), (30, 181), (40, 193), (41, 206), (50, 219), (60, 243), (70, 256), (80, 269), (81, 293)] 306 20 = 168 from rfl) (by decide) ?_
            refine fz_aload_n kX9_run rfl rfl ?_
            refine fz_iload kX9_run rfl rfl ?_
            refine fz_iconst ⟨by decide, by decide⟩ kX9_run rfl ?_
            refine fz_iload_n kX9_run rfl rfl ?_
            refine fz_iload kX9_run rfl rfl ?_
            have b34 : (-2147483648) ≤ H26 44 3 ∧ H26 44 3 ≤ 2147483647 := hI30.1 44 _
            have e35 : H26 44 5 = h 44 5 := hf33 44 5 rfl
            refine fz_callV (d' := 1) (M' := mX9_run) (As := [fz_i 0, fz_i 0, fz_i x, fz_i (dp + 1)]) (st := []) kX9_run rfl rfl vX9_run rfl rfl rfl rfl (Nat.le_of_ble_eq_true rfl) (Nat.le_of_ble_eq_true rfl) (by decide) (sX9_run_7_0_0 H26 hI30 x (dp + 1) (by omega) (by omega) (by omega)) (fun H36 r37 q38 o39 => ?_)
            obtain ⟨hI40, hf41, y43, rfl, f42⟩ := q38
            clear o39
            have hf44 := fz_fr_tr hf33 hf41 (show fz_su [(44, 3), (46, 99999)] [(44, 3), (46, 99999)] = true from rfl)
            refine fz_iconst ⟨by decide, by decide⟩ kX9_run rfl ?_
            refine fz_iadd kX9_run rfl ?_
            refine fz_nmw (fun z45 e46 => ?_)
            exact fz_iret kX9_run rfl rfl (fun _ => ⟨hI40, hf44, _, rfl, (by omega)⟩)
          · exfalso; omega
    · refine fz_if_eq (tgt := 24) kX9_run rfl (by decide) (fun c47 => ?_) (fun c47 => ?_)
      · refine fz_iconst ⟨by decide, by decide⟩ kX9_run rfl ?_
        exact fz_iret kX9_run rfl rfl (fun _ => ⟨hI, hf, _, rfl, (by omega)⟩)
      · exfalso; omega

abbrev qX9_run_7_4_1 (h : fz_H) (x dp : Int) : fz_H → Option fz_V → Prop := fun h' r0 => fz_Iv h' ∧ fz_fr [(44, 3), (46, 99999)] h h' ∧ ∃ r : Int, r0 = some (fz_i r) ∧ (h' 44 3 = h 44 3 + 3)
set_option maxHeartbeats 1000000 in
set_option maxRecDepth 100000 in
theorem sX9_run_7_4_1 (h : fz_H) (hI : fz_Iv h) (x dp : Int) (hp0 : h 44 5 = 7) (hp1 : 0 ≤ dp ∧ dp ≤ 37) (hp2 : 0 ≤ h 44 3 ∧ h 44 3 ≤ 897) : fz_R 3 mX9_run 0 [(0, fz_r 44), (1, fz_i 4), (2, fz_i 1), (3, fz_i x), (4, fz_i dp)] [] h (qX9_run_7_4_1 h x dp) := by
  refine fz_knowl (fun hk => ?_)
  have hr_x : -2147483648 ≤ x ∧ x < 2147483648 := hk _ (List.Mem.tail _ (List.Mem.tail _ (List.Mem.tail _ (List.Mem.head _))))
  have hr_dp : -2147483648 ≤ dp ∧ dp < 2147483648 := hk _ (List.Mem.tail _ (List.Mem.tail _ (List.Mem.tail _ (List.Mem.tail _ (List.Mem.head _)))))
  clear hk
  have hf : fz_fr [(44, 3), (46, 99999)] h h := fz_fr_rf
  have b1 : 0 ≤ h 44 5 ∧ h 44 5 ≤ 7 := hI.1 44 _
  have b2 : (-2147483648) ≤ h 44 3 ∧ h 44 3 ≤ 2147483647 := hI.1 44 _
  refine fz_iload kX9_run rfl rfl ?_
  refine fz_bipush ⟨by decide, by decide⟩ kX9_run rfl ?_
  refine fz_icmp_gt (tgt := 24) kX9_run rfl (by decide) (fun c3 => ?_) (fun c3 => ?_)
  · exfalso; omega
  · refine fz_aload_n kX9_run rfl rfl ?_
    refine fz_iload_n kX9_run rfl rfl ?_
    refine fz_callV (d' := 0) (M' := mX9_isKind) (As := [fz_i 4]) (st := []) kX9_run rfl rfl vX9_isKind rfl rfl rfl rfl (Nat.le_of_ble_eq_true rfl) (Nat.le_of_ble_eq_true rfl) (by decide) (sX9_isKind h hI 4 ) (fun H4 r5 q6 o7 => ?_)
    obtain ⟨e8, y9, rfl, p10⟩ := q6
    subst H4
    clear o7
    rcases p10 with ⟨rfl, c11⟩ | ⟨rfl, c11⟩
    · refine fz_if_eq (tgt := 24) kX9_run rfl (by decide) (fun c12 => ?_) (fun c12 => ?_)
      · exfalso; omega
      · refine fz_iload_n kX9_run rfl rfl ?_
        refine fz_if_lt (tgt := 24) kX9_run rfl (by decide) (fun c13 => ?_) (fun c13 => ?_)
        · exfalso; omega
        · refine fz_iload_n kX9_run rfl rfl ?_
          refine fz_iconst ⟨by decide, by decide⟩ kX9_run rfl ?_
          refine fz_icmp_lt (tgt := 26) kX9_run rfl (by decide) (fun c14 => ?_) (fun c14 => ?_)
          · refine fz_iload_n kX9_run rfl rfl ?_
            refine fz_iload_n kX9_run rfl rfl ?_
            refine fz_callS (d' := 0) (M' := mX9_ownerFrom) (As := [fz_i 4, fz_i 1]) (st := []) kX9_run rfl rfl vX9_ownerFrom rfl rfl (Nat.le_of_ble_eq_true rfl) (Nat.le_of_ble_eq_true rfl) (by decide) (sX9_ownerFrom_4_1 h hI  ) (fun H15 r16 q17 o18 => ?_)
            obtain ⟨e19, y21, rfl, f20⟩ := q17
            subst H15
            clear o18
            refine fz_eqi (show y21 = 0 by omega) ?_
            refine fz_istore (ls' := [(5, fz_i 0), (0, fz_r 44), (1, fz_i 4), (2, fz_i 1), (3, fz_i x), (4, fz_i dp)]) kX9_run rfl (by decide) rfl ?_
            refine fz_gets kX9_run rfl ?_
            refine fz_iload kX9_run rfl rfl ?_
            refine fz_taldV (v := (-1)) kX9_run rfl ⟨by decide, by decide⟩ (by omega) (by rw [hI.2.2.2.2]; decide) (by rw [hI.2.2.2.2]; rfl) ?_
            refine fz_istore (ls' := [(6, fz_i (-1)), (5, fz_i 0), (0, fz_r 44), (1, fz_i 4), (2, fz_i 1), (3, fz_i x), (4, fz_i dp)]) kX9_run rfl (by decide) rfl ?_
            refine fz_iload kX9_run rfl rfl ?_
            refine fz_iconst ⟨by decide, by decide⟩ kX9_run rfl ?_
            refine fz_iaddN kX9_run rfl (by omega) ?_
            refine fz_istore (ls' := [(7, fz_i (dp + 1)), (6, fz_i (-1)), (5, fz_i 0), (0, fz_r 44), (1, fz_i 4), (2, fz_i 1), (3, fz_i x), (4, fz_i dp)]) kX9_run rfl (by decide) rfl ?_
            refine fz_gets kX9_run rfl ?_
            refine fz_iload kX9_run rfl rfl ?_
            refine fz_iconst ⟨by decide, by decide⟩ kX9_run rfl ?_
            refine fz_imulN kX9_run rfl ⟨by decide, by decide⟩ ?_
            refine fz_eqi (y := 0) rfl ?_
            refine fz_iload_n kX9_run rfl rfl ?_
            refine fz_iaddN kX9_run rfl ⟨by decide, by decide⟩ ?_
            refine fz_eqi (y := 1) rfl ?_
            refine fz_taldV (v := 10) kX9_run rfl ⟨by decide, by decide⟩ (by omega) (by rw [hI.2.2.2.1]; decide) (by rw [hI.2.2.2.1]; rfl) ?_
            refine fz_istore (ls' := [(8, fz_i 10), (7, fz_i (dp + 1)), (6, fz_i (-1)), (5, fz_i 0), (0, fz_r 44), (1, fz_i 4), (2, fz_i 1), (3, fz_i x), (4, fz_i dp)]) kX9_run rfl (by decide) rfl ?_
            refine fz_aload_n kX9_run rfl rfl ?_
            refine fz_iload kX9_run rfl rfl ?_
            refine fz_callV (d' := 0) (M' := mX9_note) (As := [fz_i 10]) (st := []) kX9_run rfl rfl vX9_note rfl rfl rfl rfl (Nat.le_of_ble_eq_true rfl) (Nat.le_of_ble_eq_true rfl) (by decide) (sX9_note h hI 10 (by omega)) (fun H26 r27 q28 o29 => ?_)
            obtain ⟨hI30, hf31, rfl, f32⟩ := q28
            clear o29
            have hf33 := fz_fr_tr hf hf31 (show fz_su [(44, 3), (46, 99999)] [(44, 3), (46, 99999)] = true from rfl)
            refine fz_iload kX9_run rfl rfl ?_
            refine fz_lsw (tgt := 213) kX9_run rfl (by decide) (show Op.lookupswitch.offset [(1, 113), (2, 120), (10, 146), (11, 161), (20, 168), (30, 181), (40, 193), (41, 206), (50, 219), (60, 243), (70, 256), (80, 269), (81, 293)] 306 10 = 146 from rfl) (by decide) ?_
            refine fz_aload_n kX9_run rfl rfl ?_
            refine fz_aload_n kX9_run rfl rfl ?_
            refine fz_getV (v := h 44 5) kX9_run rfl rfl (hf33 44 5 rfl) ?_
            have b34 : 0 ≤ h 44 5 ∧ h 44 5 ≤ 7 := hI.1 44 _
            refine fz_eqi (show (h 44 5) = 7 by omega) ?_
            refine fz_iconst ⟨by decide, by decide⟩ kX9_run rfl ?_
            refine fz_iload_n kX9_run rfl rfl ?_
            refine fz_iload kX9_run rfl rfl ?_
            have b35 : (-2147483648) ≤ H26 44 3 ∧ H26 44 3 ≤ 2147483647 := hI30.1 44 _
            have e36 : H26 44 5 = h 44 5 := hf33 44 5 rfl
            refine fz_callV (d' := 2) (M' := mX9_run) (As := [fz_i 7, fz_i 0, fz_i x, fz_i (dp + 1)]) (st := []) kX9_run rfl rfl vX9_run rfl rfl rfl rfl (Nat.le_of_ble_eq_true rfl) (Nat.le_of_ble_eq_true rfl) (by decide) (sX9_run_7_7_0 H26 hI30 x (dp + 1) (by omega) (by omega) (by omega)) (fun H37 r38 q39 o40 => ?_)
            obtain ⟨hI41, hf42, y44, rfl, f43⟩ := q39
            clear o40
            have hf45 := fz_fr_tr hf33 hf42 (show fz_su [(44, 3), (46, 99999)] [(44, 3), (46, 99999)] = true from rfl)
            refine fz_iconst ⟨by decide, by decide⟩ kX9_run rfl ?_
            refine fz_imul kX9_run rfl ?_
            refine fz_nmw (fun z46 e47 => ?_)
            exact fz_iret kX9_run rfl rfl (fun _ => ⟨hI41, hf45, _, rfl, (by omega)⟩)
          · exfalso; omega
    · refine fz_if_eq (tgt := 24) kX9_run rfl (by decide) (fun c48 => ?_) (fun c48 => ?_)
      · refine fz_iconst ⟨by decide, by decide⟩ kX9_run rfl ?_
        exact fz_iret kX9_run rfl rfl (fun _ => ⟨hI, hf, _, rfl, (by omega)⟩)
      · exfalso; omega

abbrev qX9_run_7_1_2 (h : fz_H) (x dp : Int) : fz_H → Option fz_V → Prop := fun h' r0 => fz_Iv h' ∧ fz_fr [(44, 3), (46, 99999)] h h' ∧ ∃ r : Int, r0 = some (fz_i r) ∧ (h' 44 3 = h 44 3 + 1)
set_option maxHeartbeats 1000000 in
set_option maxRecDepth 100000 in
theorem sX9_run_7_1_2 (h : fz_H) (hI : fz_Iv h) (x dp : Int) (hp0 : h 44 5 = 7) (hp1 : 0 ≤ dp ∧ dp ≤ 39) (hp2 : 0 ≤ h 44 3 ∧ h 44 3 ≤ 899) : fz_R 1 mX9_run 0 [(0, fz_r 44), (1, fz_i 1), (2, fz_i 2), (3, fz_i x), (4, fz_i dp)] [] h (qX9_run_7_1_2 h x dp) := by
  refine fz_knowl (fun hk => ?_)
  have hr_x : -2147483648 ≤ x ∧ x < 2147483648 := hk _ (List.Mem.tail _ (List.Mem.tail _ (List.Mem.tail _ (List.Mem.head _))))
  have hr_dp : -2147483648 ≤ dp ∧ dp < 2147483648 := hk _ (List.Mem.tail _ (List.Mem.tail _ (List.Mem.tail _ (List.Mem.tail _ (List.Mem.head _)))))
  clear hk
  have hf : fz_fr [(44, 3), (46, 99999)] h h := fz_fr_rf
  have b1 : 0 ≤ h 44 5 ∧ h 44 5 ≤ 7 := hI.1 44 _
  have b2 : (-2147483648) ≤ h 44 3 ∧ h 44 3 ≤ 2147483647 := hI.1 44 _
  refine fz_iload kX9_run rfl rfl ?_
  refine fz_bipush ⟨by decide, by decide⟩ kX9_run rfl ?_
  refine fz_icmp_gt (tgt := 24) kX9_run rfl (by decide) (fun c3 => ?_) (fun c3 => ?_)
  · exfalso; omega
  · refine fz_aload_n kX9_run rfl rfl ?_
    refine fz_iload_n kX9_run rfl rfl ?_
    refine fz_callV (d' := 0) (M' := mX9_isKind) (As := [fz_i 1]) (st := []) kX9_run rfl rfl vX9_isKind rfl rfl rfl rfl (Nat.le_of_ble_eq_true rfl) (Nat.le_of_ble_eq_true rfl) (by decide) (sX9_isKind h hI 1 ) (fun H4 r5 q6 o7 => ?_)
    obtain ⟨e8, y9, rfl, p10⟩ := q6
    subst H4
    clear o7
    rcases p10 with ⟨rfl, c11⟩ | ⟨rfl, c11⟩
    · refine fz_if_eq (tgt := 24) kX9_run rfl (by decide) (fun c12 => ?_) (fun c12 => ?_)
      · exfalso; omega
      · refine fz_iload_n kX9_run rfl rfl ?_
        refine fz_if_lt (tgt := 24) kX9_run rfl (by decide) (fun c13 => ?_) (fun c13 => ?_)
        · exfalso; omega
        · refine fz_iload_n kX9_run rfl rfl ?_
          refine fz_iconst ⟨by decide, by decide⟩ kX9_run rfl ?_
          refine fz_icmp_lt (tgt := 26) kX9_run rfl (by decide) (fun c14 => ?_) (fun c14 => ?_)
          · refine fz_iload_n kX9_run rfl rfl ?_
            refine fz_iload_n kX9_run rfl rfl ?_
            refine fz_callS (d' := 0) (M' := mX9_ownerFrom) (As := [fz_i 1, fz_i 2]) (st := []) kX9_run rfl rfl vX9_ownerFrom rfl rfl (Nat.le_of_ble_eq_true rfl) (Nat.le_of_ble_eq_true rfl) (by decide) (sX9_ownerFrom_1_2 h hI  ) (fun H15 r16 q17 o18 => ?_)
            obtain ⟨e19, y21, rfl, f20⟩ := q17
            subst H15
            clear o18
            refine fz_eqi (show y21 = 0 by omega) ?_
            refine fz_istore (ls' := [(5, fz_i 0), (0, fz_r 44), (1, fz_i 1), (2, fz_i 2), (3, fz_i x), (4, fz_i dp)]) kX9_run rfl (by decide) rfl ?_
            refine fz_gets kX9_run rfl ?_
            refine fz_iload kX9_run rfl rfl ?_
            refine fz_taldV (v := (-1)) kX9_run rfl ⟨by decide, by decide⟩ (by omega) (by rw [hI.2.2.2.2]; decide) (by rw [hI.2.2.2.2]; rfl) ?_
            refine fz_istore (ls' := [(6, fz_i (-1)), (5, fz_i 0), (0, fz_r 44), (1, fz_i 1), (2, fz_i 2), (3, fz_i x), (4, fz_i dp)]) kX9_run rfl (by decide) rfl ?_
            refine fz_iload kX9_run rfl rfl ?_
            refine fz_iconst ⟨by decide, by decide⟩ kX9_run rfl ?_
            refine fz_iaddN kX9_run rfl (by omega) ?_
            refine fz_istore (ls' := [(7, fz_i (dp + 1)), (6, fz_i (-1)), (5, fz_i 0), (0, fz_r 44), (1, fz_i 1), (2, fz_i 2), (3, fz_i x), (4, fz_i dp)]) kX9_run rfl (by decide) rfl ?_
            refine fz_gets kX9_run rfl ?_
            refine fz_iload kX9_run rfl rfl ?_
            refine fz_iconst ⟨by decide, by decide⟩ kX9_run rfl ?_
            refine fz_imulN kX9_run rfl ⟨by decide, by decide⟩ ?_
            refine fz_eqi (y := 0) rfl ?_
            refine fz_iload_n kX9_run rfl rfl ?_
            refine fz_iaddN kX9_run rfl ⟨by decide, by decide⟩ ?_
            refine fz_eqi (y := 2) rfl ?_
            refine fz_taldV (v := 11) kX9_run rfl ⟨by decide, by decide⟩ (by omega) (by rw [hI.2.2.2.1]; decide) (by rw [hI.2.2.2.1]; rfl) ?_
            refine fz_istore (ls' := [(8, fz_i 11), (7, fz_i (dp + 1)), (6, fz_i (-1)), (5, fz_i 0), (0, fz_r 44), (1, fz_i 1), (2, fz_i 2), (3, fz_i x), (4, fz_i dp)]) kX9_run rfl (by decide) rfl ?_
            refine fz_aload_n kX9_run rfl rfl ?_
            refine fz_iload kX9_run rfl rfl ?_
            refine fz_callV (d' := 0) (M' := mX9_note) (As := [fz_i 11]) (st := []) kX9_run rfl rfl vX9_note rfl rfl rfl rfl (Nat.le_of_ble_eq_true rfl) (Nat.le_of_ble_eq_true rfl) (by decide) (sX9_note h hI 11 (by omega)) (fun H26 r27 q28 o29 => ?_)
            obtain ⟨hI30, hf31, rfl, f32⟩ := q28
            clear o29
            have hf33 := fz_fr_tr hf hf31 (show fz_su [(44, 3), (46, 99999)] [(44, 3), (46, 99999)] = true from rfl)
            refine fz_iload kX9_run rfl rfl ?_
            refine fz_lsw (tgt := 228) kX9_run rfl (by decide) (show Op.lookupswitch.offset [(1, 113), (2, 120), (10, 146), (11, 161), (20, 168), (30, 181), (40, 193), (41, 206), (50, 219), (60, 243), (70, 256), (80, 269), (81, 293)] 306 11 = 161 from rfl) (by decide) ?_
            refine fz_iload_n kX9_run rfl rfl ?_
            refine fz_aload_n kX9_run rfl rfl ?_
            refine fz_getV (v := h 44 4) kX9_run rfl rfl (hf33 44 4 rfl) ?_
            have b34 : 0 ≤ h 44 4 ∧ h 44 4 ≤ 49 := hI.1 44 _
            refine fz_ixor kX9_run rfl ?_
            have b35 : -2147483648 ≤ (fz_xor x (h 44 4)) ∧ (fz_xor x (h 44 4)) < 2147483648 := fz_b32 _
            exact fz_iret kX9_run rfl rfl (fun _ => ⟨hI30, hf33, _, rfl, (by omega)⟩)
          · exfalso; omega
    · refine fz_if_eq (tgt := 24) kX9_run rfl (by decide) (fun c36 => ?_) (fun c36 => ?_)
      · refine fz_iconst ⟨by decide, by decide⟩ kX9_run rfl ?_
        exact fz_iret kX9_run rfl rfl (fun _ => ⟨hI, hf, _, rfl, (by omega)⟩)
      · exfalso; omega

abbrev qX9_run_7_7_2 (h : fz_H) (x dp : Int) : fz_H → Option fz_V → Prop := fun h' r0 => fz_Iv h' ∧ fz_fr [(44, 3), (46, 99999)] h h' ∧ ∃ r : Int, r0 = some (fz_i r) ∧ (h' 44 3 = h 44 3 + 4)
set_option maxHeartbeats 1000000 in
set_option maxRecDepth 100000 in
theorem sX9_run_7_7_2 (h : fz_H) (hI : fz_Iv h) (x dp : Int) (hp0 : h 44 5 = 7) (hp1 : 0 ≤ dp ∧ dp ≤ 37) (hp2 : 0 ≤ h 44 3 ∧ h 44 3 ≤ 896) : fz_R 3 mX9_run 0 [(0, fz_r 44), (1, fz_i 7), (2, fz_i 2), (3, fz_i x), (4, fz_i dp)] [] h (qX9_run_7_7_2 h x dp) := by
  refine fz_knowl (fun hk => ?_)
  have hr_x : -2147483648 ≤ x ∧ x < 2147483648 := hk _ (List.Mem.tail _ (List.Mem.tail _ (List.Mem.tail _ (List.Mem.head _))))
  have hr_dp : -2147483648 ≤ dp ∧ dp < 2147483648 := hk _ (List.Mem.tail _ (List.Mem.tail _ (List.Mem.tail _ (List.Mem.tail _ (List.Mem.head _)))))
  clear hk
  have hf : fz_fr [(44, 3), (46, 99999)] h h := fz_fr_rf
  have b1 : 0 ≤ h 44 5 ∧ h 44 5 ≤ 7 := hI.1 44 _
  have b2 : (-2147483648) ≤ h 44 3 ∧ h 44 3 ≤ 2147483647 := hI.1 44 _
  refine fz_iload kX9_run rfl rfl ?_
  refine fz_bipush ⟨by decide, by decide⟩ kX9_run rfl ?_
  refine fz_icmp_gt (tgt := 24) kX9_run rfl (by decide) (fun c3 => ?_) (fun c3 => ?_)
  · exfalso; omega
  · refine fz_aload_n kX9_run rfl rfl ?_
    refine fz_iload_n kX9_run rfl rfl ?_
    refine fz_callV (d' := 0) (M' := mX9_isKind) (As := [fz_i 7]) (st := []) kX9_run rfl rfl vX9_isKind rfl rfl rfl rfl (Nat.le_of_ble_eq_true rfl) (Nat.le_of_ble_eq_true rfl) (by decide) (sX9_isKind h hI 7 ) (fun H4 r5 q6 o7 => ?_)
    obtain ⟨e8, y9, rfl, p10⟩ := q6
    subst H4
    clear o7
    rcases p10 with ⟨rfl, c11⟩ | ⟨rfl, c11⟩
    · refine fz_if_eq (tgt := 24) kX9_run rfl (by decide) (fun c12 => ?_) (fun c12 => ?_)
      · exfalso; omega
      · refine fz_iload_n kX9_run rfl rfl ?_
        refine fz_if_lt (tgt := 24) kX9_run rfl (by decide) (fun c13 => ?_) (fun c13 => ?_)
        · exfalso; omega
        · refine fz_iload_n kX9_run rfl rfl ?_
          refine fz_iconst ⟨by decide, by decide⟩ kX9_run rfl ?_
          refine fz_icmp_lt (tgt := 26) kX9_run rfl (by decide) (fun c14 => ?_) (fun c14 => ?_)
          · refine fz_iload_n kX9_run rfl rfl ?_
            refine fz_iload_n kX9_run rfl rfl ?_
            refine fz_callS (d' := 0) (M' := mX9_ownerFrom) (As := [fz_i 7, fz_i 2]) (st := []) kX9_run rfl rfl vX9_ownerFrom rfl rfl (Nat.le_of_ble_eq_true rfl) (Nat.le_of_ble_eq_true rfl) (by decide) (sX9_ownerFrom_7_2 h hI  ) (fun H15 r16 q17 o18 => ?_)
            obtain ⟨e19, y21, rfl, f20⟩ := q17
            subst H15
            clear o18
            refine fz_eqi (show y21 = 4 by omega) ?_
            refine fz_istore (ls' := [(5, fz_i 4), (0, fz_r 44), (1, fz_i 7), (2, fz_i 2), (3, fz_i x), (4, fz_i dp)]) kX9_run rfl (by decide) rfl ?_
            refine fz_gets kX9_run rfl ?_
            refine fz_iload kX9_run rfl rfl ?_
            refine fz_taldV (v := 1) kX9_run rfl ⟨by decide, by decide⟩ (by omega) (by rw [hI.2.2.2.2]; decide) (by rw [hI.2.2.2.2]; rfl) ?_
            refine fz_istore (ls' := [(6, fz_i 1), (5, fz_i 4), (0, fz_r 44), (1, fz_i 7), (2, fz_i 2), (3, fz_i x), (4, fz_i dp)]) kX9_run rfl (by decide) rfl ?_
            refine fz_iload kX9_run rfl rfl ?_
            refine fz_iconst ⟨by decide, by decide⟩ kX9_run rfl ?_
            refine fz_iaddN kX9_run rfl (by omega) ?_
            refine fz_istore (ls' := [(7, fz_i (dp + 1)), (6, fz_i 1), (5, fz_i 4), (0, fz_r 44), (1, fz_i 7), (2, fz_i 2), (3, fz_i x), (4, fz_i dp)]) kX9_run rfl (by decide) rfl ?_
            refine fz_gets kX9_run rfl ?_
            refine fz_iload kX9_run rfl rfl ?_
            refine fz_iconst ⟨by decide, by decide⟩ kX9_run rfl ?_
            refine fz_imulN kX9_run rfl ⟨by decide, by decide⟩ ?_
            refine fz_eqi (y := 16) rfl ?_
            refine fz_iload_n kX9_run rfl rfl ?_
            refine fz_iaddN kX9_run rfl ⟨by decide, by decide⟩ ?_
            refine fz_eqi (y := 18) rfl ?_
            refine fz_taldV (v := 50) kX9_run rfl ⟨by decide, by decide⟩ (by omega) (by rw [hI.2.2.2.1]; decide) (by rw [hI.2.2.2.1]; rfl) ?_
            refine fz_istore (ls' := [(8, fz_i 50), (7, fz_i (dp + 1)), (6, fz_i 1), (5, fz_i 4), (0, fz_r 44), (1, fz_i 7), (2, fz_i 2), (3, fz_i x), (4, fz_i dp)]) kX9_run rfl (by decide) rfl ?_
            refine fz_aload_n kX9_run rfl rfl ?_
            refine fz_iload kX9_run rfl rfl ?_
            refine fz_callV (d' := 0) (M' := mX9_note) (As := [fz_i 50]) (st := []) kX9_run rfl rfl vX9_note rfl rfl rfl rfl (Nat.le_of_ble_eq_true rfl) (Nat.le_of_ble_eq_true rfl) (by decide) (sX9_note h hI 50 (by omega)) (fun H26 r27 q28 o29 => ?_)
            obtain ⟨hI30, hf31, rfl, f32⟩ := q28
            clear o29
            have hf33 := fz_fr_tr hf hf31 (show fz_su [(44, 3), (46, 99999)] [(44, 3), (46, 99999)] = true from rfl)
            refine fz_iload kX9_run rfl rfl ?_
            refine fz_lsw (tgt := 286) kX9_run rfl (by decide) (show Op.lookupswitch.offset [(1, 113), (2, 120), (10, 146), (11, 161), (20, 168), (30, 181), (40, 193), (41, 206), (50, 219), (60, 243), (70, 256), (80, 269), (81, 293)] 306 50 = 219 from rfl) (by decide) ?_
            refine fz_aload_n kX9_run rfl rfl ?_
            refine fz_iload kX9_run rfl rfl ?_
            refine fz_iconst ⟨by decide, by decide⟩ kX9_run rfl ?_
            refine fz_iload_n kX9_run rfl rfl ?_
            refine fz_iload kX9_run rfl rfl ?_
            have b34 : (-2147483648) ≤ H26 44 3 ∧ H26 44 3 ≤ 2147483647 := hI30.1 44 _
            have e35 : H26 44 5 = h 44 5 := hf33 44 5 rfl
            refine fz_callV (d' := 1) (M' := mX9_run) (As := [fz_i 1, fz_i 2, fz_i x, fz_i (dp + 1)]) (st := []) kX9_run rfl rfl vX9_run rfl rfl rfl rfl (Nat.le_of_ble_eq_true rfl) (Nat.le_of_ble_eq_true rfl) (by decide) (sX9_run_7_1_2 H26 hI30 x (dp + 1) (by omega) (by omega) (by omega)) (fun H36 r37 q38 o39 => ?_)
            obtain ⟨hI40, hf41, y43, rfl, f42⟩ := q38
            clear o39
            have hf44 := fz_fr_tr hf33 hf41 (show fz_su [(44, 3), (46, 99999)] [(44, 3), (46, 99999)] = true from rfl)
            refine fz_aload_n kX9_run rfl rfl ?_
            refine fz_aload_n kX9_run rfl rfl ?_
            refine fz_getV (v := h 44 5) kX9_run rfl rfl (hf44 44 5 rfl) ?_
            have b45 : 0 ≤ h 44 5 ∧ h 44 5 ≤ 7 := hI.1 44 _
            refine fz_eqi (show (h 44 5) = 7 by omega) ?_
            refine fz_iconst ⟨by decide, by decide⟩ kX9_run rfl ?_
            refine fz_iconst ⟨by decide, by decide⟩ kX9_run rfl ?_
            refine fz_iload kX9_run rfl rfl ?_
            have b46 : (-2147483648) ≤ H36 44 3 ∧ H36 44 3 ≤ 2147483647 := hI40.1 44 _
            have e47 : H36 44 5 = h 44 5 := hf44 44 5 rfl
            refine fz_callV (d' := 2) (M' := mX9_run) (As := [fz_i 7, fz_i 0, fz_i 2, fz_i (dp + 1)]) (st := [fz_i y43]) kX9_run rfl rfl vX9_run rfl rfl rfl rfl (Nat.le_of_ble_eq_true rfl) (Nat.le_of_ble_eq_true rfl) (by decide) (sX9_run_7_7_0 H36 hI40 2 (dp + 1) (by omega) (by omega) (by omega)) (fun H48 r49 q50 o51 => ?_)
            obtain ⟨hI52, hf53, y55, rfl, f54⟩ := q50
            clear o51
            have hf56 := fz_fr_tr hf44 hf53 (show fz_su [(44, 3), (46, 99999)] [(44, 3), (46, 99999)] = true from rfl)
            refine fz_isub kX9_run rfl ?_
            refine fz_nmw (fun z57 e58 => ?_)
            exact fz_iret kX9_run rfl rfl (fun _ => ⟨hI52, hf56, _, rfl, (by omega)⟩)
          · exfalso; omega
    · refine fz_if_eq (tgt := 24) kX9_run rfl (by decide) (fun c59 => ?_) (fun c59 => ?_)
      · refine fz_iconst ⟨by decide, by decide⟩ kX9_run rfl ?_
        exact fz_iret kX9_run rfl rfl (fun _ => ⟨hI, hf, _, rfl, (by omega)⟩)
      · exfalso; omega

abbrev qX9_run_7_7_1 (h : fz_H) (x dp : Int) : fz_H → Option fz_V → Prop := fun h' r0 => fz_Iv h' ∧ fz_fr [(44, 3), (46, 99999)] h h' ∧ ∃ r : Int, r0 = some (fz_i r) ∧ (h' 44 3 = h 44 3 + 8)
set_option maxHeartbeats 1000000 in
set_option maxRecDepth 100000 in
theorem sX9_run_7_7_1 (h : fz_H) (hI : fz_Iv h) (x dp : Int) (hp0 : h 44 5 = 7) (hp1 : 0 ≤ dp ∧ dp ≤ 36) (hp2 : 0 ≤ h 44 3 ∧ h 44 3 ≤ 892) : fz_R 4 mX9_run 0 [(0, fz_r 44), (1, fz_i 7), (2, fz_i 1), (3, fz_i x), (4, fz_i dp)] [] h (qX9_run_7_7_1 h x dp) := by
  refine fz_knowl (fun hk => ?_)
  have hr_x : -2147483648 ≤ x ∧ x < 2147483648 := hk _ (List.Mem.tail _ (List.Mem.tail _ (List.Mem.tail _ (List.Mem.head _))))
  have hr_dp : -2147483648 ≤ dp ∧ dp < 2147483648 := hk _ (List.Mem.tail _ (List.Mem.tail _ (List.Mem.tail _ (List.Mem.tail _ (List.Mem.head _)))))
  clear hk
  have hf : fz_fr [(44, 3), (46, 99999)] h h := fz_fr_rf
  have b1 : 0 ≤ h 44 5 ∧ h 44 5 ≤ 7 := hI.1 44 _
  have b2 : (-2147483648) ≤ h 44 3 ∧ h 44 3 ≤ 2147483647 := hI.1 44 _
  refine fz_iload kX9_run rfl rfl ?_
  refine fz_bipush ⟨by decide, by decide⟩ kX9_run rfl ?_
  refine fz_icmp_gt (tgt := 24) kX9_run rfl (by decide) (fun c3 => ?_) (fun c3 => ?_)
  · exfalso; omega
  · refine fz_aload_n kX9_run rfl rfl ?_
    refine fz_iload_n kX9_run rfl rfl ?_
    refine fz_callV (d' := 0) (M' := mX9_isKind) (As := [fz_i 7]) (st := []) kX9_run rfl rfl vX9_isKind rfl rfl rfl rfl (Nat.le_of_ble_eq_true rfl) (Nat.le_of_ble_eq_true rfl) (by decide) (sX9_isKind h hI 7 ) (fun H4 r5 q6 o7 => ?_)
    obtain ⟨e8, y9, rfl, p10⟩ := q6
    subst H4
    clear o7
    rcases p10 with ⟨rfl, c11⟩ | ⟨rfl, c11⟩
    · refine fz_if_eq (tgt := 24) kX9_run rfl (by decide) (fun c12 => ?_) (fun c12 => ?_)
      · exfalso; omega
      · refine fz_iload_n kX9_run rfl rfl ?_
        refine fz_if_lt (tgt := 24) kX9_run rfl (by decide) (fun c13 => ?_) (fun c13 => ?_)
        · exfalso; omega
        · refine fz_iload_n kX9_run rfl rfl ?_
          refine fz_iconst ⟨by decide, by decide⟩ kX9_run rfl ?_
          refine fz_icmp_lt (tgt := 26) kX9_run rfl (by decide) (fun c14 => ?_) (fun c14 => ?_)
          · refine fz_iload_n kX9_run rfl rfl ?_
            refine fz_iload_n kX9_run rfl rfl ?_
            refine fz_callS (d' := 0) (M' := mX9_ownerFrom) (As := [fz_i 7, fz_i 1]) (st := []) kX9_run rfl rfl vX9_ownerFrom rfl rfl (Nat.le_of_ble_eq_true rfl) (Nat.le_of_ble_eq_true rfl) (by decide) (sX9_ownerFrom_7_1 h hI  ) (fun H15 r16 q17 o18 => ?_)
            obtain ⟨e19, y21, rfl, f20⟩ := q17
            subst H15
            clear o18
            refine fz_eqi (show y21 = 7 by omega) ?_
            refine fz_istore (ls' := [(5, fz_i 7), (0, fz_r 44), (1, fz_i 7), (2, fz_i 1), (3, fz_i x), (4, fz_i dp)]) kX9_run rfl (by decide) rfl ?_
            refine fz_gets kX9_run rfl ?_
            refine fz_iload kX9_run rfl rfl ?_
            refine fz_taldV (v := 4) kX9_run rfl ⟨by decide, by decide⟩ (by omega) (by rw [hI.2.2.2.2]; decide) (by rw [hI.2.2.2.2]; rfl) ?_
            refine fz_istore (ls' := [(6, fz_i 4), (5, fz_i 7), (0, fz_r 44), (1, fz_i 7), (2, fz_i 1), (3, fz_i x), (4, fz_i dp)]) kX9_run rfl (by decide) rfl ?_
            refine fz_iload kX9_run rfl rfl ?_
            refine fz_iconst ⟨by decide, by decide⟩ kX9_run rfl ?_
            refine fz_iaddN kX9_run rfl (by omega) ?_
            refine fz_istore (ls' := [(7, fz_i (dp + 1)), (6, fz_i 4), (5, fz_i 7), (0, fz_r 44), (1, fz_i 7), (2, fz_i 1), (3, fz_i x), (4, fz_i dp)]) kX9_run rfl (by decide) rfl ?_
            refine fz_gets kX9_run rfl ?_
            refine fz_iload kX9_run rfl rfl ?_
            refine fz_iconst ⟨by decide, by decide⟩ kX9_run rfl ?_
            refine fz_imulN kX9_run rfl ⟨by decide, by decide⟩ ?_
            refine fz_eqi (y := 28) rfl ?_
            refine fz_iload_n kX9_run rfl rfl ?_
            refine fz_iaddN kX9_run rfl ⟨by decide, by decide⟩ ?_
            refine fz_eqi (y := 29) rfl ?_
            refine fz_taldV (v := 80) kX9_run rfl ⟨by decide, by decide⟩ (by omega) (by rw [hI.2.2.2.1]; decide) (by rw [hI.2.2.2.1]; rfl) ?_
            refine fz_istore (ls' := [(8, fz_i 80), (7, fz_i (dp + 1)), (6, fz_i 4), (5, fz_i 7), (0, fz_r 44), (1, fz_i 7), (2, fz_i 1), (3, fz_i x), (4, fz_i dp)]) kX9_run rfl (by decide) rfl ?_
            refine fz_aload_n kX9_run rfl rfl ?_
            refine fz_iload kX9_run rfl rfl ?_
            refine fz_callV (d' := 0) (M' := mX9_note) (As := [fz_i 80]) (st := []) kX9_run rfl rfl vX9_note rfl rfl rfl rfl (Nat.le_of_ble_eq_true rfl) (Nat.le_of_ble_eq_true rfl) (by decide) (sX9_note h hI 80 (by omega)) (fun H26 r27 q28 o29 => ?_)
            obtain ⟨hI30, hf31, rfl, f32⟩ := q28
            clear o29
            have hf33 := fz_fr_tr hf hf31 (show fz_su [(44, 3), (46, 99999)] [(44, 3), (46, 99999)] = true from rfl)
            refine fz_iload kX9_run rfl rfl ?_
            refine fz_lsw (tgt := 336) kX9_run rfl (by decide) (show Op.lookupswitch.offset [(1, 113), (2, 120), (10, 146), (11, 161), (20, 168), (30, 181), (40, 193), (41, 206), (50, 219), (60, 243), (70, 256), (80, 269), (81, 293)] 306 80 = 269 from rfl) (by decide) ?_
            refine fz_aload_n kX9_run rfl rfl ?_
            refine fz_iload kX9_run rfl rfl ?_
            refine fz_iconst ⟨by decide, by decide⟩ kX9_run rfl ?_
            refine fz_iload_n kX9_run rfl rfl ?_
            refine fz_iload kX9_run rfl rfl ?_
            have b34 : (-2147483648) ≤ H26 44 3 ∧ H26 44 3 ≤ 2147483647 := hI30.1 44 _
            have e35 : H26 44 5 = h 44 5 := hf33 44 5 rfl
            refine fz_callV (d' := 3) (M' := mX9_run) (As := [fz_i 4, fz_i 1, fz_i x, fz_i (dp + 1)]) (st := []) kX9_run rfl rfl vX9_run rfl rfl rfl rfl (Nat.le_of_ble_eq_true rfl) (Nat.le_of_ble_eq_true rfl) (by decide) (sX9_run_7_4_1 H26 hI30 x (dp + 1) (by omega) (by omega) (by omega)) (fun H36 r37 q38 o39 => ?_)
            obtain ⟨hI40, hf41, y43, rfl, f42⟩ := q38
            clear o39
            have hf44 := fz_fr_tr hf33 hf41 (show fz_su [(44, 3), (46, 99999)] [(44, 3), (46, 99999)] = true from rfl)
            refine fz_aload_n kX9_run rfl rfl ?_
            refine fz_aload_n kX9_run rfl rfl ?_
            refine fz_getV (v := h 44 5) kX9_run rfl rfl (hf44 44 5 rfl) ?_
            have b45 : 0 ≤ h 44 5 ∧ h 44 5 ≤ 7 := hI.1 44 _
            refine fz_eqi (show (h 44 5) = 7 by omega) ?_
            refine fz_iconst ⟨by decide, by decide⟩ kX9_run rfl ?_
            refine fz_iconst ⟨by decide, by decide⟩ kX9_run rfl ?_
            refine fz_iload kX9_run rfl rfl ?_
            have b46 : (-2147483648) ≤ H36 44 3 ∧ H36 44 3 ≤ 2147483647 := hI40.1 44 _
            have e47 : H36 44 5 = h 44 5 := hf44 44 5 rfl
            refine fz_callV (d' := 3) (M' := mX9_run) (As := [fz_i 7, fz_i 2, fz_i 2, fz_i (dp + 1)]) (st := [fz_i y43]) kX9_run rfl rfl vX9_run rfl rfl rfl rfl (Nat.le_of_ble_eq_true rfl) (Nat.le_of_ble_eq_true rfl) (by decide) (sX9_run_7_7_2 H36 hI40 2 (dp + 1) (by omega) (by omega) (by omega)) (fun H48 r49 q50 o51 => ?_)
            obtain ⟨hI52, hf53, y55, rfl, f54⟩ := q50
            clear o51
            have hf56 := fz_fr_tr hf44 hf53 (show fz_su [(44, 3), (46, 99999)] [(44, 3), (46, 99999)] = true from rfl)
            refine fz_iadd kX9_run rfl ?_
            refine fz_nmw (fun z57 e58 => ?_)
            exact fz_iret kX9_run rfl rfl (fun _ => ⟨hI52, hf56, _, rfl, (by omega)⟩)
          · exfalso; omega
    · refine fz_if_eq (tgt := 24) kX9_run rfl (by decide) (fun c59 => ?_) (fun c59 => ?_)
      · refine fz_iconst ⟨by decide, by decide⟩ kX9_run rfl ?_
        exact fz_iret kX9_run rfl rfl (fun _ => ⟨hI, hf, _, rfl, (by omega)⟩)
      · exfalso; omega

abbrev qX9_run_7_4_3 (h : fz_H) (x dp : Int) : fz_H → Option fz_V → Prop := fun h' r0 => fz_Iv h' ∧ fz_fr [(44, 3), (46, 99999)] h h' ∧ ∃ r : Int, r0 = some (fz_i r) ∧ (h' 44 3 = h 44 3 + 13)
set_option maxHeartbeats 1000000 in
set_option maxRecDepth 100000 in
theorem sX9_run_7_4_3 (h : fz_H) (hI : fz_Iv h) (x dp : Int) (hp0 : h 44 5 = 7) (hp1 : 0 ≤ dp ∧ dp ≤ 35) (hp2 : 0 ≤ h 44 3 ∧ h 44 3 ≤ 887) : fz_R 5 mX9_run 0 [(0, fz_r 44), (1, fz_i 4), (2, fz_i 3), (3, fz_i x), (4, fz_i dp)] [] h (qX9_run_7_4_3 h x dp) := by
  refine fz_knowl (fun hk => ?_)
  have hr_x : -2147483648 ≤ x ∧ x < 2147483648 := hk _ (List.Mem.tail _ (List.Mem.tail _ (List.Mem.tail _ (List.Mem.head _))))
  have hr_dp : -2147483648 ≤ dp ∧ dp < 2147483648 := hk _ (List.Mem.tail _ (List.Mem.tail _ (List.Mem.tail _ (List.Mem.tail _ (List.Mem.head _)))))
  clear hk
  have hf : fz_fr [(44, 3), (46, 99999)] h h := fz_fr_rf
  have b1 : 0 ≤ h 44 5 ∧ h 44 5 ≤ 7 := hI.1 44 _
  have b2 : (-2147483648) ≤ h 44 3 ∧ h 44 3 ≤ 2147483647 := hI.1 44 _
  refine fz_iload kX9_run rfl rfl ?_
  refine fz_bipush ⟨by decide, by decide⟩ kX9_run rfl ?_
  refine fz_icmp_gt (tgt := 24) kX9_run rfl (by decide) (fun c3 => ?_) (fun c3 => ?_)
  · exfalso; omega
  · refine fz_aload_n kX9_run rfl rfl ?_
    refine fz_iload_n kX9_run rfl rfl ?_
    refine fz_callV (d' := 0) (M' := mX9_isKind) (As := [fz_i 4]) (st := []) kX9_run rfl rfl vX9_isKind rfl rfl rfl rfl (Nat.le_of_ble_eq_true rfl) (Nat.le_of_ble_eq_true rfl) (by decide) (sX9_isKind h hI 4 ) (fun H4 r5 q6 o7 => ?_)
    obtain ⟨e8, y9, rfl, p10⟩ := q6
    subst H4
    clear o7
    rcases p10 with ⟨rfl, c11⟩ | ⟨rfl, c11⟩
    · refine fz_if_eq (tgt := 24) kX9_run rfl (by decide) (fun c12 => ?_) (fun c12 => ?_)
      · exfalso; omega
      · refine fz_iload_n kX9_run rfl rfl ?_
        refine fz_if_lt (tgt := 24) kX9_run rfl (by decide) (fun c13 => ?_) (fun c13 => ?_)
        · exfalso; omega
        · refine fz_iload_n kX9_run rfl rfl ?_
          refine fz_iconst ⟨by decide, by decide⟩ kX9_run rfl ?_
          refine fz_icmp_lt (tgt := 26) kX9_run rfl (by decide) (fun c14 => ?_) (fun c14 => ?_)
          · refine fz_iload_n kX9_run rfl rfl ?_
            refine fz_iload_n kX9_run rfl rfl ?_
            refine fz_callS (d' := 0) (M' := mX9_ownerFrom) (As := [fz_i 4, fz_i 3]) (st := []) kX9_run rfl rfl vX9_ownerFrom rfl rfl (Nat.le_of_ble_eq_true rfl) (Nat.le_of_ble_eq_true rfl) (by decide) (sX9_ownerFrom_4_3 h hI  ) (fun H15 r16 q17 o18 => ?_)
            obtain ⟨e19, y21, rfl, f20⟩ := q17
            subst H15
            clear o18
            refine fz_eqi (show y21 = 0 by omega) ?_
            refine fz_istore (ls' := [(5, fz_i 0), (0, fz_r 44), (1, fz_i 4), (2, fz_i 3), (3, fz_i x), (4, fz_i dp)]) kX9_run rfl (by decide) rfl ?_
            refine fz_gets kX9_run rfl ?_
            refine fz_iload kX9_run rfl rfl ?_
            refine fz_taldV (v := (-1)) kX9_run rfl ⟨by decide, by decide⟩ (by omega) (by rw [hI.2.2.2.2]; decide) (by rw [hI.2.2.2.2]; rfl) ?_
            refine fz_istore (ls' := [(6, fz_i (-1)), (5, fz_i 0), (0, fz_r 44), (1, fz_i 4), (2, fz_i 3), (3, fz_i x), (4, fz_i dp)]) kX9_run rfl (by decide) rfl ?_
            refine fz_iload kX9_run rfl rfl ?_
            refine fz_iconst ⟨by decide, by decide⟩ kX9_run rfl ?_
            refine fz_iaddN kX9_run rfl (by omega) ?_
            refine fz_istore (ls' := [(7, fz_i (dp + 1)), (6, fz_i (-1)), (5, fz_i 0), (0, fz_r 44), (1, fz_i 4), (2, fz_i 3), (3, fz_i x), (4, fz_i dp)]) kX9_run rfl (by decide) rfl ?_
            refine fz_gets kX9_run rfl ?_
            refine fz_iload kX9_run rfl rfl ?_
            refine fz_iconst ⟨by decide, by decide⟩ kX9_run rfl ?_
            refine fz_imulN kX9_run rfl ⟨by decide, by decide⟩ ?_
            refine fz_eqi (y := 0) rfl ?_
            refine fz_iload_n kX9_run rfl rfl ?_
            refine fz_iaddN kX9_run rfl ⟨by decide, by decide⟩ ?_
            refine fz_eqi (y := 3) rfl ?_
            refine fz_taldV (v := 2) kX9_run rfl ⟨by decide, by decide⟩ (by omega) (by rw [hI.2.2.2.1]; decide) (by rw [hI.2.2.2.1]; rfl) ?_
            refine fz_istore (ls' := [(8, fz_i 2), (7, fz_i (dp + 1)), (6, fz_i (-1)), (5, fz_i 0), (0, fz_r 44), (1, fz_i 4), (2, fz_i 3), (3, fz_i x), (4, fz_i dp)]) kX9_run rfl (by decide) rfl ?_
            refine fz_aload_n kX9_run rfl rfl ?_
            refine fz_iload kX9_run rfl rfl ?_
            refine fz_callV (d' := 0) (M' := mX9_note) (As := [fz_i 2]) (st := []) kX9_run rfl rfl vX9_note rfl rfl rfl rfl (Nat.le_of_ble_eq_true rfl) (Nat.le_of_ble_eq_true rfl) (by decide) (sX9_note h hI 2 (by omega)) (fun H26 r27 q28 o29 => ?_)
            obtain ⟨hI30, hf31, rfl, f32⟩ := q28
            clear o29
            have hf33 := fz_fr_tr hf hf31 (show fz_su [(44, 3), (46, 99999)] [(44, 3), (46, 99999)] = true from rfl)
            refine fz_iload kX9_run rfl rfl ?_
            refine fz_lsw (tgt := 187) kX9_run rfl (by decide) (show Op.lookupswitch.offset [(1, 113), (2, 120), (10, 146), (11, 161), (20, 168), (30, 181), (40, 193), (41, 206), (50, 219), (60, 243), (70, 256), (80, 269), (81, 293)] 306 2 = 120 from rfl) (by decide) ?_
            refine fz_aload_n kX9_run rfl rfl ?_
            refine fz_aload_n kX9_run rfl rfl ?_
            refine fz_getV (v := h 44 5) kX9_run rfl rfl (hf33 44 5 rfl) ?_
            have b34 : 0 ≤ h 44 5 ∧ h 44 5 ≤ 7 := hI.1 44 _
            refine fz_eqi (show (h 44 5) = 7 by omega) ?_
            refine fz_iconst ⟨by decide, by decide⟩ kX9_run rfl ?_
            refine fz_iload_n kX9_run rfl rfl ?_
            refine fz_iload kX9_run rfl rfl ?_
            have b35 : (-2147483648) ≤ H26 44 3 ∧ H26 44 3 ≤ 2147483647 := hI30.1 44 _
            have e36 : H26 44 5 = h 44 5 := hf33 44 5 rfl
            refine fz_callV (d' := 4) (M' := mX9_run) (As := [fz_i 7, fz_i 1, fz_i x, fz_i (dp + 1)]) (st := []) kX9_run rfl rfl vX9_run rfl rfl rfl rfl (Nat.le_of_ble_eq_true rfl) (Nat.le_of_ble_eq_true rfl) (by decide) (sX9_run_7_7_1 H26 hI30 x (dp + 1) (by omega) (by omega) (by omega)) (fun H37 r38 q39 o40 => ?_)
            obtain ⟨hI41, hf42, y44, rfl, f43⟩ := q39
            clear o40
            have hf45 := fz_fr_tr hf33 hf42 (show fz_su [(44, 3), (46, 99999)] [(44, 3), (46, 99999)] = true from rfl)
            refine fz_aload_n kX9_run rfl rfl ?_
            refine fz_aload_n kX9_run rfl rfl ?_
            refine fz_getV (v := h 44 5) kX9_run rfl rfl (hf45 44 5 rfl) ?_
            refine fz_eqi (show (h 44 5) = 7 by omega) ?_
            refine fz_iconst ⟨by decide, by decide⟩ kX9_run rfl ?_
            refine fz_iconst ⟨by decide, by decide⟩ kX9_run rfl ?_
            refine fz_iload kX9_run rfl rfl ?_
            have b46 : (-2147483648) ≤ H37 44 3 ∧ H37 44 3 ≤ 2147483647 := hI41.1 44 _
            have e47 : H37 44 5 = h 44 5 := hf45 44 5 rfl
            refine fz_callV (d' := 3) (M' := mX9_run) (As := [fz_i 7, fz_i 2, fz_i 1, fz_i (dp + 1)]) (st := [fz_i y44]) kX9_run rfl rfl vX9_run rfl rfl rfl rfl (Nat.le_of_ble_eq_true rfl) (Nat.le_of_ble_eq_true rfl) (by decide) (sX9_run_7_7_2 H37 hI41 1 (dp + 1) (by omega) (by omega) (by omega)) (fun H48 r49 q50 o51 => ?_)
            obtain ⟨hI52, hf53, y55, rfl, f54⟩ := q50
            clear o51
            have hf56 := fz_fr_tr hf45 hf53 (show fz_su [(44, 3), (46, 99999)] [(44, 3), (46, 99999)] = true from rfl)
            refine fz_isub kX9_run rfl ?_
            refine fz_nmw (fun z57 e58 => ?_)
            exact fz_iret kX9_run rfl rfl (fun _ => ⟨hI52, hf56, _, rfl, (by omega)⟩)
          · exfalso; omega
    · refine fz_if_eq (tgt := 24) kX9_run rfl (by decide) (fun c59 => ?_) (fun c59 => ?_)
      · refine fz_iconst ⟨by decide, by decide⟩ kX9_run rfl ?_
        exact fz_iret kX9_run rfl rfl (fun _ => ⟨hI, hf, _, rfl, (by omega)⟩)
      · exfalso; omega

abbrev qX9_run_7_7_3 (h : fz_H) (x dp : Int) : fz_H → Option fz_V → Prop := fun h' r0 => fz_Iv h' ∧ fz_fr [(44, 3), (46, 99999)] h h' ∧ ∃ r : Int, r0 = some (fz_i r) ∧ (h' 44 3 = h 44 3 + 14)
set_option maxHeartbeats 1000000 in
set_option maxRecDepth 100000 in
theorem sX9_run_7_7_3 (h : fz_H) (hI : fz_Iv h) (x dp : Int) (hp0 : h 44 5 = 7) (hp1 : 0 ≤ dp ∧ dp ≤ 34) (hp2 : 0 ≤ h 44 3 ∧ h 44 3 ≤ 886) : fz_R 6 mX9_run 0 [(0, fz_r 44), (1, fz_i 7), (2, fz_i 3), (3, fz_i x), (4, fz_i dp)] [] h (qX9_run_7_7_3 h x dp) := by
  refine fz_knowl (fun hk => ?_)
  have hr_x : -2147483648 ≤ x ∧ x < 2147483648 := hk _ (List.Mem.tail _ (List.Mem.tail _ (List.Mem.tail _ (List.Mem.head _))))
  have hr_dp : -2147483648 ≤ dp ∧ dp < 2147483648 := hk _ (List.Mem.tail _ (List.Mem.tail _ (List.Mem.tail _ (List.Mem.tail _ (List.Mem.head _)))))
  clear hk
  have hf : fz_fr [(44, 3), (46, 99999)] h h := fz_fr_rf
  have b1 : 0 ≤ h 44 5 ∧ h 44 5 ≤ 7 := hI.1 44 _
  have b2 : (-2147483648) ≤ h 44 3 ∧ h 44 3 ≤ 2147483647 := hI.1 44 _
  refine fz_iload kX9_run rfl rfl ?_
  refine fz_bipush ⟨by decide, by decide⟩ kX9_run rfl ?_
  refine fz_icmp_gt (tgt := 24) kX9_run rfl (by decide) (fun c3 => ?_) (fun c3 => ?_)
  · exfalso; omega
  · refine fz_aload_n kX9_run rfl rfl ?_
    refine fz_iload_n kX9_run rfl rfl ?_
    refine fz_callV (d' := 0) (M' := mX9_isKind) (As := [fz_i 7]) (st := []) kX9_run rfl rfl vX9_isKind rfl rfl rfl rfl (Nat.le_of_ble_eq_true rfl) (Nat.le_of_ble_eq_true rfl) (by decide) (sX9_isKind h hI 7 ) (fun H4 r5 q6 o7 => ?_)
    obtain ⟨e8, y9, rfl, p10⟩ := q6
    subst H4
    clear o7
    rcases p10 with ⟨rfl, c11⟩ | ⟨rfl, c11⟩
    · refine fz_if_eq (tgt := 24) kX9_run rfl (by decide) (fun c12 => ?_) (fun c12 => ?_)
      · exfalso; omega
      · refine fz_iload_n kX9_run rfl rfl ?_
        refine fz_if_lt (tgt := 24) kX9_run rfl (by decide) (fun c13 => ?_) (fun c13 => ?_)
        · exfalso; omega
        · refine fz_iload_n kX9_run rfl rfl ?_
          refine fz_iconst ⟨by decide, by decide⟩ kX9_run rfl ?_
          refine fz_icmp_lt (tgt := 26) kX9_run rfl (by decide) (fun c14 => ?_) (fun c14 => ?_)
          · refine fz_iload_n kX9_run rfl rfl ?_
            refine fz_iload_n kX9_run rfl rfl ?_
            refine fz_callS (d' := 0) (M' := mX9_ownerFrom) (As := [fz_i 7, fz_i 3]) (st := []) kX9_run rfl rfl vX9_ownerFrom rfl rfl (Nat.le_of_ble_eq_true rfl) (Nat.le_of_ble_eq_true rfl) (by decide) (sX9_ownerFrom_7_3 h hI  ) (fun H15 r16 q17 o18 => ?_)
            obtain ⟨e19, y21, rfl, f20⟩ := q17
            subst H15
            clear o18
            refine fz_eqi (show y21 = 7 by omega) ?_
            refine fz_istore (ls' := [(5, fz_i 7), (0, fz_r 44), (1, fz_i 7), (2, fz_i 3), (3, fz_i x), (4, fz_i dp)]) kX9_run rfl (by decide) rfl ?_
            refine fz_gets kX9_run rfl ?_
            refine fz_iload kX9_run rfl rfl ?_
            refine fz_taldV (v := 4) kX9_run rfl ⟨by decide, by decide⟩ (by omega) (by rw [hI.2.2.2.2]; decide) (by rw [hI.2.2.2.2]; rfl) ?_
            refine fz_istore (ls' := [(6, fz_i 4), (5, fz_i 7), (0, fz_r 44), (1, fz_i 7), (2, fz_i 3), (3, fz_i x), (4, fz_i dp)]) kX9_run rfl (by decide) rfl ?_
            refine fz_iload kX9_run rfl rfl ?_
            refine fz_iconst ⟨by decide, by decide⟩ kX9_run rfl ?_
            refine fz_iaddN kX9_run rfl (by omega) ?_
            refine fz_istore (ls' := [(7, fz_i (dp + 1)), (6, fz_i 4), (5, fz_i 7), (0, fz_r 44), (1, fz_i 7), (2, fz_i 3), (3, fz_i x), (4, fz_i dp)]) kX9_run rfl (by decide) rfl ?_
            refine fz_gets kX9_run rfl ?_
            refine fz_iload kX9_run rfl rfl ?_
            refine fz_iconst ⟨by decide, by decide⟩ kX9_run rfl ?_
            refine fz_imulN kX9_run rfl ⟨by decide, by decide⟩ ?_
            refine fz_eqi (y := 28) rfl ?_
            refine fz_iload_n kX9_run rfl rfl ?_
            refine fz_iaddN kX9_run rfl ⟨by decide, by decide⟩ ?_
            refine fz_eqi (y := 31) rfl ?_
            refine fz_taldV (v := 81) kX9_run rfl ⟨by decide, by decide⟩ (by omega) (by rw [hI.2.2.2.1]; decide) (by rw [hI.2.2.2.1]; rfl) ?_
            refine fz_istore (ls' := [(8, fz_i 81), (7, fz_i (dp + 1)), (6, fz_i 4), (5, fz_i 7), (0, fz_r 44), (1, fz_i 7), (2, fz_i 3), (3, fz_i x), (4, fz_i dp)]) kX9_run rfl (by decide) rfl ?_
            refine fz_aload_n kX9_run rfl rfl ?_
            refine fz_iload kX9_run rfl rfl ?_
            refine fz_callV (d' := 0) (M' := mX9_note) (As := [fz_i 81]) (st := []) kX9_run rfl rfl vX9_note rfl rfl rfl rfl (Nat.le_of_ble_eq_true rfl) (Nat.le_of_ble_eq_true rfl) (by decide) (sX9_note h hI 81 (by omega)) (fun H26 r27 q28 o29 => ?_)
            obtain ⟨hI30, hf31, rfl, f32⟩ := q28
            clear o29
            have hf33 := fz_fr_tr hf hf31 (show fz_su [(44, 3), (46, 99999)] [(44, 3), (46, 99999)] = true from rfl)
            refine fz_iload kX9_run rfl rfl ?_
            refine fz_lsw (tgt := 360) kX9_run rfl (by decide) (show Op.lookupswitch.offset [(1, 113), (2, 120), (10, 146), (11, 161), (20, 168), (30, 181), (40, 193), (41, 206), (50, 219), (60, 243), (70, 256), (80, 269), (81, 293)] 306 81 = 293 from rfl) (by decide) ?_
            refine fz_aload_n kX9_run rfl rfl ?_
            refine fz_iload kX9_run rfl rfl ?_
            refine fz_iconst ⟨by decide, by decide⟩ kX9_run rfl ?_
            refine fz_iload_n kX9_run rfl rfl ?_
            refine fz_iload kX9_run rfl rfl ?_
            have b34 : (-2147483648) ≤ H26 44 3 ∧ H26 44 3 ≤ 2147483647 := hI30.1 44 _
            have e35 : H26 44 5 = h 44 5 := hf33 44 5 rfl
            refine fz_callV (d' := 5) (M' := mX9_run) (As := [fz_i 4, fz_i 3, fz_i x, fz_i (dp + 1)]) (st := []) kX9_run rfl rfl vX9_run rfl rfl rfl rfl (Nat.le_of_ble_eq_true rfl) (Nat.le_of_ble_eq_true rfl) (by decide) (sX9_run_7_4_3 H26 hI30 x (dp + 1) (by omega) (by omega) (by omega)) (fun H36 r37 q38 o39 => ?_)
            obtain ⟨hI40, hf41, y43, rfl, f42⟩ := q38
            clear o39
            have hf44 := fz_fr_tr hf33 hf41 (show fz_su [(44, 3), (46, 99999)] [(44, 3), (46, 99999)] = true from rfl)
            refine fz_iconst ⟨by decide, by decide⟩ kX9_run rfl ?_
            refine fz_isub kX9_run rfl ?_
            refine fz_nmw (fun z45 e46 => ?_)
            exact fz_iret kX9_run rfl rfl (fun _ => ⟨hI40, hf44, _, rfl, (by omega)⟩)
          · exfalso; omega
    · refine fz_if_eq (tgt := 24) kX9_run rfl (by decide) (fun c47 => ?_) (fun c47 => ?_)
      · refine fz_iconst ⟨by decide, by decide⟩ kX9_run rfl ?_
        exact fz_iret kX9_run rfl rfl (fun _ => ⟨hI, hf, _, rfl, (by omega)⟩)
      · exfalso; omega

abbrev qX9_start (h : fz_H) (b ac x : Int) : fz_H → Option fz_V → Prop := fun h' r0 => fz_Iv h' ∧ fz_fr [(44, 3), (44, 4), (44, 5), (46, 99999)] h h' ∧ ∃ r : Int, r0 = some (fz_i r)
set_option maxHeartbeats 1000000 in
set_option maxRecDepth 100000 in
theorem sX9_start (h : fz_H) (hI : fz_Iv h) (b ac x : Int) : fz_R 7 mX9_start 0 [(0, fz_r 44), (1, fz_i b), (2, fz_i ac), (3, fz_i x)] [] h (qX9_start h b ac x) := by
  refine fz_knowl (fun hk => ?_)
  have hr_b : -2147483648 ≤ b ∧ b < 2147483648 := hk _ (List.Mem.tail _ (List.Mem.head _))
  have hr_ac : -2147483648 ≤ ac ∧ ac < 2147483648 := hk _ (List.Mem.tail _ (List.Mem.tail _ (List.Mem.head _)))
  have hr_x : -2147483648 ≤ x ∧ x < 2147483648 := hk _ (List.Mem.tail _ (List.Mem.tail _ (List.Mem.tail _ (List.Mem.head _))))
  clear hk
  have hf : fz_fr [(44, 3), (44, 4), (44, 5), (46, 99999)] h h := fz_fr_rf
  refine fz_aload_n kX9_start rfl rfl ?_
  refine fz_iconst ⟨by decide, by decide⟩ kX9_start rfl ?_
  refine fz_putI kX9_start rfl rfl rfl ?_
  refine fz_nmu (S := [(44, 3), (44, 4), (44, 5), (46, 99999)]) (h0 := h) (fz_Iv_up hI (by decide) (show (-2147483648) ≤ 0 by omega) (show 0 ≤ 2147483647 by omega)) (fz_fr_up hf rfl) (fun H1 hI2 hf3 e4 => ?_)
  have k5 : H1 44 3 = 0 := by rw [e4]; exact fz_up_e
  clear e4
  refine fz_aload_n kX9_start rfl rfl ?_
  refine fz_iload_n kX9_start rfl rfl ?_
  have b6 : 0 ≤ h 44 2 ∧ h 44 2 ≤ 50 := hI.1 44 _
  have e7 : H1 44 2 = h 44 2 := hf3 44 2 rfl
  refine fz_callV (d' := 0) (M' := mX9_isBody) (As := [fz_i b]) (st := []) kX9_start rfl rfl vX9_isBody rfl rfl rfl rfl (Nat.le_of_ble_eq_true rfl) (Nat.le_of_ble_eq_true rfl) (by decide) (sX9_isBody H1 hI2 b ) (fun H8 r9 q10 o11 => ?_)
  obtain ⟨e12, y13, rfl, p14⟩ := q10
  subst H8
  clear o11
  rcases p14 with ⟨rfl, c15⟩ | ⟨rfl, c15⟩
  · refine fz_if_eq (tgt := 22) kX9_start rfl (by decide) (fun c16 => ?_) (fun c16 => ?_)
    · exfalso; omega
    · refine fz_iload_n kX9_start rfl rfl ?_
      refine fz_if_lt (tgt := 22) kX9_start rfl (by decide) (fun c17 => ?_) (fun c17 => ?_)
      · refine fz_iconst ⟨by decide, by decide⟩ kX9_start rfl ?_
        exact fz_iret kX9_start rfl rfl (fun _ => ⟨hI2, hf3, _, rfl⟩)
      · refine fz_iload_n kX9_start rfl rfl ?_
        refine fz_iconst ⟨by decide, by decide⟩ kX9_start rfl ?_
        refine fz_icmp_lt (tgt := 24) kX9_start rfl (by decide) (fun c18 => ?_) (fun c18 => ?_)
        · refine fz_aload_n kX9_start rfl rfl ?_
          refine fz_iload_n kX9_start rfl rfl ?_
          refine fz_putI kX9_start rfl rfl rfl ?_
          refine fz_nmu (S := [(44, 3), (44, 4), (44, 5), (46, 99999)]) (h0 := h) (fz_Iv_up hI2 (by decide) (show 0 ≤ b by omega) (show b ≤ 49 by omega)) (fz_fr_up hf3 rfl) (fun H19 hI20 hf21 e22 => ?_)
          have k23 : H19 44 3 = 0 := by rw [e22]; exact (fz_up_s (by decide)).trans k5
          have k24 : H19 44 4 = b := by rw [e22]; exact fz_up_e
          clear e22
          refine fz_aload_n kX9_start rfl rfl ?_
          refine fz_aload_n kX9_start rfl rfl ?_
          refine fz_getR (t := 45) kX9_start rfl rfl ?_
          refine fz_iload_n kX9_start rfl rfl ?_
          refine fz_ialdV (n := 50) (v := h 45 (b.toNat)) kX9_start rfl rfl (by omega) (by omega) (hf21 45 _ rfl) ?_
          have b25 : 0 ≤ h 45 (b.toNat) ∧ h 45 (b.toNat) ≤ 7 := hI.1 45 _
          rcases (show (h 45 (b.toNat)) = 0 ∨ (h 45 (b.toNat)) = 1 ∨ (h 45 (b.toNat)) = 2 ∨ (h 45 (b.toNat)) = 3 ∨ (h 45 (b.toNat)) = 4 ∨ (h 45 (b.toNat)) = 5 ∨ (h 45 (b.toNat)) = 6 ∨ (h 45 (b.toNat)) = 7 by omega) with c26 | c26 | c26 | c26 | c26 | c26 | c26 | c26
          · refine fz_eqi c26 ?_
            refine fz_putI kX9_start rfl rfl rfl ?_
            refine fz_nmu (S := [(44, 3), (44, 4), (44, 5), (46, 99999)]) (h0 := h) (fz_Iv_up hI20 (by decide) (show 0 ≤ 0 by omega) (show 0 ≤ 7 by omega)) (fz_fr_up hf21 rfl) (fun H27 hI28 hf29 e30 => ?_)
            have k31 : H27 44 3 = 0 := by rw [e30]; exact (fz_up_s (by decide)).trans k23
            have k32 : H27 44 4 = b := by rw [e30]; exact (fz_up_s (by decide)).trans k24
            have k33 : H27 44 5 = 0 := by rw [e30]; exact fz_up_e
            clear e30
            refine fz_aload_n kX9_start rfl rfl ?_
            refine fz_aload_n kX9_start rfl rfl ?_
            refine fz_getV (v := 0) kX9_start rfl rfl k33 ?_
            refine fz_iload_n kX9_start rfl rfl ?_
            rcases (show ac = 0 ∨ ac = 1 ∨ ac = 2 ∨ ac = 3 by omega) with c34 | c34 | c34 | c34
            · refine fz_eqi c34 ?_
              refine fz_iload_n kX9_start rfl rfl ?_
              refine fz_iconst ⟨by decide, by decide⟩ kX9_start rfl ?_
              have b35 : 0 ≤ H27 44 5 ∧ H27 44 5 ≤ 7 := hI28.1 44 _
              have b36 : (-2147483648) ≤ H27 44 3 ∧ H27 44 3 ≤ 2147483647 := hI28.1 44 _
              refine fz_callV (d' := 1) (M' := mX9_run) (As := [fz_i 0, fz_i 0, fz_i x, fz_i 0]) (st := []) kX9_start rfl rfl vX9_run rfl rfl rfl rfl (Nat.le_of_ble_eq_true rfl) (Nat.le_of_ble_eq_true rfl) (by decide) (sX9_run_0_0_0 H27 hI28 x 0 (by omega) (by omega) (by omega)) (fun H37 r38 q39 o40 => ?_)
              obtain ⟨hI41, hf42, y44, rfl, f43⟩ := q39
              clear o40
              have hf45 := fz_fr_tr hf29 hf42 (show fz_su [(44, 3), (46, 99999)] [(44, 3), (44, 4), (44, 5), (46, 99999)] = true from rfl)
              have k46 : H37 44 4 = b := (hf42 44 4 rfl).trans k32
              have k47 : H37 44 5 = 0 := (hf42 44 5 rfl).trans k33
              exact fz_iret kX9_start rfl rfl (fun _ => ⟨hI41, hf45, _, rfl⟩)
            · refine fz_eqi c34 ?_
              refine fz_iload_n kX9_start rfl rfl ?_
              refine fz_iconst ⟨by decide, by decide⟩ kX9_start rfl ?_
              have b48 : 0 ≤ H27 44 5 ∧ H27 44 5 ≤ 7 := hI28.1 44 _
              have b49 : (-2147483648) ≤ H27 44 3 ∧ H27 44 3 ≤ 2147483647 := hI28.1 44 _
              refine fz_callV (d' := 2) (M' := mX9_run) (As := [fz_i 0, fz_i 1, fz_i x, fz_i 0]) (st := []) kX9_start rfl rfl vX9_run rfl rfl rfl rfl (Nat.le_of_ble_eq_true rfl) (Nat.le_of_ble_eq_true rfl) (by decide) (sX9_run_0_0_1 H27 hI28 x 0 (by omega) (by omega) (by omega)) (fun H50 r51 q52 o53 => ?_)
              obtain ⟨hI54, hf55, y57, rfl, f56⟩ := q52
              clear o53
              have hf58 := fz_fr_tr hf29 hf55 (show fz_su [(44, 3), (46, 99999)] [(44, 3), (44, 4), (44, 5), (46, 99999)] = true from rfl)
              have k59 : H50 44 4 = b := (hf55 44 4 rfl).trans k32
              have k60 : H50 44 5 = 0 := (hf55 44 5 rfl).trans k33
              exact fz_iret kX9_start rfl rfl (fun _ => ⟨hI54, hf58, _, rfl⟩)
            · refine fz_eqi c34 ?_
              refine fz_iload_n kX9_start rfl rfl ?_
              refine fz_iconst ⟨by decide, by decide⟩ kX9_start rfl ?_
              have b61 : 0 ≤ H27 44 5 ∧ H27 44 5 ≤ 7 := hI28.1 44 _
              have b62 : (-2147483648) ≤ H27 44 3 ∧ H27 44 3 ≤ 2147483647 := hI28.1 44 _
              refine fz_callV (d' := 1) (M' := mX9_run) (As := [fz_i 0, fz_i 2, fz_i x, fz_i 0]) (st := []) kX9_start rfl rfl vX9_run rfl rfl rfl rfl (Nat.le_of_ble_eq_true rfl) (Nat.le_of_ble_eq_true rfl) (by decide) (sX9_run_0_0_2 H27 hI28 x 0 (by omega) (by omega) (by omega)) (fun H63 r64 q65 o66 => ?_)
              obtain ⟨hI67, hf68, y70, rfl, f69⟩ := q65
              clear o66
              have hf71 := fz_fr_tr hf29 hf68 (show fz_su [(44, 3), (46, 99999)] [(44, 3), (44, 4), (44, 5), (46, 99999)] = true from rfl)
              have k72 : H63 44 4 = b := (hf68 44 4 rfl).trans k32
              have k73 : H63 44 5 = 0 := (hf68 44 5 rfl).trans k33
              exact fz_iret kX9_start rfl rfl (fun _ => ⟨hI67, hf71, _, rfl⟩)
            · refine fz_eqi c34 ?_
              refine fz_iload_n kX9_start rfl rfl ?_
              refine fz_iconst ⟨by decide, by decide⟩ kX9_start rfl ?_
              have b74 : 0 ≤ H27 44 5 ∧ H27 44 5 ≤ 7 := hI28.1 44 _
              have b75 : (-2147483648) ≤ H27 44 3 ∧ H27 44 3 ≤ 2147483647 := hI28.1 44 _
              refine fz_callV (d' := 3) (M' := mX9_run) (As := [fz_i 0, fz_i 3, fz_i x, fz_i 0]) (st := []) kX9_start rfl rfl vX9_run rfl rfl rfl rfl (Nat.le_of_ble_eq_true rfl) (Nat.le_of_ble_eq_true rfl) (by decide) (sX9_run_0_0_3 H27 hI28 x 0 (by omega) (by omega) (by omega)) (fun H76 r77 q78 o79 => ?_)
              obtain ⟨hI80, hf81, y83, rfl, f82⟩ := q78
              clear o79
              have hf84 := fz_fr_tr hf29 hf81 (show fz_su [(44, 3), (46, 99999)] [(44, 3), (44, 4), (44, 5), (46, 99999)] = true from rfl)
              have k85 : H76 44 4 = b := (hf81 44 4 rfl).trans k32
              have k86 : H76 44 5 = 0 := (hf81 44 5 rfl).trans k33
              exact fz_iret kX9_start rfl rfl (fun _ => ⟨hI80, hf84, _, rfl⟩)
          · refine fz_eqi c26 ?_
            refine fz_putI kX9_start rfl rfl rfl ?_
            refine fz_nmu (S := [(44, 3), (44, 4), (44, 5), (46, 99999)]) (h0 := h) (fz_Iv_up hI20 (by decide) (show 0 ≤ 1 by omega) (show 1 ≤ 7 by omega)) (fz_fr_up hf21 rfl) (fun H87 hI88 hf89 e90 => ?_)
            have k91 : H87 44 3 = 0 := by rw [e90]; exact (fz_up_s (by decide)).trans k23
            have k92 : H87 44 4 = b := by rw [e90]; exact (fz_up_s (by decide)).trans k24
            have k93 : H87 44 5 = 1 := by rw [e90]; exact fz_up_e
            clear e90
            refine fz_aload_n kX9_start rfl rfl ?_
            refine fz_aload_n kX9_start rfl rfl ?_
            refine fz_getV (v := 1) kX9_start rfl rfl k93 ?_
            refine fz_iload_n kX9_start rfl rfl ?_
            rcases (show ac = 0 ∨ ac = 1 ∨ ac = 2 ∨ ac = 3 by omega) with c94 | c94 | c94 | c94
            · refine fz_eqi c94 ?_
              refine fz_iload_n kX9_start rfl rfl ?_
              refine fz_iconst ⟨by decide, by decide⟩ kX9_start rfl ?_
              have b95 : 0 ≤ H87 44 5 ∧ H87 44 5 ≤ 7 := hI88.1 44 _
              have b96 : (-2147483648) ≤ H87 44 3 ∧ H87 44 3 ≤ 2147483647 := hI88.1 44 _
              refine fz_callV (d' := 2) (M' := mX9_run) (As := [fz_i 1, fz_i 0, fz_i x, fz_i 0]) (st := []) kX9_start rfl rfl vX9_run rfl rfl rfl rfl (Nat.le_of_ble_eq_true rfl) (Nat.le_of_ble_eq_true rfl) (by decide) (sX9_run_1_1_0 H87 hI88 x 0 (by omega) (by omega) (by omega)) (fun H97 r98 q99 o100 => ?_)
              obtain ⟨hI101, hf102, y104, rfl, f103⟩ := q99
              clear o100
              have hf105 := fz_fr_tr hf89 hf102 (show fz_su [(44, 3), (46, 99999)] [(44, 3), (44, 4), (44, 5), (46, 99999)] = true from rfl)
              have k106 : H97 44 4 = b := (hf102 44 4 rfl).trans k92
              have k107 : H97 44 5 = 1 := (hf102 44 5 rfl).trans k93
              exact fz_iret kX9_start rfl rfl (fun _ => ⟨hI101, hf105, _, rfl⟩)
            · refine fz_eqi c94 ?_
              refine fz_iload_n kX9_start rfl rfl ?_
              refine fz_iconst ⟨by decide, by decide⟩ kX9_start rfl ?_
              have b108 : 0 ≤ H87 44 5 ∧ H87 44 5 ≤ 7 := hI88.1 44 _
              have b109 : (-2147483648) ≤ H87 44 3 ∧ H87 44 3 ≤ 2147483647 := hI88.1 44 _
              refine fz_callV (d' := 3) (M' := mX9_run) (As := [fz_i 1, fz_i 1, fz_i x, fz_i 0]) (st := []) kX9_start rfl rfl vX9_run rfl rfl rfl rfl (Nat.le_of_ble_eq_true rfl) (Nat.le_of_ble_eq_true rfl) (by decide) (sX9_run_1_1_1 H87 hI88 x 0 (by omega) (by omega) (by omega)) (fun H110 r111 q112 o113 => ?_)
              obtain ⟨hI114, hf115, y117, rfl, f116⟩ := q112
              clear o113
              have hf118 := fz_fr_tr hf89 hf115 (show fz_su [(44, 3), (46, 99999)] [(44, 3), (44, 4), (44, 5), (46, 99999)] = true from rfl)
              have k119 : H110 44 4 = b := (hf115 44 4 rfl).trans k92
              have k120 : H110 44 5 = 1 := (hf115 44 5 rfl).trans k93
              exact fz_iret kX9_start rfl rfl (fun _ => ⟨hI114, hf118, _, rfl⟩)
            · refine fz_eqi c94 ?_
              refine fz_iload_n kX9_start rfl rfl ?_
              refine fz_iconst ⟨by decide, by decide⟩ kX9_start rfl ?_
              have b121 : 0 ≤ H87 44 5 ∧ H87 44 5 ≤ 7 := hI88.1 44 _
              have b122 : (-2147483648) ≤ H87 44 3 ∧ H87 44 3 ≤ 2147483647 := hI88.1 44 _
              refine fz_callV (d' := 1) (M' := mX9_run) (As := [fz_i 1, fz_i 2, fz_i x, fz_i 0]) (st := []) kX9_start rfl rfl vX9_run rfl rfl rfl rfl (Nat.le_of_ble_eq_true rfl) (Nat.le_of_ble_eq_true rfl) (by decide) (sX9_run_1_1_2 H87 hI88 x 0 (by omega) (by omega) (by omega)) (fun H123 r124 q125 o126 => ?_)
              obtain ⟨hI127, hf128, y130, rfl, f129⟩ := q125
              clear o126
              have hf131 := fz_fr_tr hf89 hf128 (show fz_su [(44, 3), (46, 99999)] [(44, 3), (44, 4), (44, 5), (46, 99999)] = true from rfl)
              have k132 : H123 44 4 = b := (hf128 44 4 rfl).trans k92
              have k133 : H123 44 5 = 1 := (hf128 44 5 rfl).trans k93
              exact fz_iret kX9_start rfl rfl (fun _ => ⟨hI127, hf131, _, rfl⟩)
            · refine fz_eqi c94 ?_
              refine fz_iload_n kX9_start rfl rfl ?_
              refine fz_iconst ⟨by decide, by decide⟩ kX9_start rfl ?_
              have b134 : 0 ≤ H87 44 5 ∧ H87 44 5 ≤ 7 := hI88.1 44 _
              have b135 : (-2147483648) ≤ H87 44 3 ∧ H87 44 3 ≤ 2147483647 := hI88.1 44 _
              refine fz_callV (d' := 4) (M' := mX9_run) (As := [fz_i 1, fz_i 3, fz_i x, fz_i 0]) (st := []) kX9_start rfl rfl vX9_run rfl rfl rfl rfl (Nat.le_of_ble_eq_true rfl) (Nat.le_of_ble_eq_true rfl) (by decide) (sX9_run_1_1_3 H87 hI88 x 0 (by omega) (by omega) (by omega)) (fun H136 r137 q138 o139 => ?_)
              obtain ⟨hI140, hf141, y143, rfl, f142⟩ := q138
              clear o139
              have hf144 := fz_fr_tr hf89 hf141 (show fz_su [(44, 3), (46, 99999)] [(44, 3), (44, 4), (44, 5), (46, 99999)] = true from rfl)
              have k145 : H136 44 4 = b := (hf141 44 4 rfl).trans k92
              have k146 : H136 44 5 = 1 := (hf141 44 5 rfl).trans k93
              exact fz_iret kX9_start rfl rfl (fun _ => ⟨hI140, hf144, _, rfl⟩)
          · refine fz_eqi c26 ?_
            refine fz_putI kX9_start rfl rfl rfl ?_
            refine fz_nmu (S := [(44, 3), (44, 4), (44, 5), (46, 99999)]) (h0 := h) (fz_Iv_up hI20 (by decide) (show 0 ≤ 2 by omega) (show 2 ≤ 7 by omega)) (fz_fr_up hf21 rfl) (fun H147 hI148 hf149 e150 => ?_)
            have k151 : H147 44 3 = 0 := by rw [e150]; exact (fz_up_s (by decide)).trans k23
            have k152 : H147 44 4 = b := by rw [e150]; exact (fz_up_s (by decide)).trans k24
            have k153 : H147 44 5 = 2 := by rw [e150]; exact fz_up_e
            clear e150
            refine fz_aload_n kX9_start rfl rfl ?_
            refine fz_aload_n kX9_start rfl rfl ?_
            refine fz_getV (v := 2) kX9_start rfl rfl k153 ?_
            refine fz_iload_n kX9_start rfl rfl ?_
            rcases (show ac = 0 ∨ ac = 1 ∨ ac = 2 ∨ ac = 3 by omega) with c154 | c154 | c154 | c154
            · refine fz_eqi c154 ?_
              refine fz_iload_n kX9_start rfl rfl ?_
              refine fz_iconst ⟨by decide, by decide⟩ kX9_start rfl ?_
              have b155 : 0 ≤ H147 44 5 ∧ H147 44 5 ≤ 7 := hI148.1 44 _
              have b156 : (-2147483648) ≤ H147 44 3 ∧ H147 44 3 ≤ 2147483647 := hI148.1 44 _
              refine fz_callV (d' := 1) (M' := mX9_run) (As := [fz_i 2, fz_i 0, fz_i x, fz_i 0]) (st := []) kX9_start rfl rfl vX9_run rfl rfl rfl rfl (Nat.le_of_ble_eq_true rfl) (Nat.le_of_ble_eq_true rfl) (by decide) (sX9_run_2_2_0 H147 hI148 x 0 (by omega) (by omega) (by omega)) (fun H157 r158 q159 o160 => ?_)
              obtain ⟨hI161, hf162, y164, rfl, f163⟩ := q159
              clear o160
              have hf165 := fz_fr_tr hf149 hf162 (show fz_su [(44, 3), (46, 99999)] [(44, 3), (44, 4), (44, 5), (46, 99999)] = true from rfl)
              have k166 : H157 44 4 = b := (hf162 44 4 rfl).trans k152
              have k167 : H157 44 5 = 2 := (hf162 44 5 rfl).trans k153
              exact fz_iret kX9_start rfl rfl (fun _ => ⟨hI161, hf165, _, rfl⟩)
            · refine fz_eqi c154 ?_
              refine fz_iload_n kX9_start rfl rfl ?_
              refine fz_iconst ⟨by decide, by decide⟩ kX9_start rfl ?_
              have b168 : 0 ≤ H147 44 5 ∧ H147 44 5 ≤ 7 := hI148.1 44 _
              have b169 : (-2147483648) ≤ H147 44 3 ∧ H147 44 3 ≤ 2147483647 := hI148.1 44 _
              refine fz_callV (d' := 3) (M' := mX9_run) (As := [fz_i 2, fz_i 1, fz_i x, fz_i 0]) (st := []) kX9_start rfl rfl vX9_run rfl rfl rfl rfl (Nat.le_of_ble_eq_true rfl) (Nat.le_of_ble_eq_true rfl) (by decide) (sX9_run_2_2_1 H147 hI148 x 0 (by omega) (by omega) (by omega)) (fun H170 r171 q172 o173 => ?_)
              obtain ⟨hI174, hf175, y177, rfl, f176⟩ := q172
              clear o173
              have hf178 := fz_fr_tr hf149 hf175 (show fz_su [(44, 3), (46, 99999)] [(44, 3), (44, 4), (44, 5), (46, 99999)] = true from rfl)
              have k179 : H170 44 4 = b := (hf175 44 4 rfl).trans k152
              have k180 : H170 44 5 = 2 := (hf175 44 5 rfl).trans k153
              exact fz_iret kX9_start rfl rfl (fun _ => ⟨hI174, hf178, _, rfl⟩)
            · refine fz_eqi c154 ?_
              refine fz_iload_n kX9_start rfl rfl ?_
              refine fz_iconst ⟨by decide, by decide⟩ kX9_start rfl ?_
              have b181 : 0 ≤ H147 44 5 ∧ H147 44 5 ≤ 7 := hI148.1 44 _
              have b182 : (-2147483648) ≤ H147 44 3 ∧ H147 44 3 ≤ 2147483647 := hI148.1 44 _
              refine fz_callV (d' := 1) (M' := mX9_run) (As := [fz_i 2, fz_i 2, fz_i x, fz_i 0]) (st := []) kX9_start rfl rfl vX9_run rfl rfl rfl rfl (Nat.le_of_ble_eq_true rfl) (Nat.le_of_ble_eq_true rfl) (by decide) (sX9_run_2_2_2 H147 hI148 x 0 (by omega) (by omega) (by omega)) (fun H183 r184 q185 o186 => ?_)
              obtain ⟨hI187, hf188, y190, rfl, f189⟩ := q185
              clear o186
              have hf191 := fz_fr_tr hf149 hf188 (show fz_su [(44, 3), (46, 99999)] [(44, 3), (44, 4), (44, 5), (46, 99999)] = true from rfl)
              have k192 : H183 44 4 = b := (hf188 44 4 rfl).trans k152
              have k193 : H183 44 5 = 2 := (hf188 44 5 rfl).trans k153
              exact fz_iret kX9_start rfl rfl (fun _ => ⟨hI187, hf191, _, rfl⟩)
            · refine fz_eqi c154 ?_
              refine fz_iload_n kX9_start rfl rfl ?_
              refine fz_iconst ⟨by decide, by decide⟩ kX9_start rfl ?_
              have b194 : 0 ≤ H147 44 5 ∧ H147 44 5 ≤ 7 := hI148.1 44 _
              have b195 : (-2147483648) ≤ H147 44 3 ∧ H147 44 3 ≤ 2147483647 := hI148.1 44 _
              refine fz_callV (d' := 4) (M' := mX9_run) (As := [fz_i 2, fz_i 3, fz_i x, fz_i 0]) (st := []) kX9_start rfl rfl vX9_run rfl rfl rfl rfl (Nat.le_of_ble_eq_true rfl) (Nat.le_of_ble_eq_true rfl) (by decide) (sX9_run_2_2_3 H147 hI148 x 0 (by omega) (by omega) (by omega)) (fun H196 r197 q198 o199 => ?_)
              obtain ⟨hI200, hf201, y203, rfl, f202⟩ := q198
              clear o199
              have hf204 := fz_fr_tr hf149 hf201 (show fz_su [(44, 3), (46, 99999)] [(44, 3), (44, 4), (44, 5), (46, 99999)] = true from rfl)
              have k205 : H196 44 4 = b := (hf201 44 4 rfl).trans k152
              have k206 : H196 44 5 = 2 := (hf201 44 5 rfl).trans k153
              exact fz_iret kX9_start rfl rfl (fun _ => ⟨hI200, hf204, _, rfl⟩)
          · refine fz_eqi c26 ?_
            refine fz_putI kX9_start rfl rfl rfl ?_
            refine fz_nmu (S := [(44, 3), (44, 4), (44, 5), (46, 99999)]) (h0 := h) (fz_Iv_up hI20 (by decide) (show 0 ≤ 3 by omega) (show 3 ≤ 7 by omega)) (fz_fr_up hf21 rfl) (fun H207 hI208 hf209 e210 => ?_)
            have k211 : H207 44 3 = 0 := by rw [e210]; exact (fz_up_s (by decide)).trans k23
            have k212 : H207 44 4 = b := by rw [e210]; exact (fz_up_s (by decide)).trans k24
            have k213 : H207 44 5 = 3 := by rw [e210]; exact fz_up_e
            clear e210
            refine fz_aload_n kX9_start rfl rfl ?_
            refine fz_aload_n kX9_start rfl rfl ?_
            refine fz_getV (v := 3) kX9_start rfl rfl k213 ?_
            refine fz_iload_n kX9_start rfl rfl ?_
            rcases (show ac = 0 ∨ ac = 1 ∨ ac = 2 ∨ ac = 3 by omega) with c214 | c214 | c214 | c214
            · refine fz_eqi c214 ?_
              refine fz_iload_n kX9_start rfl rfl ?_
              refine fz_iconst ⟨by decide, by decide⟩ kX9_start rfl ?_
              have b215 : 0 ≤ H207 44 5 ∧ H207 44 5 ≤ 7 := hI208.1 44 _
              have b216 : (-2147483648) ≤ H207 44 3 ∧ H207 44 3 ≤ 2147483647 := hI208.1 44 _
              refine fz_callV (d' := 1) (M' := mX9_run) (As := [fz_i 3, fz_i 0, fz_i x, fz_i 0]) (st := []) kX9_start rfl rfl vX9_run rfl rfl rfl rfl (Nat.le_of_ble_eq_true rfl) (Nat.le_of_ble_eq_true rfl) (by decide) (sX9_run_3_3_0 H207 hI208 x 0 (by omega) (by omega) (by omega)) (fun H217 r218 q219 o220 => ?_)
              obtain ⟨hI221, hf222, y224, rfl, f223⟩ := q219
              clear o220
              have hf225 := fz_fr_tr hf209 hf222 (show fz_su [(44, 3), (46, 99999)] [(44, 3), (44, 4), (44, 5), (46, 99999)] = true from rfl)
              have k226 : H217 44 4 = b := (hf222 44 4 rfl).trans k212
              have k227 : H217 44 5 = 3 := (hf222 44 5 rfl).trans k213
              exact fz_iret kX9_start rfl rfl (fun _ => ⟨hI221, hf225, _, rfl⟩)
            · refine fz_eqi c214 ?_
              refine fz_iload_n kX9_start rfl rfl ?_
              refine fz_iconst ⟨by decide, by decide⟩ kX9_start rfl ?_
              have b228 : 0 ≤ H207 44 5 ∧ H207 44 5 ≤ 7 := hI208.1 44 _
              have b229 : (-2147483648) ≤ H207 44 3 ∧ H207 44 3 ≤ 2147483647 := hI208.1 44 _
              refine fz_callV (d' := 4) (M' := mX9_run) (As := [fz_i 3, fz_i 1, fz_i x, fz_i 0]) (st := []) kX9_start rfl rfl vX9_run rfl rfl rfl rfl (Nat.le_of_ble_eq_true rfl) (Nat.le_of_ble_eq_true rfl) (by decide) (sX9_run_3_3_1 H207 hI208 x 0 (by omega) (by omega) (by omega)) (fun H230 r231 q232 o233 => ?_)
              obtain ⟨hI234, hf235, y237, rfl, f236⟩ := q232
              clear o233
              have hf238 := fz_fr_tr hf209 hf235 (show fz_su [(44, 3), (46, 99999)] [(44, 3), (44, 4), (44, 5), (46, 99999)] = true from rfl)
              have k239 : H230 44 4 = b := (hf235 44 4 rfl).trans k212
              have k240 : H230 44 5 = 3 := (hf235 44 5 rfl).trans k213
              exact fz_iret kX9_start rfl rfl (fun _ => ⟨hI234, hf238, _, rfl⟩)
            · refine fz_eqi c214 ?_
              refine fz_iload_n kX9_start rfl rfl ?_
              refine fz_iconst ⟨by decide, by decide⟩ kX9_start rfl ?_
              have b241 : 0 ≤ H207 44 5 ∧ H207 44 5 ≤ 7 := hI208.1 44 _
              have b242 : (-2147483648) ≤ H207 44 3 ∧ H207 44 3 ≤ 2147483647 := hI208.1 44 _
              refine fz_callV (d' := 2) (M' := mX9_run) (As := [fz_i 3, fz_i 2, fz_i x, fz_i 0]) (st := []) kX9_start rfl rfl vX9_run rfl rfl rfl rfl (Nat.le_of_ble_eq_true rfl) (Nat.le_of_ble_eq_true rfl) (by decide) (sX9_run_3_3_2 H207 hI208 x 0 (by omega) (by omega) (by omega)) (fun H243 r244 q245 o246 => ?_)
              obtain ⟨hI247, hf248, y250, rfl, f249⟩ := q245
              clear o246
              have hf251 := fz_fr_tr hf209 hf248 (show fz_su [(44, 3), (46, 99999)] [(44, 3), (44, 4), (44, 5), (46, 99999)] = true from rfl)
              have k252 : H243 44 4 = b := (hf248 44 4 rfl).trans k212
              have k253 : H243 44 5 = 3 := (hf248 44 5 rfl).trans k213
              exact fz_iret kX9_start rfl rfl (fun _ => ⟨hI247, hf251, _, rfl⟩)
            · refine fz_eqi c214 ?_
              refine fz_iload_n kX9_start rfl rfl ?_
              refine fz_iconst ⟨by decide, by decide⟩ kX9_start rfl ?_
              have b254 : 0 ≤ H207 44 5 ∧ H207 44 5 ≤ 7 := hI208.1 44 _
              have b255 : (-2147483648) ≤ H207 44 3 ∧ H207 44 3 ≤ 2147483647 := hI208.1 44 _
              refine fz_callV (d' := 5) (M' := mX9_run) (As := [fz_i 3, fz_i 3, fz_i x, fz_i 0]) (st := []) kX9_start rfl rfl vX9_run rfl rfl rfl rfl (Nat.le_of_ble_eq_true rfl) (Nat.le_of_ble_eq_true rfl) (by decide) (sX9_run_3_3_3 H207 hI208 x 0 (by omega) (by omega) (by omega)) (fun H256 r257 q258 o259 => ?_)
              obtain ⟨hI260, hf261, y263, rfl, f262⟩ := q258
              clear o259
              have hf264 := fz_fr_tr hf209 hf261 (show fz_su [(44, 3), (46, 99999)] [(44, 3), (44, 4), (44, 5), (46, 99999)] = true from rfl)
              have k265 : H256 44 4 = b := (hf261 44 4 rfl).trans k212
              have k266 : H256 44 5 = 3 := (hf261 44 5 rfl).trans k213
              exact fz_iret kX9_start rfl rfl (fun _ => ⟨hI260, hf264, _, rfl⟩)
          · refine fz_eqi c26 ?_
            refine fz_putI kX9_start rfl rfl rfl ?_
            refine fz_nmu (S := [(44, 3), (44, 4), (44, 5), (46, 99999)]) (h0 := h) (fz_Iv_up hI20 (by decide) (show 0 ≤ 4 by omega) (show 4 ≤ 7 by omega)) (fz_fr_up hf21 rfl) (fun H267 hI268 hf269 e270 => ?_)
            have k271 : H267 44 3 = 0 := by rw [e270]; exact (fz_up_s (by decide)).trans k23
            have k272 : H267 44 4 = b := by rw [e270]; exact (fz_up_s (by decide)).trans k24
            have k273 : H267 44 5 = 4 := by rw [e270]; exact fz_up_e
            clear e270
            refine fz_aload_n kX9_start rfl rfl ?_
            refine fz_aload_n kX9_start rfl rfl ?_
            refine fz_getV (v := 4) kX9_start rfl rfl k273 ?_
            refine fz_iload_n kX9_start rfl rfl ?_
            rcases (show ac = 0 ∨ ac = 1 ∨ ac = 2 ∨ ac = 3 by omega) with c274 | c274 | c274 | c274
            · refine fz_eqi c274 ?_
              refine fz_iload_n kX9_start rfl rfl ?_
              refine fz_iconst ⟨by decide, by decide⟩ kX9_start rfl ?_
              have b275 : 0 ≤ H267 44 5 ∧ H267 44 5 ≤ 7 := hI268.1 44 _
              have b276 : (-2147483648) ≤ H267 44 3 ∧ H267 44 3 ≤ 2147483647 := hI268.1 44 _
              refine fz_callV (d' := 2) (M' := mX9_run) (As := [fz_i 4, fz_i 0, fz_i x, fz_i 0]) (st := []) kX9_start rfl rfl vX9_run rfl rfl rfl rfl (Nat.le_of_ble_eq_true rfl) (Nat.le_of_ble_eq_true rfl) (by decide) (sX9_run_4_4_0 H267 hI268 x 0 (by omega) (by omega) (by omega)) (fun H277 r278 q279 o280 => ?_)
              obtain ⟨hI281, hf282, y284, rfl, f283⟩ := q279
              clear o280
              have hf285 := fz_fr_tr hf269 hf282 (show fz_su [(44, 3), (46, 99999)] [(44, 3), (44, 4), (44, 5), (46, 99999)] = true from rfl)
              have k286 : H277 44 4 = b := (hf282 44 4 rfl).trans k272
              have k287 : H277 44 5 = 4 := (hf282 44 5 rfl).trans k273
              exact fz_iret kX9_start rfl rfl (fun _ => ⟨hI281, hf285, _, rfl⟩)
            · refine fz_eqi c274 ?_
              refine fz_iload_n kX9_start rfl rfl ?_
              refine fz_iconst ⟨by decide, by decide⟩ kX9_start rfl ?_
              have b288 : 0 ≤ H267 44 5 ∧ H267 44 5 ≤ 7 := hI268.1 44 _
              have b289 : (-2147483648) ≤ H267 44 3 ∧ H267 44 3 ≤ 2147483647 := hI268.1 44 _
              refine fz_callV (d' := 3) (M' := mX9_run) (As := [fz_i 4, fz_i 1, fz_i x, fz_i 0]) (st := []) kX9_start rfl rfl vX9_run rfl rfl rfl rfl (Nat.le_of_ble_eq_true rfl) (Nat.le_of_ble_eq_true rfl) (by decide) (sX9_run_4_4_1 H267 hI268 x 0 (by omega) (by omega) (by omega)) (fun H290 r291 q292 o293 => ?_)
              obtain ⟨hI294, hf295, y297, rfl, f296⟩ := q292
              clear o293
              have hf298 := fz_fr_tr hf269 hf295 (show fz_su [(44, 3), (46, 99999)] [(44, 3), (44, 4), (44, 5), (46, 99999)] = true from rfl)
              have k299 : H290 44 4 = b := (hf295 44 4 rfl).trans k272
              have k300 : H290 44 5 = 4 := (hf295 44 5 rfl).trans k273
              exact fz_iret kX9_start rfl rfl (fun _ => ⟨hI294, hf298, _, rfl⟩)
            · refine fz_eqi c274 ?_
              refine fz_iload_n kX9_start rfl rfl ?_
              refine fz_iconst ⟨by decide, by decide⟩ kX9_start rfl ?_
              have b301 : 0 ≤ H267 44 5 ∧ H267 44 5 ≤ 7 := hI268.1 44 _
              have b302 : (-2147483648) ≤ H267 44 3 ∧ H267 44 3 ≤ 2147483647 := hI268.1 44 _
              refine fz_callV (d' := 3) (M' := mX9_run) (As := [fz_i 4, fz_i 2, fz_i x, fz_i 0]) (st := []) kX9_start rfl rfl vX9_run rfl rfl rfl rfl (Nat.le_of_ble_eq_true rfl) (Nat.le_of_ble_eq_true rfl) (by decide) (sX9_run_4_4_2 H267 hI268 x 0 (by omega) (by omega) (by omega)) (fun H303 r304 q305 o306 => ?_)
              obtain ⟨hI307, hf308, y310, rfl, f309⟩ := q305
              clear o306
              have hf311 := fz_fr_tr hf269 hf308 (show fz_su [(44, 3), (46, 99999)] [(44, 3), (44, 4), (44, 5), (46, 99999)] = true from rfl)
              have k312 : H303 44 4 = b := (hf308 44 4 rfl).trans k272
              have k313 : H303 44 5 = 4 := (hf308 44 5 rfl).trans k273
              exact fz_iret kX9_start rfl rfl (fun _ => ⟨hI307, hf311, _, rfl⟩)
            · refine fz_eqi c274 ?_
              refine fz_iload_n kX9_start rfl rfl ?_
              refine fz_iconst ⟨by decide, by decide⟩ kX9_start rfl ?_
              have b314 : 0 ≤ H267 44 5 ∧ H267 44 5 ≤ 7 := hI268.1 44 _
              have b315 : (-2147483648) ≤ H267 44 3 ∧ H267 44 3 ≤ 2147483647 := hI268.1 44 _
              refine fz_callV (d' := 4) (M' := mX9_run) (As := [fz_i 4, fz_i 3, fz_i x, fz_i 0]) (st := []) kX9_start rfl rfl vX9_run rfl rfl rfl rfl (Nat.le_of_ble_eq_true rfl) (Nat.le_of_ble_eq_true rfl) (by decide) (sX9_run_4_4_3 H267 hI268 x 0 (by omega) (by omega) (by omega)) (fun H316 r317 q318 o319 => ?_)
              obtain ⟨hI320, hf321, y323, rfl, f322⟩ := q318
              clear o319
              have hf324 := fz_fr_tr hf269 hf321 (show fz_su [(44, 3), (46, 99999)] [(44, 3), (44, 4), (44, 5), (46, 99999)] = true from rfl)
              have k325 : H316 44 4 = b := (hf321 44 4 rfl).trans k272
              have k326 : H316 44 5 = 4 := (hf321 44 5 rfl).trans k273
              exact fz_iret kX9_start rfl rfl (fun _ => ⟨hI320, hf324, _, rfl⟩)
          · refine fz_eqi c26 ?_
            refine fz_putI kX9_start rfl rfl rfl ?_
            refine fz_nmu (S := [(44, 3), (44, 4), (44, 5), (46, 99999)]) (h0 := h) (fz_Iv_up hI20 (by decide) (show 0 ≤ 5 by omega) (show 5 ≤ 7 by omega)) (fz_fr_up hf21 rfl) (fun H327 hI328 hf329 e330 => ?_)
            have k331 : H327 44 3 = 0 := by rw [e330]; exact (fz_up_s (by decide)).trans k23
            have k332 : H327 44 4 = b := by rw [e330]; exact (fz_up_s (by decide)).trans k24
            have k333 : H327 44 5 = 5 := by rw [e330]; exact fz_up_e
            clear e330
            refine fz_aload_n kX9_start rfl rfl ?_
            refine fz_aload_n kX9_start rfl rfl ?_
            refine fz_getV (v := 5) kX9_start rfl rfl k333 ?_
            refine fz_iload_n kX9_start rfl rfl ?_
            rcases (show ac = 0 ∨ ac = 1 ∨ ac = 2 ∨ ac = 3 by omega) with c334 | c334 | c334 | c334
            · refine fz_eqi c334 ?_
              refine fz_iload_n kX9_start rfl rfl ?_
              refine fz_iconst ⟨by decide, by decide⟩ kX9_start rfl ?_
              have b335 : 0 ≤ H327 44 5 ∧ H327 44 5 ≤ 7 := hI328.1 44 _
              have b336 : (-2147483648) ≤ H327 44 3 ∧ H327 44 3 ≤ 2147483647 := hI328.1 44 _
              refine fz_callV (d' := 1) (M' := mX9_run) (As := [fz_i 5, fz_i 0, fz_i x, fz_i 0]) (st := []) kX9_start rfl rfl vX9_run rfl rfl rfl rfl (Nat.le_of_ble_eq_true rfl) (Nat.le_of_ble_eq_true rfl) (by decide) (sX9_run_5_5_0 H327 hI328 x 0 (by omega) (by omega) (by omega)) (fun H337 r338 q339 o340 => ?_)
              obtain ⟨hI341, hf342, y344, rfl, f343⟩ := q339
              clear o340
              have hf345 := fz_fr_tr hf329 hf342 (show fz_su [(44, 3), (46, 99999)] [(44, 3), (44, 4), (44, 5), (46, 99999)] = true from rfl)
              have k346 : H337 44 4 = b := (hf342 44 4 rfl).trans k332
              have k347 : H337 44 5 = 5 := (hf342 44 5 rfl).trans k333
              exact fz_iret kX9_start rfl rfl (fun _ => ⟨hI341, hf345, _, rfl⟩)
            · refine fz_eqi c334 ?_
              refine fz_iload_n kX9_start rfl rfl ?_
              refine fz_iconst ⟨by decide, by decide⟩ kX9_start rfl ?_
              have b348 : 0 ≤ H327 44 5 ∧ H327 44 5 ≤ 7 := hI328.1 44 _
              have b349 : (-2147483648) ≤ H327 44 3 ∧ H327 44 3 ≤ 2147483647 := hI328.1 44 _
              refine fz_callV (d' := 4) (M' := mX9_run) (As := [fz_i 5, fz_i 1, fz_i x, fz_i 0]) (st := []) kX9_start rfl rfl vX9_run rfl rfl rfl rfl (Nat.le_of_ble_eq_true rfl) (Nat.le_of_ble_eq_true rfl) (by decide) (sX9_run_5_5_1 H327 hI328 x 0 (by omega) (by omega) (by omega)) (fun H350 r351 q352 o353 => ?_)
              obtain ⟨hI354, hf355, y357, rfl, f356⟩ := q352
              clear o353
              have hf358 := fz_fr_tr hf329 hf355 (show fz_su [(44, 3), (46, 99999)] [(44, 3), (44, 4), (44, 5), (46, 99999)] = true from rfl)
              have k359 : H350 44 4 = b := (hf355 44 4 rfl).trans k332
              have k360 : H350 44 5 = 5 := (hf355 44 5 rfl).trans k333
              exact fz_iret kX9_start rfl rfl (fun _ => ⟨hI354, hf358, _, rfl⟩)
            · refine fz_eqi c334 ?_
              refine fz_iload_n kX9_start rfl rfl ?_
              refine fz_iconst ⟨by decide, by decide⟩ kX9_start rfl ?_
              have b361 : 0 ≤ H327 44 5 ∧ H327 44 5 ≤ 7 := hI328.1 44 _
              have b362 : (-2147483648) ≤ H327 44 3 ∧ H327 44 3 ≤ 2147483647 := hI328.1 44 _
              refine fz_callV (d' := 2) (M' := mX9_run) (As := [fz_i 5, fz_i 2, fz_i x, fz_i 0]) (st := []) kX9_start rfl rfl vX9_run rfl rfl rfl rfl (Nat.le_of_ble_eq_true rfl) (Nat.le_of_ble_eq_true rfl) (by decide) (sX9_run_5_5_2 H327 hI328 x 0 (by omega) (by omega) (by omega)) (fun H363 r364 q365 o366 => ?_)
              obtain ⟨hI367, hf368, y370, rfl, f369⟩ := q365
              clear o366
              have hf371 := fz_fr_tr hf329 hf368 (show fz_su [(44, 3), (46, 99999)] [(44, 3), (44, 4), (44, 5), (46, 99999)] = true from rfl)
              have k372 : H363 44 4 = b := (hf368 44 4 rfl).trans k332
              have k373 : H363 44 5 = 5 := (hf368 44 5 rfl).trans k333
              exact fz_iret kX9_start rfl rfl (fun _ => ⟨hI367, hf371, _, rfl⟩)
            · refine fz_eqi c334 ?_
              refine fz_iload_n kX9_start rfl rfl ?_
              refine fz_iconst ⟨by decide, by decide⟩ kX9_start rfl ?_
              have b374 : 0 ≤ H327 44 5 ∧ H327 44 5 ≤ 7 := hI328.1 44 _
              have b375 : (-2147483648) ≤ H327 44 3 ∧ H327 44 3 ≤ 2147483647 := hI328.1 44 _
              refine fz_callV (d' := 6) (M' := mX9_run) (As := [fz_i 5, fz_i 3, fz_i x, fz_i 0]) (st := []) kX9_start rfl rfl vX9_run rfl rfl rfl rfl (Nat.le_of_ble_eq_true rfl) (Nat.le_of_ble_eq_true rfl) (by decide) (sX9_run_5_5_3 H327 hI328 x 0 (by omega) (by omega) (by omega)) (fun H376 r377 q378 o379 => ?_)
              obtain ⟨hI380, hf381, y383, rfl, f382⟩ := q378
              clear o379
              have hf384 := fz_fr_tr hf329 hf381 (show fz_su [(44, 3), (46, 99999)] [(44, 3), (44, 4), (44, 5), (46, 99999)] = true from rfl)
              have k385 : H376 44 4 = b := (hf381 44 4 rfl).trans k332
              have k386 : H376 44 5 = 5 := (hf381 44 5 rfl).trans k333
              exact fz_iret kX9_start rfl rfl (fun _ => ⟨hI380, hf384, _, rfl⟩)
          · refine fz_eqi c26 ?_
            refine fz_putI kX9_start rfl rfl rfl ?_
            refine fz_nmu (S := [(44, 3), (44, 4), (44, 5), (46, 99999)]) (h0 := h) (fz_Iv_up hI20 (by decide) (show 0 ≤ 6 by omega) (show 6 ≤ 7 by omega)) (fz_fr_up hf21 rfl) (fun H387 hI388 hf389 e390 => ?_)
            have k391 : H387 44 3 = 0 := by rw [e390]; exact (fz_up_s (by decide)).trans k23
            have k392 : H387 44 4 = b := by rw [e390]; exact (fz_up_s (by decide)).trans k24
            have k393 : H387 44 5 = 6 := by rw [e390]; exact fz_up_e
            clear e390
            refine fz_aload_n kX9_start rfl rfl ?_
            refine fz_aload_n kX9_start rfl rfl ?_
            refine fz_getV (v := 6) kX9_start rfl rfl k393 ?_
            refine fz_iload_n kX9_start rfl rfl ?_
            rcases (show ac = 0 ∨ ac = 1 ∨ ac = 2 ∨ ac = 3 by omega) with c394 | c394 | c394 | c394
            · refine fz_eqi c394 ?_
              refine fz_iload_n kX9_start rfl rfl ?_
              refine fz_iconst ⟨by decide, by decide⟩ kX9_start rfl ?_
              have b395 : 0 ≤ H387 44 5 ∧ H387 44 5 ≤ 7 := hI388.1 44 _
              have b396 : (-2147483648) ≤ H387 44 3 ∧ H387 44 3 ≤ 2147483647 := hI388.1 44 _
              refine fz_callV (d' := 2) (M' := mX9_run) (As := [fz_i 6, fz_i 0, fz_i x, fz_i 0]) (st := []) kX9_start rfl rfl vX9_run rfl rfl rfl rfl (Nat.le_of_ble_eq_true rfl) (Nat.le_of_ble_eq_true rfl) (by decide) (sX9_run_6_6_0 H387 hI388 x 0 (by omega) (by omega) (by omega)) (fun H397 r398 q399 o400 => ?_)
              obtain ⟨hI401, hf402, y404, rfl, f403⟩ := q399
              clear o400
              have hf405 := fz_fr_tr hf389 hf402 (show fz_su [(44, 3), (46, 99999)] [(44, 3), (44, 4), (44, 5), (46, 99999)] = true from rfl)
              have k406 : H397 44 4 = b := (hf402 44 4 rfl).trans k392
              have k407 : H397 44 5 = 6 := (hf402 44 5 rfl).trans k393
              exact fz_iret kX9_start rfl rfl (fun _ => ⟨hI401, hf405, _, rfl⟩)
            · refine fz_eqi c394 ?_
              refine fz_iload_n kX9_start rfl rfl ?_
              refine fz_iconst ⟨by decide, by decide⟩ kX9_start rfl ?_
              have b408 : 0 ≤ H387 44 5 ∧ H387 44 5 ≤ 7 := hI388.1 44 _
              have b409 : (-2147483648) ≤ H387 44 3 ∧ H387 44 3 ≤ 2147483647 := hI388.1 44 _
              refine fz_callV (d' := 3) (M' := mX9_run) (As := [fz_i 6, fz_i 1, fz_i x, fz_i 0]) (st := []) kX9_start rfl rfl vX9_run rfl rfl rfl rfl (Nat.le_of_ble_eq_true rfl) (Nat.le_of_ble_eq_true rfl) (by decide) (sX9_run_6_6_1 H387 hI388 x 0 (by omega) (by omega) (by omega)) (fun H410 r411 q412 o413 => ?_)
              obtain ⟨hI414, hf415, y417, rfl, f416⟩ := q412
              clear o413
              have hf418 := fz_fr_tr hf389 hf415 (show fz_su [(44, 3), (46, 99999)] [(44, 3), (44, 4), (44, 5), (46, 99999)] = true from rfl)
              have k419 : H410 44 4 = b := (hf415 44 4 rfl).trans k392
              have k420 : H410 44 5 = 6 := (hf415 44 5 rfl).trans k393
              exact fz_iret kX9_start rfl rfl (fun _ => ⟨hI414, hf418, _, rfl⟩)
            · refine fz_eqi c394 ?_
              refine fz_iload_n kX9_start rfl rfl ?_
              refine fz_iconst ⟨by decide, by decide⟩ kX9_start rfl ?_
              have b421 : 0 ≤ H387 44 5 ∧ H387 44 5 ≤ 7 := hI388.1 44 _
              have b422 : (-2147483648) ≤ H387 44 3 ∧ H387 44 3 ≤ 2147483647 := hI388.1 44 _
              refine fz_callV (d' := 1) (M' := mX9_run) (As := [fz_i 6, fz_i 2, fz_i x, fz_i 0]) (st := []) kX9_start rfl rfl vX9_run rfl rfl rfl rfl (Nat.le_of_ble_eq_true rfl) (Nat.le_of_ble_eq_true rfl) (by decide) (sX9_run_6_6_2 H387 hI388 x 0 (by omega) (by omega) (by omega)) (fun H423 r424 q425 o426 => ?_)
              obtain ⟨hI427, hf428, y430, rfl, f429⟩ := q425
              clear o426
              have hf431 := fz_fr_tr hf389 hf428 (show fz_su [(44, 3), (46, 99999)] [(44, 3), (44, 4), (44, 5), (46, 99999)] = true from rfl)
              have k432 : H423 44 4 = b := (hf428 44 4 rfl).trans k392
              have k433 : H423 44 5 = 6 := (hf428 44 5 rfl).trans k393
              exact fz_iret kX9_start rfl rfl (fun _ => ⟨hI427, hf431, _, rfl⟩)
            · refine fz_eqi c394 ?_
              refine fz_iload_n kX9_start rfl rfl ?_
              refine fz_iconst ⟨by decide, by decide⟩ kX9_start rfl ?_
              have b434 : 0 ≤ H387 44 5 ∧ H387 44 5 ≤ 7 := hI388.1 44 _
              have b435 : (-2147483648) ≤ H387 44 3 ∧ H387 44 3 ≤ 2147483647 := hI388.1 44 _
              refine fz_callV (d' := 4) (M' := mX9_run) (As := [fz_i 6, fz_i 3, fz_i x, fz_i 0]) (st := []) kX9_start rfl rfl vX9_run rfl rfl rfl rfl (Nat.le_of_ble_eq_true rfl) (Nat.le_of_ble_eq_true rfl) (by decide) (sX9_run_6_6_3 H387 hI388 x 0 (by omega) (by omega) (by omega)) (fun H436 r437 q438 o439 => ?_)
              obtain ⟨hI440, hf441, y443, rfl, f442⟩ := q438
              clear o439
              have hf444 := fz_fr_tr hf389 hf441 (show fz_su [(44, 3), (46, 99999)] [(44, 3), (44, 4), (44, 5), (46, 99999)] = true from rfl)
              have k445 : H436 44 4 = b := (hf441 44 4 rfl).trans k392
              have k446 : H436 44 5 = 6 := (hf441 44 5 rfl).trans k393
              exact fz_iret kX9_start rfl rfl (fun _ => ⟨hI440, hf444, _, rfl⟩)
          · refine fz_eqi c26 ?_
            refine fz_putI kX9_start rfl rfl rfl ?_
            refine fz_nmu (S := [(44, 3), (44, 4), (44, 5), (46, 99999)]) (h0 := h) (fz_Iv_up hI20 (by decide) (show 0 ≤ 7 by omega) (show 7 ≤ 7 by omega)) (fz_fr_up hf21 rfl) (fun H447 hI448 hf449 e450 => ?_)
            have k451 : H447 44 3 = 0 := by rw [e450]; exact (fz_up_s (by decide)).trans k23
            have k452 : H447 44 4 = b := by rw [e450]; exact (fz_up_s (by decide)).trans k24
            have k453 : H447 44 5 = 7 := by rw [e450]; exact fz_up_e
            clear e450
            refine fz_aload_n kX9_start rfl rfl ?_
            refine fz_aload_n kX9_start rfl rfl ?_
            refine fz_getV (v := 7) kX9_start rfl rfl k453 ?_
            refine fz_iload_n kX9_start rfl rfl ?_
            rcases (show ac = 0 ∨ ac = 1 ∨ ac = 2 ∨ ac = 3 by omega) with c454 | c454 | c454 | c454
            · refine fz_eqi c454 ?_
              refine fz_iload_n kX9_start rfl rfl ?_
              refine fz_iconst ⟨by decide, by decide⟩ kX9_start rfl ?_
              have b455 : 0 ≤ H447 44 5 ∧ H447 44 5 ≤ 7 := hI448.1 44 _
              have b456 : (-2147483648) ≤ H447 44 3 ∧ H447 44 3 ≤ 2147483647 := hI448.1 44 _
              refine fz_callV (d' := 2) (M' := mX9_run) (As := [fz_i 7, fz_i 0, fz_i x, fz_i 0]) (st := []) kX9_start rfl rfl vX9_run rfl rfl rfl rfl (Nat.le_of_ble_eq_true rfl) (Nat.le_of_ble_eq_true rfl) (by decide) (sX9_run_7_7_0 H447 hI448 x 0 (by omega) (by omega) (by omega)) (fun H457 r458 q459 o460 => ?_)
              obtain ⟨hI461, hf462, y464, rfl, f463⟩ := q459
              clear o460
              have hf465 := fz_fr_tr hf449 hf462 (show fz_su [(44, 3), (46, 99999)] [(44, 3), (44, 4), (44, 5), (46, 99999)] = true from rfl)
              have k466 : H457 44 4 = b := (hf462 44 4 rfl).trans k452
              have k467 : H457 44 5 = 7 := (hf462 44 5 rfl).trans k453
              exact fz_iret kX9_start rfl rfl (fun _ => ⟨hI461, hf465, _, rfl⟩)
            · refine fz_eqi c454 ?_
              refine fz_iload_n kX9_start rfl rfl ?_
              refine fz_iconst ⟨by decide, by decide⟩ kX9_start rfl ?_
              have b468 : 0 ≤ H447 44 5 ∧ H447 44 5 ≤ 7 := hI448.1 44 _
              have b469 : (-2147483648) ≤ H447 44 3 ∧ H447 44 3 ≤ 2147483647 := hI448.1 44 _
              refine fz_callV (d' := 4) (M' := mX9_run) (As := [fz_i 7, fz_i 1, fz_i x, fz_i 0]) (st := []) kX9_start rfl rfl vX9_run rfl rfl rfl rfl (Nat.le_of_ble_eq_true rfl) (Nat.le_of_ble_eq_true rfl) (by decide) (sX9_run_7_7_1 H447 hI448 x 0 (by omega) (by omega) (by omega)) (fun H470 r471 q472 o473 => ?_)
              obtain ⟨hI474, hf475, y477, rfl, f476⟩ := q472
              clear o473
              have hf478 := fz_fr_tr hf449 hf475 (show fz_su [(44, 3), (46, 99999)] [(44, 3), (44, 4), (44, 5), (46, 99999)] = true from rfl)
              have k479 : H470 44 4 = b := (hf475 44 4 rfl).trans k452
              have k480 : H470 44 5 = 7 := (hf475 44 5 rfl).trans k453
              exact fz_iret kX9_start rfl rfl (fun _ => ⟨hI474, hf478, _, rfl⟩)
            · refine fz_eqi c454 ?_
              refine fz_iload_n kX9_start rfl rfl ?_
              refine fz_iconst ⟨by decide, by decide⟩ kX9_start rfl ?_
              have b481 : 0 ≤ H447 44 5 ∧ H447 44 5 ≤ 7 := hI448.1 44 _
              have b482 : (-2147483648) ≤ H447 44 3 ∧ H447 44 3 ≤ 2147483647 := hI448.1 44 _
              refine fz_callV (d' := 3) (M' := mX9_run) (As := [fz_i 7, fz_i 2, fz_i x, fz_i 0]) (st := []) kX9_start rfl rfl vX9_run rfl rfl rfl rfl (Nat.le_of_ble_eq_true rfl) (Nat.le_of_ble_eq_true rfl) (by decide) (sX9_run_7_7_2 H447 hI448 x 0 (by omega) (by omega) (by omega)) (fun H483 r484 q485 o486 => ?_)
              obtain ⟨hI487, hf488, y490, rfl, f489⟩ := q485
              clear o486
              have hf491 := fz_fr_tr hf449 hf488 (show fz_su [(44, 3), (46, 99999)] [(44, 3), (44, 4), (44, 5), (46, 99999)] = true from rfl)
              have k492 : H483 44 4 = b := (hf488 44 4 rfl).trans k452
              have k493 : H483 44 5 = 7 := (hf488 44 5 rfl).trans k453
              exact fz_iret kX9_start rfl rfl (fun _ => ⟨hI487, hf491, _, rfl⟩)
            · refine fz_eqi c454 ?_
              refine fz_iload_n kX9_start rfl rfl ?_
              refine fz_iconst ⟨by decide, by decide⟩ kX9_start rfl ?_
              have b494 : 0 ≤ H447 44 5 ∧ H447 44 5 ≤ 7 := hI448.1 44 _
              have b495 : (-2147483648) ≤ H447 44 3 ∧ H447 44 3 ≤ 2147483647 := hI448.1 44 _
              refine fz_callV (d' := 6) (M' := mX9_run) (As := [fz_i 7, fz_i 3, fz_i x, fz_i 0]) (st := []) kX9_start rfl rfl vX9_run rfl rfl rfl rfl (Nat.le_of_ble_eq_true rfl) (Nat.le_of_ble_eq_true rfl) (by decide) (sX9_run_7_7_3 H447 hI448 x 0 (by omega) (by omega) (by omega)) (fun H496 r497 q498 o499 => ?_)
              obtain ⟨hI500, hf501, y503, rfl, f502⟩ := q498
              clear o499
              have hf504 := fz_fr_tr hf449 hf501 (show fz_su [(44, 3), (46, 99999)] [(44, 3), (44, 4), (44, 5), (46, 99999)] = true from rfl)
              have k505 : H496 44 4 = b := (hf501 44 4 rfl).trans k452
              have k506 : H496 44 5 = 7 := (hf501 44 5 rfl).trans k453
              exact fz_iret kX9_start rfl rfl (fun _ => ⟨hI500, hf504, _, rfl⟩)
        · refine fz_iconst ⟨by decide, by decide⟩ kX9_start rfl ?_
          exact fz_iret kX9_start rfl rfl (fun _ => ⟨hI2, hf3, _, rfl⟩)
  · refine fz_if_eq (tgt := 22) kX9_start rfl (by decide) (fun c507 => ?_) (fun c507 => ?_)
    · refine fz_iconst ⟨by decide, by decide⟩ kX9_start rfl ?_
      exact fz_iret kX9_start rfl rfl (fun _ => ⟨hI2, hf3, _, rfl⟩)
    · exfalso; omega
