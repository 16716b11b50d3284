/-! ===== what the methods keep ===== -/
abbrev qX9_isKind (h : fz_H) (k : Int) : fz_H → Option fz_V → Prop := fun h' r0 => h' = h ∧ ∃ r : Int, r0 = some (fz_i r) ∧ ((r = 1 ∧ (0 ≤ k ∧ k < 8)) ∨ (r = 0 ∧ ¬ (0 ≤ k ∧ k < 8)))
set_option maxHeartbeats 1000000 in
set_option maxRecDepth 100000 in
theorem sX9_isKind (h : fz_H) (hI : fz_Iv h) (k : Int) : fz_R 0 mX9_isKind 0 [(0, fz_r 44), (1, fz_i k)] [] h (qX9_isKind h k) := by
  refine fz_knowl (fun hk => ?_)
  have hr_k : -2147483648 ≤ k ∧ k < 2147483648 := hk _ (List.Mem.tail _ (List.Mem.head _))
  clear hk
  refine fz_iload_n kX9_isKind rfl rfl ?_
  refine fz_if_lt (tgt := 14) kX9_isKind rfl (by decide) (fun c1 => ?_) (fun c1 => ?_)
  · refine fz_iconst ⟨by decide, by decide⟩ kX9_isKind rfl ?_
    exact fz_zret kX9_isKind rfl rfl (by omega) ⟨rfl, _, rfl, Or.inr ⟨rfl, by omega⟩⟩
  · refine fz_iload_n kX9_isKind rfl rfl ?_
    refine fz_bipush ⟨by decide, by decide⟩ kX9_isKind rfl ?_
    refine fz_icmp_ge (tgt := 14) kX9_isKind rfl (by decide) (fun c2 => ?_) (fun c2 => ?_)
    · refine fz_iconst ⟨by decide, by decide⟩ kX9_isKind rfl ?_
      exact fz_zret kX9_isKind rfl rfl (by omega) ⟨rfl, _, rfl, Or.inr ⟨rfl, by omega⟩⟩
    · refine fz_iconst ⟨by decide, by decide⟩ kX9_isKind rfl ?_
      refine fz_goto (tgt := 15) kX9_isKind rfl (by decide) ?_
      exact fz_zret kX9_isKind rfl rfl (by omega) ⟨rfl, _, rfl, Or.inl ⟨rfl, by omega⟩⟩

abbrev qX9_add (h : fz_H) (k : Int) : fz_H → Option fz_V → Prop := fun h' r0 => fz_Iv h' ∧ fz_fr [(44, 2), (45, 99999)] h h' ∧ ∃ r : Int, r0 = some (fz_i r) ∧ ((-3) ≤ r ∧ r ≤ 49) ∧ ((h 44 2 < 50 ∧ r = h 44 2 ∧ h' 44 2 = h 44 2 + 1) ∨ (50 ≤ h 44 2 ∧ r = -3 ∧ h' 44 2 = h 44 2)) ∧ (fz_bC h h' k)
set_option maxHeartbeats 1000000 in
set_option maxRecDepth 100000 in
theorem sX9_add (h : fz_H) (hI : fz_Iv h) (k : Int) (hp0 : 0 ≤ k ∧ k < 8) : fz_R 0 mX9_add 0 [(0, fz_r 44), (1, fz_i k)] [] h (qX9_add h k) := by
  refine fz_knowl (fun hk => ?_)
  have hr_k : -2147483648 ≤ k ∧ k < 2147483648 := hk _ (List.Mem.tail _ (List.Mem.head _))
  clear hk
  have hf : fz_fr [(44, 2), (45, 99999)] h h := fz_fr_rf
  have b1 : 0 ≤ h 44 2 ∧ h 44 2 ≤ 50 := hI.1 44 _
  refine fz_aload_n kX9_add rfl rfl ?_
  refine fz_getV (v := h 44 2) kX9_add rfl rfl rfl ?_
  have b2 : 0 ≤ h 44 2 ∧ h 44 2 ≤ 50 := hI.1 44 _
  refine fz_bipush ⟨by decide, by decide⟩ kX9_add rfl ?_
  refine fz_icmp_lt (tgt := 12) kX9_add rfl (by decide) (fun c3 => ?_) (fun c3 => ?_)
  · refine fz_aload_n kX9_add rfl rfl ?_
    refine fz_getR (t := 45) kX9_add rfl rfl ?_
    refine fz_aload_n kX9_add rfl rfl ?_
    refine fz_getV (v := h 44 2) kX9_add rfl rfl rfl ?_
    refine fz_iload_n kX9_add rfl rfl ?_
    refine fz_iast (n := 50) kX9_add rfl rfl (by omega) (by omega) ?_
    refine fz_nmu (S := [(44, 2), (45, 99999)]) (h0 := h) (fz_Iv_up hI (by decide) (show (0 : Int) ≤ k by omega) (show (k : Int) ≤ 7 by omega)) (fz_fr_up hf rfl) (fun H4 hI5 hf6 e7 => ?_)
    have k8 : H4 44 2 = (h 44 2) := by rw [e7]; exact (fz_up_o (by decide)).trans rfl
    have t9 : H4 44 2 = h 44 2 := by rw [e7]; exact fz_up_o (by decide)
    refine fz_aload_n kX9_add rfl rfl ?_
    refine fz_dup rfl kX9_add rfl ?_
    refine fz_getV (v := (h 44 2)) kX9_add rfl rfl k8 ?_
    refine fz_iconst ⟨by decide, by decide⟩ kX9_add rfl ?_
    refine fz_iaddN kX9_add rfl (by omega) ?_
    refine fz_putI kX9_add rfl rfl rfl ?_
    refine fz_nmu (S := [(44, 2), (45, 99999)]) (h0 := h) (fz_Iv_up hI5 (by decide) (show (0 : Int) ≤ ((h 44 2) + 1) by omega) (show (((h 44 2) + 1) : Int) ≤ 50 by omega)) (fz_fr_up hf6 rfl) (fun H10 hI11 hf12 e13 => ?_)
    have k14 : H10 44 2 = ((h 44 2) + 1) := by rw [e13]; exact fz_up_e
    refine fz_aload_n kX9_add rfl rfl ?_
    refine fz_getV (v := ((h 44 2) + 1)) kX9_add rfl rfl k14 ?_
    refine fz_iconst ⟨by decide, by decide⟩ kX9_add rfl ?_
    refine fz_isubN kX9_add rfl (by omega) ?_
    exact fz_iret kX9_add rfl rfl (fun _ => ⟨hI11, hf12, _, rfl, (by omega), (by omega), (by first | exact Or.inl ⟨by omega, fz_bu_in e7 e13 (by decide) rfl⟩ | exact Or.inr ⟨by omega, rfl⟩)⟩)
  · refine fz_bipush ⟨by decide, by decide⟩ kX9_add rfl ?_
    exact fz_iret kX9_add rfl rfl (fun _ => ⟨hI, hf, _, rfl, (by omega), (by omega), (by first | exact Or.inl ⟨by omega, fz_bu_in lost lost (by decide) rfl⟩ | exact Or.inr ⟨by omega, rfl⟩)⟩)
