/-! ===== what the methods keep ===== -/
abbrev qX11_both (h : fz_H) (c x y : Int) : fz_H → Option fz_V → Prop := fun h' r0 => h' = h ∧ ∃ r : Int, r0 = some (fz_i r) ∧ ((-2147483648) ≤ r ∧ r ≤ 2147483647) ∧ (r = fl_bs (fl_st c) x y)
set_option maxHeartbeats 1000000 in
set_option maxRecDepth 100000 in
theorem sX11_both (h : fz_H) (hI : fz_Iv h) (c x y : Int) (hp0 : 6 ≤ c ∧ c ≤ 15) : fz_R 0 mX11_both 0 [(0, fz_i c), (1, fz_i x), (2, fz_i y)] [] h (qX11_both h c x y) := by
  refine fz_knowl (fun hk => ?_)
  have hr_c : -2147483648 ≤ c ∧ c < 2147483648 := hk _ (List.Mem.head _)
  have hr_x : -2147483648 ≤ x ∧ x < 2147483648 := hk _ (List.Mem.tail _ (List.Mem.head _))
  have hr_y : -2147483648 ≤ y ∧ y < 2147483648 := hk _ (List.Mem.tail _ (List.Mem.tail _ (List.Mem.head _)))
  clear hk
  refine fz_iload_n kX11_both rfl rfl ?_
  rcases (show c = 6 ∨ c = 7 ∨ c = 8 ∨ c = 9 ∨ c = 10 ∨ c = 11 ∨ c = 12 ∨ c = 13 ∨ c = 14 ∨ (c < 6 ∨ 14 < c) by omega) with c1 | c1 | c1 | c1 | c1 | c1 | c1 | c1 | c1 | c1
  · refine fz_tswC (j := 6) (tgt := 52) kX11_both rfl c1 (by decide) (by decide) rfl (by decide) ?_
    refine fz_iload_n kX11_both rfl rfl ?_
    refine fz_if_ne (tgt := 60) kX11_both rfl (by decide) (fun c2 => ?_) (fun c2 => ?_)
    · refine fz_iconst ⟨by decide, by decide⟩ kX11_both rfl ?_
      refine fz_goto (tgt := 65) kX11_both rfl (by decide) ?_
      exact fz_iret kX11_both rfl rfl (fun _ => ⟨rfl, _, rfl, (by omega), (by first | exact fl_bsM (Or.inr (Or.inr (Or.inr (Or.inr (Or.inr (Or.inl ⟨by omega, rfl⟩)))))) | exact fl_bsM (Or.inr (Or.inr (Or.inr (Or.inr (Or.inr (Or.inr (Or.inl ⟨by omega, rfl⟩))))))) | exact fl_bsM (Or.inr (Or.inr (Or.inr (Or.inr (Or.inr (Or.inr (Or.inr (Or.inl ⟨by omega, rfl⟩)))))))) | exact fl_bsM (Or.inl ⟨by omega, Or.inl ⟨by omega, rfl⟩⟩) | exact fl_bsM (Or.inr (Or.inl ⟨by omega, Or.inl ⟨by omega, rfl⟩⟩)) | exact fl_bsM (Or.inr (Or.inr (Or.inl ⟨by omega, Or.inl ⟨by omega, rfl⟩⟩))) | exact fl_bsM (Or.inr (Or.inr (Or.inr (Or.inl ⟨by omega, Or.inl ⟨by omega, rfl⟩⟩)))) | exact fl_bsM (Or.inr (Or.inr (Or.inr (Or.inr (Or.inl ⟨by omega, Or.inl ⟨by omega, rfl⟩⟩))))) | exact fl_bsM (Or.inr (Or.inr (Or.inr (Or.inr (Or.inr (Or.inr (Or.inr (Or.inr (Or.inl ⟨by omega, Or.inl ⟨by omega, rfl⟩⟩))))))))) | exact fl_bsM (Or.inr (Or.inr (Or.inr (Or.inr (Or.inr (Or.inr (Or.inr (Or.inr (Or.inr (⟨by omega, Or.inl ⟨by omega, rfl⟩⟩)))))))))) | exact fl_bsM (Or.inl ⟨by omega, Or.inr ⟨by omega, rfl⟩⟩) | exact fl_bsM (Or.inr (Or.inl ⟨by omega, Or.inr ⟨by omega, rfl⟩⟩)) | exact fl_bsM (Or.inr (Or.inr (Or.inl ⟨by omega, Or.inr ⟨by omega, rfl⟩⟩))) | exact fl_bsM (Or.inr (Or.inr (Or.inr (Or.inl ⟨by omega, Or.inr ⟨by omega, rfl⟩⟩)))) | exact fl_bsM (Or.inr (Or.inr (Or.inr (Or.inr (Or.inl ⟨by omega, Or.inr ⟨by omega, rfl⟩⟩))))) | exact fl_bsM (Or.inr (Or.inr (Or.inr (Or.inr (Or.inr (Or.inr (Or.inr (Or.inr (Or.inl ⟨by omega, Or.inr ⟨by omega, rfl⟩⟩))))))))) | exact fl_bsM (Or.inr (Or.inr (Or.inr (Or.inr (Or.inr (Or.inr (Or.inr (Or.inr (Or.inr (⟨by omega, Or.inr ⟨by omega, rfl⟩⟩)))))))))))⟩)
    · refine fz_iload_n kX11_both rfl rfl ?_
      refine fz_if_eq (tgt := 64) kX11_both rfl (by decide) (fun c4 => ?_) (fun c4 => ?_)
      · refine fz_iconst ⟨by decide, by decide⟩ kX11_both rfl ?_
        exact fz_iret kX11_both rfl rfl (fun _ => ⟨rfl, _, rfl, (by omega), (by first | exact fl_bsM (Or.inr (Or.inr (Or.inr (Or.inr (Or.inr (Or.inl ⟨by omega, rfl⟩)))))) | exact fl_bsM (Or.inr (Or.inr (Or.inr (Or.inr (Or.inr (Or.inr (Or.inl ⟨by omega, rfl⟩))))))) | exact fl_bsM (Or.inr (Or.inr (Or.inr (Or.inr (Or.inr (Or.inr (Or.inr (Or.inl ⟨by omega, rfl⟩)))))))) | exact fl_bsM (Or.inl ⟨by omega, Or.inl ⟨by omega, rfl⟩⟩) | exact fl_bsM (Or.inr (Or.inl ⟨by omega, Or.inl ⟨by omega, rfl⟩⟩)) | exact fl_bsM (Or.inr (Or.inr (Or.inl ⟨by omega, Or.inl ⟨by omega, rfl⟩⟩))) | exact fl_bsM (Or.inr (Or.inr (Or.inr (Or.inl ⟨by omega, Or.inl ⟨by omega, rfl⟩⟩)))) | exact fl_bsM (Or.inr (Or.inr (Or.inr (Or.inr (Or.inl ⟨by omega, Or.inl ⟨by omega, rfl⟩⟩))))) | exact fl_bsM (Or.inr (Or.inr (Or.inr (Or.inr (Or.inr (Or.inr (Or.inr (Or.inr (Or.inl ⟨by omega, Or.inl ⟨by omega, rfl⟩⟩))))))))) | exact fl_bsM (Or.inr (Or.inr (Or.inr (Or.inr (Or.inr (Or.inr (Or.inr (Or.inr (Or.inr (⟨by omega, Or.inl ⟨by omega, rfl⟩⟩)))))))))) | exact fl_bsM (Or.inl ⟨by omega, Or.inr ⟨by omega, rfl⟩⟩) | exact fl_bsM (Or.inr (Or.inl ⟨by omega, Or.inr ⟨by omega, rfl⟩⟩)) | exact fl_bsM (Or.inr (Or.inr (Or.inl ⟨by omega, Or.inr ⟨by omega, rfl⟩⟩))) | exact fl_bsM (Or.inr (Or.inr (Or.inr (Or.inl ⟨by omega, Or.inr ⟨by omega, rfl⟩⟩)))) | exact fl_bsM (Or.inr (Or.inr (Or.inr (Or.inr (Or.inl ⟨by omega, Or.inr ⟨by omega, rfl⟩⟩))))) | exact fl_bsM (Or.inr (Or.inr (Or.inr (Or.inr (Or.inr (Or.inr (Or.inr (Or.inr (Or.inl ⟨by omega, Or.inr ⟨by omega, rfl⟩⟩))))))))) | exact fl_bsM (Or.inr (Or.inr (Or.inr (Or.inr (Or.inr (Or.inr (Or.inr (Or.inr (Or.inr (⟨by omega, Or.inr ⟨by omega, rfl⟩⟩)))))))))))⟩)
      · refine fz_iconst ⟨by decide, by decide⟩ kX11_both rfl ?_
        refine fz_goto (tgt := 65) kX11_both rfl (by decide) ?_
        exact fz_iret kX11_both rfl rfl (fun _ => ⟨rfl, _, rfl, (by omega), (by first | exact fl_bsM (Or.inr (Or.inr (Or.inr (Or.inr (Or.inr (Or.inl ⟨by omega, rfl⟩)))))) | exact fl_bsM (Or.inr (Or.inr (Or.inr (Or.inr (Or.inr (Or.inr (Or.inl ⟨by omega, rfl⟩))))))) | exact fl_bsM (Or.inr (Or.inr (Or.inr (Or.inr (Or.inr (Or.inr (Or.inr (Or.inl ⟨by omega, rfl⟩)))))))) | exact fl_bsM (Or.inl ⟨by omega, Or.inl ⟨by omega, rfl⟩⟩) | exact fl_bsM (Or.inr (Or.inl ⟨by omega, Or.inl ⟨by omega, rfl⟩⟩)) | exact fl_bsM (Or.inr (Or.inr (Or.inl ⟨by omega, Or.inl ⟨by omega, rfl⟩⟩))) | exact fl_bsM (Or.inr (Or.inr (Or.inr (Or.inl ⟨by omega, Or.inl ⟨by omega, rfl⟩⟩)))) | exact fl_bsM (Or.inr (Or.inr (Or.inr (Or.inr (Or.inl ⟨by omega, Or.inl ⟨by omega, rfl⟩⟩))))) | exact fl_bsM (Or.inr (Or.inr (Or.inr (Or.inr (Or.inr (Or.inr (Or.inr (Or.inr (Or.inl ⟨by omega, Or.inl ⟨by omega, rfl⟩⟩))))))))) | exact fl_bsM (Or.inr (Or.inr (Or.inr (Or.inr (Or.inr (Or.inr (Or.inr (Or.inr (Or.inr (⟨by omega, Or.inl ⟨by omega, rfl⟩⟩)))))))))) | exact fl_bsM (Or.inl ⟨by omega, Or.inr ⟨by omega, rfl⟩⟩) | exact fl_bsM (Or.inr (Or.inl ⟨by omega, Or.inr ⟨by omega, rfl⟩⟩)) | exact fl_bsM (Or.inr (Or.inr (Or.inl ⟨by omega, Or.inr ⟨by omega, rfl⟩⟩))) | exact fl_bsM (Or.inr (Or.inr (Or.inr (Or.inl ⟨by omega, Or.inr ⟨by omega, rfl⟩⟩)))) | exact fl_bsM (Or.inr (Or.inr (Or.inr (Or.inr (Or.inl ⟨by omega, Or.inr ⟨by omega, rfl⟩⟩))))) | exact fl_bsM (Or.inr (Or.inr (Or.inr (Or.inr (Or.inr (Or.inr (Or.inr (Or.inr (Or.inl ⟨by omega, Or.inr ⟨by omega, rfl⟩⟩))))))))) | exact fl_bsM (Or.inr (Or.inr (Or.inr (Or.inr (Or.inr (Or.inr (Or.inr (Or.inr (Or.inr (⟨by omega, Or.inr ⟨by omega, rfl⟩⟩)))))))))))⟩)
  · refine fz_tswC (j := 7) (tgt := 66) kX11_both rfl c1 (by decide) (by decide) rfl (by decide) ?_
    refine fz_iload_n kX11_both rfl rfl ?_
    refine fz_if_eq (tgt := 78) kX11_both rfl (by decide) (fun c7 => ?_) (fun c7 => ?_)
    · refine fz_iconst ⟨by decide, by decide⟩ kX11_both rfl ?_
      exact fz_iret kX11_both rfl rfl (fun _ => ⟨rfl, _, rfl, (by omega), (by first | exact fl_bsM (Or.inr (Or.inr (Or.inr (Or.inr (Or.inr (Or.inl ⟨by omega, rfl⟩)))))) | exact fl_bsM (Or.inr (Or.inr (Or.inr (Or.inr (Or.inr (Or.inr (Or.inl ⟨by omega, rfl⟩))))))) | exact fl_bsM (Or.inr (Or.inr (Or.inr (Or.inr (Or.inr (Or.inr (Or.inr (Or.inl ⟨by omega, rfl⟩)))))))) | exact fl_bsM (Or.inl ⟨by omega, Or.inl ⟨by omega, rfl⟩⟩) | exact fl_bsM (Or.inr (Or.inl ⟨by omega, Or.inl ⟨by omega, rfl⟩⟩)) | exact fl_bsM (Or.inr (Or.inr (Or.inl ⟨by omega, Or.inl ⟨by omega, rfl⟩⟩))) | exact fl_bsM (Or.inr (Or.inr (Or.inr (Or.inl ⟨by omega, Or.inl ⟨by omega, rfl⟩⟩)))) | exact fl_bsM (Or.inr (Or.inr (Or.inr (Or.inr (Or.inl ⟨by omega, Or.inl ⟨by omega, rfl⟩⟩))))) | exact fl_bsM (Or.inr (Or.inr (Or.inr (Or.inr (Or.inr (Or.inr (Or.inr (Or.inr (Or.inl ⟨by omega, Or.inl ⟨by omega, rfl⟩⟩))))))))) | exact fl_bsM (Or.inr (Or.inr (Or.inr (Or.inr (Or.inr (Or.inr (Or.inr (Or.inr (Or.inr (⟨by omega, Or.inl ⟨by omega, rfl⟩⟩)))))))))) | exact fl_bsM (Or.inl ⟨by omega, Or.inr ⟨by omega, rfl⟩⟩) | exact fl_bsM (Or.inr (Or.inl ⟨by omega, Or.inr ⟨by omega, rfl⟩⟩)) | exact fl_bsM (Or.inr (Or.inr (Or.inl ⟨by omega, Or.inr ⟨by omega, rfl⟩⟩))) | exact fl_bsM (Or.inr (Or.inr (Or.inr (Or.inl ⟨by omega, Or.inr ⟨by omega, rfl⟩⟩)))) | exact fl_bsM (Or.inr (Or.inr (Or.inr (Or.inr (Or.inl ⟨by omega, Or.inr ⟨by omega, rfl⟩⟩))))) | exact fl_bsM (Or.inr (Or.inr (Or.inr (Or.inr (Or.inr (Or.inr (Or.inr (Or.inr (Or.inl ⟨by omega, Or.inr ⟨by omega, rfl⟩⟩))))))))) | exact fl_bsM (Or.inr (Or.inr (Or.inr (Or.inr (Or.inr (Or.inr (Or.inr (Or.inr (Or.inr (⟨by omega, Or.inr ⟨by omega, rfl⟩⟩)))))))))))⟩)
    · refine fz_iload_n kX11_both rfl rfl ?_
      refine fz_if_eq (tgt := 78) kX11_both rfl (by decide) (fun c9 => ?_) (fun c9 => ?_)
      · refine fz_iconst ⟨by decide, by decide⟩ kX11_both rfl ?_
        exact fz_iret kX11_both rfl rfl (fun _ => ⟨rfl, _, rfl, (by omega), (by first | exact fl_bsM (Or.inr (Or.inr (Or.inr (Or.inr (Or.inr (Or.inl ⟨by omega, rfl⟩)))))) | exact fl_bsM (Or.inr (Or.inr (Or.inr (Or.inr (Or.inr (Or.inr (Or.inl ⟨by omega, rfl⟩))))))) | exact fl_bsM (Or.inr (Or.inr (Or.inr (Or.inr (Or.inr (Or.inr (Or.inr (Or.inl ⟨by omega, rfl⟩)))))))) | exact fl_bsM (Or.inl ⟨by omega, Or.inl ⟨by omega, rfl⟩⟩) | exact fl_bsM (Or.inr (Or.inl ⟨by omega, Or.inl ⟨by omega, rfl⟩⟩)) | exact fl_bsM (Or.inr (Or.inr (Or.inl ⟨by omega, Or.inl ⟨by omega, rfl⟩⟩))) | exact fl_bsM (Or.inr (Or.inr (Or.inr (Or.inl ⟨by omega, Or.inl ⟨by omega, rfl⟩⟩)))) | exact fl_bsM (Or.inr (Or.inr (Or.inr (Or.inr (Or.inl ⟨by omega, Or.inl ⟨by omega, rfl⟩⟩))))) | exact fl_bsM (Or.inr (Or.inr (Or.inr (Or.inr (Or.inr (Or.inr (Or.inr (Or.inr (Or.inl ⟨by omega, Or.inl ⟨by omega, rfl⟩⟩))))))))) | exact fl_bsM (Or.inr (Or.inr (Or.inr (Or.inr (Or.inr (Or.inr (Or.inr (Or.inr (Or.inr (⟨by omega, Or.inl ⟨by omega, rfl⟩⟩)))))))))) | exact fl_bsM (Or.inl ⟨by omega, Or.inr ⟨by omega, rfl⟩⟩) | exact fl_bsM (Or.inr (Or.inl ⟨by omega, Or.inr ⟨by omega, rfl⟩⟩)) | exact fl_bsM (Or.inr (Or.inr (Or.inl ⟨by omega, Or.inr ⟨by omega, rfl⟩⟩))) | exact fl_bsM (Or.inr (Or.inr (Or.inr (Or.inl ⟨by omega, Or.inr ⟨by omega, rfl⟩⟩)))) | exact fl_bsM (Or.inr (Or.inr (Or.inr (Or.inr (Or.inl ⟨by omega, Or.inr ⟨by omega, rfl⟩⟩))))) | exact fl_bsM (Or.inr (Or.inr (Or.inr (Or.inr (Or.inr (Or.inr (Or.inr (Or.inr (Or.inl ⟨by omega, Or.inr ⟨by omega, rfl⟩⟩))))))))) | exact fl_bsM (Or.inr (Or.inr (Or.inr (Or.inr (Or.inr (Or.inr (Or.inr (Or.inr (Or.inr (⟨by omega, Or.inr ⟨by omega, rfl⟩⟩)))))))))))⟩)
      · refine fz_iconst ⟨by decide, by decide⟩ kX11_both rfl ?_
        refine fz_goto (tgt := 79) kX11_both rfl (by decide) ?_
        exact fz_iret kX11_both rfl rfl (fun _ => ⟨rfl, _, rfl, (by omega), (by first | exact fl_bsM (Or.inr (Or.inr (Or.inr (Or.inr (Or.inr (Or.inl ⟨by omega, rfl⟩)))))) | exact fl_bsM (Or.inr (Or.inr (Or.inr (Or.inr (Or.inr (Or.inr (Or.inl ⟨by omega, rfl⟩))))))) | exact fl_bsM (Or.inr (Or.inr (Or.inr (Or.inr (Or.inr (Or.inr (Or.inr (Or.inl ⟨by omega, rfl⟩)))))))) | exact fl_bsM (Or.inl ⟨by omega, Or.inl ⟨by omega, rfl⟩⟩) | exact fl_bsM (Or.inr (Or.inl ⟨by omega, Or.inl ⟨by omega, rfl⟩⟩)) | exact fl_bsM (Or.inr (Or.inr (Or.inl ⟨by omega, Or.inl ⟨by omega, rfl⟩⟩))) | exact fl_bsM (Or.inr (Or.inr (Or.inr (Or.inl ⟨by omega, Or.inl ⟨by omega, rfl⟩⟩)))) | exact fl_bsM (Or.inr (Or.inr (Or.inr (Or.inr (Or.inl ⟨by omega, Or.inl ⟨by omega, rfl⟩⟩))))) | exact fl_bsM (Or.inr (Or.inr (Or.inr (Or.inr (Or.inr (Or.inr (Or.inr (Or.inr (Or.inl ⟨by omega, Or.inl ⟨by omega, rfl⟩⟩))))))))) | exact fl_bsM (Or.inr (Or.inr (Or.inr (Or.inr (Or.inr (Or.inr (Or.inr (Or.inr (Or.inr (⟨by omega, Or.inl ⟨by omega, rfl⟩⟩)))))))))) | exact fl_bsM (Or.inl ⟨by omega, Or.inr ⟨by omega, rfl⟩⟩) | exact fl_bsM (Or.inr (Or.inl ⟨by omega, Or.inr ⟨by omega, rfl⟩⟩)) | exact fl_bsM (Or.inr (Or.inr (Or.inl ⟨by omega, Or.inr ⟨by omega, rfl⟩⟩))) | exact fl_bsM (Or.inr (Or.inr (Or.inr (Or.inl ⟨by omega, Or.inr ⟨by omega, rfl⟩⟩)))) | exact fl_bsM (Or.inr (Or.inr (Or.inr (Or.inr (Or.inl ⟨by omega, Or.inr ⟨by omega, rfl⟩⟩))))) | exact fl_bsM (Or.inr (Or.inr (Or.inr (Or.inr (Or.inr (Or.inr (Or.inr (Or.inr (Or.inl ⟨by omega, Or.inr ⟨by omega, rfl⟩⟩))))))))) | exact fl_bsM (Or.inr (Or.inr (Or.inr (Or.inr (Or.inr (Or.inr (Or.inr (Or.inr (Or.inr (⟨by omega, Or.inr ⟨by omega, rfl⟩⟩)))))))))))⟩)
  · refine fz_tswC (j := 8) (tgt := 80) kX11_both rfl c1 (by decide) (by decide) rfl (by decide) ?_
    refine fz_iload_n kX11_both rfl rfl ?_
    refine fz_iload_n kX11_both rfl rfl ?_
    refine fz_icmp_ge (tgt := 89) kX11_both rfl (by decide) (fun c12 => ?_) (fun c12 => ?_)
    · refine fz_iconst ⟨by decide, by decide⟩ kX11_both rfl ?_
      exact fz_iret kX11_both rfl rfl (fun _ => ⟨rfl, _, rfl, (by omega), (by first | exact fl_bsM (Or.inr (Or.inr (Or.inr (Or.inr (Or.inr (Or.inl ⟨by omega, rfl⟩)))))) | exact fl_bsM (Or.inr (Or.inr (Or.inr (Or.inr (Or.inr (Or.inr (Or.inl ⟨by omega, rfl⟩))))))) | exact fl_bsM (Or.inr (Or.inr (Or.inr (Or.inr (Or.inr (Or.inr (Or.inr (Or.inl ⟨by omega, rfl⟩)))))))) | exact fl_bsM (Or.inl ⟨by omega, Or.inl ⟨by omega, rfl⟩⟩) | exact fl_bsM (Or.inr (Or.inl ⟨by omega, Or.inl ⟨by omega, rfl⟩⟩)) | exact fl_bsM (Or.inr (Or.inr (Or.inl ⟨by omega, Or.inl ⟨by omega, rfl⟩⟩))) | exact fl_bsM (Or.inr (Or.inr (Or.inr (Or.inl ⟨by omega, Or.inl ⟨by omega, rfl⟩⟩)))) | exact fl_bsM (Or.inr (Or.inr (Or.inr (Or.inr (Or.inl ⟨by omega, Or.inl ⟨by omega, rfl⟩⟩))))) | exact fl_bsM (Or.inr (Or.inr (Or.inr (Or.inr (Or.inr (Or.inr (Or.inr (Or.inr (Or.inl ⟨by omega, Or.inl ⟨by omega, rfl⟩⟩))))))))) | exact fl_bsM (Or.inr (Or.inr (Or.inr (Or.inr (Or.inr (Or.inr (Or.inr (Or.inr (Or.inr (⟨by omega, Or.inl ⟨by omega, rfl⟩⟩)))))))))) | exact fl_bsM (Or.inl ⟨by omega, Or.inr ⟨by omega, rfl⟩⟩) | exact fl_bsM (Or.inr (Or.inl ⟨by omega, Or.inr ⟨by omega, rfl⟩⟩)) | exact fl_bsM (Or.inr (Or.inr (Or.inl ⟨by omega, Or.inr ⟨by omega, rfl⟩⟩))) | exact fl_bsM (Or.inr (Or.inr (Or.inr (Or.inl ⟨by omega, Or.inr ⟨by omega, rfl⟩⟩)))) | exact fl_bsM (Or.inr (Or.inr (Or.inr (Or.inr (Or.inl ⟨by omega, Or.inr ⟨by omega, rfl⟩⟩))))) | exact fl_bsM (Or.inr (Or.inr (Or.inr (Or.inr (Or.inr (Or.inr (Or.inr (Or.inr (Or.inl ⟨by omega, Or.inr ⟨by omega, rfl⟩⟩))))))))) | exact fl_bsM (Or.inr (Or.inr (Or.inr (Or.inr (Or.inr (Or.inr (Or.inr (Or.inr (Or.inr (⟨by omega, Or.inr ⟨by omega, rfl⟩⟩)))))))))))⟩)
    · refine fz_iconst ⟨by decide, by decide⟩ kX11_both rfl ?_
      refine fz_goto (tgt := 90) kX11_both rfl (by decide) ?_
      exact fz_iret kX11_both rfl rfl (fun _ => ⟨rfl, _, rfl, (by omega), (by first | exact fl_bsM (Or.inr (Or.inr (Or.inr (Or.inr (Or.inr (Or.inl ⟨by omega, rfl⟩)))))) | exact fl_bsM (Or.inr (Or.inr (Or.inr (Or.inr (Or.inr (Or.inr (Or.inl ⟨by omega, rfl⟩))))))) | exact fl_bsM (Or.inr (Or.inr (Or.inr (Or.inr (Or.inr (Or.inr (Or.inr (Or.inl ⟨by omega, rfl⟩)))))))) | exact fl_bsM (Or.inl ⟨by omega, Or.inl ⟨by omega, rfl⟩⟩) | exact fl_bsM (Or.inr (Or.inl ⟨by omega, Or.inl ⟨by omega, rfl⟩⟩)) | exact fl_bsM (Or.inr (Or.inr (Or.inl ⟨by omega, Or.inl ⟨by omega, rfl⟩⟩))) | exact fl_bsM (Or.inr (Or.inr (Or.inr (Or.inl ⟨by omega, Or.inl ⟨by omega, rfl⟩⟩)))) | exact fl_bsM (Or.inr (Or.inr (Or.inr (Or.inr (Or.inl ⟨by omega, Or.inl ⟨by omega, rfl⟩⟩))))) | exact fl_bsM (Or.inr (Or.inr (Or.inr (Or.inr (Or.inr (Or.inr (Or.inr (Or.inr (Or.inl ⟨by omega, Or.inl ⟨by omega, rfl⟩⟩))))))))) | exact fl_bsM (Or.inr (Or.inr (Or.inr (Or.inr (Or.inr (Or.inr (Or.inr (Or.inr (Or.inr (⟨by omega, Or.inl ⟨by omega, rfl⟩⟩)))))))))) | exact fl_bsM (Or.inl ⟨by omega, Or.inr ⟨by omega, rfl⟩⟩) | exact fl_bsM (Or.inr (Or.inl ⟨by omega, Or.inr ⟨by omega, rfl⟩⟩)) | exact fl_bsM (Or.inr (Or.inr (Or.inl ⟨by omega, Or.inr ⟨by omega, rfl⟩⟩))) | exact fl_bsM (Or.inr (Or.inr (Or.inr (Or.inl ⟨by omega, Or.inr ⟨by omega, rfl⟩⟩)))) | exact fl_bsM (Or.inr (Or.inr (Or.inr (Or.inr (Or.inl ⟨by omega, Or.inr ⟨by omega, rfl⟩⟩))))) | exact fl_bsM (Or.inr (Or.inr (Or.inr (Or.inr (Or.inr (Or.inr (Or.inr (Or.inr (Or.inl ⟨by omega, Or.inr ⟨by omega, rfl⟩⟩))))))))) | exact fl_bsM (Or.inr (Or.inr (Or.inr (Or.inr (Or.inr (Or.inr (Or.inr (Or.inr (Or.inr (⟨by omega, Or.inr ⟨by omega, rfl⟩⟩)))))))))))⟩)
  · refine fz_tswC (j := 9) (tgt := 91) kX11_both rfl c1 (by decide) (by decide) rfl (by decide) ?_
    refine fz_iload_n kX11_both rfl rfl ?_
    refine fz_iload_n kX11_both rfl rfl ?_
    refine fz_icmp_ne (tgt := 100) kX11_both rfl (by decide) (fun c15 => ?_) (fun c15 => ?_)
    · refine fz_iconst ⟨by decide, by decide⟩ kX11_both rfl ?_
      exact fz_iret kX11_both rfl rfl (fun _ => ⟨rfl, _, rfl, (by omega), (by first | exact fl_bsM (Or.inr (Or.inr (Or.inr (Or.inr (Or.inr (Or.inl ⟨by omega, rfl⟩)))))) | exact fl_bsM (Or.inr (Or.inr (Or.inr (Or.inr (Or.inr (Or.inr (Or.inl ⟨by omega, rfl⟩))))))) | exact fl_bsM (Or.inr (Or.inr (Or.inr (Or.inr (Or.inr (Or.inr (Or.inr (Or.inl ⟨by omega, rfl⟩)))))))) | exact fl_bsM (Or.inl ⟨by omega, Or.inl ⟨by omega, rfl⟩⟩) | exact fl_bsM (Or.inr (Or.inl ⟨by omega, Or.inl ⟨by omega, rfl⟩⟩)) | exact fl_bsM (Or.inr (Or.inr (Or.inl ⟨by omega, Or.inl ⟨by omega, rfl⟩⟩))) | exact fl_bsM (Or.inr (Or.inr (Or.inr (Or.inl ⟨by omega, Or.inl ⟨by omega, rfl⟩⟩)))) | exact fl_bsM (Or.inr (Or.inr (Or.inr (Or.inr (Or.inl ⟨by omega, Or.inl ⟨by omega, rfl⟩⟩))))) | exact fl_bsM (Or.inr (Or.inr (Or.inr (Or.inr (Or.inr (Or.inr (Or.inr (Or.inr (Or.inl ⟨by omega, Or.inl ⟨by omega, rfl⟩⟩))))))))) | exact fl_bsM (Or.inr (Or.inr (Or.inr (Or.inr (Or.inr (Or.inr (Or.inr (Or.inr (Or.inr (⟨by omega, Or.inl ⟨by omega, rfl⟩⟩)))))))))) | exact fl_bsM (Or.inl ⟨by omega, Or.inr ⟨by omega, rfl⟩⟩) | exact fl_bsM (Or.inr (Or.inl ⟨by omega, Or.inr ⟨by omega, rfl⟩⟩)) | exact fl_bsM (Or.inr (Or.inr (Or.inl ⟨by omega, Or.inr ⟨by omega, rfl⟩⟩))) | exact fl_bsM (Or.inr (Or.inr (Or.inr (Or.inl ⟨by omega, Or.inr ⟨by omega, rfl⟩⟩)))) | exact fl_bsM (Or.inr (Or.inr (Or.inr (Or.inr (Or.inl ⟨by omega, Or.inr ⟨by omega, rfl⟩⟩))))) | exact fl_bsM (Or.inr (Or.inr (Or.inr (Or.inr (Or.inr (Or.inr (Or.inr (Or.inr (Or.inl ⟨by omega, Or.inr ⟨by omega, rfl⟩⟩))))))))) | exact fl_bsM (Or.inr (Or.inr (Or.inr (Or.inr (Or.inr (Or.inr (Or.inr (Or.inr (Or.inr (⟨by omega, Or.inr ⟨by omega, rfl⟩⟩)))))))))))⟩)
    · refine fz_iconst ⟨by decide, by decide⟩ kX11_both rfl ?_
      refine fz_goto (tgt := 101) kX11_both rfl (by decide) ?_
      exact fz_iret kX11_both rfl rfl (fun _ => ⟨rfl, _, rfl, (by omega), (by first | exact fl_bsM (Or.inr (Or.inr (Or.inr (Or.inr (Or.inr (Or.inl ⟨by omega, rfl⟩)))))) | exact fl_bsM (Or.inr (Or.inr (Or.inr (Or.inr (Or.inr (Or.inr (Or.inl ⟨by omega, rfl⟩))))))) | exact fl_bsM (Or.inr (Or.inr (Or.inr (Or.inr (Or.inr (Or.inr (Or.inr (Or.inl ⟨by omega, rfl⟩)))))))) | exact fl_bsM (Or.inl ⟨by omega, Or.inl ⟨by omega, rfl⟩⟩) | exact fl_bsM (Or.inr (Or.inl ⟨by omega, Or.inl ⟨by omega, rfl⟩⟩)) | exact fl_bsM (Or.inr (Or.inr (Or.inl ⟨by omega, Or.inl ⟨by omega, rfl⟩⟩))) | exact fl_bsM (Or.inr (Or.inr (Or.inr (Or.inl ⟨by omega, Or.inl ⟨by omega, rfl⟩⟩)))) | exact fl_bsM (Or.inr (Or.inr (Or.inr (Or.inr (Or.inl ⟨by omega, Or.inl ⟨by omega, rfl⟩⟩))))) | exact fl_bsM (Or.inr (Or.inr (Or.inr (Or.inr (Or.inr (Or.inr (Or.inr (Or.inr (Or.inl ⟨by omega, Or.inl ⟨by omega, rfl⟩⟩))))))))) | exact fl_bsM (Or.inr (Or.inr (Or.inr (Or.inr (Or.inr (Or.inr (Or.inr (Or.inr (Or.inr (⟨by omega, Or.inl ⟨by omega, rfl⟩⟩)))))))))) | exact fl_bsM (Or.inl ⟨by omega, Or.inr ⟨by omega, rfl⟩⟩) | exact fl_bsM (Or.inr (Or.inl ⟨by omega, Or.inr ⟨by omega, rfl⟩⟩)) | exact fl_bsM (Or.inr (Or.inr (Or.inl ⟨by omega, Or.inr ⟨by omega, rfl⟩⟩))) | exact fl_bsM (Or.inr (Or.inr (Or.inr (Or.inl ⟨by omega, Or.inr ⟨by omega, rfl⟩⟩)))) | exact fl_bsM (Or.inr (Or.inr (Or.inr (Or.inr (Or.inl ⟨by omega, Or.inr ⟨by omega, rfl⟩⟩))))) | exact fl_bsM (Or.inr (Or.inr (Or.inr (Or.inr (Or.inr (Or.inr (Or.inr (Or.inr (Or.inl ⟨by omega, Or.inr ⟨by omega, rfl⟩⟩))))))))) | exact fl_bsM (Or.inr (Or.inr (Or.inr (Or.inr (Or.inr (Or.inr (Or.inr (Or.inr (Or.inr (⟨by omega, Or.inr ⟨by omega, rfl⟩⟩)))))))))))⟩)
  · refine fz_tswC (j := 10) (tgt := 102) kX11_both rfl c1 (by decide) (by decide) rfl (by decide) ?_
    refine fz_iload_n kX11_both rfl rfl ?_
    refine fz_iload_n kX11_both rfl rfl ?_
    refine fz_icmp_le (tgt := 111) kX11_both rfl (by decide) (fun c18 => ?_) (fun c18 => ?_)
    · refine fz_iconst ⟨by decide, by decide⟩ kX11_both rfl ?_
      exact fz_iret kX11_both rfl rfl (fun _ => ⟨rfl, _, rfl, (by omega), (by first | exact fl_bsM (Or.inr (Or.inr (Or.inr (Or.inr (Or.inr (Or.inl ⟨by omega, rfl⟩)))))) | exact fl_bsM (Or.inr (Or.inr (Or.inr (Or.inr (Or.inr (Or.inr (Or.inl ⟨by omega, rfl⟩))))))) | exact fl_bsM (Or.inr (Or.inr (Or.inr (Or.inr (Or.inr (Or.inr (Or.inr (Or.inl ⟨by omega, rfl⟩)))))))) | exact fl_bsM (Or.inl ⟨by omega, Or.inl ⟨by omega, rfl⟩⟩) | exact fl_bsM (Or.inr (Or.inl ⟨by omega, Or.inl ⟨by omega, rfl⟩⟩)) | exact fl_bsM (Or.inr (Or.inr (Or.inl ⟨by omega, Or.inl ⟨by omega, rfl⟩⟩))) | exact fl_bsM (Or.inr (Or.inr (Or.inr (Or.inl ⟨by omega, Or.inl ⟨by omega, rfl⟩⟩)))) | exact fl_bsM (Or.inr (Or.inr (Or.inr (Or.inr (Or.inl ⟨by omega, Or.inl ⟨by omega, rfl⟩⟩))))) | exact fl_bsM (Or.inr (Or.inr (Or.inr (Or.inr (Or.inr (Or.inr (Or.inr (Or.inr (Or.inl ⟨by omega, Or.inl ⟨by omega, rfl⟩⟩))))))))) | exact fl_bsM (Or.inr (Or.inr (Or.inr (Or.inr (Or.inr (Or.inr (Or.inr (Or.inr (Or.inr (⟨by omega, Or.inl ⟨by omega, rfl⟩⟩)))))))))) | exact fl_bsM (Or.inl ⟨by omega, Or.inr ⟨by omega, rfl⟩⟩) | exact fl_bsM (Or.inr (Or.inl ⟨by omega, Or.inr ⟨by omega, rfl⟩⟩)) | exact fl_bsM (Or.inr (Or.inr (Or.inl ⟨by omega, Or.inr ⟨by omega, rfl⟩⟩))) | exact fl_bsM (Or.inr (Or.inr (Or.inr (Or.inl ⟨by omega, Or.inr ⟨by omega, rfl⟩⟩)))) | exact fl_bsM (Or.inr (Or.inr (Or.inr (Or.inr (Or.inl ⟨by omega, Or.inr ⟨by omega, rfl⟩⟩))))) | exact fl_bsM (Or.inr (Or.inr (Or.inr (Or.inr (Or.inr (Or.inr (Or.inr (Or.inr (Or.inl ⟨by omega, Or.inr ⟨by omega, rfl⟩⟩))))))))) | exact fl_bsM (Or.inr (Or.inr (Or.inr (Or.inr (Or.inr (Or.inr (Or.inr (Or.inr (Or.inr (⟨by omega, Or.inr ⟨by omega, rfl⟩⟩)))))))))))⟩)
    · refine fz_iconst ⟨by decide, by decide⟩ kX11_both rfl ?_
      refine fz_goto (tgt := 112) kX11_both rfl (by decide) ?_
      exact fz_iret kX11_both rfl rfl (fun _ => ⟨rfl, _, rfl, (by omega), (by first | exact fl_bsM (Or.inr (Or.inr (Or.inr (Or.inr (Or.inr (Or.inl ⟨by omega, rfl⟩)))))) | exact fl_bsM (Or.inr (Or.inr (Or.inr (Or.inr (Or.inr (Or.inr (Or.inl ⟨by omega, rfl⟩))))))) | exact fl_bsM (Or.inr (Or.inr (Or.inr (Or.inr (Or.inr (Or.inr (Or.inr (Or.inl ⟨by omega, rfl⟩)))))))) | exact fl_bsM (Or.inl ⟨by omega, Or.inl ⟨by omega, rfl⟩⟩) | exact fl_bsM (Or.inr (Or.inl ⟨by omega, Or.inl ⟨by omega, rfl⟩⟩)) | exact fl_bsM (Or.inr (Or.inr (Or.inl ⟨by omega, Or.inl ⟨by omega, rfl⟩⟩))) | exact fl_bsM (Or.inr (Or.inr (Or.inr (Or.inl ⟨by omega, Or.inl ⟨by omega, rfl⟩⟩)))) | exact fl_bsM (Or.inr (Or.inr (Or.inr (Or.inr (Or.inl ⟨by omega, Or.inl ⟨by omega, rfl⟩⟩))))) | exact fl_bsM (Or.inr (Or.inr (Or.inr (Or.inr (Or.inr (Or.inr (Or.inr (Or.inr (Or.inl ⟨by omega, Or.inl ⟨by omega, rfl⟩⟩))))))))) | exact fl_bsM (Or.inr (Or.inr (Or.inr (Or.inr (Or.inr (Or.inr (Or.inr (Or.inr (Or.inr (⟨by omega, Or.inl ⟨by omega, rfl⟩⟩)))))))))) | exact fl_bsM (Or.inl ⟨by omega, Or.inr ⟨by omega, rfl⟩⟩) | exact fl_bsM (Or.inr (Or.inl ⟨by omega, Or.inr ⟨by omega, rfl⟩⟩)) | exact fl_bsM (Or.inr (Or.inr (Or.inl ⟨by omega, Or.inr ⟨by omega, rfl⟩⟩))) | exact fl_bsM (Or.inr (Or.inr (Or.inr (Or.inl ⟨by omega, Or.inr ⟨by omega, rfl⟩⟩)))) | exact fl_bsM (Or.inr (Or.inr (Or.inr (Or.inr (Or.inl ⟨by omega, Or.inr ⟨by omega, rfl⟩⟩))))) | exact fl_bsM (Or.inr (Or.inr (Or.inr (Or.inr (Or.inr (Or.inr (Or.inr (Or.inr (Or.inl ⟨by omega, Or.inr ⟨by omega, rfl⟩⟩))))))))) | exact fl_bsM (Or.inr (Or.inr (Or.inr (Or.inr (Or.inr (Or.inr (Or.inr (Or.inr (Or.inr (⟨by omega, Or.inr ⟨by omega, rfl⟩⟩)))))))))))⟩)
  · refine fz_tswC (j := 11) (tgt := 113) kX11_both rfl c1 (by decide) (by decide) rfl (by decide) ?_
    refine fz_iload_n kX11_both rfl rfl ?_
    refine fz_iload_n kX11_both rfl rfl ?_
    refine fz_iadd kX11_both rfl ?_
    have b21 := fz_w_b (x + y)
    exact fz_iret kX11_both rfl rfl (fun _ => ⟨rfl, _, rfl, (by omega), (by first | exact fl_bsM (Or.inr (Or.inr (Or.inr (Or.inr (Or.inr (Or.inl ⟨by omega, rfl⟩)))))) | exact fl_bsM (Or.inr (Or.inr (Or.inr (Or.inr (Or.inr (Or.inr (Or.inl ⟨by omega, rfl⟩))))))) | exact fl_bsM (Or.inr (Or.inr (Or.inr (Or.inr (Or.inr (Or.inr (Or.inr (Or.inl ⟨by omega, rfl⟩)))))))) | exact fl_bsM (Or.inl ⟨by omega, Or.inl ⟨by omega, rfl⟩⟩) | exact fl_bsM (Or.inr (Or.inl ⟨by omega, Or.inl ⟨by omega, rfl⟩⟩)) | exact fl_bsM (Or.inr (Or.inr (Or.inl ⟨by omega, Or.inl ⟨by omega, rfl⟩⟩))) | exact fl_bsM (Or.inr (Or.inr (Or.inr (Or.inl ⟨by omega, Or.inl ⟨by omega, rfl⟩⟩)))) | exact fl_bsM (Or.inr (Or.inr (Or.inr (Or.inr (Or.inl ⟨by omega, Or.inl ⟨by omega, rfl⟩⟩))))) | exact fl_bsM (Or.inr (Or.inr (Or.inr (Or.inr (Or.inr (Or.inr (Or.inr (Or.inr (Or.inl ⟨by omega, Or.inl ⟨by omega, rfl⟩⟩))))))))) | exact fl_bsM (Or.inr (Or.inr (Or.inr (Or.inr (Or.inr (Or.inr (Or.inr (Or.inr (Or.inr (⟨by omega, Or.inl ⟨by omega, rfl⟩⟩)))))))))) | exact fl_bsM (Or.inl ⟨by omega, Or.inr ⟨by omega, rfl⟩⟩) | exact fl_bsM (Or.inr (Or.inl ⟨by omega, Or.inr ⟨by omega, rfl⟩⟩)) | exact fl_bsM (Or.inr (Or.inr (Or.inl ⟨by omega, Or.inr ⟨by omega, rfl⟩⟩))) | exact fl_bsM (Or.inr (Or.inr (Or.inr (Or.inl ⟨by omega, Or.inr ⟨by omega, rfl⟩⟩)))) | exact fl_bsM (Or.inr (Or.inr (Or.inr (Or.inr (Or.inl ⟨by omega, Or.inr ⟨by omega, rfl⟩⟩))))) | exact fl_bsM (Or.inr (Or.inr (Or.inr (Or.inr (Or.inr (Or.inr (Or.inr (Or.inr (Or.inl ⟨by omega, Or.inr ⟨by omega, rfl⟩⟩))))))))) | exact fl_bsM (Or.inr (Or.inr (Or.inr (Or.inr (Or.inr (Or.inr (Or.inr (Or.inr (Or.inr (⟨by omega, Or.inr ⟨by omega, rfl⟩⟩)))))))))))⟩)
  · refine fz_tswC (j := 12) (tgt := 117) kX11_both rfl c1 (by decide) (by decide) rfl (by decide) ?_
    refine fz_iload_n kX11_both rfl rfl ?_
    refine fz_iload_n kX11_both rfl rfl ?_
    refine fz_isub kX11_both rfl ?_
    have b23 := fz_w_b (x - y)
    exact fz_iret kX11_both rfl rfl (fun _ => ⟨rfl, _, rfl, (by omega), (by first | exact fl_bsM (Or.inr (Or.inr (Or.inr (Or.inr (Or.inr (Or.inl ⟨by omega, rfl⟩)))))) | exact fl_bsM (Or.inr (Or.inr (Or.inr (Or.inr (Or.inr (Or.inr (Or.inl ⟨by omega, rfl⟩))))))) | exact fl_bsM (Or.inr (Or.inr (Or.inr (Or.inr (Or.inr (Or.inr (Or.inr (Or.inl ⟨by omega, rfl⟩)))))))) | exact fl_bsM (Or.inl ⟨by omega, Or.inl ⟨by omega, rfl⟩⟩) | exact fl_bsM (Or.inr (Or.inl ⟨by omega, Or.inl ⟨by omega, rfl⟩⟩)) | exact fl_bsM (Or.inr (Or.inr (Or.inl ⟨by omega, Or.inl ⟨by omega, rfl⟩⟩))) | exact fl_bsM (Or.inr (Or.inr (Or.inr (Or.inl ⟨by omega, Or.inl ⟨by omega, rfl⟩⟩)))) | exact fl_bsM (Or.inr (Or.inr (Or.inr (Or.inr (Or.inl ⟨by omega, Or.inl ⟨by omega, rfl⟩⟩))))) | exact fl_bsM (Or.inr (Or.inr (Or.inr (Or.inr (Or.inr (Or.inr (Or.inr (Or.inr (Or.inl ⟨by omega, Or.inl ⟨by omega, rfl⟩⟩))))))))) | exact fl_bsM (Or.inr (Or.inr (Or.inr (Or.inr (Or.inr (Or.inr (Or.inr (Or.inr (Or.inr (⟨by omega, Or.inl ⟨by omega, rfl⟩⟩)))))))))) | exact fl_bsM (Or.inl ⟨by omega, Or.inr ⟨by omega, rfl⟩⟩) | exact fl_bsM (Or.inr (Or.inl ⟨by omega, Or.inr ⟨by omega, rfl⟩⟩)) | exact fl_bsM (Or.inr (Or.inr (Or.inl ⟨by omega, Or.inr ⟨by omega, rfl⟩⟩))) | exact fl_bsM (Or.inr (Or.inr (Or.inr (Or.inl ⟨by omega, Or.inr ⟨by omega, rfl⟩⟩)))) | exact fl_bsM (Or.inr (Or.inr (Or.inr (Or.inr (Or.inl ⟨by omega, Or.inr ⟨by omega, rfl⟩⟩))))) | exact fl_bsM (Or.inr (Or.inr (Or.inr (Or.inr (Or.inr (Or.inr (Or.inr (Or.inr (Or.inl ⟨by omega, Or.inr ⟨by omega, rfl⟩⟩))))))))) | exact fl_bsM (Or.inr (Or.inr (Or.inr (Or.inr (Or.inr (Or.inr (Or.inr (Or.inr (Or.inr (⟨by omega, Or.inr ⟨by omega, rfl⟩⟩)))))))))))⟩)
  · refine fz_tswC (j := 13) (tgt := 121) kX11_both rfl c1 (by decide) (by decide) rfl (by decide) ?_
    refine fz_iload_n kX11_both rfl rfl ?_
    refine fz_iload_n kX11_both rfl rfl ?_
    refine fz_imul kX11_both rfl ?_
    have b25 := fz_w_b (x * y)
    exact fz_iret kX11_both rfl rfl (fun _ => ⟨rfl, _, rfl, (by omega), (by first | exact fl_bsM (Or.inr (Or.inr (Or.inr (Or.inr (Or.inr (Or.inl ⟨by omega, rfl⟩)))))) | exact fl_bsM (Or.inr (Or.inr (Or.inr (Or.inr (Or.inr (Or.inr (Or.inl ⟨by omega, rfl⟩))))))) | exact fl_bsM (Or.inr (Or.inr (Or.inr (Or.inr (Or.inr (Or.inr (Or.inr (Or.inl ⟨by omega, rfl⟩)))))))) | exact fl_bsM (Or.inl ⟨by omega, Or.inl ⟨by omega, rfl⟩⟩) | exact fl_bsM (Or.inr (Or.inl ⟨by omega, Or.inl ⟨by omega, rfl⟩⟩)) | exact fl_bsM (Or.inr (Or.inr (Or.inl ⟨by omega, Or.inl ⟨by omega, rfl⟩⟩))) | exact fl_bsM (Or.inr (Or.inr (Or.inr (Or.inl ⟨by omega, Or.inl ⟨by omega, rfl⟩⟩)))) | exact fl_bsM (Or.inr (Or.inr (Or.inr (Or.inr (Or.inl ⟨by omega, Or.inl ⟨by omega, rfl⟩⟩))))) | exact fl_bsM (Or.inr (Or.inr (Or.inr (Or.inr (Or.inr (Or.inr (Or.inr (Or.inr (Or.inl ⟨by omega, Or.inl ⟨by omega, rfl⟩⟩))))))))) | exact fl_bsM (Or.inr (Or.inr (Or.inr (Or.inr (Or.inr (Or.inr (Or.inr (Or.inr (Or.inr (⟨by omega, Or.inl ⟨by omega, rfl⟩⟩)))))))))) | exact fl_bsM (Or.inl ⟨by omega, Or.inr ⟨by omega, rfl⟩⟩) | exact fl_bsM (Or.inr (Or.inl ⟨by omega, Or.inr ⟨by omega, rfl⟩⟩)) | exact fl_bsM (Or.inr (Or.inr (Or.inl ⟨by omega, Or.inr ⟨by omega, rfl⟩⟩))) | exact fl_bsM (Or.inr (Or.inr (Or.inr (Or.inl ⟨by omega, Or.inr ⟨by omega, rfl⟩⟩)))) | exact fl_bsM (Or.inr (Or.inr (Or.inr (Or.inr (Or.inl ⟨by omega, Or.inr ⟨by omega, rfl⟩⟩))))) | exact fl_bsM (Or.inr (Or.inr (Or.inr (Or.inr (Or.inr (Or.inr (Or.inr (Or.inr (Or.inl ⟨by omega, Or.inr ⟨by omega, rfl⟩⟩))))))))) | exact fl_bsM (Or.inr (Or.inr (Or.inr (Or.inr (Or.inr (Or.inr (Or.inr (Or.inr (Or.inr (⟨by omega, Or.inr ⟨by omega, rfl⟩⟩)))))))))))⟩)
  · refine fz_tswC (j := 14) (tgt := 125) kX11_both rfl c1 (by decide) (by decide) rfl (by decide) ?_
    refine fz_iload_n kX11_both rfl rfl ?_
    refine fz_if_ne (tgt := 133) kX11_both rfl (by decide) (fun c27 => ?_) (fun c27 => ?_)
    · refine fz_iload_n kX11_both rfl rfl ?_
      refine fz_iload_n kX11_both rfl rfl ?_
      refine fz_idiv (by omega) kX11_both rfl ?_
      have b28 := fz_w_b (Int.tdiv x y)
      exact fz_iret kX11_both rfl rfl (fun _ => ⟨rfl, _, rfl, (by omega), (by first | exact fl_bsM (Or.inr (Or.inr (Or.inr (Or.inr (Or.inr (Or.inl ⟨by omega, rfl⟩)))))) | exact fl_bsM (Or.inr (Or.inr (Or.inr (Or.inr (Or.inr (Or.inr (Or.inl ⟨by omega, rfl⟩))))))) | exact fl_bsM (Or.inr (Or.inr (Or.inr (Or.inr (Or.inr (Or.inr (Or.inr (Or.inl ⟨by omega, rfl⟩)))))))) | exact fl_bsM (Or.inl ⟨by omega, Or.inl ⟨by omega, rfl⟩⟩) | exact fl_bsM (Or.inr (Or.inl ⟨by omega, Or.inl ⟨by omega, rfl⟩⟩)) | exact fl_bsM (Or.inr (Or.inr (Or.inl ⟨by omega, Or.inl ⟨by omega, rfl⟩⟩))) | exact fl_bsM (Or.inr (Or.inr (Or.inr (Or.inl ⟨by omega, Or.inl ⟨by omega, rfl⟩⟩)))) | exact fl_bsM (Or.inr (Or.inr (Or.inr (Or.inr (Or.inl ⟨by omega, Or.inl ⟨by omega, rfl⟩⟩))))) | exact fl_bsM (Or.inr (Or.inr (Or.inr (Or.inr (Or.inr (Or.inr (Or.inr (Or.inr (Or.inl ⟨by omega, Or.inl ⟨by omega, rfl⟩⟩))))))))) | exact fl_bsM (Or.inr (Or.inr (Or.inr (Or.inr (Or.inr (Or.inr (Or.inr (Or.inr (Or.inr (⟨by omega, Or.inl ⟨by omega, rfl⟩⟩)))))))))) | exact fl_bsM (Or.inl ⟨by omega, Or.inr ⟨by omega, rfl⟩⟩) | exact fl_bsM (Or.inr (Or.inl ⟨by omega, Or.inr ⟨by omega, rfl⟩⟩)) | exact fl_bsM (Or.inr (Or.inr (Or.inl ⟨by omega, Or.inr ⟨by omega, rfl⟩⟩))) | exact fl_bsM (Or.inr (Or.inr (Or.inr (Or.inl ⟨by omega, Or.inr ⟨by omega, rfl⟩⟩)))) | exact fl_bsM (Or.inr (Or.inr (Or.inr (Or.inr (Or.inl ⟨by omega, Or.inr ⟨by omega, rfl⟩⟩))))) | exact fl_bsM (Or.inr (Or.inr (Or.inr (Or.inr (Or.inr (Or.inr (Or.inr (Or.inr (Or.inl ⟨by omega, Or.inr ⟨by omega, rfl⟩⟩))))))))) | exact fl_bsM (Or.inr (Or.inr (Or.inr (Or.inr (Or.inr (Or.inr (Or.inr (Or.inr (Or.inr (⟨by omega, Or.inr ⟨by omega, rfl⟩⟩)))))))))))⟩)
    · refine fz_iconst ⟨by decide, by decide⟩ kX11_both rfl ?_
      refine fz_goto (tgt := 136) kX11_both rfl (by decide) ?_
      exact fz_iret kX11_both rfl rfl (fun _ => ⟨rfl, _, rfl, (by omega), (by first | exact fl_bsM (Or.inr (Or.inr (Or.inr (Or.inr (Or.inr (Or.inl ⟨by omega, rfl⟩)))))) | exact fl_bsM (Or.inr (Or.inr (Or.inr (Or.inr (Or.inr (Or.inr (Or.inl ⟨by omega, rfl⟩))))))) | exact fl_bsM (Or.inr (Or.inr (Or.inr (Or.inr (Or.inr (Or.inr (Or.inr (Or.inl ⟨by omega, rfl⟩)))))))) | exact fl_bsM (Or.inl ⟨by omega, Or.inl ⟨by omega, rfl⟩⟩) | exact fl_bsM (Or.inr (Or.inl ⟨by omega, Or.inl ⟨by omega, rfl⟩⟩)) | exact fl_bsM (Or.inr (Or.inr (Or.inl ⟨by omega, Or.inl ⟨by omega, rfl⟩⟩))) | exact fl_bsM (Or.inr (Or.inr (Or.inr (Or.inl ⟨by omega, Or.inl ⟨by omega, rfl⟩⟩)))) | exact fl_bsM (Or.inr (Or.inr (Or.inr (Or.inr (Or.inl ⟨by omega, Or.inl ⟨by omega, rfl⟩⟩))))) | exact fl_bsM (Or.inr (Or.inr (Or.inr (Or.inr (Or.inr (Or.inr (Or.inr (Or.inr (Or.inl ⟨by omega, Or.inl ⟨by omega, rfl⟩⟩))))))))) | exact fl_bsM (Or.inr (Or.inr (Or.inr (Or.inr (Or.inr (Or.inr (Or.inr (Or.inr (Or.inr (⟨by omega, Or.inl ⟨by omega, rfl⟩⟩)))))))))) | exact fl_bsM (Or.inl ⟨by omega, Or.inr ⟨by omega, rfl⟩⟩) | exact fl_bsM (Or.inr (Or.inl ⟨by omega, Or.inr ⟨by omega, rfl⟩⟩)) | exact fl_bsM (Or.inr (Or.inr (Or.inl ⟨by omega, Or.inr ⟨by omega, rfl⟩⟩))) | exact fl_bsM (Or.inr (Or.inr (Or.inr (Or.inl ⟨by omega, Or.inr ⟨by omega, rfl⟩⟩)))) | exact fl_bsM (Or.inr (Or.inr (Or.inr (Or.inr (Or.inl ⟨by omega, Or.inr ⟨by omega, rfl⟩⟩))))) | exact fl_bsM (Or.inr (Or.inr (Or.inr (Or.inr (Or.inr (Or.inr (Or.inr (Or.inr (Or.inl ⟨by omega, Or.inr ⟨by omega, rfl⟩⟩))))))))) | exact fl_bsM (Or.inr (Or.inr (Or.inr (Or.inr (Or.inr (Or.inr (Or.inr (Or.inr (Or.inr (⟨by omega, Or.inr ⟨by omega, rfl⟩⟩)))))))))))⟩)
  · refine fz_tswO (tgt := 137) kX11_both rfl c1 (by decide) ?_
    refine fz_iload_n kX11_both rfl rfl ?_
    refine fz_if_ne (tgt := 145) kX11_both rfl (by decide) (fun c31 => ?_) (fun c31 => ?_)
    · refine fz_iload_n kX11_both rfl rfl ?_
      refine fz_iload_n kX11_both rfl rfl ?_
      refine fz_irem (by omega) kX11_both rfl ?_
      have b32 := fz_w_b (Int.tmod x y)
      exact fz_iret kX11_both rfl rfl (fun _ => ⟨rfl, _, rfl, (by omega), (by first | exact fl_bsM (Or.inr (Or.inr (Or.inr (Or.inr (Or.inr (Or.inl ⟨by omega, rfl⟩)))))) | exact fl_bsM (Or.inr (Or.inr (Or.inr (Or.inr (Or.inr (Or.inr (Or.inl ⟨by omega, rfl⟩))))))) | exact fl_bsM (Or.inr (Or.inr (Or.inr (Or.inr (Or.inr (Or.inr (Or.inr (Or.inl ⟨by omega, rfl⟩)))))))) | exact fl_bsM (Or.inl ⟨by omega, Or.inl ⟨by omega, rfl⟩⟩) | exact fl_bsM (Or.inr (Or.inl ⟨by omega, Or.inl ⟨by omega, rfl⟩⟩)) | exact fl_bsM (Or.inr (Or.inr (Or.inl ⟨by omega, Or.inl ⟨by omega, rfl⟩⟩))) | exact fl_bsM (Or.inr (Or.inr (Or.inr (Or.inl ⟨by omega, Or.inl ⟨by omega, rfl⟩⟩)))) | exact fl_bsM (Or.inr (Or.inr (Or.inr (Or.inr (Or.inl ⟨by omega, Or.inl ⟨by omega, rfl⟩⟩))))) | exact fl_bsM (Or.inr (Or.inr (Or.inr (Or.inr (Or.inr (Or.inr (Or.inr (Or.inr (Or.inl ⟨by omega, Or.inl ⟨by omega, rfl⟩⟩))))))))) | exact fl_bsM (Or.inr (Or.inr (Or.inr (Or.inr (Or.inr (Or.inr (Or.inr (Or.inr (Or.inr (⟨by omega, Or.inl ⟨by omega, rfl⟩⟩)))))))))) | exact fl_bsM (Or.inl ⟨by omega, Or.inr ⟨by omega, rfl⟩⟩) | exact fl_bsM (Or.inr (Or.inl ⟨by omega, Or.inr ⟨by omega, rfl⟩⟩)) | exact fl_bsM (Or.inr (Or.inr (Or.inl ⟨by omega, Or.inr ⟨by omega, rfl⟩⟩))) | exact fl_bsM (Or.inr (Or.inr (Or.inr (Or.inl ⟨by omega, Or.inr ⟨by omega, rfl⟩⟩)))) | exact fl_bsM (Or.inr (Or.inr (Or.inr (Or.inr (Or.inl ⟨by omega, Or.inr ⟨by omega, rfl⟩⟩))))) | exact fl_bsM (Or.inr (Or.inr (Or.inr (Or.inr (Or.inr (Or.inr (Or.inr (Or.inr (Or.inl ⟨by omega, Or.inr ⟨by omega, rfl⟩⟩))))))))) | exact fl_bsM (Or.inr (Or.inr (Or.inr (Or.inr (Or.inr (Or.inr (Or.inr (Or.inr (Or.inr (⟨by omega, Or.inr ⟨by omega, rfl⟩⟩)))))))))))⟩)
    · refine fz_iconst ⟨by decide, by decide⟩ kX11_both rfl ?_
      refine fz_goto (tgt := 148) kX11_both rfl (by decide) ?_
      exact fz_iret kX11_both rfl rfl (fun _ => ⟨rfl, _, rfl, (by omega), (by first | exact fl_bsM (Or.inr (Or.inr (Or.inr (Or.inr (Or.inr (Or.inl ⟨by omega, rfl⟩)))))) | exact fl_bsM (Or.inr (Or.inr (Or.inr (Or.inr (Or.inr (Or.inr (Or.inl ⟨by omega, rfl⟩))))))) | exact fl_bsM (Or.inr (Or.inr (Or.inr (Or.inr (Or.inr (Or.inr (Or.inr (Or.inl ⟨by omega, rfl⟩)))))))) | exact fl_bsM (Or.inl ⟨by omega, Or.inl ⟨by omega, rfl⟩⟩) | exact fl_bsM (Or.inr (Or.inl ⟨by omega, Or.inl ⟨by omega, rfl⟩⟩)) | exact fl_bsM (Or.inr (Or.inr (Or.inl ⟨by omega, Or.inl ⟨by omega, rfl⟩⟩))) | exact fl_bsM (Or.inr (Or.inr (Or.inr (Or.inl ⟨by omega, Or.inl ⟨by omega, rfl⟩⟩)))) | exact fl_bsM (Or.inr (Or.inr (Or.inr (Or.inr (Or.inl ⟨by omega, Or.inl ⟨by omega, rfl⟩⟩))))) | exact fl_bsM (Or.inr (Or.inr (Or.inr (Or.inr (Or.inr (Or.inr (Or.inr (Or.inr (Or.inl ⟨by omega, Or.inl ⟨by omega, rfl⟩⟩))))))))) | exact fl_bsM (Or.inr (Or.inr (Or.inr (Or.inr (Or.inr (Or.inr (Or.inr (Or.inr (Or.inr (⟨by omega, Or.inl ⟨by omega, rfl⟩⟩)))))))))) | exact fl_bsM (Or.inl ⟨by omega, Or.inr ⟨by omega, rfl⟩⟩) | exact fl_bsM (Or.inr (Or.inl ⟨by omega, Or.inr ⟨by omega, rfl⟩⟩)) | exact fl_bsM (Or.inr (Or.inr (Or.inl ⟨by omega, Or.inr ⟨by omega, rfl⟩⟩))) | exact fl_bsM (Or.inr (Or.inr (Or.inr (Or.inl ⟨by omega, Or.inr ⟨by omega, rfl⟩⟩)))) | exact fl_bsM (Or.inr (Or.inr (Or.inr (Or.inr (Or.inl ⟨by omega, Or.inr ⟨by omega, rfl⟩⟩))))) | exact fl_bsM (Or.inr (Or.inr (Or.inr (Or.inr (Or.inr (Or.inr (Or.inr (Or.inr (Or.inl ⟨by omega, Or.inr ⟨by omega, rfl⟩⟩))))))))) | exact fl_bsM (Or.inr (Or.inr (Or.inr (Or.inr (Or.inr (Or.inr (Or.inr (Or.inr (Or.inr (⟨by omega, Or.inr ⟨by omega, rfl⟩⟩)))))))))))⟩)

abbrev qX11_worked (h : fz_H) (fr to : Int) : fz_H → Option fz_V → Prop := fun h' r0 => fz_Iv h' ∧ fz_fr [(74, 99999)] h h' ∧ ∃ r : Int, r0 = some (fz_i r) ∧ ((-2147483648) ≤ r ∧ r ≤ 2147483647) ∧ (fl_S1 (h 69) fr to → r = fl_wk (fl_n6 (h 75)) (h 69) fr to)
set_option maxHeartbeats 1000000 in
set_option maxRecDepth 100000 in
theorem sX11_worked (h : fz_H) (hI : fz_Iv h) (fr to : Int) (hp0 : 0 ≤ fr ∧ fr ≤ to ∧ to ≤ 200) (hp1 : fz_Sg (h 69) fr to) : fz_R 1 mX11_worked 0 [(0, fz_r 53), (1, fz_i fr), (2, fz_i to)] [] h (qX11_worked h fr to) := by
  refine fz_knowl (fun hk => ?_)
  have hr_fr : -2147483648 ≤ fr ∧ fr < 2147483648 := hk _ (List.Mem.tail _ (List.Mem.head _))
  have hr_to : -2147483648 ≤ to ∧ to < 2147483648 := hk _ (List.Mem.tail _ (List.Mem.tail _ (List.Mem.head _)))
  clear hk
  have hf : fz_fr [(74, 99999)] h h := fz_fr_rf
  refine fz_iconst ⟨by decide, by decide⟩ kX11_worked rfl ?_
  refine fz_istore_n (ls' := [(3, fz_i 0), (0, fz_r 53), (1, fz_i fr), (2, fz_i to)]) kX11_worked rfl (by decide) rfl ?_
  refine fz_iload_n kX11_worked rfl rfl ?_
  refine fz_istore (ls' := [(4, fz_i fr), (3, fz_i 0), (0, fz_r 53), (1, fz_i fr), (2, fz_i to)]) kX11_worked rfl (by decide) rfl ?_
  have lp7 : ∀ (n6 : Nat) (x1 : Int) (x2 : Int) (H3 : fz_H), fz_Iv H3 → fz_fr [(74, 99999)] h H3 → (0 ≤ x1 ∧ x1 ≤ 200) → (0 ≤ x2 ∧ x2 ≤ 200) → (fr ≤ x1) → (x1 ≤ to) → (0 ≤ x2 ∧ x2 ≤ x1 - fr) → (fz_Dp (h 69) fr x1 x2) → (fl_wI h H3 fr x1 x2) → (to - x1).toNat < n6 → fz_R 1 mX11_worked 5 [(4, fz_i x1), (3, fz_i x2), (0, fz_r 53), (1, fz_i fr), (2, fz_i to)] [] H3 (qX11_worked h fr to) := by
    intro n6
    induction n6 with
    | zero => intro x1 x2 H3 hI4 hf5 hv10 hv11 hv12 hv13 hv14 hv15 hv16 hm9; exact absurd hm9 (by omega)
    | succ n6 ih8 =>
      intro x1 x2 H3 hI4 hf5 hv10 hv11 hv12 hv13 hv14 hv15 hv16 hm9
      refine fz_iload kX11_worked rfl rfl ?_
      refine fz_iload_n kX11_worked rfl rfl ?_
      refine fz_icmp_ge (tgt := 163) kX11_worked rfl (by decide) (fun c17 => ?_) (fun c17 => ?_)
      · refine fz_aload_n kX11_worked rfl rfl ?_
        refine fz_getR (t := 74) kX11_worked rfl rfl ?_
        refine fz_iconst ⟨by decide, by decide⟩ kX11_worked rfl ?_
        obtain ⟨v18, e19⟩ : ∃ z, H3 74 (0) = z := ⟨_, rfl⟩
        refine fz_ialdV (n := 200) (v := v18) kX11_worked rfl rfl (by omega) (by omega) e19 ?_
        have b20 : (-2147483648) ≤ v18 ∧ v18 ≤ 2147483647 := by rw [← e19]; exact hI4.1 74 _
        exact fz_iret kX11_worked rfl rfl (fun _ => ⟨hI4, hf5, _, rfl, (by omega), (by exact fun z => fl_wI_e hv16 (by omega) z (by omega) e19)⟩)
      · refine fz_aload_n kX11_worked rfl rfl ?_
        refine fz_getR (t := 69) kX11_worked rfl rfl ?_
        refine fz_iload kX11_worked rfl rfl ?_
        refine fz_ialdV (n := 200) (v := h 69 (x1.toNat)) kX11_worked rfl rfl (by omega) (by omega) (hf5 69 _ rfl) ?_
        have b22 : (-2147483648) ≤ h 69 (x1.toNat) ∧ h 69 (x1.toNat) ≤ 2147483647 := hI.1 69 _
        have k23 := fz_Dp_o hv15 hp1 (by omega)
        refine fz_istore (ls' := [(5, fz_i (h 69 (x1.toNat))), (4, fz_i x1), (3, fz_i x2), (0, fz_r 53), (1, fz_i fr), (2, fz_i to)]) kX11_worked rfl (by decide) rfl ?_
        refine fz_iload kX11_worked rfl rfl ?_
        refine fz_bipush ⟨by decide, by decide⟩ kX11_worked rfl ?_
        refine fz_icmp_ge (tgt := 33) kX11_worked rfl (by decide) (fun c25 => ?_) (fun c25 => ?_)
        · refine fz_aload_n kX11_worked rfl rfl ?_
          refine fz_getR (t := 74) kX11_worked rfl rfl ?_
          refine fz_iload_n kX11_worked rfl rfl ?_
          refine fz_iincN (ls' := [(3, fz_i (x2 + 1)), (5, fz_i (h 69 (x1.toNat))), (4, fz_i x1), (0, fz_r 53), (1, fz_i fr), (2, fz_i to)]) kX11_worked rfl (by decide) rfl (by omega) rfl ?_
          refine fz_iload kX11_worked rfl rfl ?_
          refine fz_bipush ⟨by decide, by decide⟩ kX11_worked rfl ?_
          refine fz_icmp_lt (tgt := 56) kX11_worked rfl (by decide) (fun c26 => ?_) (fun c26 => ?_)
          · exfalso; omega
          · refine fz_iload kX11_worked rfl rfl ?_
            refine fz_bipush ⟨by decide, by decide⟩ kX11_worked rfl ?_
            refine fz_isubN kX11_worked rfl (by omega) ?_
            refine fz_goto (tgt := 63) kX11_worked rfl (by decide) ?_
            refine fz_iast (n := 200) kX11_worked rfl rfl (by omega) (by omega) ?_
            refine fz_nmu (S := [(74, 99999)]) (h0 := h) (fz_Iv_up hI4 (by decide) (show ((-2147483648) : Int) ≤ ((h 69 (x1.toNat)) - 18) by omega) (show (((h 69 (x1.toNat)) - 18) : Int) ≤ 2147483647 by omega)) (fz_fr_up hf5 rfl) (fun H27 hI28 hf29 e30 => ?_)
            refine fz_goto (tgt := 157) kX11_worked rfl (by decide) ?_
            refine fz_iincN (ls' := [(4, fz_i (x1 + 1)), (3, fz_i (x2 + 1)), (5, fz_i (h 69 (x1.toNat))), (0, fz_r 53), (1, fz_i fr), (2, fz_i to)]) kX11_worked rfl (by decide) rfl (by omega) rfl ?_
            refine fz_goto (tgt := 5) kX11_worked rfl (by decide) ?_
            refine fz_sub (fz_pk_sub (ls' := [(4, fz_i (x1 + 1)), (3, fz_i (x2 + 1)), (0, fz_r 53), (1, fz_i fr), (2, fz_i to)]) [0, 1, 3, 4, 5] rfl) ?_
            exact ih8 (x1 + 1) (x2 + 1) H27 hI28 hf29 (by omega) (by omega) (by omega) (by omega) (by omega) (fz_Dp_n hv15 hp1 (by omega) rfl (by omega)) (by first | exact fl_wI_b (by omega) (by omega) (by omega) hv16 ⟨by omega, by omega⟩ rfl lost (by omega) (by omega) ⟨by omega, by omega⟩ lost lost lost | exact fl_wI_u hv16 ⟨by omega, by omega⟩ rfl lost (by omega) (by omega) lost (Or.inl ⟨by omega, rfl⟩) | exact fl_wI_u hv16 ⟨by omega, by omega⟩ rfl lost (by omega) (by omega) lost (Or.inr (Or.inl ⟨by omega, by omega, rfl⟩)) | exact fl_wI_u hv16 ⟨by omega, by omega⟩ rfl lost (by omega) (by omega) lost (Or.inr (Or.inr ⟨by omega, by omega, rfl⟩)) | exact fl_wI_num hv16 ⟨by omega, by omega⟩ rfl e30 (by omega) (by omega) rfl | exact fl_wI_nam hv16 ⟨by omega, by omega⟩ rfl e30 (by omega) ⟨by omega, by omega⟩ rfl) (by omega)
        · refine fz_iload kX11_worked rfl rfl ?_
          refine fz_iconst ⟨by decide, by decide⟩ kX11_worked rfl ?_
          refine fz_icmp_gt (tgt := 67) kX11_worked rfl (by decide) (fun c33 => ?_) (fun c33 => ?_)
          · refine fz_iload kX11_worked rfl rfl ?_
            refine fz_bipush ⟨by decide, by decide⟩ kX11_worked rfl ?_
            refine fz_icmp_eq (tgt := 81) kX11_worked rfl (by decide) (fun c34 => ?_) (fun c34 => ?_)
            · refine fz_aload_n kX11_worked rfl rfl ?_
              refine fz_getR (t := 74) kX11_worked rfl rfl ?_
              refine fz_iload_n kX11_worked rfl rfl ?_
              refine fz_iconst ⟨by decide, by decide⟩ kX11_worked rfl ?_
              refine fz_isubN kX11_worked rfl (by omega) ?_
              refine fz_iload kX11_worked rfl rfl ?_
              refine fz_bipush ⟨by decide, by decide⟩ kX11_worked rfl ?_
              refine fz_icmp_ne (tgt := 107) kX11_worked rfl (by decide) (fun c35 => ?_) (fun c35 => ?_)
              · refine fz_aload_n kX11_worked rfl rfl ?_
                refine fz_getR (t := 74) kX11_worked rfl rfl ?_
                refine fz_iload_n kX11_worked rfl rfl ?_
                refine fz_iconst ⟨by decide, by decide⟩ kX11_worked rfl ?_
                refine fz_isubN kX11_worked rfl (by omega) ?_
                obtain ⟨v36, e37⟩ : ∃ z, H3 74 ((x2 - 1).toNat) = z := ⟨_, rfl⟩
                refine fz_ialdV (n := 200) (v := v36) kX11_worked rfl rfl (by omega) (by omega) e37 ?_
                have b38 : (-2147483648) ≤ v36 ∧ v36 ≤ 2147483647 := by rw [← e37]; exact hI4.1 74 _
                refine fz_if_ne (tgt := 122) kX11_worked rfl (by decide) (fun c39 => ?_) (fun c39 => ?_)
                · refine fz_iconst ⟨by decide, by decide⟩ kX11_worked rfl ?_
                  refine fz_iast (n := 200) kX11_worked rfl rfl (by omega) (by omega) ?_
                  refine fz_nmu (S := [(74, 99999)]) (h0 := h) (fz_Iv_up hI4 (by decide) (show ((-2147483648) : Int) ≤ 0 by decide) (show (0 : Int) ≤ 2147483647 by decide)) (fz_fr_up hf5 rfl) (fun H40 hI41 hf42 e43 => ?_)
                  refine fz_goto (tgt := 157) kX11_worked rfl (by decide) ?_
                  refine fz_iincN (ls' := [(4, fz_i (x1 + 1)), (5, fz_i (h 69 (x1.toNat))), (3, fz_i x2), (0, fz_r 53), (1, fz_i fr), (2, fz_i to)]) kX11_worked rfl (by decide) rfl (by omega) rfl ?_
                  refine fz_goto (tgt := 5) kX11_worked rfl (by decide) ?_
                  refine fz_sub (fz_pk_sub (ls' := [(4, fz_i (x1 + 1)), (3, fz_i x2), (0, fz_r 53), (1, fz_i fr), (2, fz_i to)]) [0, 2, 3, 4, 5] rfl) ?_
                  exact ih8 (x1 + 1) x2 H40 hI41 hf42 (by omega) (by omega) (by omega) (by omega) (by omega) (fz_Dp_n hv15 hp1 (by omega) rfl (by omega)) (by first | exact fl_wI_b (by omega) (by omega) (by omega) hv16 ⟨by omega, by omega⟩ rfl lost (by omega) (by omega) ⟨by omega, by omega⟩ lost lost lost | exact fl_wI_u hv16 ⟨by omega, by omega⟩ rfl e43 (by omega) (by omega) lost (Or.inl ⟨by omega, rfl⟩) | exact fl_wI_u hv16 ⟨by omega, by omega⟩ rfl e43 (by omega) (by omega) e37 (Or.inr (Or.inl ⟨by omega, by omega, rfl⟩)) | exact fl_wI_u hv16 ⟨by omega, by omega⟩ rfl e43 (by omega) (by omega) e37 (Or.inr (Or.inr ⟨by omega, by omega, rfl⟩)) | exact fl_wI_num hv16 ⟨by omega, by omega⟩ rfl lost (by omega) (by omega) rfl | exact fl_wI_nam hv16 ⟨by omega, by omega⟩ rfl lost (by omega) ⟨by omega, by omega⟩ rfl) (by omega)
                · refine fz_iconst ⟨by decide, by decide⟩ kX11_worked rfl ?_
                  refine fz_goto (tgt := 123) kX11_worked rfl (by decide) ?_
                  refine fz_iast (n := 200) kX11_worked rfl rfl (by omega) (by omega) ?_
                  refine fz_nmu (S := [(74, 99999)]) (h0 := h) (fz_Iv_up hI4 (by decide) (show ((-2147483648) : Int) ≤ 1 by decide) (show (1 : Int) ≤ 2147483647 by decide)) (fz_fr_up hf5 rfl) (fun H46 hI47 hf48 e49 => ?_)
                  refine fz_goto (tgt := 157) kX11_worked rfl (by decide) ?_
                  refine fz_iincN (ls' := [(4, fz_i (x1 + 1)), (5, fz_i (h 69 (x1.toNat))), (3, fz_i x2), (0, fz_r 53), (1, fz_i fr), (2, fz_i to)]) kX11_worked rfl (by decide) rfl (by omega) rfl ?_
                  refine fz_goto (tgt := 5) kX11_worked rfl (by decide) ?_
                  refine fz_sub (fz_pk_sub (ls' := [(4, fz_i (x1 + 1)), (3, fz_i x2), (0, fz_r 53), (1, fz_i fr), (2, fz_i to)]) [0, 2, 3, 4, 5] rfl) ?_
                  exact ih8 (x1 + 1) x2 H46 hI47 hf48 (by omega) (by omega) (by omega) (by omega) (by omega) (fz_Dp_n hv15 hp1 (by omega) rfl (by omega)) (by first | exact fl_wI_b (by omega) (by omega) (by omega) hv16 ⟨by omega, by omega⟩ rfl lost (by omega) (by omega) ⟨by omega, by omega⟩ lost lost lost | exact fl_wI_u hv16 ⟨by omega, by omega⟩ rfl e49 (by omega) (by omega) lost (Or.inl ⟨by omega, rfl⟩) | exact fl_wI_u hv16 ⟨by omega, by omega⟩ rfl e49 (by omega) (by omega) e37 (Or.inr (Or.inl ⟨by omega, by omega, rfl⟩)) | exact fl_wI_u hv16 ⟨by omega, by omega⟩ rfl e49 (by omega) (by omega) e37 (Or.inr (Or.inr ⟨by omega, by omega, rfl⟩)) | exact fl_wI_num hv16 ⟨by omega, by omega⟩ rfl lost (by omega) (by omega) rfl | exact fl_wI_nam hv16 ⟨by omega, by omega⟩ rfl lost (by omega) ⟨by omega, by omega⟩ rfl) (by omega)
              · exfalso; omega
            · refine fz_iload kX11_worked rfl rfl ?_
              refine fz_bipush ⟨by decide, by decide⟩ kX11_worked rfl ?_
              refine fz_icmp_ne (tgt := 127) kX11_worked rfl (by decide) (fun c52 => ?_) (fun c52 => ?_)
              · refine fz_iincN (ls' := [(3, fz_i (x2 + (-1))), (5, fz_i (h 69 (x1.toNat))), (4, fz_i x1), (0, fz_r 53), (1, fz_i fr), (2, fz_i to)]) kX11_worked rfl (by decide) rfl (by omega) rfl ?_
                refine fz_aload_n kX11_worked rfl rfl ?_
                refine fz_getR (t := 74) kX11_worked rfl rfl ?_
                refine fz_iload_n kX11_worked rfl rfl ?_
                refine fz_iconst ⟨by decide, by decide⟩ kX11_worked rfl ?_
                refine fz_isubN kX11_worked rfl (by omega) ?_
                refine fz_iload kX11_worked rfl rfl ?_
                refine fz_aload_n kX11_worked rfl rfl ?_
                refine fz_getR (t := 74) kX11_worked rfl rfl ?_
                refine fz_iload_n kX11_worked rfl rfl ?_
                refine fz_iconst ⟨by decide, by decide⟩ kX11_worked rfl ?_
                refine fz_isubN kX11_worked rfl (by omega) ?_
                obtain ⟨v53, e54⟩ : ∃ z, H3 74 (((x2 + (-1)) - 1).toNat) = z := ⟨_, rfl⟩
                refine fz_ialdV (n := 200) (v := v53) kX11_worked rfl rfl (by omega) (by omega) e54 ?_
                have b55 : (-2147483648) ≤ v53 ∧ v53 ≤ 2147483647 := by rw [← e54]; exact hI4.1 74 _
                refine fz_aload_n kX11_worked rfl rfl ?_
                refine fz_getR (t := 74) kX11_worked rfl rfl ?_
                refine fz_iload_n kX11_worked rfl rfl ?_
                obtain ⟨v56, e57⟩ : ∃ z, H3 74 ((x2 + (-1)).toNat) = z := ⟨_, rfl⟩
                refine fz_ialdV (n := 200) (v := v56) kX11_worked rfl rfl (by omega) (by omega) e57 ?_
                have b58 : (-2147483648) ≤ v56 ∧ v56 ≤ 2147483647 := by rw [← e57]; exact hI4.1 74 _
                refine fz_callS (d' := 0) (M' := mX11_both) (As := [fz_i (h 69 (x1.toNat)), fz_i v53, fz_i v56]) (st := [fz_i ((x2 + (-1)) - 1), fz_r 74]) kX11_worked rfl rfl vX11_both rfl rfl (Nat.le_of_ble_eq_true rfl) (Nat.le_of_ble_eq_true rfl) (by decide) (sX11_both H3 hI4 (h 69 (x1.toNat)) v53 v56 (by omega)) (fun H59 r60 q61 o62 => ?_)
                obtain ⟨e63, y66, rfl, f64, f65⟩ := q61
                subst H59
                clear o62
                refine fz_iast (n := 200) kX11_worked rfl rfl (by omega) (by omega) ?_
                refine fz_nmu (S := [(74, 99999)]) (h0 := h) (fz_Iv_up hI4 (by decide) (show ((-2147483648) : Int) ≤ y66 by omega) (show (y66 : Int) ≤ 2147483647 by omega)) (fz_fr_up hf5 rfl) (fun H67 hI68 hf69 e70 => ?_)
                refine fz_iincN (ls' := [(4, fz_i (x1 + 1)), (3, fz_i (x2 + (-1))), (5, fz_i (h 69 (x1.toNat))), (0, fz_r 53), (1, fz_i fr), (2, fz_i to)]) kX11_worked rfl (by decide) rfl (by omega) rfl ?_
                refine fz_goto (tgt := 5) kX11_worked rfl (by decide) ?_
                refine fz_sub (fz_pk_sub (ls' := [(4, fz_i (x1 + 1)), (3, fz_i (x2 + (-1))), (0, fz_r 53), (1, fz_i fr), (2, fz_i to)]) [0, 1, 3, 4, 5] rfl) ?_
                exact ih8 (x1 + 1) (x2 + (-1)) H67 hI68 hf69 (by omega) (by omega) (by omega) (by omega) (by omega) (fz_Dp_n hv15 hp1 (by omega) rfl (by omega)) (by first | exact fl_wI_b (by omega) (by omega) (by omega) hv16 ⟨by omega, by omega⟩ rfl e70 (by omega) (by omega) ⟨by omega, by omega⟩ e57 e54 f65 | exact fl_wI_u hv16 ⟨by omega, by omega⟩ rfl lost (by omega) (by omega) lost (Or.inl ⟨by omega, rfl⟩) | exact fl_wI_u hv16 ⟨by omega, by omega⟩ rfl lost (by omega) (by omega) lost (Or.inr (Or.inl ⟨by omega, by omega, rfl⟩)) | exact fl_wI_u hv16 ⟨by omega, by omega⟩ rfl lost (by omega) (by omega) lost (Or.inr (Or.inr ⟨by omega, by omega, rfl⟩)) | exact fl_wI_num hv16 ⟨by omega, by omega⟩ rfl lost (by omega) (by omega) rfl | exact fl_wI_nam hv16 ⟨by omega, by omega⟩ rfl lost (by omega) ⟨by omega, by omega⟩ rfl) (by omega)
              · refine fz_aload_n kX11_worked rfl rfl ?_
                refine fz_getR (t := 74) kX11_worked rfl rfl ?_
                refine fz_iload_n kX11_worked rfl rfl ?_
                refine fz_iconst ⟨by decide, by decide⟩ kX11_worked rfl ?_
                refine fz_isubN kX11_worked rfl (by omega) ?_
                refine fz_iload kX11_worked rfl rfl ?_
                refine fz_bipush ⟨by decide, by decide⟩ kX11_worked rfl ?_
                refine fz_icmp_ne (tgt := 107) kX11_worked rfl (by decide) (fun c73 => ?_) (fun c73 => ?_)
                · exfalso; omega
                · refine fz_aload_n kX11_worked rfl rfl ?_
                  refine fz_getR (t := 74) kX11_worked rfl rfl ?_
                  refine fz_iload_n kX11_worked rfl rfl ?_
                  refine fz_iconst ⟨by decide, by decide⟩ kX11_worked rfl ?_
                  refine fz_isubN kX11_worked rfl (by omega) ?_
                  obtain ⟨v74, e75⟩ : ∃ z, H3 74 ((x2 - 1).toNat) = z := ⟨_, rfl⟩
                  refine fz_ialdV (n := 200) (v := v74) kX11_worked rfl rfl (by omega) (by omega) e75 ?_
                  have b76 : (-2147483648) ≤ v74 ∧ v74 ≤ 2147483647 := by rw [← e75]; exact hI4.1 74 _
                  refine fz_ineg kX11_worked rfl ?_
                  have b77 := fz_w_b (-v74)
                  refine fz_goto (tgt := 123) kX11_worked rfl (by decide) ?_
                  refine fz_iast (n := 200) kX11_worked rfl rfl (by omega) (by omega) ?_
                  refine fz_nmu (S := [(74, 99999)]) (h0 := h) (fz_Iv_up hI4 (by decide) (show ((-2147483648) : Int) ≤ (fz_w (-v74)) by omega) (show ((fz_w (-v74)) : Int) ≤ 2147483647 by omega)) (fz_fr_up hf5 rfl) (fun H78 hI79 hf80 e81 => ?_)
                  refine fz_goto (tgt := 157) kX11_worked rfl (by decide) ?_
                  refine fz_iincN (ls' := [(4, fz_i (x1 + 1)), (5, fz_i (h 69 (x1.toNat))), (3, fz_i x2), (0, fz_r 53), (1, fz_i fr), (2, fz_i to)]) kX11_worked rfl (by decide) rfl (by omega) rfl ?_
                  refine fz_goto (tgt := 5) kX11_worked rfl (by decide) ?_
                  refine fz_sub (fz_pk_sub (ls' := [(4, fz_i (x1 + 1)), (3, fz_i x2), (0, fz_r 53), (1, fz_i fr), (2, fz_i to)]) [0, 2, 3, 4, 5] rfl) ?_
                  exact ih8 (x1 + 1) x2 H78 hI79 hf80 (by omega) (by omega) (by omega) (by omega) (by omega) (fz_Dp_n hv15 hp1 (by omega) rfl (by omega)) (by first | exact fl_wI_b (by omega) (by omega) (by omega) hv16 ⟨by omega, by omega⟩ rfl lost (by omega) (by omega) ⟨by omega, by omega⟩ lost lost lost | exact fl_wI_u hv16 ⟨by omega, by omega⟩ rfl e81 (by omega) (by omega) e75 (Or.inl ⟨by omega, rfl⟩) | exact fl_wI_u hv16 ⟨by omega, by omega⟩ rfl e81 (by omega) (by omega) lost (Or.inr (Or.inl ⟨by omega, by omega, rfl⟩)) | exact fl_wI_u hv16 ⟨by omega, by omega⟩ rfl e81 (by omega) (by omega) lost (Or.inr (Or.inr ⟨by omega, by omega, rfl⟩)) | exact fl_wI_num hv16 ⟨by omega, by omega⟩ rfl lost (by omega) (by omega) rfl | exact fl_wI_nam hv16 ⟨by omega, by omega⟩ rfl lost (by omega) ⟨by omega, by omega⟩ rfl) (by omega)
          · refine fz_aload_n kX11_worked rfl rfl ?_
            refine fz_getR (t := 74) kX11_worked rfl rfl ?_
            refine fz_iload_n kX11_worked rfl rfl ?_
            refine fz_iincN (ls' := [(3, fz_i (x2 + 1)), (5, fz_i (h 69 (x1.toNat))), (4, fz_i x1), (0, fz_r 53), (1, fz_i fr), (2, fz_i to)]) kX11_worked rfl (by decide) rfl (by omega) rfl ?_
            refine fz_iload kX11_worked rfl rfl ?_
            refine fz_bipush ⟨by decide, by decide⟩ kX11_worked rfl ?_
            refine fz_icmp_lt (tgt := 56) kX11_worked rfl (by decide) (fun c84 => ?_) (fun c84 => ?_)
            · refine fz_aload_n kX11_worked rfl rfl ?_
              refine fz_getR (t := 75) kX11_worked rfl rfl ?_
              refine fz_iload kX11_worked rfl rfl ?_
              refine fz_ialdV (n := 6) (v := h 75 ((h 69 (x1.toNat)).toNat)) kX11_worked rfl rfl (by omega) (by omega) (hf5 75 _ rfl) ?_
              have b85 : (-2147483648) ≤ h 75 ((h 69 (x1.toNat)).toNat) ∧ h 75 ((h 69 (x1.toNat)).toNat) ≤ 2147483647 := hI.1 75 _
              refine fz_iast (n := 200) kX11_worked rfl rfl (by omega) (by omega) ?_
              refine fz_nmu (S := [(74, 99999)]) (h0 := h) (fz_Iv_up hI4 (by decide) (show ((-2147483648) : Int) ≤ (h 75 ((h 69 (x1.toNat)).toNat)) by omega) (show ((h 75 ((h 69 (x1.toNat)).toNat)) : Int) ≤ 2147483647 by omega)) (fz_fr_up hf5 rfl) (fun H86 hI87 hf88 e89 => ?_)
              refine fz_goto (tgt := 157) kX11_worked rfl (by decide) ?_
              refine fz_iincN (ls' := [(4, fz_i (x1 + 1)), (3, fz_i (x2 + 1)), (5, fz_i (h 69 (x1.toNat))), (0, fz_r 53), (1, fz_i fr), (2, fz_i to)]) kX11_worked rfl (by decide) rfl (by omega) rfl ?_
              refine fz_goto (tgt := 5) kX11_worked rfl (by decide) ?_
              refine fz_sub (fz_pk_sub (ls' := [(4, fz_i (x1 + 1)), (3, fz_i (x2 + 1)), (0, fz_r 53), (1, fz_i fr), (2, fz_i to)]) [0, 1, 3, 4, 5] rfl) ?_
              exact ih8 (x1 + 1) (x2 + 1) H86 hI87 hf88 (by omega) (by omega) (by omega) (by omega) (by omega) (fz_Dp_n hv15 hp1 (by omega) rfl (by omega)) (by first | exact fl_wI_b (by omega) (by omega) (by omega) hv16 ⟨by omega, by omega⟩ rfl lost (by omega) (by omega) ⟨by omega, by omega⟩ lost lost lost | exact fl_wI_u hv16 ⟨by omega, by omega⟩ rfl lost (by omega) (by omega) lost (Or.inl ⟨by omega, rfl⟩) | exact fl_wI_u hv16 ⟨by omega, by omega⟩ rfl lost (by omega) (by omega) lost (Or.inr (Or.inl ⟨by omega, by omega, rfl⟩)) | exact fl_wI_u hv16 ⟨by omega, by omega⟩ rfl lost (by omega) (by omega) lost (Or.inr (Or.inr ⟨by omega, by omega, rfl⟩)) | exact fl_wI_num hv16 ⟨by omega, by omega⟩ rfl e89 (by omega) (by omega) rfl | exact fl_wI_nam hv16 ⟨by omega, by omega⟩ rfl e89 (by omega) ⟨by omega, by omega⟩ rfl) (by omega)
            · exfalso; omega
  exact lp7 _ fr 0 h hI hf (by omega) (by omega) (by omega) (by omega) (by omega) (fz_Dp_0 (by omega)) (fl_wI_0) (Nat.lt_succ_self _)

abbrev qX11_sign (h : fz_H) : fz_H → Option fz_V → Prop := fun h' r0 => h' = h ∧ ∃ r : Int, r0 = some (fz_i r) ∧ ((-1) ≤ r ∧ r ≤ 255) ∧ ((h 53 24 < h 53 16 ∧ r = h 65 (h 53 24).toNat) ∨ (h 53 16 ≤ h 53 24 ∧ r = -1)) ∧ (fl_gM h (h 53 24) = r)
set_option maxHeartbeats 1000000 in
set_option maxRecDepth 100000 in
theorem sX11_sign (h : fz_H) (hI : fz_Iv h) (hp0 : h 53 24 ≤ h 53 16) : fz_R 0 mX11_sign 0 [(0, fz_r 53)] [] h (qX11_sign h) := by
  have b1 : 0 ≤ h 53 24 ∧ h 53 24 ≤ 120 := hI.1 53 _
  have b2 : 0 ≤ h 53 16 ∧ h 53 16 ≤ 120 := hI.1 53 _
  refine fz_aload_n kX11_sign rfl rfl ?_
  refine fz_getV (v := h 53 24) kX11_sign rfl rfl rfl ?_
  have b3 : 0 ≤ h 53 24 ∧ h 53 24 ≤ 120 := hI.1 53 _
  refine fz_aload_n kX11_sign rfl rfl ?_
  refine fz_getV (v := h 53 16) kX11_sign rfl rfl rfl ?_
  have b4 : 0 ≤ h 53 16 ∧ h 53 16 ≤ 120 := hI.1 53 _
  refine fz_icmp_ge (tgt := 23) kX11_sign rfl (by decide) (fun c5 => ?_) (fun c5 => ?_)
  · refine fz_iconst ⟨by decide, by decide⟩ kX11_sign rfl ?_
    exact fz_iret kX11_sign rfl rfl (fun _ => ⟨rfl, _, rfl, (by omega), (by omega), (by exact fl_gM_s (by omega) (by omega))⟩)
  · refine fz_aload_n kX11_sign rfl rfl ?_
    refine fz_getR (t := 65) kX11_sign rfl rfl ?_
    refine fz_aload_n kX11_sign rfl rfl ?_
    refine fz_getV (v := h 53 24) kX11_sign rfl rfl rfl ?_
    refine fz_ialdV (n := 120) (v := h 65 ((h 53 24).toNat)) kX11_sign rfl rfl (by omega) (by omega) rfl ?_
    have b7 : 0 ≤ h 65 ((h 53 24).toNat) ∧ h 65 ((h 53 24).toNat) ≤ 255 := hI.1 65 _
    refine fz_goto (tgt := 24) kX11_sign rfl (by decide) ?_
    exact fz_iret kX11_sign rfl rfl (fun _ => ⟨rfl, _, rfl, (by omega), (by omega), (by exact fl_gM_s (by omega) (by omega))⟩)

abbrev qX11_is (h : fz_H) (c : Int) : fz_H → Option fz_V → Prop := fun h' r0 => fz_Iv h' ∧ fz_fr [(53, 24)] h h' ∧ ∃ r : Int, r0 = some (fz_i r) ∧ (r = 0 ∨ r = 1) ∧ ((r = 1 ∧ h' 53 24 = h 53 24 + 1 ∧ h 53 24 < h 53 16) ∨ (r = 0 ∧ h' 53 24 = h 53 24)) ∧ ((r = 1 ∧ fl_gM h (h 53 24) = c) ∨ (r = 0 ∧ fl_gM h (h 53 24) ≠ c))
set_option maxHeartbeats 1000000 in
set_option maxRecDepth 100000 in
theorem sX11_is (h : fz_H) (hI : fz_Iv h) (c : Int) (hp0 : h 53 24 ≤ h 53 16) (hp1 : 0 ≤ c) : fz_R 1 mX11_is 0 [(0, fz_r 53), (1, fz_i c)] [] h (qX11_is h c) := by
  refine fz_knowl (fun hk => ?_)
  have hr_c : -2147483648 ≤ c ∧ c < 2147483648 := hk _ (List.Mem.tail _ (List.Mem.head _))
  clear hk
  have hf : fz_fr [(53, 24)] h h := fz_fr_rf
  have b1 : 0 ≤ h 53 24 ∧ h 53 24 ≤ 120 := hI.1 53 _
  have b2 : 0 ≤ h 53 16 ∧ h 53 16 ≤ 120 := hI.1 53 _
  refine fz_aload_n kX11_is rfl rfl ?_
  refine fz_callV (d' := 0) (M' := mX11_sign) (As := []) (st := []) kX11_is rfl rfl vX11_sign rfl rfl rfl rfl (Nat.le_of_ble_eq_true rfl) (Nat.le_of_ble_eq_true rfl) (by decide) (sX11_sign h hI  (by omega)) (fun H3 r4 q5 o6 => ?_)
  obtain ⟨e7, y11, rfl, f8, f9, f10⟩ := q5
  subst H3
  clear o6
  refine fz_iload_n kX11_is rfl rfl ?_
  refine fz_icmp_eq (tgt := 10) kX11_is rfl (by decide) (fun c12 => ?_) (fun c12 => ?_)
  · refine fz_aload_n kX11_is rfl rfl ?_
    refine fz_dup rfl kX11_is rfl ?_
    refine fz_getV (v := h 53 24) kX11_is rfl rfl rfl ?_
    have b13 : 0 ≤ h 53 24 ∧ h 53 24 ≤ 120 := hI.1 53 _
    refine fz_iconst ⟨by decide, by decide⟩ kX11_is rfl ?_
    refine fz_iaddN kX11_is rfl (by omega) ?_
    refine fz_putI kX11_is rfl rfl rfl ?_
    refine fz_nmu (S := [(53, 24)]) (h0 := h) (fz_Iv_up hI (by decide) (show (0 : Int) ≤ ((h 53 24) + 1) by omega) (show (((h 53 24) + 1) : Int) ≤ 120 by omega)) (fz_fr_up hf rfl) (fun H14 hI15 hf16 e17 => ?_)
    have k18 : H14 53 24 = ((h 53 24) + 1) := by rw [e17]; exact fz_up_e
    clear e17
    refine fz_iconst ⟨by decide, by decide⟩ kX11_is rfl ?_
    exact fz_zret kX11_is rfl rfl (by omega) ⟨hI15, hf16, _, rfl, (by omega), (by omega), (by first | exact Or.inl ⟨rfl, by omega⟩ | exact Or.inr ⟨rfl, by omega⟩)⟩
  · refine fz_iconst ⟨by decide, by decide⟩ kX11_is rfl ?_
    exact fz_zret kX11_is rfl rfl (by omega) ⟨hI, hf, _, rfl, (by omega), (by omega), (by first | exact Or.inl ⟨rfl, by omega⟩ | exact Or.inr ⟨rfl, by omega⟩)⟩

abbrev qX11_codes (h : fz_H) (c : Int) : fz_H → Option fz_V → Prop := fun h' r0 => fz_Iv h' ∧ fz_fr [(53, 26), (73, 99999)] h h' ∧ ∃ r : Int, r0 = some (fz_i r) ∧ (r = 0 ∨ r = 1) ∧ (r = 1) ∧ (h' 53 26 = h 53 26 + 1) ∧ (fz_Cd h h' c)
set_option maxHeartbeats 1000000 in
set_option maxRecDepth 100000 in
theorem sX11_codes (h : fz_H) (hI : fz_Iv h) (c : Int) (hp0 : h 53 26 ≤ 119) : fz_R 0 mX11_codes 0 [(0, fz_r 53), (1, fz_i c)] [] h (qX11_codes h c) := by
  refine fz_knowl (fun hk => ?_)
  have hr_c : -2147483648 ≤ c ∧ c < 2147483648 := hk _ (List.Mem.tail _ (List.Mem.head _))
  clear hk
  have hf : fz_fr [(53, 26), (73, 99999)] h h := fz_fr_rf
  have b1 : 0 ≤ h 53 26 ∧ h 53 26 ≤ 200 := hI.1 53 _
  refine fz_aload_n kX11_codes rfl rfl ?_
  refine fz_getR (t := 73) kX11_codes rfl rfl ?_
  refine fz_aload_n kX11_codes rfl rfl ?_
  refine fz_dup rfl kX11_codes rfl ?_
  refine fz_getV (v := h 53 26) kX11_codes rfl rfl rfl ?_
  have b2 : 0 ≤ h 53 26 ∧ h 53 26 ≤ 200 := hI.1 53 _
  refine fz_dup_x1 rfl rfl kX11_codes rfl ?_
  refine fz_iconst ⟨by decide, by decide⟩ kX11_codes rfl ?_
  refine fz_iaddN kX11_codes rfl (by omega) ?_
  refine fz_putI kX11_codes rfl rfl rfl ?_
  refine fz_nmu (S := [(53, 26), (73, 99999)]) (h0 := h) (fz_Iv_up hI (by decide) (show (0 : Int) ≤ ((h 53 26) + 1) by omega) (show (((h 53 26) + 1) : Int) ≤ 200 by omega)) (fz_fr_up hf rfl) (fun H3 hI4 hf5 e6 => ?_)
  have k7 : H3 53 26 = ((h 53 26) + 1) := by rw [e6]; exact fz_up_e
  refine fz_iload_n kX11_codes rfl rfl ?_
  refine fz_iast (n := 200) kX11_codes rfl rfl (by omega) (by omega) ?_
  refine fz_nmu (S := [(53, 26), (73, 99999)]) (h0 := h) (fz_Iv_up hI4 (by decide) (show ((-2147483648) : Int) ≤ c by omega) (show (c : Int) ≤ 2147483647 by omega)) (fz_fr_up hf5 rfl) (fun H8 hI9 hf10 e11 => ?_)
  have k12 : H8 53 26 = ((h 53 26) + 1) := by rw [e11]; exact (fz_up_o (by decide)).trans k7
  refine fz_iconst ⟨by decide, by decide⟩ kX11_codes rfl ?_
  exact fz_zret kX11_codes rfl rfl (by omega) ⟨hI9, hf10, _, rfl, (by omega), (by omega), (by omega), (by exact fz_Cd_in e6 e11 rfl rfl (by omega))⟩

abbrev qX11_isDigit (h : fz_H) : fz_H → Option fz_V → Prop := fun h' r0 => h' = h ∧ ∃ r : Int, r0 = some (fz_i r) ∧ ((r = 1 ∧ (h 53 24 < h 53 16 ∧ 48 ≤ h 65 (h 53 24).toNat ∧ h 65 (h 53 24).toNat ≤ 57)) ∨ (r = 0 ∧ ¬ (h 53 24 < h 53 16 ∧ 48 ≤ h 65 (h 53 24).toNat ∧ h 65 (h 53 24).toNat ≤ 57)))
set_option maxHeartbeats 1000000 in
set_option maxRecDepth 100000 in
theorem sX11_isDigit (h : fz_H) (hI : fz_Iv h) (hp0 : h 53 24 ≤ h 53 16) : fz_R 1 mX11_isDigit 0 [(0, fz_r 53)] [] h (qX11_isDigit h) := by
  have b1 : 0 ≤ h 53 24 ∧ h 53 24 ≤ 120 := hI.1 53 _
  have b2 : 0 ≤ h 53 16 ∧ h 53 16 ≤ 120 := hI.1 53 _
  refine fz_aload_n kX11_isDigit rfl rfl ?_
  refine fz_callV (d' := 0) (M' := mX11_sign) (As := []) (st := []) kX11_isDigit rfl rfl vX11_sign rfl rfl rfl rfl (Nat.le_of_ble_eq_true rfl) (Nat.le_of_ble_eq_true rfl) (by decide) (sX11_sign h hI  (by omega)) (fun H3 r4 q5 o6 => ?_)
  obtain ⟨e7, y11, rfl, f8, f9, f10⟩ := q5
  subst H3
  clear o6
  refine fz_bipush ⟨by decide, by decide⟩ kX11_isDigit rfl ?_
  refine fz_icmp_lt (tgt := 22) kX11_isDigit rfl (by decide) (fun c12 => ?_) (fun c12 => ?_)
  · refine fz_iconst ⟨by decide, by decide⟩ kX11_isDigit rfl ?_
    exact fz_zret kX11_isDigit rfl rfl (by omega) ⟨rfl, _, rfl, Or.inr ⟨rfl, by omega⟩⟩
  · refine fz_aload_n kX11_isDigit rfl rfl ?_
    refine fz_callV (d' := 0) (M' := mX11_sign) (As := []) (st := []) kX11_isDigit rfl rfl vX11_sign rfl rfl rfl rfl (Nat.le_of_ble_eq_true rfl) (Nat.le_of_ble_eq_true rfl) (by decide) (sX11_sign h hI  (by omega)) (fun H13 r14 q15 o16 => ?_)
    obtain ⟨e17, y21, rfl, f18, f19, f20⟩ := q15
    subst H13
    clear o16
    refine fz_bipush ⟨by decide, by decide⟩ kX11_isDigit rfl ?_
    refine fz_icmp_gt (tgt := 22) kX11_isDigit rfl (by decide) (fun c22 => ?_) (fun c22 => ?_)
    · refine fz_iconst ⟨by decide, by decide⟩ kX11_isDigit rfl ?_
      exact fz_zret kX11_isDigit rfl rfl (by omega) ⟨rfl, _, rfl, Or.inr ⟨rfl, by omega⟩⟩
    · refine fz_iconst ⟨by decide, by decide⟩ kX11_isDigit rfl ?_
      refine fz_goto (tgt := 23) kX11_isDigit rfl (by decide) ?_
      exact fz_zret kX11_isDigit rfl rfl (by omega) ⟨rfl, _, rfl, Or.inl ⟨rfl, by omega⟩⟩

abbrev qX11_nameOf (h : fz_H) (c : Int) : fz_H → Option fz_V → Prop := fun h' r0 => h' = h ∧ ∃ r : Int, r0 = some (fz_i r) ∧ ((-1) ≤ r ∧ r ≤ 5) ∧ (0 ≤ r → 0 ≤ c) ∧ (r = fl_nm c)
set_option maxHeartbeats 1000000 in
set_option maxRecDepth 100000 in
theorem sX11_nameOf (h : fz_H) (hI : fz_Iv h) (c : Int) : fz_R 0 mX11_nameOf 0 [(0, fz_i c)] [] h (qX11_nameOf h c) := by
  refine fz_knowl (fun hk => ?_)
  have hr_c : -2147483648 ≤ c ∧ c < 2147483648 := hk _ (List.Mem.head _)
  clear hk
  refine fz_iload_n kX11_nameOf rfl rfl ?_
  by_cases c1 : (c : Int) = 97
  · refine fz_lsw (tgt := 62) kX11_nameOf rfl (by decide) (show Op.lookupswitch.offset [(97, 61), (100, 63), (109, 65), (112, 69), (116, 67), (119, 59)] 71 c = 61 by exact fz_osy c1) (by decide) ?_
    refine fz_iconst ⟨by decide, by decide⟩ kX11_nameOf rfl ?_
    exact fz_iret kX11_nameOf rfl rfl (fun _ => ⟨rfl, _, rfl, (by omega), (by omega), (by unfold fl_nm; omega)⟩)
  by_cases c3 : (c : Int) = 100
  · refine fz_lsw (tgt := 64) kX11_nameOf rfl (by decide) (show Op.lookupswitch.offset [(97, 61), (100, 63), (109, 65), (112, 69), (116, 67), (119, 59)] 71 c = 63 by rw [fz_osw c1]; exact fz_osy c3) (by decide) ?_
    refine fz_iconst ⟨by decide, by decide⟩ kX11_nameOf rfl ?_
    exact fz_iret kX11_nameOf rfl rfl (fun _ => ⟨rfl, _, rfl, (by omega), (by omega), (by unfold fl_nm; omega)⟩)
  by_cases c5 : (c : Int) = 109
  · refine fz_lsw (tgt := 66) kX11_nameOf rfl (by decide) (show Op.lookupswitch.offset [(97, 61), (100, 63), (109, 65), (112, 69), (116, 67), (119, 59)] 71 c = 65 by rw [fz_osw c1, fz_osw c3]; exact fz_osy c5) (by decide) ?_
    refine fz_iconst ⟨by decide, by decide⟩ kX11_nameOf rfl ?_
    exact fz_iret kX11_nameOf rfl rfl (fun _ => ⟨rfl, _, rfl, (by omega), (by omega), (by unfold fl_nm; omega)⟩)
  by_cases c7 : (c : Int) = 112
  · refine fz_lsw (tgt := 70) kX11_nameOf rfl (by decide) (show Op.lookupswitch.offset [(97, 61), (100, 63), (109, 65), (112, 69), (116, 67), (119, 59)] 71 c = 69 by rw [fz_osw c1, fz_osw c3, fz_osw c5]; exact fz_osy c7) (by decide) ?_
    refine fz_iconst ⟨by decide, by decide⟩ kX11_nameOf rfl ?_
    exact fz_iret kX11_nameOf rfl rfl (fun _ => ⟨rfl, _, rfl, (by omega), (by omega), (by unfold fl_nm; omega)⟩)
  by_cases c9 : (c : Int) = 116
  · refine fz_lsw (tgt := 68) kX11_nameOf rfl (by decide) (show Op.lookupswitch.offset [(97, 61), (100, 63), (109, 65), (112, 69), (116, 67), (119, 59)] 71 c = 67 by rw [fz_osw c1, fz_osw c3, fz_osw c5, fz_osw c7]; exact fz_osy c9) (by decide) ?_
    refine fz_iconst ⟨by decide, by decide⟩ kX11_nameOf rfl ?_
    exact fz_iret kX11_nameOf rfl rfl (fun _ => ⟨rfl, _, rfl, (by omega), (by omega), (by unfold fl_nm; omega)⟩)
  by_cases c11 : (c : Int) = 119
  · refine fz_lsw (tgt := 60) kX11_nameOf rfl (by decide) (show Op.lookupswitch.offset [(97, 61), (100, 63), (109, 65), (112, 69), (116, 67), (119, 59)] 71 c = 59 by rw [fz_osw c1, fz_osw c3, fz_osw c5, fz_osw c7, fz_osw c9]; exact fz_osy c11) (by decide) ?_
    refine fz_iconst ⟨by decide, by decide⟩ kX11_nameOf rfl ?_
    exact fz_iret kX11_nameOf rfl rfl (fun _ => ⟨rfl, _, rfl, (by omega), (by omega), (by unfold fl_nm; omega)⟩)
  refine fz_lsw (tgt := 72) kX11_nameOf rfl (by decide) (show Op.lookupswitch.offset [(97, 61), (100, 63), (109, 65), (112, 69), (116, 67), (119, 59)] 71 c = 71 by rw [fz_osw c1, fz_osw c3, fz_osw c5, fz_osw c7, fz_osw c9, fz_osw c11]; rfl) (by decide) ?_
  refine fz_iconst ⟨by decide, by decide⟩ kX11_nameOf rfl ?_
  exact fz_iret kX11_nameOf rfl rfl (fun _ => ⟨rfl, _, rfl, (by omega), (by omega), (by unfold fl_nm; omega)⟩)

abbrev qX11_isO_6 (h : fz_H) : fz_H → Option fz_V → Prop := fun h' r0 => fz_Iv h' ∧ fz_fr [(53, 24), (53, 25), (53, 26), (73, 99999)] h h' ∧ ∃ r : Int, r0 = some (fz_i r) ∧ (r = 0 ∨ r = 1) ∧ (h' 53 25 = 6) ∧ (h 53 24 ≤ h' 53 24) ∧ (h' 53 24 ≤ h 53 16) ∧ (h 53 26 ≤ h' 53 26) ∧ (h' 53 26 - h 53 26 ≤ h' 53 24 - h 53 24) ∧ (r = 1 → h 53 24 + 1 ≤ h' 53 24) ∧ (r = 1 → fz_Pa h h') ∧ (fl_rdM h h' (fl_pO (fl_gM h) 0 (h 53 24)) r)
set_option maxHeartbeats 1000000 in
set_option maxRecDepth 100000 in
theorem sX11_isO_6 (h : fz_H) (hI : fz_Iv h) (hp0 : h 53 25 = 6) (hp1 : h 53 24 ≤ h 53 16) (hp2 : h 53 26 ≤ h 53 24) : fz_R 2 mX11_isO 0 [(0, fz_r 53)] [] h (qX11_isO_6 h) := by
  have hf : fz_fr [(53, 24), (53, 25), (53, 26), (73, 99999)] h h := fz_fr_rf
  have b1 : 0 ≤ h 53 25 ∧ h 53 25 ≤ 6 := hI.1 53 _
  have b2 : 0 ≤ h 53 24 ∧ h 53 24 ≤ 120 := hI.1 53 _
  have b3 : 0 ≤ h 53 16 ∧ h 53 16 ≤ 120 := hI.1 53 _
  have b4 : 0 ≤ h 53 26 ∧ h 53 26 ≤ 200 := hI.1 53 _
  have hCa5 : fz_Ca h h := ⟨rfl, rfl⟩
  refine fz_aload_n kX11_isO rfl rfl ?_
  refine fz_callV (d' := 1) (M' := mX11_isDigit) (As := []) (st := []) kX11_isO rfl rfl vX11_isDigit rfl rfl rfl rfl (Nat.le_of_ble_eq_true rfl) (Nat.le_of_ble_eq_true rfl) (by decide) (sX11_isDigit h hI  (by omega)) (fun H7 r8 q9 o10 => ?_)
  obtain ⟨e11, y12, rfl, p13⟩ := q9
  subst H7
  clear o10
  rcases p13 with ⟨rfl, c14⟩ | ⟨rfl, c14⟩
  · refine fz_if_eq (tgt := 66) kX11_isO rfl (by decide) (fun c15 => ?_) (fun c15 => ?_)
    · exfalso; omega
    · have k16 := c14
      have k18 : 48 ≤ fl_gM h (h 53 24) ∧ fl_gM h (h 53 24) ≤ 57 := by rw [fl_gM_y (a := h 53 24) ⟨by omega, by omega⟩ rfl]; exact ⟨by omega, by omega⟩
      refine fz_iconst ⟨by decide, by decide⟩ kX11_isO rfl ?_
      refine fz_istore_n (ls' := [(1, fz_i 0), (0, fz_r 53)]) kX11_isO rfl (by decide) rfl ?_
      refine fz_iconst ⟨by decide, by decide⟩ kX11_isO rfl ?_
      refine fz_istore_n (ls' := [(2, fz_i 0), (1, fz_i 0), (0, fz_r 53)]) kX11_isO rfl (by decide) rfl ?_
      have lp27 : ∀ (n26 : Nat) (x20 : Int) (x21 : Int) (H23 : fz_H), fz_Iv H23 → fz_fr [(53, 24), (53, 25), (53, 26), (73, 99999)] h H23 → fz_Ca h H23 → (0 ≤ x20 ∧ x20 ≤ 4) → (0 ≤ x21 ∧ x21 ≤ 9999) → ((x20 = 0 ∧ x21 = 0) ∨ (x20 = 1 ∧ x21 ≤ 9) ∨ (x20 = 2 ∧ x21 ≤ 99) ∨ (x20 = 3 ∧ x21 ≤ 999) ∨ x20 = 4) → (H23 53 25 = 6) → (H23 53 24 = h 53 24 + x20) → (H23 53 24 ≤ h 53 16) → (H23 53 26 = h 53 26) → (fl_dg (fl_gM h) (4 - x20).toNat (x21, H23 53 24) = fl_dg (fl_gM h) 4 (0, h 53 24)) → (4 - x20).toNat < n26 → fz_R 2 mX11_isO 11 [(2, fz_i x20), (1, fz_i x21), (0, fz_r 53)] [] H23 (qX11_isO_6 h) := by
        intro n26
        induction n26 with
        | zero => intro x20 x21 H23 hI24 hf25 hCa22 hv30 hv31 hv32 hv33 hv34 hv35 hv36 hv37 hm29; exact absurd hm29 (by omega)
        | succ n26 ih28 =>
          intro x20 x21 H23 hI24 hf25 hCa22 hv30 hv31 hv32 hv33 hv34 hv35 hv36 hv37 hm29
          refine fz_iload_n kX11_isO rfl rfl ?_
          refine fz_iconst ⟨by decide, by decide⟩ kX11_isO rfl ?_
          refine fz_icmp_ge (tgt := 57) kX11_isO rfl (by decide) (fun c38 => ?_) (fun c38 => ?_)
          · have k39 : 1 ≤ x20 := by first | omega | (refine Classical.byContradiction (fun z => ?_); have e : H23 53 24 = h 53 24 := (by omega); have zz := c14; rw [e, hf25 53 16 rfl, hf25 65 _ rfl] at zz; exact zz k16)
            have k41 : 1 ≤ x20 := by omega
            have k42 : fl_dg (fl_gM h) 4 (0, h 53 24) = (x21, H23 53 24) := by first | exact fl_dg_x hv37 (Or.inl (by omega)) | exact fl_dg_x hv37 (Or.inr (fl_gM_nd (funext fun s => hf25 65 s rfl) (hf25 53 16 rfl) (by omega) c14))
            refine fz_aload_n kX11_isO rfl rfl ?_
            refine fz_bipush ⟨by decide, by decide⟩ kX11_isO rfl ?_
            refine fz_iload_n kX11_isO rfl rfl ?_
            refine fz_iaddN kX11_isO rfl (by omega) ?_
            have k44 := hCa22
            have b46 : 0 ≤ H23 53 26 ∧ H23 53 26 ≤ 200 := hI24.1 53 _
            refine fz_callV (d' := 0) (M' := mX11_codes) (As := [fz_i (18 + x21)]) (st := []) kX11_isO rfl rfl vX11_codes rfl rfl rfl rfl (Nat.le_of_ble_eq_true rfl) (Nat.le_of_ble_eq_true rfl) (by decide) (sX11_codes H23 hI24 (18 + x21) (by omega)) (fun H47 r48 q49 o50 => ?_)
            obtain ⟨hI51, hf52, y56, rfl, p57, f53, f54, f55⟩ := q49
            clear o50
            have hf58 := fz_fr_tr hf25 hf52 (show fz_su [(53, 26), (73, 99999)] [(53, 24), (53, 25), (53, 26), (73, 99999)] = true from rfl)
            have k59 : H47 53 25 = 6 := (hf52 53 25 rfl).trans hv33
            have t60 : H47 53 24 = H23 53 24 := hf52 53 24 rfl
            refine fz_eqi (show y56 = 1 by omega) ?_
            have hPa61 : fz_Pa h H47 := fz_Pa_n k44 f55 (by omega) (by omega)
            exact fz_zret kX11_isO rfl rfl (by omega) ⟨hI51, hf58, _, rfl, (by omega), (by omega), (by omega), (by omega), (by omega), (by omega), (by omega), (by first | (intro z; exfalso; omega) | (intro _; exact hPa61)), (by first | exact fl_mO_num k18 k42 rfl f55 rfl (by omega) (by omega) k44.1 | exact fl_mO_nam (by omega) lost (by omega) (by omega) lost rfl f55 (by omega) | exact fl_mO_full (by omega) lost (by omega) (by omega))⟩
          · refine fz_aload_n kX11_isO rfl rfl ?_
            have b65 : 0 ≤ H23 53 24 ∧ H23 53 24 ≤ 120 := hI24.1 53 _
            have b66 : 0 ≤ h 53 16 ∧ h 53 16 ≤ 120 := hI.1 53 _
            have e67 : H23 53 16 = h 53 16 := hf25 53 16 rfl
            refine fz_callV (d' := 1) (M' := mX11_isDigit) (As := []) (st := []) kX11_isO rfl rfl vX11_isDigit rfl rfl rfl rfl (Nat.le_of_ble_eq_true rfl) (Nat.le_of_ble_eq_true rfl) (by decide) (sX11_isDigit H23 hI24  (by omega)) (fun H68 r69 q70 o71 => ?_)
            obtain ⟨e72, y73, rfl, p74⟩ := q70
            subst H68
            clear o71
            rcases p74 with ⟨rfl, c75⟩ | ⟨rfl, c75⟩
            · refine fz_if_eq (tgt := 57) kX11_isO rfl (by decide) (fun c76 => ?_) (fun c76 => ?_)
              · exfalso; omega
              · refine fz_bipush ⟨by decide, by decide⟩ kX11_isO rfl ?_
                refine fz_iload_n kX11_isO rfl rfl ?_
                refine fz_imulN kX11_isO rfl (by omega) ?_
                refine fz_aload_n kX11_isO rfl rfl ?_
                refine fz_getR (t := 65) kX11_isO rfl rfl ?_
                refine fz_aload_n kX11_isO rfl rfl ?_
                obtain ⟨v77, e78⟩ : ∃ z, H23 53 (24) = z := ⟨_, rfl⟩
                refine fz_getV (v := v77) kX11_isO rfl rfl e78 ?_
                have b79 : 0 ≤ v77 ∧ v77 ≤ 120 := by rw [← e78]; exact hI24.1 53 _
                refine fz_ialdV (n := 120) (v := h 65 (v77.toNat)) kX11_isO rfl rfl (by omega) (by omega) (hf25 65 _ rfl) ?_
                have b80 : 0 ≤ h 65 (v77.toNat) ∧ h 65 (v77.toNat) ≤ 255 := hI.1 65 _
                have k81 : 48 ≤ (h 65 (v77.toNat)) ∧ (h 65 (v77.toNat)) ≤ 57 := by have z := c75; rw [e78, hf25 65 _ rfl] at z; exact z.2
                have k84 : 48 ≤ (h 65 (v77.toNat)) ∧ (h 65 (v77.toNat)) ≤ 57 := by omega
                have k85 : H23 53 16 = h 53 16 := hf25 53 16 rfl
                have k86 : fl_gM h (H23 53 24) = (h 65 (v77.toNat)) := by rw [e78]; exact fl_gM_y ⟨by omega, by omega⟩ rfl
                refine fz_iaddN kX11_isO rfl (by omega) ?_
                refine fz_bipush ⟨by decide, by decide⟩ kX11_isO rfl ?_
                refine fz_isubN kX11_isO rfl (by omega) ?_
                refine fz_istore_n (ls' := [(1, fz_i (((10 * x21) + (h 65 (v77.toNat))) - 48)), (2, fz_i x20), (0, fz_r 53)]) kX11_isO rfl (by decide) rfl ?_
                refine fz_aload_n kX11_isO rfl rfl ?_
                refine fz_dup rfl kX11_isO rfl ?_
                refine fz_getV (v := v77) kX11_isO rfl rfl e78 ?_
                refine fz_iconst ⟨by decide, by decide⟩ kX11_isO rfl ?_
                refine fz_iaddN kX11_isO rfl (by omega) ?_
                refine fz_putI kX11_isO rfl rfl rfl ?_
                refine fz_nmu (S := [(53, 24), (53, 25), (53, 26), (73, 99999)]) (h0 := h) (fz_Iv_up hI24 (by decide) (show (0 : Int) ≤ (v77 + 1) by omega) (show ((v77 + 1) : Int) ≤ 120 by omega)) (fz_fr_up hf25 rfl) (fun H87 hI88 hf89 e90 => ?_)
                have k91 : H87 53 25 = 6 := by rw [e90]; exact (fz_up_s (by decide)).trans hv33
                have k92 : H87 53 24 = (v77 + 1) := by rw [e90]; exact fz_up_e
                have t93 : H87 53 26 = H23 53 26 := by rw [e90]; exact fz_up_s (by decide)
                have hCa94 : fz_Ca h H87 := fz_Ca_eq (by rw [e90]; exact fz_up_ne (by decide)) (by rw [e90]; exact fz_up_s (by decide)) hCa22
                refine fz_iincN (ls' := [(2, fz_i (x20 + 1)), (1, fz_i (((10 * x21) + (h 65 (v77.toNat))) - 48)), (0, fz_r 53)]) kX11_isO rfl (by decide) rfl (by omega) rfl ?_
                refine fz_goto (tgt := 11) kX11_isO rfl (by decide) ?_
                exact ih28 (x20 + 1) (((10 * x21) + (h 65 (v77.toNat))) - 48) H87 hI88 hf89 hCa94 (by omega) (by omega) (by omega) (by omega) (by omega) (by omega) (by omega) (fl_dg_st hv37 (by omega) ⟨by omega, by omega⟩ (by omega) (by omega)) (by omega)
            · refine fz_if_eq (tgt := 57) kX11_isO rfl (by decide) (fun c96 => ?_) (fun c96 => ?_)
              · have k97 : 1 ≤ x20 := by first | omega | (refine Classical.byContradiction (fun z => ?_); have e : H23 53 24 = h 53 24 := (by omega); have zz := c75; rw [e, hf25 53 16 rfl, hf25 65 _ rfl] at zz; exact zz k16)
                have k99 : 1 ≤ x20 := by omega
                have k100 : fl_dg (fl_gM h) 4 (0, h 53 24) = (x21, H23 53 24) := by first | exact fl_dg_x hv37 (Or.inl (by omega)) | exact fl_dg_x hv37 (Or.inr (fl_gM_nd (funext fun s => hf25 65 s rfl) (hf25 53 16 rfl) (by omega) c75))
                refine fz_aload_n kX11_isO rfl rfl ?_
                refine fz_bipush ⟨by decide, by decide⟩ kX11_isO rfl ?_
                refine fz_iload_n kX11_isO rfl rfl ?_
                refine fz_iaddN kX11_isO rfl (by omega) ?_
                have k102 := hCa22
                have b104 : 0 ≤ H23 53 26 ∧ H23 53 26 ≤ 200 := hI24.1 53 _
                refine fz_callV (d' := 0) (M' := mX11_codes) (As := [fz_i (18 + x21)]) (st := []) kX11_isO rfl rfl vX11_codes rfl rfl rfl rfl (Nat.le_of_ble_eq_true rfl) (Nat.le_of_ble_eq_true rfl) (by decide) (sX11_codes H23 hI24 (18 + x21) (by omega)) (fun H105 r106 q107 o108 => ?_)
                obtain ⟨hI109, hf110, y114, rfl, p115, f111, f112, f113⟩ := q107
                clear o108
                have hf116 := fz_fr_tr hf25 hf110 (show fz_su [(53, 26), (73, 99999)] [(53, 24), (53, 25), (53, 26), (73, 99999)] = true from rfl)
                have k117 : H105 53 25 = 6 := (hf110 53 25 rfl).trans hv33
                have t118 : H105 53 24 = H23 53 24 := hf110 53 24 rfl
                refine fz_eqi (show y114 = 1 by omega) ?_
                have hPa119 : fz_Pa h H105 := fz_Pa_n k102 f113 (by omega) (by omega)
                exact fz_zret kX11_isO rfl rfl (by omega) ⟨hI109, hf116, _, rfl, (by omega), (by omega), (by omega), (by omega), (by omega), (by omega), (by omega), (by first | (intro z; exfalso; omega) | (intro _; exact hPa119)), (by first | exact fl_mO_num k18 k100 rfl f113 rfl (by omega) (by omega) k102.1 | exact fl_mO_nam (by omega) lost (by omega) (by omega) lost rfl f113 (by omega) | exact fl_mO_full (by omega) lost (by omega) (by omega))⟩
              · exfalso; omega
      exact lp27 _ 0 0 h hI hf hCa5 (by omega) (by omega) (by omega) (by omega) (by omega) (by omega) (by omega) (rfl) (Nat.lt_succ_self _)
  · refine fz_if_eq (tgt := 66) kX11_isO rfl (by decide) (fun c124 => ?_) (fun c124 => ?_)
    · refine fz_aload_n kX11_isO rfl rfl ?_
      refine fz_callV (d' := 0) (M' := mX11_sign) (As := []) (st := []) kX11_isO rfl rfl vX11_sign rfl rfl rfl rfl (Nat.le_of_ble_eq_true rfl) (Nat.le_of_ble_eq_true rfl) (by decide) (sX11_sign h hI  (by omega)) (fun H125 r126 q127 o128 => ?_)
      obtain ⟨e129, y133, rfl, f130, f131, f132⟩ := q127
      subst H125
      clear o128
      refine fz_callS (d' := 0) (M' := mX11_nameOf) (As := [fz_i y133]) (st := []) kX11_isO rfl rfl vX11_nameOf rfl rfl (Nat.le_of_ble_eq_true rfl) (Nat.le_of_ble_eq_true rfl) (by decide) (sX11_nameOf h hI y133 ) (fun H134 r135 q136 o137 => ?_)
      obtain ⟨e138, y142, rfl, f139, f140, f141⟩ := q136
      subst H134
      clear o137
      refine fz_istore_n (ls' := [(1, fz_i y142), (0, fz_r 53)]) kX11_isO rfl (by decide) rfl ?_
      refine fz_iload_n kX11_isO rfl rfl ?_
      refine fz_if_lt (tgt := 94) kX11_isO rfl (by decide) (fun c143 => ?_) (fun c143 => ?_)
      · refine fz_aload_n kX11_isO rfl rfl ?_
        refine fz_getV (v := h 53 25) kX11_isO rfl rfl rfl ?_
        have b144 : 0 ≤ h 53 25 ∧ h 53 25 ≤ 6 := hI.1 53 _
        refine fz_eqi (show (h 53 25) = 6 by omega) ?_
        refine fz_bipush ⟨by decide, by decide⟩ kX11_isO rfl ?_
        refine fz_icmp_ne (tgt := 105) kX11_isO rfl (by decide) (fun c145 => ?_) (fun c145 => ?_)
        · exfalso; omega
        · refine fz_iconst ⟨by decide, by decide⟩ kX11_isO rfl ?_
          exact fz_zret kX11_isO rfl rfl (by omega) ⟨hI, hf, _, rfl, (by omega), (by omega), (by omega), (by omega), (by omega), (by omega), (by omega), (by first | (intro z; exfalso; omega) | (intro _; exact lost)), (by first | exact fl_mO_num lost lost rfl lost rfl (by omega) (by omega) lost.1 | exact fl_mO_nam (by omega) f141 (by omega) (by omega) lost rfl lost (by omega) | exact fl_mO_full (by omega) f141 (by omega) (by omega))⟩
      · refine fz_aload_n kX11_isO rfl rfl ?_
        refine fz_dup rfl kX11_isO rfl ?_
        refine fz_getV (v := h 53 24) kX11_isO rfl rfl rfl ?_
        have b148 : 0 ≤ h 53 24 ∧ h 53 24 ≤ 120 := hI.1 53 _
        refine fz_iconst ⟨by decide, by decide⟩ kX11_isO rfl ?_
        refine fz_iaddN kX11_isO rfl (by omega) ?_
        refine fz_putI kX11_isO rfl rfl rfl ?_
        refine fz_nmu (S := [(53, 24), (53, 25), (53, 26), (73, 99999)]) (h0 := h) (fz_Iv_up hI (by decide) (show (0 : Int) ≤ ((h 53 24) + 1) by omega) (show (((h 53 24) + 1) : Int) ≤ 120 by omega)) (fz_fr_up hf rfl) (fun H149 hI150 hf151 e152 => ?_)
        have k153 : H149 53 25 = (h 53 25) := by rw [e152]; exact (fz_up_s (by decide)).trans rfl
        have k154 : H149 53 26 = (h 53 26) := by rw [e152]; exact (fz_up_s (by decide)).trans rfl
        have k155 : H149 53 24 = ((h 53 24) + 1) := by rw [e152]; exact fz_up_e
        have t156 : H149 53 26 = h 53 26 := by rw [e152]; exact fz_up_s (by decide)
        have hCa157 : fz_Ca h H149 := fz_Ca_eq (by rw [e152]; exact fz_up_ne (by decide)) (by rw [e152]; exact fz_up_s (by decide)) hCa5
        refine fz_aload_n kX11_isO rfl rfl ?_
        refine fz_iload_n kX11_isO rfl rfl ?_
        have k158 := hCa157
        have b160 : 0 ≤ H149 53 26 ∧ H149 53 26 ≤ 200 := hI150.1 53 _
        refine fz_callV (d' := 0) (M' := mX11_codes) (As := [fz_i y142]) (st := []) kX11_isO rfl rfl vX11_codes rfl rfl rfl rfl (Nat.le_of_ble_eq_true rfl) (Nat.le_of_ble_eq_true rfl) (by decide) (sX11_codes H149 hI150 y142 (by omega)) (fun H161 r162 q163 o164 => ?_)
        obtain ⟨hI165, hf166, y170, rfl, p171, f167, f168, f169⟩ := q163
        clear o164
        have hf172 := fz_fr_tr hf151 hf166 (show fz_su [(53, 26), (73, 99999)] [(53, 24), (53, 25), (53, 26), (73, 99999)] = true from rfl)
        have k173 : H161 53 25 = (h 53 25) := (hf166 53 25 rfl).trans k153
        have k174 : H161 53 24 = ((h 53 24) + 1) := (hf166 53 24 rfl).trans k155
        have t175 : H161 53 24 = H149 53 24 := hf166 53 24 rfl
        refine fz_eqi (show y170 = 1 by omega) ?_
        have hPa176 : fz_Pa h H161 := fz_Pa_n k158 f169 (by omega) (by omega)
        exact fz_zret kX11_isO rfl rfl (by omega) ⟨hI165, hf172, _, rfl, (by omega), (by omega), (by omega), (by omega), (by omega), (by omega), (by omega), (by first | (intro z; exfalso; omega) | (intro _; exact hPa176)), (by first | exact fl_mO_num lost lost rfl f169 rfl (by omega) (by omega) k158.1 | exact fl_mO_nam (by omega) f141 (by omega) (by omega) e152 rfl f169 (by omega) | exact fl_mO_full (by omega) f141 (by omega) (by omega))⟩
    · exfalso; omega

abbrev qX11_isP_6 (h : fz_H) : fz_H → Option fz_V → Prop := fun h' r0 => fz_Iv h' ∧ fz_fr [(53, 24), (53, 25), (53, 26), (73, 99999)] h h' ∧ ∃ r : Int, r0 = some (fz_i r) ∧ (r = 0 ∨ r = 1) ∧ (h' 53 25 = 6) ∧ (h 53 24 ≤ h' 53 24) ∧ (h' 53 24 ≤ h 53 16) ∧ (h 53 26 ≤ h' 53 26) ∧ (h' 53 26 - h 53 26 ≤ h' 53 24 - h 53 24) ∧ (r = 1 → h 53 24 + 1 ≤ h' 53 24) ∧ (r = 1 → fz_Pa h h') ∧ (fl_rdM h h' (fl_eP (fl_gM h) (fl_pO (fl_gM h) 0) (h 53 24)) r)
set_option maxHeartbeats 1000000 in
set_option maxRecDepth 100000 in
theorem sX11_isP_6 (h : fz_H) (hI : fz_Iv h) (hp0 : h 53 25 = 6) (hp1 : h 53 24 ≤ h 53 16) (hp2 : h 53 26 ≤ h 53 24) : fz_R 3 mX11_isP 0 [(0, fz_r 53)] [] h (qX11_isP_6 h) := by
  have hf : fz_fr [(53, 24), (53, 25), (53, 26), (73, 99999)] h h := fz_fr_rf
  have b1 : 0 ≤ h 53 25 ∧ h 53 25 ≤ 6 := hI.1 53 _
  have b2 : 0 ≤ h 53 24 ∧ h 53 24 ≤ 120 := hI.1 53 _
  have b3 : 0 ≤ h 53 16 ∧ h 53 16 ≤ 120 := hI.1 53 _
  have b4 : 0 ≤ h 53 26 ∧ h 53 26 ≤ 200 := hI.1 53 _
  refine fz_aload_n kX11_isP rfl rfl ?_
  refine fz_callV (d' := 2) (M' := mX11_isO) (As := []) (st := []) kX11_isP rfl rfl vX11_isO rfl rfl rfl rfl (Nat.le_of_ble_eq_true rfl) (Nat.le_of_ble_eq_true rfl) (by decide) (sX11_isO_6 h hI  (by omega) (by omega) (by omega)) (fun H5 r6 q7 o8 => ?_)
  obtain ⟨hI9, hf10, y19, rfl, p20, f11, f12, f13, f14, f15, f16, f17, f18⟩ := q7
  clear o8
  have hf21 := fz_fr_tr hf hf10 (show fz_su [(53, 24), (53, 25), (53, 26), (73, 99999)] [(53, 24), (53, 25), (53, 26), (73, 99999)] = true from rfl)
  refine fz_if_ne (tgt := 9) kX11_isP rfl (by decide) (fun c22 => ?_) (fun c22 => ?_)
  · have hPa23 : fz_Pa h H5 := f17 (by omega)
    have lp30 : ∀ (n29 : Nat) (H26 : fz_H), fz_Iv H26 → fz_fr [(53, 24), (53, 25), (53, 26), (73, 99999)] h H26 → fz_Pa h H26 → (H26 53 25 = 6) → (h 53 24 + 1 ≤ H26 53 24) → (H26 53 24 ≤ h 53 16) → (h 53 26 ≤ H26 53 26) → (H26 53 26 - h 53 26 ≤ H26 53 24 - h 53 24) → (fl_sL h H26 (fl_eP (fl_gM h) (fl_pO (fl_gM h) 0) (h 53 24)) fl_oP (fl_pO (fl_gM h) 0) (fl_gM h) 200) → (h 53 16 - H26 53 24).toNat < n29 → fz_R 3 mX11_isP 9 [(0, fz_r 53)] [] H26 (qX11_isP_6 h) := by
      intro n29
      induction n29 with
      | zero => intro H26 hI27 hf28 hPa25 hv33 hv34 hv35 hv36 hv37 hv38 hm32; exact absurd hm32 (by omega)
      | succ n29 ih31 =>
        intro H26 hI27 hf28 hPa25 hv33 hv34 hv35 hv36 hv37 hv38 hm32
        refine fz_aload_n kX11_isP rfl rfl ?_
        have k39 : fl_gM H26 (H26 53 24) = fl_gM h (H26 53 24) := fl_gMe2 (funext fun s => hf28 65 s rfl) (hf28 53 16 rfl)
        have b41 : 0 ≤ H26 53 24 ∧ H26 53 24 ≤ 120 := hI27.1 53 _
        have b42 : 0 ≤ h 53 16 ∧ h 53 16 ≤ 120 := hI.1 53 _
        have e43 : H26 53 16 = h 53 16 := hf28 53 16 rfl
        refine fz_callV (d' := 0) (M' := mX11_sign) (As := []) (st := []) kX11_isP rfl rfl vX11_sign rfl rfl rfl rfl (Nat.le_of_ble_eq_true rfl) (Nat.le_of_ble_eq_true rfl) (by decide) (sX11_sign H26 hI27  (by omega)) (fun H44 r45 q46 o47 => ?_)
        obtain ⟨e48, y52, rfl, f49, f50, f51⟩ := q46
        subst H44
        clear o47
        refine fz_bipush ⟨by decide, by decide⟩ kX11_isP rfl ?_
        refine fz_icmp_ne (tgt := 23) kX11_isP rfl (by decide) (fun c53 => ?_) (fun c53 => ?_)
        · refine fz_aload_n kX11_isP rfl rfl ?_
          refine fz_callV (d' := 0) (M' := mX11_sign) (As := []) (st := []) kX11_isP rfl rfl vX11_sign rfl rfl rfl rfl (Nat.le_of_ble_eq_true rfl) (Nat.le_of_ble_eq_true rfl) (by decide) (sX11_sign H26 hI27  (by omega)) (fun H54 r55 q56 o57 => ?_)
          obtain ⟨e58, y62, rfl, f59, f60, f61⟩ := q56
          subst H54
          clear o57
          refine fz_bipush ⟨by decide, by decide⟩ kX11_isP rfl ?_
          refine fz_icmp_ne (tgt := 37) kX11_isP rfl (by decide) (fun c63 => ?_) (fun c63 => ?_)
          · refine fz_aload_n kX11_isP rfl rfl ?_
            refine fz_callV (d' := 0) (M' := mX11_sign) (As := []) (st := []) kX11_isP rfl rfl vX11_sign rfl rfl rfl rfl (Nat.le_of_ble_eq_true rfl) (Nat.le_of_ble_eq_true rfl) (by decide) (sX11_sign H26 hI27  (by omega)) (fun H64 r65 q66 o67 => ?_)
            obtain ⟨e68, y72, rfl, f69, f70, f71⟩ := q66
            subst H64
            clear o67
            refine fz_bipush ⟨by decide, by decide⟩ kX11_isP rfl ?_
            refine fz_icmp_ne (tgt := 51) kX11_isP rfl (by decide) (fun c73 => ?_) (fun c73 => ?_)
            · refine fz_iconst ⟨by decide, by decide⟩ kX11_isP rfl ?_
              refine fz_istore_n (ls' := [(1, fz_i (-1)), (0, fz_r 53)]) kX11_isP rfl (by decide) rfl ?_
              refine fz_iload_n kX11_isP rfl rfl ?_
              refine fz_if_ge (tgt := 59) kX11_isP rfl (by decide) (fun c74 => ?_) (fun c74 => ?_)
              · exfalso; omega
              · refine fz_iconst ⟨by decide, by decide⟩ kX11_isP rfl ?_
                exact fz_zret kX11_isP rfl rfl (by omega) ⟨hI27, hf28, _, rfl, (by omega), (by omega), (by omega), (by omega), (by omega), (by omega), (by omega), (by first | (intro z; exfalso; omega) | (intro _; exact hPa25)), (by first | exact fl_sL_n0 f18 rfl (by omega) | exact fl_sL_x hv38 (by unfold fl_oP; omega) rfl rfl rfl | exact fl_sL_no (l := (-1)) hv38 (by decide) ⟨by omega, by omega⟩ (by unfold fl_oP; omega) (by omega) (by omega) (by rw [lost]; exact fz_up_s (by decide)) (by rw [lost]; exact fz_up_ne (by decide)) lost (congrArg (fun g => fl_pO g 0) (fl_gM_e (funext fun s => lost 65 s rfl) (lost 53 16 rfl))) (by omega))⟩
            · refine fz_bipush ⟨by decide, by decide⟩ kX11_isP rfl ?_
              refine fz_goto (tgt := 52) kX11_isP rfl (by decide) ?_
              refine fz_istore_n (ls' := [(1, fz_i 15), (0, fz_r 53)]) kX11_isP rfl (by decide) rfl ?_
              refine fz_iload_n kX11_isP rfl rfl ?_
              refine fz_if_ge (tgt := 59) kX11_isP rfl (by decide) (fun c77 => ?_) (fun c77 => ?_)
              · refine fz_aload_n kX11_isP rfl rfl ?_
                refine fz_dup rfl kX11_isP rfl ?_
                obtain ⟨v78, e79⟩ : ∃ z, H26 53 (24) = z := ⟨_, rfl⟩
                refine fz_getV (v := v78) kX11_isP rfl rfl e79 ?_
                have b80 : 0 ≤ v78 ∧ v78 ≤ 120 := by rw [← e79]; exact hI27.1 53 _
                refine fz_iconst ⟨by decide, by decide⟩ kX11_isP rfl ?_
                refine fz_iaddN kX11_isP rfl (by omega) ?_
                refine fz_putI kX11_isP rfl rfl rfl ?_
                refine fz_nmu (S := [(53, 24), (53, 25), (53, 26), (73, 99999)]) (h0 := h) (fz_Iv_up hI27 (by decide) (show (0 : Int) ≤ (v78 + 1) by omega) (show ((v78 + 1) : Int) ≤ 120 by omega)) (fz_fr_up hf28 rfl) (fun H81 hI82 hf83 e84 => ?_)
                have k85 : H81 53 25 = 6 := by rw [e84]; exact (fz_up_s (by decide)).trans hv33
                have k86 : H81 53 24 = (v78 + 1) := by rw [e84]; exact fz_up_e
                have t87 : H81 53 26 = H26 53 26 := by rw [e84]; exact fz_up_s (by decide)
                have hPa88 : fz_Pa h H81 := fz_Pa_eq (by rw [e84]; exact fz_up_ne (by decide)) (by rw [e84]; exact fz_up_s (by decide)) hPa25
                refine fz_aload_n kX11_isP rfl rfl ?_
                have k89 := hPa88
                have b91 : 0 ≤ H81 53 25 ∧ H81 53 25 ≤ 6 := hI82.1 53 _
                have b92 : 0 ≤ H81 53 24 ∧ H81 53 24 ≤ 120 := hI82.1 53 _
                have b93 : 0 ≤ H81 53 26 ∧ H81 53 26 ≤ 200 := hI82.1 53 _
                have e94 : H81 53 16 = h 53 16 := hf83 53 16 rfl
                refine fz_callV (d' := 2) (M' := mX11_isO) (As := []) (st := []) kX11_isP rfl rfl vX11_isO rfl rfl rfl rfl (Nat.le_of_ble_eq_true rfl) (Nat.le_of_ble_eq_true rfl) (by decide) (sX11_isO_6 H81 hI82  (by omega) (by omega) (by omega)) (fun H95 r96 q97 o98 => ?_)
                obtain ⟨hI99, hf100, y109, rfl, p110, f101, f102, f103, f104, f105, f106, f107, f108⟩ := q97
                clear o98
                have hf111 := fz_fr_tr hf83 hf100 (show fz_su [(53, 24), (53, 25), (53, 26), (73, 99999)] [(53, 24), (53, 25), (53, 26), (73, 99999)] = true from rfl)
                refine fz_if_ne (tgt := 78) kX11_isP rfl (by decide) (fun c112 => ?_) (fun c112 => ?_)
                · have k113 := f107 (by omega)
                  refine fz_aload_n kX11_isP rfl rfl ?_
                  refine fz_iload_n kX11_isP rfl rfl ?_
                  have b115 : 0 ≤ H95 53 26 ∧ H95 53 26 ≤ 200 := hI99.1 53 _
                  refine fz_callV (d' := 0) (M' := mX11_codes) (As := [fz_i 15]) (st := []) kX11_isP rfl rfl vX11_codes rfl rfl rfl rfl (Nat.le_of_ble_eq_true rfl) (Nat.le_of_ble_eq_true rfl) (by decide) (sX11_codes H95 hI99 15 (by omega)) (fun H116 r117 q118 o119 => ?_)
                  obtain ⟨hI120, hf121, y125, rfl, p126, f122, f123, f124⟩ := q118
                  clear o119
                  have hf127 := fz_fr_tr hf111 hf121 (show fz_su [(53, 26), (73, 99999)] [(53, 24), (53, 25), (53, 26), (73, 99999)] = true from rfl)
                  have k128 : H116 53 25 = 6 := (hf121 53 25 rfl).trans f101
                  have t129 : H116 53 24 = H95 53 24 := hf121 53 24 rfl
                  refine fz_eqi (show y125 = 1 by omega) ?_
                  have hPa130 : fz_Pa h H116 := fz_Pa_b k89 k113 f124 (by omega)
                  refine fz_pop rfl kX11_isP rfl ?_
                  refine fz_goto (tgt := 9) kX11_isP rfl (by decide) ?_
                  refine fz_sub (fz_pk_sub (ls' := [(0, fz_r 53)]) [1] rfl) ?_
                  exact ih31  H116 hI120 hf127 hPa130 (by omega) (by omega) (by omega) (by omega) (by omega) (fl_sL_st hv38 (by decide) ⟨by omega, by omega, by omega, by omega⟩ (by unfold fl_oP; omega) (by omega) (by omega) (by rw [e84]; exact fz_up_s (by decide)) (by rw [e84]; exact fz_up_ne (by decide)) f108 (congrArg (fun g => fl_pO g 0) (fl_gM_e (funext fun s => hf83 65 s rfl) (hf83 53 16 rfl))) (by omega) f124 (by omega) (by omega)) (by omega)
                · refine fz_iconst ⟨by decide, by decide⟩ kX11_isP rfl ?_
                  exact fz_zret kX11_isP rfl rfl (by omega) ⟨hI99, hf111, _, rfl, (by omega), (by omega), (by omega), (by omega), (by omega), (by omega), (by omega), (by first | (intro z; exfalso; omega) | (intro _; exact lost)), (by first | exact fl_sL_n0 f18 rfl (by omega) | exact fl_sL_x hv38 (by unfold fl_oP; omega) rfl rfl rfl | exact fl_sL_no (l := 15) hv38 (by decide) ⟨by omega, by omega⟩ (by unfold fl_oP; omega) (by omega) (by omega) (by rw [e84]; exact fz_up_s (by decide)) (by rw [e84]; exact fz_up_ne (by decide)) f108 (congrArg (fun g => fl_pO g 0) (fl_gM_e (funext fun s => hf83 65 s rfl) (hf83 53 16 rfl))) (by omega))⟩
              · exfalso; omega
          · refine fz_bipush ⟨by decide, by decide⟩ kX11_isP rfl ?_
            refine fz_goto (tgt := 52) kX11_isP rfl (by decide) ?_
            refine fz_istore_n (ls' := [(1, fz_i 14), (0, fz_r 53)]) kX11_isP rfl (by decide) rfl ?_
            refine fz_iload_n kX11_isP rfl rfl ?_
            refine fz_if_ge (tgt := 59) kX11_isP rfl (by decide) (fun c135 => ?_) (fun c135 => ?_)
            · refine fz_aload_n kX11_isP rfl rfl ?_
              refine fz_dup rfl kX11_isP rfl ?_
              obtain ⟨v136, e137⟩ : ∃ z, H26 53 (24) = z := ⟨_, rfl⟩
              refine fz_getV (v := v136) kX11_isP rfl rfl e137 ?_
              have b138 : 0 ≤ v136 ∧ v136 ≤ 120 := by rw [← e137]; exact hI27.1 53 _
              refine fz_iconst ⟨by decide, by decide⟩ kX11_isP rfl ?_
              refine fz_iaddN kX11_isP rfl (by omega) ?_
              refine fz_putI kX11_isP rfl rfl rfl ?_
              refine fz_nmu (S := [(53, 24), (53, 25), (53, 26), (73, 99999)]) (h0 := h) (fz_Iv_up hI27 (by decide) (show (0 : Int) ≤ (v136 + 1) by omega) (show ((v136 + 1) : Int) ≤ 120 by omega)) (fz_fr_up hf28 rfl) (fun H139 hI140 hf141 e142 => ?_)
              have k143 : H139 53 25 = 6 := by rw [e142]; exact (fz_up_s (by decide)).trans hv33
              have k144 : H139 53 24 = (v136 + 1) := by rw [e142]; exact fz_up_e
              have t145 : H139 53 26 = H26 53 26 := by rw [e142]; exact fz_up_s (by decide)
              have hPa146 : fz_Pa h H139 := fz_Pa_eq (by rw [e142]; exact fz_up_ne (by decide)) (by rw [e142]; exact fz_up_s (by decide)) hPa25
              refine fz_aload_n kX11_isP rfl rfl ?_
              have k147 := hPa146
              have b149 : 0 ≤ H139 53 25 ∧ H139 53 25 ≤ 6 := hI140.1 53 _
              have b150 : 0 ≤ H139 53 24 ∧ H139 53 24 ≤ 120 := hI140.1 53 _
              have b151 : 0 ≤ H139 53 26 ∧ H139 53 26 ≤ 200 := hI140.1 53 _
              have e152 : H139 53 16 = h 53 16 := hf141 53 16 rfl
              refine fz_callV (d' := 2) (M' := mX11_isO) (As := []) (st := []) kX11_isP rfl rfl vX11_isO rfl rfl rfl rfl (Nat.le_of_ble_eq_true rfl) (Nat.le_of_ble_eq_true rfl) (by decide) (sX11_isO_6 H139 hI140  (by omega) (by omega) (by omega)) (fun H153 r154 q155 o156 => ?_)
              obtain ⟨hI157, hf158, y167, rfl, p168, f159, f160, f161, f162, f163, f164, f165, f166⟩ := q155
              clear o156
              have hf169 := fz_fr_tr hf141 hf158 (show fz_su [(53, 24), (53, 25), (53, 26), (73, 99999)] [(53, 24), (53, 25), (53, 26), (73, 99999)] = true from rfl)
              refine fz_if_ne (tgt := 78) kX11_isP rfl (by decide) (fun c170 => ?_) (fun c170 => ?_)
              · have k171 := f165 (by omega)
                refine fz_aload_n kX11_isP rfl rfl ?_
                refine fz_iload_n kX11_isP rfl rfl ?_
                have b173 : 0 ≤ H153 53 26 ∧ H153 53 26 ≤ 200 := hI157.1 53 _
                refine fz_callV (d' := 0) (M' := mX11_codes) (As := [fz_i 14]) (st := []) kX11_isP rfl rfl vX11_codes rfl rfl rfl rfl (Nat.le_of_ble_eq_true rfl) (Nat.le_of_ble_eq_true rfl) (by decide) (sX11_codes H153 hI157 14 (by omega)) (fun H174 r175 q176 o177 => ?_)
                obtain ⟨hI178, hf179, y183, rfl, p184, f180, f181, f182⟩ := q176
                clear o177
                have hf185 := fz_fr_tr hf169 hf179 (show fz_su [(53, 26), (73, 99999)] [(53, 24), (53, 25), (53, 26), (73, 99999)] = true from rfl)
                have k186 : H174 53 25 = 6 := (hf179 53 25 rfl).trans f159
                have t187 : H174 53 24 = H153 53 24 := hf179 53 24 rfl
                refine fz_eqi (show y183 = 1 by omega) ?_
                have hPa188 : fz_Pa h H174 := fz_Pa_b k147 k171 f182 (by omega)
                refine fz_pop rfl kX11_isP rfl ?_
                refine fz_goto (tgt := 9) kX11_isP rfl (by decide) ?_
                refine fz_sub (fz_pk_sub (ls' := [(0, fz_r 53)]) [1] rfl) ?_
                exact ih31  H174 hI178 hf185 hPa188 (by omega) (by omega) (by omega) (by omega) (by omega) (fl_sL_st hv38 (by decide) ⟨by omega, by omega, by omega, by omega⟩ (by unfold fl_oP; omega) (by omega) (by omega) (by rw [e142]; exact fz_up_s (by decide)) (by rw [e142]; exact fz_up_ne (by decide)) f166 (congrArg (fun g => fl_pO g 0) (fl_gM_e (funext fun s => hf141 65 s rfl) (hf141 53 16 rfl))) (by omega) f182 (by omega) (by omega)) (by omega)
              · refine fz_iconst ⟨by decide, by decide⟩ kX11_isP rfl ?_
                exact fz_zret kX11_isP rfl rfl (by omega) ⟨hI157, hf169, _, rfl, (by omega), (by omega), (by omega), (by omega), (by omega), (by omega), (by omega), (by first | (intro z; exfalso; omega) | (intro _; exact lost)), (by first | exact fl_sL_n0 f18 rfl (by omega) | exact fl_sL_x hv38 (by unfold fl_oP; omega) rfl rfl rfl | exact fl_sL_no (l := 14) hv38 (by decide) ⟨by omega, by omega⟩ (by unfold fl_oP; omega) (by omega) (by omega) (by rw [e142]; exact fz_up_s (by decide)) (by rw [e142]; exact fz_up_ne (by decide)) f166 (congrArg (fun g => fl_pO g 0) (fl_gM_e (funext fun s => hf141 65 s rfl) (hf141 53 16 rfl))) (by omega))⟩
            · exfalso; omega
        · refine fz_bipush ⟨by decide, by decide⟩ kX11_isP rfl ?_
          refine fz_goto (tgt := 52) kX11_isP rfl (by decide) ?_
          refine fz_istore_n (ls' := [(1, fz_i 13), (0, fz_r 53)]) kX11_isP rfl (by decide) rfl ?_
          refine fz_iload_n kX11_isP rfl rfl ?_
          refine fz_if_ge (tgt := 59) kX11_isP rfl (by decide) (fun c193 => ?_) (fun c193 => ?_)
          · refine fz_aload_n kX11_isP rfl rfl ?_
            refine fz_dup rfl kX11_isP rfl ?_
            obtain ⟨v194, e195⟩ : ∃ z, H26 53 (24) = z := ⟨_, rfl⟩
            refine fz_getV (v := v194) kX11_isP rfl rfl e195 ?_
            have b196 : 0 ≤ v194 ∧ v194 ≤ 120 := by rw [← e195]; exact hI27.1 53 _
            refine fz_iconst ⟨by decide, by decide⟩ kX11_isP rfl ?_
            refine fz_iaddN kX11_isP rfl (by omega) ?_
            refine fz_putI kX11_isP rfl rfl rfl ?_
            refine fz_nmu (S := [(53, 24), (53, 25), (53, 26), (73, 99999)]) (h0 := h) (fz_Iv_up hI27 (by decide) (show (0 : Int) ≤ (v194 + 1) by omega) (show ((v194 + 1) : Int) ≤ 120 by omega)) (fz_fr_up hf28 rfl) (fun H197 hI198 hf199 e200 => ?_)
            have k201 : H197 53 25 = 6 := by rw [e200]; exact (fz_up_s (by decide)).trans hv33
            have k202 : H197 53 24 = (v194 + 1) := by rw [e200]; exact fz_up_e
            have t203 : H197 53 26 = H26 53 26 := by rw [e200]; exact fz_up_s (by decide)
            have hPa204 : fz_Pa h H197 := fz_Pa_eq (by rw [e200]; exact fz_up_ne (by decide)) (by rw [e200]; exact fz_up_s (by decide)) hPa25
            refine fz_aload_n kX11_isP rfl rfl ?_
            have k205 := hPa204
            have b207 : 0 ≤ H197 53 25 ∧ H197 53 25 ≤ 6 := hI198.1 53 _
            have b208 : 0 ≤ H197 53 24 ∧ H197 53 24 ≤ 120 := hI198.1 53 _
            have b209 : 0 ≤ H197 53 26 ∧ H197 53 26 ≤ 200 := hI198.1 53 _
            have e210 : H197 53 16 = h 53 16 := hf199 53 16 rfl
            refine fz_callV (d' := 2) (M' := mX11_isO) (As := []) (st := []) kX11_isP rfl rfl vX11_isO rfl rfl rfl rfl (Nat.le_of_ble_eq_true rfl) (Nat.le_of_ble_eq_true rfl) (by decide) (sX11_isO_6 H197 hI198  (by omega) (by omega) (by omega)) (fun H211 r212 q213 o214 => ?_)
            obtain ⟨hI215, hf216, y225, rfl, p226, f217, f218, f219, f220, f221, f222, f223, f224⟩ := q213
            clear o214
            have hf227 := fz_fr_tr hf199 hf216 (show fz_su [(53, 24), (53, 25), (53, 26), (73, 99999)] [(53, 24), (53, 25), (53, 26), (73, 99999)] = true from rfl)
            refine fz_if_ne (tgt := 78) kX11_isP rfl (by decide) (fun c228 => ?_) (fun c228 => ?_)
            · have k229 := f223 (by omega)
              refine fz_aload_n kX11_isP rfl rfl ?_
              refine fz_iload_n kX11_isP rfl rfl ?_
              have b231 : 0 ≤ H211 53 26 ∧ H211 53 26 ≤ 200 := hI215.1 53 _
              refine fz_callV (d' := 0) (M' := mX11_codes) (As := [fz_i 13]) (st := []) kX11_isP rfl rfl vX11_codes rfl rfl rfl rfl (Nat.le_of_ble_eq_true rfl) (Nat.le_of_ble_eq_true rfl) (by decide) (sX11_codes H211 hI215 13 (by omega)) (fun H232 r233 q234 o235 => ?_)
              obtain ⟨hI236, hf237, y241, rfl, p242, f238, f239, f240⟩ := q234
              clear o235
              have hf243 := fz_fr_tr hf227 hf237 (show fz_su [(53, 26), (73, 99999)] [(53, 24), (53, 25), (53, 26), (73, 99999)] = true from rfl)
              have k244 : H232 53 25 = 6 := (hf237 53 25 rfl).trans f217
              have t245 : H232 53 24 = H211 53 24 := hf237 53 24 rfl
              refine fz_eqi (show y241 = 1 by omega) ?_
              have hPa246 : fz_Pa h H232 := fz_Pa_b k205 k229 f240 (by omega)
              refine fz_pop rfl kX11_isP rfl ?_
              refine fz_goto (tgt := 9) kX11_isP rfl (by decide) ?_
              refine fz_sub (fz_pk_sub (ls' := [(0, fz_r 53)]) [1] rfl) ?_
              exact ih31  H232 hI236 hf243 hPa246 (by omega) (by omega) (by omega) (by omega) (by omega) (fl_sL_st hv38 (by decide) ⟨by omega, by omega, by omega, by omega⟩ (by unfold fl_oP; omega) (by omega) (by omega) (by rw [e200]; exact fz_up_s (by decide)) (by rw [e200]; exact fz_up_ne (by decide)) f224 (congrArg (fun g => fl_pO g 0) (fl_gM_e (funext fun s => hf199 65 s rfl) (hf199 53 16 rfl))) (by omega) f240 (by omega) (by omega)) (by omega)
            · refine fz_iconst ⟨by decide, by decide⟩ kX11_isP rfl ?_
              exact fz_zret kX11_isP rfl rfl (by omega) ⟨hI215, hf227, _, rfl, (by omega), (by omega), (by omega), (by omega), (by omega), (by omega), (by omega), (by first | (intro z; exfalso; omega) | (intro _; exact lost)), (by first | exact fl_sL_n0 f18 rfl (by omega) | exact fl_sL_x hv38 (by unfold fl_oP; omega) rfl rfl rfl | exact fl_sL_no (l := 13) hv38 (by decide) ⟨by omega, by omega⟩ (by unfold fl_oP; omega) (by omega) (by omega) (by rw [e200]; exact fz_up_s (by decide)) (by rw [e200]; exact fz_up_ne (by decide)) f224 (congrArg (fun g => fl_pO g 0) (fl_gM_e (funext fun s => hf199 65 s rfl) (hf199 53 16 rfl))) (by omega))⟩
          · exfalso; omega
    exact lp30 _  H5 hI9 hf21 hPa23 (by omega) (by omega) (by omega) (by omega) (by omega) (fl_sL_0 f18 rfl (by omega) (by omega)) (Nat.lt_succ_self _)
  · refine fz_iconst ⟨by decide, by decide⟩ kX11_isP rfl ?_
    exact fz_zret kX11_isP rfl rfl (by omega) ⟨hI9, hf21, _, rfl, (by omega), (by omega), (by omega), (by omega), (by omega), (by omega), (by omega), (by first | (intro z; exfalso; omega) | (intro _; exact lost)), (by first | exact fl_sL_n0 f18 rfl (by omega) | exact fl_sL_x lost (by unfold fl_oP; omega) rfl rfl rfl | exact fl_sL_no (l := {l1}) lost (by decide) ⟨by omega, by omega⟩ (by unfold fl_oP; omega) (by omega) (by omega) (by rw [lost]; exact fz_up_s (by decide)) (by rw [lost]; exact fz_up_ne (by decide)) lost (congrArg (fun g => fl_pO g 0) (fl_gM_e (funext fun s => lost 65 s rfl) (lost 53 16 rfl))) (by omega))⟩

abbrev qX11_isS_6 (h : fz_H) : fz_H → Option fz_V → Prop := fun h' r0 => fz_Iv h' ∧ fz_fr [(53, 24), (53, 25), (53, 26), (73, 99999)] h h' ∧ ∃ r : Int, r0 = some (fz_i r) ∧ (r = 0 ∨ r = 1) ∧ (h' 53 25 = 6) ∧ (h 53 24 ≤ h' 53 24) ∧ (h' 53 24 ≤ h 53 16) ∧ (h 53 26 ≤ h' 53 26) ∧ (h' 53 26 - h 53 26 ≤ h' 53 24 - h 53 24) ∧ (r = 1 → h 53 24 + 1 ≤ h' 53 24) ∧ (r = 1 → fz_Pa h h') ∧ (fl_rdM h h' (fl_eS (fl_gM h) (fl_pO (fl_gM h) 0) (h 53 24)) r)
set_option maxHeartbeats 1000000 in
set_option maxRecDepth 100000 in
theorem sX11_isS_6 (h : fz_H) (hI : fz_Iv h) (hp0 : h 53 25 = 6) (hp1 : h 53 24 ≤ h 53 16) (hp2 : h 53 26 ≤ h 53 24) : fz_R 4 mX11_isS 0 [(0, fz_r 53)] [] h (qX11_isS_6 h) := by
  have hf : fz_fr [(53, 24), (53, 25), (53, 26), (73, 99999)] h h := fz_fr_rf
  have b1 : 0 ≤ h 53 25 ∧ h 53 25 ≤ 6 := hI.1 53 _
  have b2 : 0 ≤ h 53 24 ∧ h 53 24 ≤ 120 := hI.1 53 _
  have b3 : 0 ≤ h 53 16 ∧ h 53 16 ≤ 120 := hI.1 53 _
  have b4 : 0 ≤ h 53 26 ∧ h 53 26 ≤ 200 := hI.1 53 _
  refine fz_aload_n kX11_isS rfl rfl ?_
  refine fz_callV (d' := 3) (M' := mX11_isP) (As := []) (st := []) kX11_isS rfl rfl vX11_isP rfl rfl rfl rfl (Nat.le_of_ble_eq_true rfl) (Nat.le_of_ble_eq_true rfl) (by decide) (sX11_isP_6 h hI  (by omega) (by omega) (by omega)) (fun H5 r6 q7 o8 => ?_)
  obtain ⟨hI9, hf10, y19, rfl, p20, f11, f12, f13, f14, f15, f16, f17, f18⟩ := q7
  clear o8
  have hf21 := fz_fr_tr hf hf10 (show fz_su [(53, 24), (53, 25), (53, 26), (73, 99999)] [(53, 24), (53, 25), (53, 26), (73, 99999)] = true from rfl)
  refine fz_if_ne (tgt := 9) kX11_isS rfl (by decide) (fun c22 => ?_) (fun c22 => ?_)
  · have hPa23 : fz_Pa h H5 := f17 (by omega)
    have lp30 : ∀ (n29 : Nat) (H26 : fz_H), fz_Iv H26 → fz_fr [(53, 24), (53, 25), (53, 26), (73, 99999)] h H26 → fz_Pa h H26 → (H26 53 25 = 6) → (h 53 24 + 1 ≤ H26 53 24) → (H26 53 24 ≤ h 53 16) → (h 53 26 ≤ H26 53 26) → (H26 53 26 - h 53 26 ≤ H26 53 24 - h 53 24) → (fl_sL h H26 (fl_eS (fl_gM h) (fl_pO (fl_gM h) 0) (h 53 24)) fl_oS (fl_eP (fl_gM h) (fl_pO (fl_gM h) 0)) (fl_gM h) 200) → (h 53 16 - H26 53 24).toNat < n29 → fz_R 4 mX11_isS 9 [(0, fz_r 53)] [] H26 (qX11_isS_6 h) := by
      intro n29
      induction n29 with
      | zero => intro H26 hI27 hf28 hPa25 hv33 hv34 hv35 hv36 hv37 hv38 hm32; exact absurd hm32 (by omega)
      | succ n29 ih31 =>
        intro H26 hI27 hf28 hPa25 hv33 hv34 hv35 hv36 hv37 hv38 hm32
        refine fz_aload_n kX11_isS rfl rfl ?_
        have k39 : fl_gM H26 (H26 53 24) = fl_gM h (H26 53 24) := fl_gMe2 (funext fun s => hf28 65 s rfl) (hf28 53 16 rfl)
        have b41 : 0 ≤ H26 53 24 ∧ H26 53 24 ≤ 120 := hI27.1 53 _
        have b42 : 0 ≤ h 53 16 ∧ h 53 16 ≤ 120 := hI.1 53 _
        have e43 : H26 53 16 = h 53 16 := hf28 53 16 rfl
        refine fz_callV (d' := 0) (M' := mX11_sign) (As := []) (st := []) kX11_isS rfl rfl vX11_sign rfl rfl rfl rfl (Nat.le_of_ble_eq_true rfl) (Nat.le_of_ble_eq_true rfl) (by decide) (sX11_sign H26 hI27  (by omega)) (fun H44 r45 q46 o47 => ?_)
        obtain ⟨e48, y52, rfl, f49, f50, f51⟩ := q46
        subst H44
        clear o47
        refine fz_bipush ⟨by decide, by decide⟩ kX11_isS rfl ?_
        refine fz_icmp_ne (tgt := 23) kX11_isS rfl (by decide) (fun c53 => ?_) (fun c53 => ?_)
        · refine fz_aload_n kX11_isS rfl rfl ?_
          refine fz_callV (d' := 0) (M' := mX11_sign) (As := []) (st := []) kX11_isS rfl rfl vX11_sign rfl rfl rfl rfl (Nat.le_of_ble_eq_true rfl) (Nat.le_of_ble_eq_true rfl) (by decide) (sX11_sign H26 hI27  (by omega)) (fun H54 r55 q56 o57 => ?_)
          obtain ⟨e58, y62, rfl, f59, f60, f61⟩ := q56
          subst H54
          clear o57
          refine fz_bipush ⟨by decide, by decide⟩ kX11_isS rfl ?_
          refine fz_icmp_ne (tgt := 37) kX11_isS rfl (by decide) (fun c63 => ?_) (fun c63 => ?_)
          · refine fz_iconst ⟨by decide, by decide⟩ kX11_isS rfl ?_
            refine fz_istore_n (ls' := [(1, fz_i (-1)), (0, fz_r 53)]) kX11_isS rfl (by decide) rfl ?_
            refine fz_iload_n kX11_isS rfl rfl ?_
            refine fz_if_ge (tgt := 45) kX11_isS rfl (by decide) (fun c64 => ?_) (fun c64 => ?_)
            · exfalso; omega
            · refine fz_iconst ⟨by decide, by decide⟩ kX11_isS rfl ?_
              exact fz_zret kX11_isS rfl rfl (by omega) ⟨hI27, hf28, _, rfl, (by omega), (by omega), (by omega), (by omega), (by omega), (by omega), (by omega), (by first | (intro z; exfalso; omega) | (intro _; exact hPa25)), (by first | exact fl_sL_n0 f18 rfl (by omega) | exact fl_sL_x hv38 (by unfold fl_oS; omega) rfl rfl rfl | exact fl_sL_no (l := (-1)) hv38 (by decide) ⟨by omega, by omega⟩ (by unfold fl_oS; omega) (by omega) (by omega) (by rw [lost]; exact fz_up_s (by decide)) (by rw [lost]; exact fz_up_ne (by decide)) lost (congrArg (fun g => fl_eP g (fl_pO g 0)) (fl_gM_e (funext fun s => lost 65 s rfl) (lost 53 16 rfl))) (by omega))⟩
          · refine fz_bipush ⟨by decide, by decide⟩ kX11_isS rfl ?_
            refine fz_goto (tgt := 38) kX11_isS rfl (by decide) ?_
            refine fz_istore_n (ls' := [(1, fz_i 12), (0, fz_r 53)]) kX11_isS rfl (by decide) rfl ?_
            refine fz_iload_n kX11_isS rfl rfl ?_
            refine fz_if_ge (tgt := 45) kX11_isS rfl (by decide) (fun c67 => ?_) (fun c67 => ?_)
            · refine fz_aload_n kX11_isS rfl rfl ?_
              refine fz_dup rfl kX11_isS rfl ?_
              obtain ⟨v68, e69⟩ : ∃ z, H26 53 (24) = z := ⟨_, rfl⟩
              refine fz_getV (v := v68) kX11_isS rfl rfl e69 ?_
              have b70 : 0 ≤ v68 ∧ v68 ≤ 120 := by rw [← e69]; exact hI27.1 53 _
              refine fz_iconst ⟨by decide, by decide⟩ kX11_isS rfl ?_
              refine fz_iaddN kX11_isS rfl (by omega) ?_
              refine fz_putI kX11_isS rfl rfl rfl ?_
              refine fz_nmu (S := [(53, 24), (53, 25), (53, 26), (73, 99999)]) (h0 := h) (fz_Iv_up hI27 (by decide) (show (0 : Int) ≤ (v68 + 1) by omega) (show ((v68 + 1) : Int) ≤ 120 by omega)) (fz_fr_up hf28 rfl) (fun H71 hI72 hf73 e74 => ?_)
              have k75 : H71 53 25 = 6 := by rw [e74]; exact (fz_up_s (by decide)).trans hv33
              have k76 : H71 53 24 = (v68 + 1) := by rw [e74]; exact fz_up_e
              have t77 : H71 53 26 = H26 53 26 := by rw [e74]; exact fz_up_s (by decide)
              have hPa78 : fz_Pa h H71 := fz_Pa_eq (by rw [e74]; exact fz_up_ne (by decide)) (by rw [e74]; exact fz_up_s (by decide)) hPa25
              refine fz_aload_n kX11_isS rfl rfl ?_
              have k79 := hPa78
              have b81 : 0 ≤ H71 53 25 ∧ H71 53 25 ≤ 6 := hI72.1 53 _
              have b82 : 0 ≤ H71 53 24 ∧ H71 53 24 ≤ 120 := hI72.1 53 _
              have b83 : 0 ≤ H71 53 26 ∧ H71 53 26 ≤ 200 := hI72.1 53 _
              have e84 : H71 53 16 = h 53 16 := hf73 53 16 rfl
              refine fz_callV (d' := 3) (M' := mX11_isP) (As := []) (st := []) kX11_isS rfl rfl vX11_isP rfl rfl rfl rfl (Nat.le_of_ble_eq_true rfl) (Nat.le_of_ble_eq_true rfl) (by decide) (sX11_isP_6 H71 hI72  (by omega) (by omega) (by omega)) (fun H85 r86 q87 o88 => ?_)
              obtain ⟨hI89, hf90, y99, rfl, p100, f91, f92, f93, f94, f95, f96, f97, f98⟩ := q87
              clear o88
              have hf101 := fz_fr_tr hf73 hf90 (show fz_su [(53, 24), (53, 25), (53, 26), (73, 99999)] [(53, 24), (53, 25), (53, 26), (73, 99999)] = true from rfl)
              refine fz_if_ne (tgt := 64) kX11_isS rfl (by decide) (fun c102 => ?_) (fun c102 => ?_)
              · have k103 := f97 (by omega)
                refine fz_aload_n kX11_isS rfl rfl ?_
                refine fz_iload_n kX11_isS rfl rfl ?_
                have b105 : 0 ≤ H85 53 26 ∧ H85 53 26 ≤ 200 := hI89.1 53 _
                refine fz_callV (d' := 0) (M' := mX11_codes) (As := [fz_i 12]) (st := []) kX11_isS rfl rfl vX11_codes rfl rfl rfl rfl (Nat.le_of_ble_eq_true rfl) (Nat.le_of_ble_eq_true rfl) (by decide) (sX11_codes H85 hI89 12 (by omega)) (fun H106 r107 q108 o109 => ?_)
                obtain ⟨hI110, hf111, y115, rfl, p116, f112, f113, f114⟩ := q108
                clear o109
                have hf117 := fz_fr_tr hf101 hf111 (show fz_su [(53, 26), (73, 99999)] [(53, 24), (53, 25), (53, 26), (73, 99999)] = true from rfl)
                have k118 : H106 53 25 = 6 := (hf111 53 25 rfl).trans f91
                have t119 : H106 53 24 = H85 53 24 := hf111 53 24 rfl
                refine fz_eqi (show y115 = 1 by omega) ?_
                have hPa120 : fz_Pa h H106 := fz_Pa_b k79 k103 f114 (by omega)
                refine fz_pop rfl kX11_isS rfl ?_
                refine fz_goto (tgt := 9) kX11_isS rfl (by decide) ?_
                refine fz_sub (fz_pk_sub (ls' := [(0, fz_r 53)]) [1] rfl) ?_
                exact ih31  H106 hI110 hf117 hPa120 (by omega) (by omega) (by omega) (by omega) (by omega) (fl_sL_st hv38 (by decide) ⟨by omega, by omega, by omega, by omega⟩ (by unfold fl_oS; omega) (by omega) (by omega) (by rw [e74]; exact fz_up_s (by decide)) (by rw [e74]; exact fz_up_ne (by decide)) f98 (congrArg (fun g => fl_eP g (fl_pO g 0)) (fl_gM_e (funext fun s => hf73 65 s rfl) (hf73 53 16 rfl))) (by omega) f114 (by omega) (by omega)) (by omega)
              · refine fz_iconst ⟨by decide, by decide⟩ kX11_isS rfl ?_
                exact fz_zret kX11_isS rfl rfl (by omega) ⟨hI89, hf101, _, rfl, (by omega), (by omega), (by omega), (by omega), (by omega), (by omega), (by omega), (by first | (intro z; exfalso; omega) | (intro _; exact lost)), (by first | exact fl_sL_n0 f18 rfl (by omega) | exact fl_sL_x hv38 (by unfold fl_oS; omega) rfl rfl rfl | exact fl_sL_no (l := 12) hv38 (by decide) ⟨by omega, by omega⟩ (by unfold fl_oS; omega) (by omega) (by omega) (by rw [e74]; exact fz_up_s (by decide)) (by rw [e74]; exact fz_up_ne (by decide)) f98 (congrArg (fun g => fl_eP g (fl_pO g 0)) (fl_gM_e (funext fun s => hf73 65 s rfl) (hf73 53 16 rfl))) (by omega))⟩
            · exfalso; omega
        · refine fz_bipush ⟨by decide, by decide⟩ kX11_isS rfl ?_
          refine fz_goto (tgt := 38) kX11_isS rfl (by decide) ?_
          refine fz_istore_n (ls' := [(1, fz_i 11), (0, fz_r 53)]) kX11_isS rfl (by decide) rfl ?_
          refine fz_iload_n kX11_isS rfl rfl ?_
          refine fz_if_ge (tgt := 45) kX11_isS rfl (by decide) (fun c125 => ?_) (fun c125 => ?_)
          · refine fz_aload_n kX11_isS rfl rfl ?_
            refine fz_dup rfl kX11_isS rfl ?_
            obtain ⟨v126, e127⟩ : ∃ z, H26 53 (24) = z := ⟨_, rfl⟩
            refine fz_getV (v := v126) kX11_isS rfl rfl e127 ?_
            have b128 : 0 ≤ v126 ∧ v126 ≤ 120 := by rw [← e127]; exact hI27.1 53 _
            refine fz_iconst ⟨by decide, by decide⟩ kX11_isS rfl ?_
            refine fz_iaddN kX11_isS rfl (by omega) ?_
            refine fz_putI kX11_isS rfl rfl rfl ?_
            refine fz_nmu (S := [(53, 24), (53, 25), (53, 26), (73, 99999)]) (h0 := h) (fz_Iv_up hI27 (by decide) (show (0 : Int) ≤ (v126 + 1) by omega) (show ((v126 + 1) : Int) ≤ 120 by omega)) (fz_fr_up hf28 rfl) (fun H129 hI130 hf131 e132 => ?_)
            have k133 : H129 53 25 = 6 := by rw [e132]; exact (fz_up_s (by decide)).trans hv33
            have k134 : H129 53 24 = (v126 + 1) := by rw [e132]; exact fz_up_e
            have t135 : H129 53 26 = H26 53 26 := by rw [e132]; exact fz_up_s (by decide)
            have hPa136 : fz_Pa h H129 := fz_Pa_eq (by rw [e132]; exact fz_up_ne (by decide)) (by rw [e132]; exact fz_up_s (by decide)) hPa25
            refine fz_aload_n kX11_isS rfl rfl ?_
            have k137 := hPa136
            have b139 : 0 ≤ H129 53 25 ∧ H129 53 25 ≤ 6 := hI130.1 53 _
            have b140 : 0 ≤ H129 53 24 ∧ H129 53 24 ≤ 120 := hI130.1 53 _
            have b141 : 0 ≤ H129 53 26 ∧ H129 53 26 ≤ 200 := hI130.1 53 _
            have e142 : H129 53 16 = h 53 16 := hf131 53 16 rfl
            refine fz_callV (d' := 3) (M' := mX11_isP) (As := []) (st := []) kX11_isS rfl rfl vX11_isP rfl rfl rfl rfl (Nat.le_of_ble_eq_true rfl) (Nat.le_of_ble_eq_true rfl) (by decide) (sX11_isP_6 H129 hI130  (by omega) (by omega) (by omega)) (fun H143 r144 q145 o146 => ?_)
            obtain ⟨hI147, hf148, y157, rfl, p158, f149, f150, f151, f152, f153, f154, f155, f156⟩ := q145
            clear o146
            have hf159 := fz_fr_tr hf131 hf148 (show fz_su [(53, 24), (53, 25), (53, 26), (73, 99999)] [(53, 24), (53, 25), (53, 26), (73, 99999)] = true from rfl)
            refine fz_if_ne (tgt := 64) kX11_isS rfl (by decide) (fun c160 => ?_) (fun c160 => ?_)
            · have k161 := f155 (by omega)
              refine fz_aload_n kX11_isS rfl rfl ?_
              refine fz_iload_n kX11_isS rfl rfl ?_
              have b163 : 0 ≤ H143 53 26 ∧ H143 53 26 ≤ 200 := hI147.1 53 _
              refine fz_callV (d' := 0) (M' := mX11_codes) (As := [fz_i 11]) (st := []) kX11_isS rfl rfl vX11_codes rfl rfl rfl rfl (Nat.le_of_ble_eq_true rfl) (Nat.le_of_ble_eq_true rfl) (by decide) (sX11_codes H143 hI147 11 (by omega)) (fun H164 r165 q166 o167 => ?_)
              obtain ⟨hI168, hf169, y173, rfl, p174, f170, f171, f172⟩ := q166
              clear o167
              have hf175 := fz_fr_tr hf159 hf169 (show fz_su [(53, 26), (73, 99999)] [(53, 24), (53, 25), (53, 26), (73, 99999)] = true from rfl)
              have k176 : H164 53 25 = 6 := (hf169 53 25 rfl).trans f149
              have t177 : H164 53 24 = H143 53 24 := hf169 53 24 rfl
              refine fz_eqi (show y173 = 1 by omega) ?_
              have hPa178 : fz_Pa h H164 := fz_Pa_b k137 k161 f172 (by omega)
              refine fz_pop rfl kX11_isS rfl ?_
              refine fz_goto (tgt := 9) kX11_isS rfl (by decide) ?_
              refine fz_sub (fz_pk_sub (ls' := [(0, fz_r 53)]) [1] rfl) ?_
              exact ih31  H164 hI168 hf175 hPa178 (by omega) (by omega) (by omega) (by omega) (by omega) (fl_sL_st hv38 (by decide) ⟨by omega, by omega, by omega, by omega⟩ (by unfold fl_oS; omega) (by omega) (by omega) (by rw [e132]; exact fz_up_s (by decide)) (by rw [e132]; exact fz_up_ne (by decide)) f156 (congrArg (fun g => fl_eP g (fl_pO g 0)) (fl_gM_e (funext fun s => hf131 65 s rfl) (hf131 53 16 rfl))) (by omega) f172 (by omega) (by omega)) (by omega)
            · refine fz_iconst ⟨by decide, by decide⟩ kX11_isS rfl ?_
              exact fz_zret kX11_isS rfl rfl (by omega) ⟨hI147, hf159, _, rfl, (by omega), (by omega), (by omega), (by omega), (by omega), (by omega), (by omega), (by first | (intro z; exfalso; omega) | (intro _; exact lost)), (by first | exact fl_sL_n0 f18 rfl (by omega) | exact fl_sL_x hv38 (by unfold fl_oS; omega) rfl rfl rfl | exact fl_sL_no (l := 11) hv38 (by decide) ⟨by omega, by omega⟩ (by unfold fl_oS; omega) (by omega) (by omega) (by rw [e132]; exact fz_up_s (by decide)) (by rw [e132]; exact fz_up_ne (by decide)) f156 (congrArg (fun g => fl_eP g (fl_pO g 0)) (fl_gM_e (funext fun s => hf131 65 s rfl) (hf131 53 16 rfl))) (by omega))⟩
          · exfalso; omega
    exact lp30 _  H5 hI9 hf21 hPa23 (by omega) (by omega) (by omega) (by omega) (by omega) (fl_sL_0 f18 rfl (by omega) (by omega)) (Nat.lt_succ_self _)
  · refine fz_iconst ⟨by decide, by decide⟩ kX11_isS rfl ?_
    exact fz_zret kX11_isS rfl rfl (by omega) ⟨hI9, hf21, _, rfl, (by omega), (by omega), (by omega), (by omega), (by omega), (by omega), (by omega), (by first | (intro z; exfalso; omega) | (intro _; exact lost)), (by first | exact fl_sL_n0 f18 rfl (by omega) | exact fl_sL_x lost (by unfold fl_oS; omega) rfl rfl rfl | exact fl_sL_no (l := {l1}) lost (by decide) ⟨by omega, by omega⟩ (by unfold fl_oS; omega) (by omega) (by omega) (by rw [lost]; exact fz_up_s (by decide)) (by rw [lost]; exact fz_up_ne (by decide)) lost (congrArg (fun g => fl_eP g (fl_pO g 0)) (fl_gM_e (funext fun s => lost 65 s rfl) (lost 53 16 rfl))) (by omega))⟩

abbrev qX11_isB_6 (h : fz_H) : fz_H → Option fz_V → Prop := fun h' r0 => fz_Iv h' ∧ fz_fr [(53, 24), (53, 25), (53, 26), (73, 99999)] h h' ∧ ∃ r : Int, r0 = some (fz_i r) ∧ (r = 0 ∨ r = 1) ∧ (h' 53 25 = 6) ∧ (h 53 24 ≤ h' 53 24) ∧ (h' 53 24 ≤ h 53 16) ∧ (h 53 26 ≤ h' 53 26) ∧ (h' 53 26 - h 53 26 ≤ h' 53 24 - h 53 24) ∧ (r = 1 → h 53 24 + 1 ≤ h' 53 24) ∧ (r = 1 → fz_Pa h h') ∧ (fl_rdM h h' (fl_eB (fl_gM h) (fl_pO (fl_gM h) 0) (h 53 24)) r)
set_option maxHeartbeats 1000000 in
set_option maxRecDepth 100000 in
theorem sX11_isB_6 (h : fz_H) (hI : fz_Iv h) (hp0 : h 53 25 = 6) (hp1 : h 53 24 ≤ h 53 16) (hp2 : h 53 26 ≤ h 53 24) : fz_R 5 mX11_isB 0 [(0, fz_r 53)] [] h (qX11_isB_6 h) := by
  have hf : fz_fr [(53, 24), (53, 25), (53, 26), (73, 99999)] h h := fz_fr_rf
  have b1 : 0 ≤ h 53 25 ∧ h 53 25 ≤ 6 := hI.1 53 _
  have b2 : 0 ≤ h 53 24 ∧ h 53 24 ≤ 120 := hI.1 53 _
  have b3 : 0 ≤ h 53 16 ∧ h 53 16 ≤ 120 := hI.1 53 _
  have b4 : 0 ≤ h 53 26 ∧ h 53 26 ≤ 200 := hI.1 53 _
  refine fz_aload_n kX11_isB rfl rfl ?_
  refine fz_callV (d' := 4) (M' := mX11_isS) (As := []) (st := []) kX11_isB rfl rfl vX11_isS rfl rfl rfl rfl (Nat.le_of_ble_eq_true rfl) (Nat.le_of_ble_eq_true rfl) (by decide) (sX11_isS_6 h hI  (by omega) (by omega) (by omega)) (fun H5 r6 q7 o8 => ?_)
  obtain ⟨hI9, hf10, y19, rfl, p20, f11, f12, f13, f14, f15, f16, f17, f18⟩ := q7
  clear o8
  have hf21 := fz_fr_tr hf hf10 (show fz_su [(53, 24), (53, 25), (53, 26), (73, 99999)] [(53, 24), (53, 25), (53, 26), (73, 99999)] = true from rfl)
  refine fz_if_ne (tgt := 9) kX11_isB rfl (by decide) (fun c22 => ?_) (fun c22 => ?_)
  · have k23 : fl_gM H5 (H5 53 24) = fl_gM h (H5 53 24) := fl_gMe2 (funext fun s => hf21 65 s rfl) (hf21 53 16 rfl)
    have hPa25 : fz_Pa h H5 := f17 (by omega)
    refine fz_aload_n kX11_isB rfl rfl ?_
    have b27 : 0 ≤ H5 53 24 ∧ H5 53 24 ≤ 120 := hI9.1 53 _
    have e28 : H5 53 16 = h 53 16 := hf21 53 16 rfl
    refine fz_callV (d' := 0) (M' := mX11_sign) (As := []) (st := []) kX11_isB rfl rfl vX11_sign rfl rfl rfl rfl (Nat.le_of_ble_eq_true rfl) (Nat.le_of_ble_eq_true rfl) (by decide) (sX11_sign H5 hI9  (by omega)) (fun H29 r30 q31 o32 => ?_)
    obtain ⟨e33, y37, rfl, f34, f35, f36⟩ := q31
    subst H29
    clear o32
    refine fz_bipush ⟨by decide, by decide⟩ kX11_isB rfl ?_
    refine fz_icmp_ne (tgt := 23) kX11_isB rfl (by decide) (fun c38 => ?_) (fun c38 => ?_)
    · refine fz_aload_n kX11_isB rfl rfl ?_
      refine fz_callV (d' := 0) (M' := mX11_sign) (As := []) (st := []) kX11_isB rfl rfl vX11_sign rfl rfl rfl rfl (Nat.le_of_ble_eq_true rfl) (Nat.le_of_ble_eq_true rfl) (by decide) (sX11_sign H5 hI9  (by omega)) (fun H39 r40 q41 o42 => ?_)
      obtain ⟨e43, y47, rfl, f44, f45, f46⟩ := q41
      subst H39
      clear o42
      refine fz_bipush ⟨by decide, by decide⟩ kX11_isB rfl ?_
      refine fz_icmp_ne (tgt := 37) kX11_isB rfl (by decide) (fun c48 => ?_) (fun c48 => ?_)
      · refine fz_aload_n kX11_isB rfl rfl ?_
        refine fz_callV (d' := 0) (M' := mX11_sign) (As := []) (st := []) kX11_isB rfl rfl vX11_sign rfl rfl rfl rfl (Nat.le_of_ble_eq_true rfl) (Nat.le_of_ble_eq_true rfl) (by decide) (sX11_sign H5 hI9  (by omega)) (fun H49 r50 q51 o52 => ?_)
        obtain ⟨e53, y57, rfl, f54, f55, f56⟩ := q51
        subst H49
        clear o52
        refine fz_bipush ⟨by decide, by decide⟩ kX11_isB rfl ?_
        refine fz_icmp_ne (tgt := 51) kX11_isB rfl (by decide) (fun c58 => ?_) (fun c58 => ?_)
        · refine fz_iconst ⟨by decide, by decide⟩ kX11_isB rfl ?_
          refine fz_istore_n (ls' := [(1, fz_i (-1)), (0, fz_r 53)]) kX11_isB rfl (by decide) rfl ?_
          refine fz_iload_n kX11_isB rfl rfl ?_
          refine fz_if_ge (tgt := 59) kX11_isB rfl (by decide) (fun c59 => ?_) (fun c59 => ?_)
          · exfalso; omega
          · refine fz_iconst ⟨by decide, by decide⟩ kX11_isB rfl ?_
            exact fz_zret kX11_isB rfl rfl (by omega) ⟨hI9, hf21, _, rfl, (by omega), (by omega), (by omega), (by omega), (by omega), (by omega), (by omega), (by first | (intro z; exfalso; omega) | (intro _; exact hPa25)), (by first | exact fl_sL_n0 f18 rfl (by omega) | exact fl_sL_x (fl_sL_0 (op := fl_oB) (K := 1) f18 rfl (by omega) (by omega)) (by unfold fl_oB; omega) rfl rfl rfl | exact fl_sB_1 f18 rfl (by omega) ⟨by omega, by omega⟩ (by unfold fl_oB; omega) (by omega) (by omega) (by rw [lost]; exact fz_up_s (by decide)) (by rw [lost]; exact fz_up_ne (by decide)) lost (congrArg (fun g => fl_eS g (fl_pO g 0)) (fl_gM_e (funext fun s => lost 65 s rfl) (lost 53 16 rfl))) (by omega) lost (by omega) | exact fl_sB_0 (l := (-1)) f18 rfl (by omega) (by unfold fl_oB; omega) (by omega) (by omega) (by rw [lost]; exact fz_up_s (by decide)) (by rw [lost]; exact fz_up_ne (by decide)) lost (congrArg (fun g => fl_eS g (fl_pO g 0)) (fl_gM_e (funext fun s => lost 65 s rfl) (lost 53 16 rfl))) (by omega))⟩
        · refine fz_bipush ⟨by decide, by decide⟩ kX11_isB rfl ?_
          refine fz_goto (tgt := 52) kX11_isB rfl (by decide) ?_
          refine fz_istore_n (ls' := [(1, fz_i 10), (0, fz_r 53)]) kX11_isB rfl (by decide) rfl ?_
          refine fz_iload_n kX11_isB rfl rfl ?_
          refine fz_if_ge (tgt := 59) kX11_isB rfl (by decide) (fun c62 => ?_) (fun c62 => ?_)
          · refine fz_aload_n kX11_isB rfl rfl ?_
            refine fz_dup rfl kX11_isB rfl ?_
            obtain ⟨v63, e64⟩ : ∃ z, H5 53 (24) = z := ⟨_, rfl⟩
            refine fz_getV (v := v63) kX11_isB rfl rfl e64 ?_
            have b65 : 0 ≤ v63 ∧ v63 ≤ 120 := by rw [← e64]; exact hI9.1 53 _
            refine fz_iconst ⟨by decide, by decide⟩ kX11_isB rfl ?_
            refine fz_iaddN kX11_isB rfl (by omega) ?_
            refine fz_putI kX11_isB rfl rfl rfl ?_
            refine fz_nmu (S := [(53, 24), (53, 25), (53, 26), (73, 99999)]) (h0 := h) (fz_Iv_up hI9 (by decide) (show (0 : Int) ≤ (v63 + 1) by omega) (show ((v63 + 1) : Int) ≤ 120 by omega)) (fz_fr_up hf21 rfl) (fun H66 hI67 hf68 e69 => ?_)
            have k70 : H66 53 25 = 6 := by rw [e69]; exact (fz_up_s (by decide)).trans f11
            have k71 : H66 53 24 = (v63 + 1) := by rw [e69]; exact fz_up_e
            have t72 : H66 53 26 = H5 53 26 := by rw [e69]; exact fz_up_s (by decide)
            have hPa73 : fz_Pa h H66 := fz_Pa_eq (by rw [e69]; exact fz_up_ne (by decide)) (by rw [e69]; exact fz_up_s (by decide)) hPa25
            refine fz_aload_n kX11_isB rfl rfl ?_
            have k74 := hPa73
            have b76 : 0 ≤ H66 53 25 ∧ H66 53 25 ≤ 6 := hI67.1 53 _
            have b77 : 0 ≤ H66 53 24 ∧ H66 53 24 ≤ 120 := hI67.1 53 _
            have b78 : 0 ≤ H66 53 26 ∧ H66 53 26 ≤ 200 := hI67.1 53 _
            have e79 : H66 53 16 = h 53 16 := hf68 53 16 rfl
            refine fz_callV (d' := 4) (M' := mX11_isS) (As := []) (st := []) kX11_isB rfl rfl vX11_isS rfl rfl rfl rfl (Nat.le_of_ble_eq_true rfl) (Nat.le_of_ble_eq_true rfl) (by decide) (sX11_isS_6 H66 hI67  (by omega) (by omega) (by omega)) (fun H80 r81 q82 o83 => ?_)
            obtain ⟨hI84, hf85, y94, rfl, p95, f86, f87, f88, f89, f90, f91, f92, f93⟩ := q82
            clear o83
            have hf96 := fz_fr_tr hf68 hf85 (show fz_su [(53, 24), (53, 25), (53, 26), (73, 99999)] [(53, 24), (53, 25), (53, 26), (73, 99999)] = true from rfl)
            refine fz_if_eq (tgt := 88) kX11_isB rfl (by decide) (fun c97 => ?_) (fun c97 => ?_)
            · refine fz_iconst ⟨by decide, by decide⟩ kX11_isB rfl ?_
              exact fz_zret kX11_isB rfl rfl (by omega) ⟨hI84, hf96, _, rfl, (by omega), (by omega), (by omega), (by omega), (by omega), (by omega), (by omega), (by first | (intro z; exfalso; omega) | (intro _; exact lost)), (by first | exact fl_sL_n0 f18 rfl (by omega) | exact fl_sL_x (fl_sL_0 (op := fl_oB) (K := 1) f18 rfl (by omega) (by omega)) (by unfold fl_oB; omega) rfl rfl rfl | exact fl_sB_1 f18 rfl (by omega) ⟨by omega, by omega⟩ (by unfold fl_oB; omega) (by omega) (by omega) (by rw [e69]; exact fz_up_s (by decide)) (by rw [e69]; exact fz_up_ne (by decide)) f93 (congrArg (fun g => fl_eS g (fl_pO g 0)) (fl_gM_e (funext fun s => hf68 65 s rfl) (hf68 53 16 rfl))) (by omega) lost (by omega) | exact fl_sB_0 (l := 10) f18 rfl (by omega) (by unfold fl_oB; omega) (by omega) (by omega) (by rw [e69]; exact fz_up_s (by decide)) (by rw [e69]; exact fz_up_ne (by decide)) f93 (congrArg (fun g => fl_eS g (fl_pO g 0)) (fl_gM_e (funext fun s => hf68 65 s rfl) (hf68 53 16 rfl))) (by omega))⟩
            · have k100 := f92 (by omega)
              refine fz_aload_n kX11_isB rfl rfl ?_
              refine fz_iload_n kX11_isB rfl rfl ?_
              have b102 : 0 ≤ H80 53 26 ∧ H80 53 26 ≤ 200 := hI84.1 53 _
              refine fz_callV (d' := 0) (M' := mX11_codes) (As := [fz_i 10]) (st := []) kX11_isB rfl rfl vX11_codes rfl rfl rfl rfl (Nat.le_of_ble_eq_true rfl) (Nat.le_of_ble_eq_true rfl) (by decide) (sX11_codes H80 hI84 10 (by omega)) (fun H103 r104 q105 o106 => ?_)
              obtain ⟨hI107, hf108, y112, rfl, p113, f109, f110, f111⟩ := q105
              clear o106
              have hf114 := fz_fr_tr hf96 hf108 (show fz_su [(53, 26), (73, 99999)] [(53, 24), (53, 25), (53, 26), (73, 99999)] = true from rfl)
              have k115 : H103 53 25 = 6 := (hf108 53 25 rfl).trans f86
              have t116 : H103 53 24 = H80 53 24 := hf108 53 24 rfl
              refine fz_eqi (show y112 = 1 by omega) ?_
              have hPa117 : fz_Pa h H103 := fz_Pa_b k74 k100 f111 (by omega)
              refine fz_if_eq (tgt := 88) kX11_isB rfl (by decide) (fun c119 => ?_) (fun c119 => ?_)
              · exfalso; omega
              · refine fz_iconst ⟨by decide, by decide⟩ kX11_isB rfl ?_
                refine fz_goto (tgt := 89) kX11_isB rfl (by decide) ?_
                exact fz_zret kX11_isB rfl rfl (by omega) ⟨hI107, hf114, _, rfl, (by omega), (by omega), (by omega), (by omega), (by omega), (by omega), (by omega), (by first | (intro z; exfalso; omega) | (intro _; exact hPa117)), (by first | exact fl_sL_n0 f18 rfl (by omega) | exact fl_sL_x (fl_sL_0 (op := fl_oB) (K := 1) f18 rfl (by omega) (by omega)) (by unfold fl_oB; omega) rfl rfl rfl | exact fl_sB_1 f18 rfl (by omega) ⟨by omega, by omega⟩ (by unfold fl_oB; omega) (by omega) (by omega) (by rw [e69]; exact fz_up_s (by decide)) (by rw [e69]; exact fz_up_ne (by decide)) f93 (congrArg (fun g => fl_eS g (fl_pO g 0)) (fl_gM_e (funext fun s => hf68 65 s rfl) (hf68 53 16 rfl))) (by omega) f111 (by omega) | exact fl_sB_0 (l := 10) f18 rfl (by omega) (by unfold fl_oB; omega) (by omega) (by omega) (by rw [e69]; exact fz_up_s (by decide)) (by rw [e69]; exact fz_up_ne (by decide)) f93 (congrArg (fun g => fl_eS g (fl_pO g 0)) (fl_gM_e (funext fun s => hf68 65 s rfl) (hf68 53 16 rfl))) (by omega))⟩
          · exfalso; omega
      · refine fz_bipush ⟨by decide, by decide⟩ kX11_isB rfl ?_
        refine fz_goto (tgt := 52) kX11_isB rfl (by decide) ?_
        refine fz_istore_n (ls' := [(1, fz_i 9), (0, fz_r 53)]) kX11_isB rfl (by decide) rfl ?_
        refine fz_iload_n kX11_isB rfl rfl ?_
        refine fz_if_ge (tgt := 59) kX11_isB rfl (by decide) (fun c122 => ?_) (fun c122 => ?_)
        · refine fz_aload_n kX11_isB rfl rfl ?_
          refine fz_dup rfl kX11_isB rfl ?_
          obtain ⟨v123, e124⟩ : ∃ z, H5 53 (24) = z := ⟨_, rfl⟩
          refine fz_getV (v := v123) kX11_isB rfl rfl e124 ?_
          have b125 : 0 ≤ v123 ∧ v123 ≤ 120 := by rw [← e124]; exact hI9.1 53 _
          refine fz_iconst ⟨by decide, by decide⟩ kX11_isB rfl ?_
          refine fz_iaddN kX11_isB rfl (by omega) ?_
          refine fz_putI kX11_isB rfl rfl rfl ?_
          refine fz_nmu (S := [(53, 24), (53, 25), (53, 26), (73, 99999)]) (h0 := h) (fz_Iv_up hI9 (by decide) (show (0 : Int) ≤ (v123 + 1) by omega) (show ((v123 + 1) : Int) ≤ 120 by omega)) (fz_fr_up hf21 rfl) (fun H126 hI127 hf128 e129 => ?_)
          have k130 : H126 53 25 = 6 := by rw [e129]; exact (fz_up_s (by decide)).trans f11
          have k131 : H126 53 24 = (v123 + 1) := by rw [e129]; exact fz_up_e
          have t132 : H126 53 26 = H5 53 26 := by rw [e129]; exact fz_up_s (by decide)
          have hPa133 : fz_Pa h H126 := fz_Pa_eq (by rw [e129]; exact fz_up_ne (by decide)) (by rw [e129]; exact fz_up_s (by decide)) hPa25
          refine fz_aload_n kX11_isB rfl rfl ?_
          have k134 := hPa133
          have b136 : 0 ≤ H126 53 25 ∧ H126 53 25 ≤ 6 := hI127.1 53 _
          have b137 : 0 ≤ H126 53 24 ∧ H126 53 24 ≤ 120 := hI127.1 53 _
          have b138 : 0 ≤ H126 53 26 ∧ H126 53 26 ≤ 200 := hI127.1 53 _
          have e139 : H126 53 16 = h 53 16 := hf128 53 16 rfl
          refine fz_callV (d' := 4) (M' := mX11_isS) (As := []) (st := []) kX11_isB rfl rfl vX11_isS rfl rfl rfl rfl (Nat.le_of_ble_eq_true rfl) (Nat.le_of_ble_eq_true rfl) (by decide) (sX11_isS_6 H126 hI127  (by omega) (by omega) (by omega)) (fun H140 r141 q142 o143 => ?_)
          obtain ⟨hI144, hf145, y154, rfl, p155, f146, f147, f148, f149, f150, f151, f152, f153⟩ := q142
          clear o143
          have hf156 := fz_fr_tr hf128 hf145 (show fz_su [(53, 24), (53, 25), (53, 26), (73, 99999)] [(53, 24), (53, 25), (53, 26), (73, 99999)] = true from rfl)
          refine fz_if_eq (tgt := 88) kX11_isB rfl (by decide) (fun c157 => ?_) (fun c157 => ?_)
          · refine fz_iconst ⟨by decide, by decide⟩ kX11_isB rfl ?_
            exact fz_zret kX11_isB rfl rfl (by omega) ⟨hI144, hf156, _, rfl, (by omega), (by omega), (by omega), (by omega), (by omega), (by omega), (by omega), (by first | (intro z; exfalso; omega) | (intro _; exact lost)), (by first | exact fl_sL_n0 f18 rfl (by omega) | exact fl_sL_x (fl_sL_0 (op := fl_oB) (K := 1) f18 rfl (by omega) (by omega)) (by unfold fl_oB; omega) rfl rfl rfl | exact fl_sB_1 f18 rfl (by omega) ⟨by omega, by omega⟩ (by unfold fl_oB; omega) (by omega) (by omega) (by rw [e129]; exact fz_up_s (by decide)) (by rw [e129]; exact fz_up_ne (by decide)) f153 (congrArg (fun g => fl_eS g (fl_pO g 0)) (fl_gM_e (funext fun s => hf128 65 s rfl) (hf128 53 16 rfl))) (by omega) lost (by omega) | exact fl_sB_0 (l := 9) f18 rfl (by omega) (by unfold fl_oB; omega) (by omega) (by omega) (by rw [e129]; exact fz_up_s (by decide)) (by rw [e129]; exact fz_up_ne (by decide)) f153 (congrArg (fun g => fl_eS g (fl_pO g 0)) (fl_gM_e (funext fun s => hf128 65 s rfl) (hf128 53 16 rfl))) (by omega))⟩
          · have k160 := f152 (by omega)
            refine fz_aload_n kX11_isB rfl rfl ?_
            refine fz_iload_n kX11_isB rfl rfl ?_
            have b162 : 0 ≤ H140 53 26 ∧ H140 53 26 ≤ 200 := hI144.1 53 _
            refine fz_callV (d' := 0) (M' := mX11_codes) (As := [fz_i 9]) (st := []) kX11_isB rfl rfl vX11_codes rfl rfl rfl rfl (Nat.le_of_ble_eq_true rfl) (Nat.le_of_ble_eq_true rfl) (by decide) (sX11_codes H140 hI144 9 (by omega)) (fun H163 r164 q165 o166 => ?_)
            obtain ⟨hI167, hf168, y172, rfl, p173, f169, f170, f171⟩ := q165
            clear o166
            have hf174 := fz_fr_tr hf156 hf168 (show fz_su [(53, 26), (73, 99999)] [(53, 24), (53, 25), (53, 26), (73, 99999)] = true from rfl)
            have k175 : H163 53 25 = 6 := (hf168 53 25 rfl).trans f146
            have t176 : H163 53 24 = H140 53 24 := hf168 53 24 rfl
            refine fz_eqi (show y172 = 1 by omega) ?_
            have hPa177 : fz_Pa h H163 := fz_Pa_b k134 k160 f171 (by omega)
            refine fz_if_eq (tgt := 88) kX11_isB rfl (by decide) (fun c179 => ?_) (fun c179 => ?_)
            · exfalso; omega
            · refine fz_iconst ⟨by decide, by decide⟩ kX11_isB rfl ?_
              refine fz_goto (tgt := 89) kX11_isB rfl (by decide) ?_
              exact fz_zret kX11_isB rfl rfl (by omega) ⟨hI167, hf174, _, rfl, (by omega), (by omega), (by omega), (by omega), (by omega), (by omega), (by omega), (by first | (intro z; exfalso; omega) | (intro _; exact hPa177)), (by first | exact fl_sL_n0 f18 rfl (by omega) | exact fl_sL_x (fl_sL_0 (op := fl_oB) (K := 1) f18 rfl (by omega) (by omega)) (by unfold fl_oB; omega) rfl rfl rfl | exact fl_sB_1 f18 rfl (by omega) ⟨by omega, by omega⟩ (by unfold fl_oB; omega) (by omega) (by omega) (by rw [e129]; exact fz_up_s (by decide)) (by rw [e129]; exact fz_up_ne (by decide)) f153 (congrArg (fun g => fl_eS g (fl_pO g 0)) (fl_gM_e (funext fun s => hf128 65 s rfl) (hf128 53 16 rfl))) (by omega) f171 (by omega) | exact fl_sB_0 (l := 9) f18 rfl (by omega) (by unfold fl_oB; omega) (by omega) (by omega) (by rw [e129]; exact fz_up_s (by decide)) (by rw [e129]; exact fz_up_ne (by decide)) f153 (congrArg (fun g => fl_eS g (fl_pO g 0)) (fl_gM_e (funext fun s => hf128 65 s rfl) (hf128 53 16 rfl))) (by omega))⟩
        · exfalso; omega
    · refine fz_bipush ⟨by decide, by decide⟩ kX11_isB rfl ?_
      refine fz_goto (tgt := 52) kX11_isB rfl (by decide) ?_
      refine fz_istore_n (ls' := [(1, fz_i 8), (0, fz_r 53)]) kX11_isB rfl (by decide) rfl ?_
      refine fz_iload_n kX11_isB rfl rfl ?_
      refine fz_if_ge (tgt := 59) kX11_isB rfl (by decide) (fun c182 => ?_) (fun c182 => ?_)
      · refine fz_aload_n kX11_isB rfl rfl ?_
        refine fz_dup rfl kX11_isB rfl ?_
        obtain ⟨v183, e184⟩ : ∃ z, H5 53 (24) = z := ⟨_, rfl⟩
        refine fz_getV (v := v183) kX11_isB rfl rfl e184 ?_
        have b185 : 0 ≤ v183 ∧ v183 ≤ 120 := by rw [← e184]; exact hI9.1 53 _
        refine fz_iconst ⟨by decide, by decide⟩ kX11_isB rfl ?_
        refine fz_iaddN kX11_isB rfl (by omega) ?_
        refine fz_putI kX11_isB rfl rfl rfl ?_
        refine fz_nmu (S := [(53, 24), (53, 25), (53, 26), (73, 99999)]) (h0 := h) (fz_Iv_up hI9 (by decide) (show (0 : Int) ≤ (v183 + 1) by omega) (show ((v183 + 1) : Int) ≤ 120 by omega)) (fz_fr_up hf21 rfl) (fun H186 hI187 hf188 e189 => ?_)
        have k190 : H186 53 25 = 6 := by rw [e189]; exact (fz_up_s (by decide)).trans f11
        have k191 : H186 53 24 = (v183 + 1) := by rw [e189]; exact fz_up_e
        have t192 : H186 53 26 = H5 53 26 := by rw [e189]; exact fz_up_s (by decide)
        have hPa193 : fz_Pa h H186 := fz_Pa_eq (by rw [e189]; exact fz_up_ne (by decide)) (by rw [e189]; exact fz_up_s (by decide)) hPa25
        refine fz_aload_n kX11_isB rfl rfl ?_
        have k194 := hPa193
        have b196 : 0 ≤ H186 53 25 ∧ H186 53 25 ≤ 6 := hI187.1 53 _
        have b197 : 0 ≤ H186 53 24 ∧ H186 53 24 ≤ 120 := hI187.1 53 _
        have b198 : 0 ≤ H186 53 26 ∧ H186 53 26 ≤ 200 := hI187.1 53 _
        have e199 : H186 53 16 = h 53 16 := hf188 53 16 rfl
        refine fz_callV (d' := 4) (M' := mX11_isS) (As := []) (st := []) kX11_isB rfl rfl vX11_isS rfl rfl rfl rfl (Nat.le_of_ble_eq_true rfl) (Nat.le_of_ble_eq_true rfl) (by decide) (sX11_isS_6 H186 hI187  (by omega) (by omega) (by omega)) (fun H200 r201 q202 o203 => ?_)
        obtain ⟨hI204, hf205, y214, rfl, p215, f206, f207, f208, f209, f210, f211, f212, f213⟩ := q202
        clear o203
        have hf216 := fz_fr_tr hf188 hf205 (show fz_su [(53, 24), (53, 25), (53, 26), (73, 99999)] [(53, 24), (53, 25), (53, 26), (73, 99999)] = true from rfl)
        refine fz_if_eq (tgt := 88) kX11_isB rfl (by decide) (fun c217 => ?_) (fun c217 => ?_)
        · refine fz_iconst ⟨by decide, by decide⟩ kX11_isB rfl ?_
          exact fz_zret kX11_isB rfl rfl (by omega) ⟨hI204, hf216, _, rfl, (by omega), (by omega), (by omega), (by omega), (by omega), (by omega), (by omega), (by first | (intro z; exfalso; omega) | (intro _; exact lost)), (by first | exact fl_sL_n0 f18 rfl (by omega) | exact fl_sL_x (fl_sL_0 (op := fl_oB) (K := 1) f18 rfl (by omega) (by omega)) (by unfold fl_oB; omega) rfl rfl rfl | exact fl_sB_1 f18 rfl (by omega) ⟨by omega, by omega⟩ (by unfold fl_oB; omega) (by omega) (by omega) (by rw [e189]; exact fz_up_s (by decide)) (by rw [e189]; exact fz_up_ne (by decide)) f213 (congrArg (fun g => fl_eS g (fl_pO g 0)) (fl_gM_e (funext fun s => hf188 65 s rfl) (hf188 53 16 rfl))) (by omega) lost (by omega) | exact fl_sB_0 (l := 8) f18 rfl (by omega) (by unfold fl_oB; omega) (by omega) (by omega) (by rw [e189]; exact fz_up_s (by decide)) (by rw [e189]; exact fz_up_ne (by decide)) f213 (congrArg (fun g => fl_eS g (fl_pO g 0)) (fl_gM_e (funext fun s => hf188 65 s rfl) (hf188 53 16 rfl))) (by omega))⟩
        · have k220 := f212 (by omega)
          refine fz_aload_n kX11_isB rfl rfl ?_
          refine fz_iload_n kX11_isB rfl rfl ?_
          have b222 : 0 ≤ H200 53 26 ∧ H200 53 26 ≤ 200 := hI204.1 53 _
          refine fz_callV (d' := 0) (M' := mX11_codes) (As := [fz_i 8]) (st := []) kX11_isB rfl rfl vX11_codes rfl rfl rfl rfl (Nat.le_of_ble_eq_true rfl) (Nat.le_of_ble_eq_true rfl) (by decide) (sX11_codes H200 hI204 8 (by omega)) (fun H223 r224 q225 o226 => ?_)
          obtain ⟨hI227, hf228, y232, rfl, p233, f229, f230, f231⟩ := q225
          clear o226
          have hf234 := fz_fr_tr hf216 hf228 (show fz_su [(53, 26), (73, 99999)] [(53, 24), (53, 25), (53, 26), (73, 99999)] = true from rfl)
          have k235 : H223 53 25 = 6 := (hf228 53 25 rfl).trans f206
          have t236 : H223 53 24 = H200 53 24 := hf228 53 24 rfl
          refine fz_eqi (show y232 = 1 by omega) ?_
          have hPa237 : fz_Pa h H223 := fz_Pa_b k194 k220 f231 (by omega)
          refine fz_if_eq (tgt := 88) kX11_isB rfl (by decide) (fun c239 => ?_) (fun c239 => ?_)
          · exfalso; omega
          · refine fz_iconst ⟨by decide, by decide⟩ kX11_isB rfl ?_
            refine fz_goto (tgt := 89) kX11_isB rfl (by decide) ?_
            exact fz_zret kX11_isB rfl rfl (by omega) ⟨hI227, hf234, _, rfl, (by omega), (by omega), (by omega), (by omega), (by omega), (by omega), (by omega), (by first | (intro z; exfalso; omega) | (intro _; exact hPa237)), (by first | exact fl_sL_n0 f18 rfl (by omega) | exact fl_sL_x (fl_sL_0 (op := fl_oB) (K := 1) f18 rfl (by omega) (by omega)) (by unfold fl_oB; omega) rfl rfl rfl | exact fl_sB_1 f18 rfl (by omega) ⟨by omega, by omega⟩ (by unfold fl_oB; omega) (by omega) (by omega) (by rw [e189]; exact fz_up_s (by decide)) (by rw [e189]; exact fz_up_ne (by decide)) f213 (congrArg (fun g => fl_eS g (fl_pO g 0)) (fl_gM_e (funext fun s => hf188 65 s rfl) (hf188 53 16 rfl))) (by omega) f231 (by omega) | exact fl_sB_0 (l := 8) f18 rfl (by omega) (by unfold fl_oB; omega) (by omega) (by omega) (by rw [e189]; exact fz_up_s (by decide)) (by rw [e189]; exact fz_up_ne (by decide)) f213 (congrArg (fun g => fl_eS g (fl_pO g 0)) (fl_gM_e (funext fun s => hf188 65 s rfl) (hf188 53 16 rfl))) (by omega))⟩
      · exfalso; omega
  · refine fz_iconst ⟨by decide, by decide⟩ kX11_isB rfl ?_
    exact fz_zret kX11_isB rfl rfl (by omega) ⟨hI9, hf21, _, rfl, (by omega), (by omega), (by omega), (by omega), (by omega), (by omega), (by omega), (by first | (intro z; exfalso; omega) | (intro _; exact lost)), (by first | exact fl_sL_n0 f18 rfl (by omega) | exact fl_sL_x (fl_sL_0 (op := fl_oB) (K := 1) f18 rfl (by omega) (by omega)) (by unfold fl_oB; omega) rfl rfl rfl | exact fl_sB_1 f18 rfl (by omega) ⟨by omega, by omega⟩ (by unfold fl_oB; omega) (by omega) (by omega) (by rw [lost]; exact fz_up_s (by decide)) (by rw [lost]; exact fz_up_ne (by decide)) lost (congrArg (fun g => fl_eS g (fl_pO g 0)) (fl_gM_e (funext fun s => lost 65 s rfl) (lost 53 16 rfl))) (by omega) lost (by omega) | exact fl_sB_0 (l := {l1}) f18 rfl (by omega) (by unfold fl_oB; omega) (by omega) (by omega) (by rw [lost]; exact fz_up_s (by decide)) (by rw [lost]; exact fz_up_ne (by decide)) lost (congrArg (fun g => fl_eS g (fl_pO g 0)) (fl_gM_e (funext fun s => lost 65 s rfl) (lost 53 16 rfl))) (by omega))⟩

abbrev qX11_isA_6 (h : fz_H) : fz_H → Option fz_V → Prop := fun h' r0 => fz_Iv h' ∧ fz_fr [(53, 24), (53, 25), (53, 26), (73, 99999)] h h' ∧ ∃ r : Int, r0 = some (fz_i r) ∧ (r = 0 ∨ r = 1) ∧ (h' 53 25 = 6) ∧ (h 53 24 ≤ h' 53 24) ∧ (h' 53 24 ≤ h 53 16) ∧ (h 53 26 ≤ h' 53 26) ∧ (h' 53 26 - h 53 26 ≤ h' 53 24 - h 53 24) ∧ (r = 1 → h 53 24 + 1 ≤ h' 53 24) ∧ (r = 1 → fz_Pa h h') ∧ (fl_rdM h h' (fl_eA (fl_gM h) (fl_pO (fl_gM h) 0) (h 53 24)) r)
set_option maxHeartbeats 1000000 in
set_option maxRecDepth 100000 in
theorem sX11_isA_6 (h : fz_H) (hI : fz_Iv h) (hp0 : h 53 25 = 6) (hp1 : h 53 24 ≤ h 53 16) (hp2 : h 53 26 ≤ h 53 24) : fz_R 6 mX11_isA 0 [(0, fz_r 53)] [] h (qX11_isA_6 h) := by
  have hf : fz_fr [(53, 24), (53, 25), (53, 26), (73, 99999)] h h := fz_fr_rf
  have b1 : 0 ≤ h 53 25 ∧ h 53 25 ≤ 6 := hI.1 53 _
  have b2 : 0 ≤ h 53 24 ∧ h 53 24 ≤ 120 := hI.1 53 _
  have b3 : 0 ≤ h 53 16 ∧ h 53 16 ≤ 120 := hI.1 53 _
  have b4 : 0 ≤ h 53 26 ∧ h 53 26 ≤ 200 := hI.1 53 _
  refine fz_aload_n kX11_isA rfl rfl ?_
  refine fz_callV (d' := 5) (M' := mX11_isB) (As := []) (st := []) kX11_isA rfl rfl vX11_isB rfl rfl rfl rfl (Nat.le_of_ble_eq_true rfl) (Nat.le_of_ble_eq_true rfl) (by decide) (sX11_isB_6 h hI  (by omega) (by omega) (by omega)) (fun H5 r6 q7 o8 => ?_)
  obtain ⟨hI9, hf10, y19, rfl, p20, f11, f12, f13, f14, f15, f16, f17, f18⟩ := q7
  clear o8
  have hf21 := fz_fr_tr hf hf10 (show fz_su [(53, 24), (53, 25), (53, 26), (73, 99999)] [(53, 24), (53, 25), (53, 26), (73, 99999)] = true from rfl)
  refine fz_if_ne (tgt := 9) kX11_isA rfl (by decide) (fun c22 => ?_) (fun c22 => ?_)
  · have hPa23 : fz_Pa h H5 := f17 (by omega)
    have lp30 : ∀ (n29 : Nat) (H26 : fz_H), fz_Iv H26 → fz_fr [(53, 24), (53, 25), (53, 26), (73, 99999)] h H26 → fz_Pa h H26 → (H26 53 25 = 6) → (h 53 24 + 1 ≤ H26 53 24) → (H26 53 24 ≤ h 53 16) → (h 53 26 ≤ H26 53 26) → (H26 53 26 - h 53 26 ≤ H26 53 24 - h 53 24) → (fl_sL h H26 (fl_eA (fl_gM h) (fl_pO (fl_gM h) 0) (h 53 24)) fl_oA (fl_eB (fl_gM h) (fl_pO (fl_gM h) 0)) (fl_gM h) 200) → (h 53 16 - H26 53 24).toNat < n29 → fz_R 6 mX11_isA 9 [(0, fz_r 53)] [] H26 (qX11_isA_6 h) := by
      intro n29
      induction n29 with
      | zero => intro H26 hI27 hf28 hPa25 hv33 hv34 hv35 hv36 hv37 hv38 hm32; exact absurd hm32 (by omega)
      | succ n29 ih31 =>
        intro H26 hI27 hf28 hPa25 hv33 hv34 hv35 hv36 hv37 hv38 hm32
        refine fz_aload_n kX11_isA rfl rfl ?_
        have k39 : fl_gM H26 (H26 53 24) = fl_gM h (H26 53 24) := fl_gMe2 (funext fun s => hf28 65 s rfl) (hf28 53 16 rfl)
        refine fz_bipush ⟨by decide, by decide⟩ kX11_isA rfl ?_
        have b41 : 0 ≤ H26 53 24 ∧ H26 53 24 ≤ 120 := hI27.1 53 _
        have b42 : 0 ≤ h 53 16 ∧ h 53 16 ≤ 120 := hI.1 53 _
        have e43 : H26 53 16 = h 53 16 := hf28 53 16 rfl
        refine fz_callV (d' := 1) (M' := mX11_is) (As := [fz_i 38]) (st := []) kX11_isA rfl rfl vX11_is rfl rfl rfl rfl (Nat.le_of_ble_eq_true rfl) (Nat.le_of_ble_eq_true rfl) (by decide) (sX11_is H26 hI27 38 (by omega) (by omega)) (fun H44 r45 q46 o47 => ?_)
        obtain ⟨hI48, hf49, y52, rfl, p53, f50, f51⟩ := q46
        clear o47
        have hf54 := fz_fr_tr hf28 hf49 (show fz_su [(53, 24)] [(53, 24), (53, 25), (53, 26), (73, 99999)] = true from rfl)
        have k55 : H44 53 25 = 6 := (hf49 53 25 rfl).trans hv33
        have hPa56 : fz_Pa h H44 := fz_Pa_eq (funext fun s => hf49 73 s rfl) (hf49 53 26 rfl) hPa25
        have t57 : H44 53 26 = H26 53 26 := hf49 53 26 rfl
        refine fz_if_eq (tgt := 37) kX11_isA rfl (by decide) (fun c58 => ?_) (fun c58 => ?_)
        · refine fz_iconst ⟨by decide, by decide⟩ kX11_isA rfl ?_
          exact fz_zret kX11_isA rfl rfl (by omega) ⟨hI48, hf54, _, rfl, (by omega), (by omega), (by omega), (by omega), (by omega), (by omega), (by omega), (by first | (intro z; exfalso; omega) | (intro _; exact hPa56)), (by first | exact fl_sL_n0 f18 rfl (by omega) | exact fl_sL_x hv38 (by unfold fl_oA; omega) (by omega) (hf49 53 26 rfl) (funext fun s => hf49 73 s rfl) | exact fl_sL_no (l := 7) hv38 (by decide) ⟨by omega, by omega⟩ (by unfold fl_oA; omega) (by decide) (by omega) (hf49 53 26 rfl) (funext fun s => hf49 73 s rfl) lost (congrArg (fun g => fl_eB g (fl_pO g 0)) (fl_gM_e (funext fun s => lost 65 s rfl) (lost 53 16 rfl))) (by omega))⟩
        · refine fz_aload_n kX11_isA rfl rfl ?_
          have k61 := hPa56
          have b63 : 0 ≤ H44 53 25 ∧ H44 53 25 ≤ 6 := hI48.1 53 _
          have b64 : 0 ≤ H44 53 24 ∧ H44 53 24 ≤ 120 := hI48.1 53 _
          have b65 : 0 ≤ H44 53 26 ∧ H44 53 26 ≤ 200 := hI48.1 53 _
          have e66 : H44 53 16 = h 53 16 := hf54 53 16 rfl
          refine fz_callV (d' := 5) (M' := mX11_isB) (As := []) (st := []) kX11_isA rfl rfl vX11_isB rfl rfl rfl rfl (Nat.le_of_ble_eq_true rfl) (Nat.le_of_ble_eq_true rfl) (by decide) (sX11_isB_6 H44 hI48  (by omega) (by omega) (by omega)) (fun H67 r68 q69 o70 => ?_)
          obtain ⟨hI71, hf72, y81, rfl, p82, f73, f74, f75, f76, f77, f78, f79, f80⟩ := q69
          clear o70
          have hf83 := fz_fr_tr hf54 hf72 (show fz_su [(53, 24), (53, 25), (53, 26), (73, 99999)] [(53, 24), (53, 25), (53, 26), (73, 99999)] = true from rfl)
          refine fz_if_ne (tgt := 27) kX11_isA rfl (by decide) (fun c84 => ?_) (fun c84 => ?_)
          · have k85 := f79 (by omega)
            refine fz_aload_n kX11_isA rfl rfl ?_
            refine fz_bipush ⟨by decide, by decide⟩ kX11_isA rfl ?_
            have b87 : 0 ≤ H67 53 26 ∧ H67 53 26 ≤ 200 := hI71.1 53 _
            refine fz_callV (d' := 0) (M' := mX11_codes) (As := [fz_i 7]) (st := []) kX11_isA rfl rfl vX11_codes rfl rfl rfl rfl (Nat.le_of_ble_eq_true rfl) (Nat.le_of_ble_eq_true rfl) (by decide) (sX11_codes H67 hI71 7 (by omega)) (fun H88 r89 q90 o91 => ?_)
            obtain ⟨hI92, hf93, y97, rfl, p98, f94, f95, f96⟩ := q90
            clear o91
            have hf99 := fz_fr_tr hf83 hf93 (show fz_su [(53, 26), (73, 99999)] [(53, 24), (53, 25), (53, 26), (73, 99999)] = true from rfl)
            have k100 : H88 53 25 = 6 := (hf93 53 25 rfl).trans f73
            have t101 : H88 53 24 = H67 53 24 := hf93 53 24 rfl
            refine fz_eqi (show y97 = 1 by omega) ?_
            have hPa102 : fz_Pa h H88 := fz_Pa_b k61 k85 f96 (by omega)
            refine fz_pop rfl kX11_isA rfl ?_
            refine fz_goto (tgt := 9) kX11_isA rfl (by decide) ?_
            exact ih31  H88 hI92 hf99 hPa102 (by omega) (by omega) (by omega) (by omega) (by omega) (fl_sL_st (l := 7) hv38 (by decide) ⟨by omega, by omega, by omega, by omega⟩ (by unfold fl_oA; omega) (by decide) (by omega) (hf49 53 26 rfl) (funext fun s => hf49 73 s rfl) f80 (congrArg (fun g => fl_eB g (fl_pO g 0)) (fl_gM_e (funext fun s => hf54 65 s rfl) (hf54 53 16 rfl))) (by omega) f96 (by omega) (by omega)) (by omega)
          · refine fz_iconst ⟨by decide, by decide⟩ kX11_isA rfl ?_
            exact fz_zret kX11_isA rfl rfl (by omega) ⟨hI71, hf83, _, rfl, (by omega), (by omega), (by omega), (by omega), (by omega), (by omega), (by omega), (by first | (intro z; exfalso; omega) | (intro _; exact lost)), (by first | exact fl_sL_n0 f18 rfl (by omega) | exact fl_sL_x hv38 (by unfold fl_oA; omega) (by omega) (hf49 53 26 rfl) (funext fun s => hf49 73 s rfl) | exact fl_sL_no (l := 7) hv38 (by decide) ⟨by omega, by omega⟩ (by unfold fl_oA; omega) (by decide) (by omega) (hf49 53 26 rfl) (funext fun s => hf49 73 s rfl) f80 (congrArg (fun g => fl_eB g (fl_pO g 0)) (fl_gM_e (funext fun s => hf54 65 s rfl) (hf54 53 16 rfl))) (by omega))⟩
    exact lp30 _  H5 hI9 hf21 hPa23 (by omega) (by omega) (by omega) (by omega) (by omega) (fl_sL_0 f18 rfl (by omega) (by omega)) (Nat.lt_succ_self _)
  · refine fz_iconst ⟨by decide, by decide⟩ kX11_isA rfl ?_
    exact fz_zret kX11_isA rfl rfl (by omega) ⟨hI9, hf21, _, rfl, (by omega), (by omega), (by omega), (by omega), (by omega), (by omega), (by omega), (by first | (intro z; exfalso; omega) | (intro _; exact lost)), (by first | exact fl_sL_n0 f18 rfl (by omega) | exact fl_sL_x lost (by unfold fl_oA; omega) (by omega) (lost 53 26 rfl) (funext fun s => lost 73 s rfl) | exact fl_sL_no (l := 7) lost (by decide) ⟨by omega, by omega⟩ (by unfold fl_oA; omega) (by decide) (by omega) (lost 53 26 rfl) (funext fun s => lost 73 s rfl) lost (congrArg (fun g => fl_eB g (fl_pO g 0)) (fl_gM_e (funext fun s => lost 65 s rfl) (lost 53 16 rfl))) (by omega))⟩

abbrev qX11_isE_6 (h : fz_H) : fz_H → Option fz_V → Prop := fun h' r0 => fz_Iv h' ∧ fz_fr [(53, 24), (53, 25), (53, 26), (73, 99999)] h h' ∧ ∃ r : Int, r0 = some (fz_i r) ∧ (r = 0 ∨ r = 1) ∧ (h' 53 25 = 6) ∧ (h 53 24 ≤ h' 53 24) ∧ (h' 53 24 ≤ h 53 16) ∧ (h 53 26 ≤ h' 53 26) ∧ (h' 53 26 - h 53 26 ≤ h' 53 24 - h 53 24) ∧ (r = 1 → h 53 24 + 1 ≤ h' 53 24) ∧ (r = 1 → fz_Pa h h') ∧ (fl_rdM h h' (fl_eE (fl_gM h) (fl_pO (fl_gM h) 0) (h 53 24)) r)
set_option maxHeartbeats 1000000 in
set_option maxRecDepth 100000 in
theorem sX11_isE_6 (h : fz_H) (hI : fz_Iv h) (hp0 : h 53 25 = 6) (hp1 : h 53 24 ≤ h 53 16) (hp2 : h 53 26 ≤ h 53 24) : fz_R 7 mX11_isE 0 [(0, fz_r 53)] [] h (qX11_isE_6 h) := by
  have hf : fz_fr [(53, 24), (53, 25), (53, 26), (73, 99999)] h h := fz_fr_rf
  have b1 : 0 ≤ h 53 25 ∧ h 53 25 ≤ 6 := hI.1 53 _
  have b2 : 0 ≤ h 53 24 ∧ h 53 24 ≤ 120 := hI.1 53 _
  have b3 : 0 ≤ h 53 16 ∧ h 53 16 ≤ 120 := hI.1 53 _
  have b4 : 0 ≤ h 53 26 ∧ h 53 26 ≤ 200 := hI.1 53 _
  refine fz_aload_n kX11_isE rfl rfl ?_
  refine fz_callV (d' := 6) (M' := mX11_isA) (As := []) (st := []) kX11_isE rfl rfl vX11_isA rfl rfl rfl rfl (Nat.le_of_ble_eq_true rfl) (Nat.le_of_ble_eq_true rfl) (by decide) (sX11_isA_6 h hI  (by omega) (by omega) (by omega)) (fun H5 r6 q7 o8 => ?_)
  obtain ⟨hI9, hf10, y19, rfl, p20, f11, f12, f13, f14, f15, f16, f17, f18⟩ := q7
  clear o8
  have hf21 := fz_fr_tr hf hf10 (show fz_su [(53, 24), (53, 25), (53, 26), (73, 99999)] [(53, 24), (53, 25), (53, 26), (73, 99999)] = true from rfl)
  refine fz_if_ne (tgt := 9) kX11_isE rfl (by decide) (fun c22 => ?_) (fun c22 => ?_)
  · have hPa23 : fz_Pa h H5 := f17 (by omega)
    have lp30 : ∀ (n29 : Nat) (H26 : fz_H), fz_Iv H26 → fz_fr [(53, 24), (53, 25), (53, 26), (73, 99999)] h H26 → fz_Pa h H26 → (H26 53 25 = 6) → (h 53 24 + 1 ≤ H26 53 24) → (H26 53 24 ≤ h 53 16) → (h 53 26 ≤ H26 53 26) → (H26 53 26 - h 53 26 ≤ H26 53 24 - h 53 24) → (fl_sL h H26 (fl_eE (fl_gM h) (fl_pO (fl_gM h) 0) (h 53 24)) fl_oE (fl_eA (fl_gM h) (fl_pO (fl_gM h) 0)) (fl_gM h) 200) → (h 53 16 - H26 53 24).toNat < n29 → fz_R 7 mX11_isE 9 [(0, fz_r 53)] [] H26 (qX11_isE_6 h) := by
      intro n29
      induction n29 with
      | zero => intro H26 hI27 hf28 hPa25 hv33 hv34 hv35 hv36 hv37 hv38 hm32; exact absurd hm32 (by omega)
      | succ n29 ih31 =>
        intro H26 hI27 hf28 hPa25 hv33 hv34 hv35 hv36 hv37 hv38 hm32
        refine fz_aload_n kX11_isE rfl rfl ?_
        have k39 : fl_gM H26 (H26 53 24) = fl_gM h (H26 53 24) := fl_gMe2 (funext fun s => hf28 65 s rfl) (hf28 53 16 rfl)
        refine fz_bipush ⟨by decide, by decide⟩ kX11_isE rfl ?_
        have b41 : 0 ≤ H26 53 24 ∧ H26 53 24 ≤ 120 := hI27.1 53 _
        have b42 : 0 ≤ h 53 16 ∧ h 53 16 ≤ 120 := hI.1 53 _
        have e43 : H26 53 16 = h 53 16 := hf28 53 16 rfl
        refine fz_callV (d' := 1) (M' := mX11_is) (As := [fz_i 124]) (st := []) kX11_isE rfl rfl vX11_is rfl rfl rfl rfl (Nat.le_of_ble_eq_true rfl) (Nat.le_of_ble_eq_true rfl) (by decide) (sX11_is H26 hI27 124 (by omega) (by omega)) (fun H44 r45 q46 o47 => ?_)
        obtain ⟨hI48, hf49, y52, rfl, p53, f50, f51⟩ := q46
        clear o47
        have hf54 := fz_fr_tr hf28 hf49 (show fz_su [(53, 24)] [(53, 24), (53, 25), (53, 26), (73, 99999)] = true from rfl)
        have k55 : H44 53 25 = 6 := (hf49 53 25 rfl).trans hv33
        have hPa56 : fz_Pa h H44 := fz_Pa_eq (funext fun s => hf49 73 s rfl) (hf49 53 26 rfl) hPa25
        have t57 : H44 53 26 = H26 53 26 := hf49 53 26 rfl
        refine fz_if_eq (tgt := 37) kX11_isE rfl (by decide) (fun c58 => ?_) (fun c58 => ?_)
        · refine fz_iconst ⟨by decide, by decide⟩ kX11_isE rfl ?_
          exact fz_zret kX11_isE rfl rfl (by omega) ⟨hI48, hf54, _, rfl, (by omega), (by omega), (by omega), (by omega), (by omega), (by omega), (by omega), (by first | (intro z; exfalso; omega) | (intro _; exact hPa56)), (by first | exact fl_sL_n0 f18 rfl (by omega) | exact fl_sL_x hv38 (by unfold fl_oE; omega) (by omega) (hf49 53 26 rfl) (funext fun s => hf49 73 s rfl) | exact fl_sL_no (l := 6) hv38 (by decide) ⟨by omega, by omega⟩ (by unfold fl_oE; omega) (by decide) (by omega) (hf49 53 26 rfl) (funext fun s => hf49 73 s rfl) lost (congrArg (fun g => fl_eA g (fl_pO g 0)) (fl_gM_e (funext fun s => lost 65 s rfl) (lost 53 16 rfl))) (by omega))⟩
        · refine fz_aload_n kX11_isE rfl rfl ?_
          have k61 := hPa56
          have b63 : 0 ≤ H44 53 25 ∧ H44 53 25 ≤ 6 := hI48.1 53 _
          have b64 : 0 ≤ H44 53 24 ∧ H44 53 24 ≤ 120 := hI48.1 53 _
          have b65 : 0 ≤ H44 53 26 ∧ H44 53 26 ≤ 200 := hI48.1 53 _
          have e66 : H44 53 16 = h 53 16 := hf54 53 16 rfl
          refine fz_callV (d' := 6) (M' := mX11_isA) (As := []) (st := []) kX11_isE rfl rfl vX11_isA rfl rfl rfl rfl (Nat.le_of_ble_eq_true rfl) (Nat.le_of_ble_eq_true rfl) (by decide) (sX11_isA_6 H44 hI48  (by omega) (by omega) (by omega)) (fun H67 r68 q69 o70 => ?_)
          obtain ⟨hI71, hf72, y81, rfl, p82, f73, f74, f75, f76, f77, f78, f79, f80⟩ := q69
          clear o70
          have hf83 := fz_fr_tr hf54 hf72 (show fz_su [(53, 24), (53, 25), (53, 26), (73, 99999)] [(53, 24), (53, 25), (53, 26), (73, 99999)] = true from rfl)
          refine fz_if_ne (tgt := 27) kX11_isE rfl (by decide) (fun c84 => ?_) (fun c84 => ?_)
          · have k85 := f79 (by omega)
            refine fz_aload_n kX11_isE rfl rfl ?_
            refine fz_bipush ⟨by decide, by decide⟩ kX11_isE rfl ?_
            have b87 : 0 ≤ H67 53 26 ∧ H67 53 26 ≤ 200 := hI71.1 53 _
            refine fz_callV (d' := 0) (M' := mX11_codes) (As := [fz_i 6]) (st := []) kX11_isE rfl rfl vX11_codes rfl rfl rfl rfl (Nat.le_of_ble_eq_true rfl) (Nat.le_of_ble_eq_true rfl) (by decide) (sX11_codes H67 hI71 6 (by omega)) (fun H88 r89 q90 o91 => ?_)
            obtain ⟨hI92, hf93, y97, rfl, p98, f94, f95, f96⟩ := q90
            clear o91
            have hf99 := fz_fr_tr hf83 hf93 (show fz_su [(53, 26), (73, 99999)] [(53, 24), (53, 25), (53, 26), (73, 99999)] = true from rfl)
            have k100 : H88 53 25 = 6 := (hf93 53 25 rfl).trans f73
            have t101 : H88 53 24 = H67 53 24 := hf93 53 24 rfl
            refine fz_eqi (show y97 = 1 by omega) ?_
            have hPa102 : fz_Pa h H88 := fz_Pa_b k61 k85 f96 (by omega)
            refine fz_pop rfl kX11_isE rfl ?_
            refine fz_goto (tgt := 9) kX11_isE rfl (by decide) ?_
            exact ih31  H88 hI92 hf99 hPa102 (by omega) (by omega) (by omega) (by omega) (by omega) (fl_sL_st (l := 6) hv38 (by decide) ⟨by omega, by omega, by omega, by omega⟩ (by unfold fl_oE; omega) (by decide) (by omega) (hf49 53 26 rfl) (funext fun s => hf49 73 s rfl) f80 (congrArg (fun g => fl_eA g (fl_pO g 0)) (fl_gM_e (funext fun s => hf54 65 s rfl) (hf54 53 16 rfl))) (by omega) f96 (by omega) (by omega)) (by omega)
          · refine fz_iconst ⟨by decide, by decide⟩ kX11_isE rfl ?_
            exact fz_zret kX11_isE rfl rfl (by omega) ⟨hI71, hf83, _, rfl, (by omega), (by omega), (by omega), (by omega), (by omega), (by omega), (by omega), (by first | (intro z; exfalso; omega) | (intro _; exact lost)), (by first | exact fl_sL_n0 f18 rfl (by omega) | exact fl_sL_x hv38 (by unfold fl_oE; omega) (by omega) (hf49 53 26 rfl) (funext fun s => hf49 73 s rfl) | exact fl_sL_no (l := 6) hv38 (by decide) ⟨by omega, by omega⟩ (by unfold fl_oE; omega) (by decide) (by omega) (hf49 53 26 rfl) (funext fun s => hf49 73 s rfl) f80 (congrArg (fun g => fl_eA g (fl_pO g 0)) (fl_gM_e (funext fun s => hf54 65 s rfl) (hf54 53 16 rfl))) (by omega))⟩
    exact lp30 _  H5 hI9 hf21 hPa23 (by omega) (by omega) (by omega) (by omega) (by omega) (fl_sL_0 f18 rfl (by omega) (by omega)) (Nat.lt_succ_self _)
  · refine fz_iconst ⟨by decide, by decide⟩ kX11_isE rfl ?_
    exact fz_zret kX11_isE rfl rfl (by omega) ⟨hI9, hf21, _, rfl, (by omega), (by omega), (by omega), (by omega), (by omega), (by omega), (by omega), (by first | (intro z; exfalso; omega) | (intro _; exact lost)), (by first | exact fl_sL_n0 f18 rfl (by omega) | exact fl_sL_x lost (by unfold fl_oE; omega) (by omega) (lost 53 26 rfl) (funext fun s => lost 73 s rfl) | exact fl_sL_no (l := 6) lost (by decide) ⟨by omega, by omega⟩ (by unfold fl_oE; omega) (by decide) (by omega) (lost 53 26 rfl) (funext fun s => lost 73 s rfl) lost (congrArg (fun g => fl_eA g (fl_pO g 0)) (fl_gM_e (funext fun s => lost 65 s rfl) (lost 53 16 rfl))) (by omega))⟩

abbrev qX11_isO_g (f : Nat) (L : Int) (h : fz_H) : fz_H → Option fz_V → Prop := fun h' r0 => fz_Iv h' ∧ fz_fr [(53, 24), (53, 25), (53, 26), (73, 99999)] h h' ∧ ∃ r : Int, r0 = some (fz_i r) ∧ (r = 0 ∨ r = 1) ∧ (h' 53 25 = L) ∧ (h 53 24 ≤ h' 53 24) ∧ (h' 53 24 ≤ h 53 16) ∧ (h 53 26 ≤ h' 53 26) ∧ (h' 53 26 - h 53 26 ≤ h' 53 24 - h 53 24) ∧ (r = 1 → h 53 24 + 1 ≤ h' 53 24) ∧ (r = 1 → fz_Pa h h') ∧ (fl_rdM h h' (fl_pO (fl_gM h) f (h 53 24)) r)
abbrev qX11_isP_g (f : Nat) (L : Int) (h : fz_H) : fz_H → Option fz_V → Prop := fun h' r0 => fz_Iv h' ∧ fz_fr [(53, 24), (53, 25), (53, 26), (73, 99999)] h h' ∧ ∃ r : Int, r0 = some (fz_i r) ∧ (r = 0 ∨ r = 1) ∧ (h' 53 25 = L) ∧ (h 53 24 ≤ h' 53 24) ∧ (h' 53 24 ≤ h 53 16) ∧ (h 53 26 ≤ h' 53 26) ∧ (h' 53 26 - h 53 26 ≤ h' 53 24 - h 53 24) ∧ (r = 1 → h 53 24 + 1 ≤ h' 53 24) ∧ (r = 1 → fz_Pa h h') ∧ (fl_rdM h h' (fl_eP (fl_gM h) (fl_pO (fl_gM h) f) (h 53 24)) r)
abbrev qX11_isS_g (f : Nat) (L : Int) (h : fz_H) : fz_H → Option fz_V → Prop := fun h' r0 => fz_Iv h' ∧ fz_fr [(53, 24), (53, 25), (53, 26), (73, 99999)] h h' ∧ ∃ r : Int, r0 = some (fz_i r) ∧ (r = 0 ∨ r = 1) ∧ (h' 53 25 = L) ∧ (h 53 24 ≤ h' 53 24) ∧ (h' 53 24 ≤ h 53 16) ∧ (h 53 26 ≤ h' 53 26) ∧ (h' 53 26 - h 53 26 ≤ h' 53 24 - h 53 24) ∧ (r = 1 → h 53 24 + 1 ≤ h' 53 24) ∧ (r = 1 → fz_Pa h h') ∧ (fl_rdM h h' (fl_eS (fl_gM h) (fl_pO (fl_gM h) f) (h 53 24)) r)
abbrev qX11_isB_g (f : Nat) (L : Int) (h : fz_H) : fz_H → Option fz_V → Prop := fun h' r0 => fz_Iv h' ∧ fz_fr [(53, 24), (53, 25), (53, 26), (73, 99999)] h h' ∧ ∃ r : Int, r0 = some (fz_i r) ∧ (r = 0 ∨ r = 1) ∧ (h' 53 25 = L) ∧ (h 53 24 ≤ h' 53 24) ∧ (h' 53 24 ≤ h 53 16) ∧ (h 53 26 ≤ h' 53 26) ∧ (h' 53 26 - h 53 26 ≤ h' 53 24 - h 53 24) ∧ (r = 1 → h 53 24 + 1 ≤ h' 53 24) ∧ (r = 1 → fz_Pa h h') ∧ (fl_rdM h h' (fl_eB (fl_gM h) (fl_pO (fl_gM h) f) (h 53 24)) r)
abbrev qX11_isA_g (f : Nat) (L : Int) (h : fz_H) : fz_H → Option fz_V → Prop := fun h' r0 => fz_Iv h' ∧ fz_fr [(53, 24), (53, 25), (53, 26), (73, 99999)] h h' ∧ ∃ r : Int, r0 = some (fz_i r) ∧ (r = 0 ∨ r = 1) ∧ (h' 53 25 = L) ∧ (h 53 24 ≤ h' 53 24) ∧ (h' 53 24 ≤ h 53 16) ∧ (h 53 26 ≤ h' 53 26) ∧ (h' 53 26 - h 53 26 ≤ h' 53 24 - h 53 24) ∧ (r = 1 → h 53 24 + 1 ≤ h' 53 24) ∧ (r = 1 → fz_Pa h h') ∧ (fl_rdM h h' (fl_eA (fl_gM h) (fl_pO (fl_gM h) f) (h 53 24)) r)
abbrev qX11_isE_g (f : Nat) (L : Int) (h : fz_H) : fz_H → Option fz_V → Prop := fun h' r0 => fz_Iv h' ∧ fz_fr [(53, 24), (53, 25), (53, 26), (73, 99999)] h h' ∧ ∃ r : Int, r0 = some (fz_i r) ∧ (r = 0 ∨ r = 1) ∧ (h' 53 25 = L) ∧ (h 53 24 ≤ h' 53 24) ∧ (h' 53 24 ≤ h 53 16) ∧ (h 53 26 ≤ h' 53 26) ∧ (h' 53 26 - h 53 26 ≤ h' 53 24 - h 53 24) ∧ (r = 1 → h 53 24 + 1 ≤ h' 53 24) ∧ (r = 1 → fz_Pa h h') ∧ (fl_rdM h h' (fl_eE (fl_gM h) (fl_pO (fl_gM h) f) (h 53 24)) r)

set_option maxHeartbeats 1000000 in
set_option maxRecDepth 100000 in
theorem sX11_isO_g (k : Nat) (L : Int) (D : Nat) (hL : 0 ≤ L ∧ L ≤ 5) (ihO : ∀ (h : fz_H) (hI : fz_Iv h) (hp0 : h 53 25 = L + 1) (hp1 : h 53 24 ≤ h 53 16) (hp2 : h 53 26 ≤ h 53 24), fz_R (D + 2) mX11_isO 0 [(0, fz_r 53)] [] h (qX11_isO_g k (L + 1) h)) (ihE : ∀ (h : fz_H) (hI : fz_Iv h) (hp0 : h 53 25 = L + 1) (hp1 : h 53 24 ≤ h 53 16) (hp2 : h 53 26 ≤ h 53 24), fz_R (D + 7) mX11_isE 0 [(0, fz_r 53)] [] h (qX11_isE_g k (L + 1) h)) (h : fz_H) (hI : fz_Iv h) (hp0 : h 53 25 = L) (hp1 : h 53 24 ≤ h 53 16) (hp2 : h 53 26 ≤ h 53 24) : fz_R (D + 8) mX11_isO 0 [(0, fz_r 53)] [] h (qX11_isO_g (k + 1) L h) := by
  have hf : fz_fr [(53, 24), (53, 25), (53, 26), (73, 99999)] h h := fz_fr_rf
  have b1 : 0 ≤ h 53 25 ∧ h 53 25 ≤ 6 := hI.1 53 _
  have b2 : 0 ≤ h 53 24 ∧ h 53 24 ≤ 120 := hI.1 53 _
  have b3 : 0 ≤ h 53 16 ∧ h 53 16 ≤ 120 := hI.1 53 _
  have b4 : 0 ≤ h 53 26 ∧ h 53 26 ≤ 200 := hI.1 53 _
  have hCa5 : fz_Ca h h := ⟨rfl, rfl⟩
  refine fz_aload_n kX11_isO rfl rfl ?_
  refine fz_callV (d' := 1) (M' := mX11_isDigit) (As := []) (st := []) kX11_isO rfl rfl vX11_isDigit rfl rfl rfl rfl (Nat.le_of_ble_eq_true rfl) (Nat.le_of_ble_eq_true rfl) (by omega) (sX11_isDigit h hI  (by omega)) (fun H7 r8 q9 o10 => ?_)
  obtain ⟨e11, y12, rfl, p13⟩ := q9
  subst H7
  clear o10
  rcases p13 with ⟨rfl, c14⟩ | ⟨rfl, c14⟩
  · refine fz_if_eq (tgt := 66) kX11_isO rfl (by decide) (fun c15 => ?_) (fun c15 => ?_)
    · exfalso; omega
    · have k16 := c14
      have k18 : 48 ≤ fl_gM h (h 53 24) ∧ fl_gM h (h 53 24) ≤ 57 := by rw [fl_gM_y (a := h 53 24) ⟨by omega, by omega⟩ rfl]; exact ⟨by omega, by omega⟩
      refine fz_iconst ⟨by decide, by decide⟩ kX11_isO rfl ?_
      refine fz_istore_n (ls' := [(1, fz_i 0), (0, fz_r 53)]) kX11_isO rfl (by decide) rfl ?_
      refine fz_iconst ⟨by decide, by decide⟩ kX11_isO rfl ?_
      refine fz_istore_n (ls' := [(2, fz_i 0), (1, fz_i 0), (0, fz_r 53)]) kX11_isO rfl (by decide) rfl ?_
      have lp27 : ∀ (n26 : Nat) (x20 : Int) (x21 : Int) (H23 : fz_H), fz_Iv H23 → fz_fr [(53, 24), (53, 25), (53, 26), (73, 99999)] h H23 → fz_Ca h H23 → (0 ≤ x20 ∧ x20 ≤ 4) → (0 ≤ x21 ∧ x21 ≤ 9999) → ((x20 = 0 ∧ x21 = 0) ∨ (x20 = 1 ∧ x21 ≤ 9) ∨ (x20 = 2 ∧ x21 ≤ 99) ∨ (x20 = 3 ∧ x21 ≤ 999) ∨ x20 = 4) → (H23 53 25 = L) → (H23 53 24 = h 53 24 + x20) → (H23 53 24 ≤ h 53 16) → (H23 53 26 = h 53 26) → (fl_dg (fl_gM h) (4 - x20).toNat (x21, H23 53 24) = fl_dg (fl_gM h) 4 (0, h 53 24)) → (4 - x20).toNat < n26 → fz_R (D + 8) mX11_isO 11 [(2, fz_i x20), (1, fz_i x21), (0, fz_r 53)] [] H23 (qX11_isO_g (k + 1) L h) := by
        intro n26
        induction n26 with
        | zero => intro x20 x21 H23 hI24 hf25 hCa22 hv30 hv31 hv32 hv33 hv34 hv35 hv36 hv37 hm29; exact absurd hm29 (by omega)
        | succ n26 ih28 =>
          intro x20 x21 H23 hI24 hf25 hCa22 hv30 hv31 hv32 hv33 hv34 hv35 hv36 hv37 hm29
          refine fz_iload_n kX11_isO rfl rfl ?_
          refine fz_iconst ⟨by decide, by decide⟩ kX11_isO rfl ?_
          refine fz_icmp_ge (tgt := 57) kX11_isO rfl (by decide) (fun c38 => ?_) (fun c38 => ?_)
          · have k39 : 1 ≤ x20 := by first | omega | (refine Classical.byContradiction (fun z => ?_); have e : H23 53 24 = h 53 24 := (by omega); have zz := c14; rw [e, hf25 53 16 rfl, hf25 65 _ rfl] at zz; exact zz k16)
            have k41 : 1 ≤ x20 := by omega
            have k42 : fl_dg (fl_gM h) 4 (0, h 53 24) = (x21, H23 53 24) := by first | exact fl_dg_x hv37 (Or.inl (by omega)) | exact fl_dg_x hv37 (Or.inr (fl_gM_nd (funext fun s => hf25 65 s rfl) (hf25 53 16 rfl) (by omega) c14))
            refine fz_aload_n kX11_isO rfl rfl ?_
            refine fz_bipush ⟨by decide, by decide⟩ kX11_isO rfl ?_
            refine fz_iload_n kX11_isO rfl rfl ?_
            refine fz_iaddN kX11_isO rfl (by omega) ?_
            have k44 := hCa22
            have b46 : 0 ≤ H23 53 26 ∧ H23 53 26 ≤ 200 := hI24.1 53 _
            refine fz_callV (d' := 0) (M' := mX11_codes) (As := [fz_i (18 + x21)]) (st := []) kX11_isO rfl rfl vX11_codes rfl rfl rfl rfl (Nat.le_of_ble_eq_true rfl) (Nat.le_of_ble_eq_true rfl) (by omega) (sX11_codes H23 hI24 (18 + x21) (by omega)) (fun H47 r48 q49 o50 => ?_)
            obtain ⟨hI51, hf52, y56, rfl, p57, f53, f54, f55⟩ := q49
            clear o50
            have hf58 := fz_fr_tr hf25 hf52 (show fz_su [(53, 26), (73, 99999)] [(53, 24), (53, 25), (53, 26), (73, 99999)] = true from rfl)
            have k59 : H47 53 25 = L := (hf52 53 25 rfl).trans hv33
            have t60 : H47 53 24 = H23 53 24 := hf52 53 24 rfl
            refine fz_eqi (show y56 = 1 by omega) ?_
            have hPa61 : fz_Pa h H47 := fz_Pa_n k44 f55 (by omega) (by omega)
            exact fz_zret kX11_isO rfl rfl (by omega) ⟨hI51, hf58, _, rfl, (by omega), (by omega), (by omega), (by omega), (by omega), (by omega), (by omega), (by first | (intro z; exfalso; omega) | (intro _; exact hPa61)), (by first | exact fl_mO_num k18 k42 rfl f55 rfl (by omega) (by omega) k44.1 | exact fl_mO_nam (by omega) lost (by omega) (by omega) lost rfl f55 (by omega) | exact fl_mO_un (k := k) (by omega) lost (by omega) (by omega) (Or.inl ⟨by omega, rfl⟩) (by omega) (by omega) (funext fun s => (lost 73 s rfl).trans (by rw [lost]; exact congrFun (fz_up_ne (by decide)) s)) (by omega) (fl_gM_e (funext fun s => (lost 65 s rfl).trans (by rw [lost]; exact congrFun (fz_up_ne (by decide)) s)) ((lost 53 16 rfl).trans (by rw [lost]; exact fz_up_s (by decide)))) lost (Or.inl ⟨by omega, ⟨_, f55, (by rw [lost]; exact fz_up_ne (by decide)), (by rw [lost]; exact fz_up_s (by decide))⟩, by omega, by omega⟩) | exact fl_mO_un (k := k) (by omega) lost (by omega) (by omega) (Or.inl ⟨by omega, rfl⟩) (by omega) (by omega) (funext fun s => (lost 73 s rfl).trans (by rw [lost]; exact congrFun (fz_up_ne (by decide)) s)) (by omega) (fl_gM_e (funext fun s => (lost 65 s rfl).trans (by rw [lost]; exact congrFun (fz_up_ne (by decide)) s)) ((lost 53 16 rfl).trans (by rw [lost]; exact fz_up_s (by decide)))) lost (Or.inr ⟨by omega, by omega, by omega⟩) | exact fl_mO_un (k := k) (by omega) lost (by omega) (by omega) (Or.inr ⟨by omega, rfl⟩) (by omega) (by omega) (funext fun s => (lost 73 s rfl).trans ((lost 73 s rfl).trans (by rw [lost]; exact congrFun (fz_up_ne (by decide)) s))) (by omega) (fl_gM_e (funext fun s => (lost 65 s rfl).trans ((lost 65 s rfl).trans (by rw [lost]; exact congrFun (fz_up_ne (by decide)) s))) ((lost 53 16 rfl).trans ((lost 53 16 rfl).trans (by rw [lost]; exact fz_up_s (by decide))))) lost (Or.inl ⟨by omega, ⟨_, f55, (by rw [lost]; exact fz_up_ne (by decide)), (by rw [lost]; exact fz_up_s (by decide))⟩, by omega, by omega⟩) | exact fl_mO_un (k := k) (by omega) lost (by omega) (by omega) (Or.inr ⟨by omega, rfl⟩) (by omega) (by omega) (funext fun s => (lost 73 s rfl).trans ((lost 73 s rfl).trans (by rw [lost]; exact congrFun (fz_up_ne (by decide)) s))) (by omega) (fl_gM_e (funext fun s => (lost 65 s rfl).trans ((lost 65 s rfl).trans (by rw [lost]; exact congrFun (fz_up_ne (by decide)) s))) ((lost 53 16 rfl).trans ((lost 53 16 rfl).trans (by rw [lost]; exact fz_up_s (by decide))))) lost (Or.inr ⟨by omega, by omega, by omega⟩) | exact fl_mO_par (k := k) (by omega) lost (by omega) (by omega) (by omega) (by omega) (by omega) (funext fun s => (lost 73 s rfl).trans ((lost 73 s rfl).trans ((lost 73 s rfl).trans (by rw [lost]; exact congrFun (fz_up_ne (by decide)) s)))) (fl_gM_e (funext fun s => (lost 65 s rfl).trans ((lost 65 s rfl).trans ((lost 65 s rfl).trans (by rw [lost]; exact congrFun (fz_up_ne (by decide)) s)))) ((lost 53 16 rfl).trans ((lost 53 16 rfl).trans ((lost 53 16 rfl).trans (by rw [lost]; exact fz_up_s (by decide)))))) lost (by rw [lost]; exact (fz_up_s (by decide)).trans (lost 53 26 rfl)) (by rw [lost, fz_up_ne (by decide)]; exact (funext fun s => lost 73 s rfl)) (Or.inl ⟨by omega, by omega, by omega, by omega⟩) | exact fl_mO_par (k := k) (by omega) lost (by omega) (by omega) (by omega) (by omega) (by omega) (funext fun s => (lost 73 s rfl).trans ((lost 73 s rfl).trans ((lost 73 s rfl).trans (by rw [lost]; exact congrFun (fz_up_ne (by decide)) s)))) (fl_gM_e (funext fun s => (lost 65 s rfl).trans ((lost 65 s rfl).trans ((lost 65 s rfl).trans (by rw [lost]; exact congrFun (fz_up_ne (by decide)) s)))) ((lost 53 16 rfl).trans ((lost 53 16 rfl).trans ((lost 53 16 rfl).trans (by rw [lost]; exact fz_up_s (by decide)))))) lost (by rw [lost]; exact (fz_up_s (by decide)).trans (lost 53 26 rfl)) (by rw [lost, fz_up_ne (by decide)]; exact (funext fun s => lost 73 s rfl)) (Or.inr (Or.inl ⟨by omega, by omega, by omega, by omega⟩)) | exact fl_mO_par (k := k) (by omega) lost (by omega) (by omega) (by omega) (by omega) (by omega) (funext fun s => (lost 73 s rfl).trans ((lost 73 s rfl).trans ((lost 73 s rfl).trans (by rw [lost]; exact congrFun (fz_up_ne (by decide)) s)))) (fl_gM_e (funext fun s => (lost 65 s rfl).trans ((lost 65 s rfl).trans ((lost 65 s rfl).trans (by rw [lost]; exact congrFun (fz_up_ne (by decide)) s)))) ((lost 53 16 rfl).trans ((lost 53 16 rfl).trans ((lost 53 16 rfl).trans (by rw [lost]; exact fz_up_s (by decide)))))) lost (by rw [lost]; exact (fz_up_s (by decide)).trans rfl) (by rw [lost, fz_up_ne (by decide)]) (Or.inr (Or.inr ⟨by omega, by omega, by omega⟩)) | exact fl_mO_no (k := k) (by omega) lost (by omega) (by omega) ⟨by omega, by omega, by omega⟩ (by omega))⟩
          · refine fz_aload_n kX11_isO rfl rfl ?_
            have b65 : 0 ≤ H23 53 24 ∧ H23 53 24 ≤ 120 := hI24.1 53 _
            have b66 : 0 ≤ h 53 16 ∧ h 53 16 ≤ 120 := hI.1 53 _
            have e67 : H23 53 16 = h 53 16 := hf25 53 16 rfl
            refine fz_callV (d' := 1) (M' := mX11_isDigit) (As := []) (st := []) kX11_isO rfl rfl vX11_isDigit rfl rfl rfl rfl (Nat.le_of_ble_eq_true rfl) (Nat.le_of_ble_eq_true rfl) (by omega) (sX11_isDigit H23 hI24  (by omega)) (fun H68 r69 q70 o71 => ?_)
            obtain ⟨e72, y73, rfl, p74⟩ := q70
            subst H68
            clear o71
            rcases p74 with ⟨rfl, c75⟩ | ⟨rfl, c75⟩
            · refine fz_if_eq (tgt := 57) kX11_isO rfl (by decide) (fun c76 => ?_) (fun c76 => ?_)
              · exfalso; omega
              · refine fz_bipush ⟨by decide, by decide⟩ kX11_isO rfl ?_
                refine fz_iload_n kX11_isO rfl rfl ?_
                refine fz_imulN kX11_isO rfl (by omega) ?_
                refine fz_aload_n kX11_isO rfl rfl ?_
                refine fz_getR (t := 65) kX11_isO rfl rfl ?_
                refine fz_aload_n kX11_isO rfl rfl ?_
                obtain ⟨v77, e78⟩ : ∃ z, H23 53 (24) = z := ⟨_, rfl⟩
                refine fz_getV (v := v77) kX11_isO rfl rfl e78 ?_
                have b79 : 0 ≤ v77 ∧ v77 ≤ 120 := by rw [← e78]; exact hI24.1 53 _
                refine fz_ialdV (n := 120) (v := h 65 (v77.toNat)) kX11_isO rfl rfl (by omega) (by omega) (hf25 65 _ rfl) ?_
                have b80 : 0 ≤ h 65 (v77.toNat) ∧ h 65 (v77.toNat) ≤ 255 := hI.1 65 _
                have k81 : 48 ≤ (h 65 (v77.toNat)) ∧ (h 65 (v77.toNat)) ≤ 57 := by have z := c75; rw [e78, hf25 65 _ rfl] at z; exact z.2
                have k84 : 48 ≤ (h 65 (v77.toNat)) ∧ (h 65 (v77.toNat)) ≤ 57 := by omega
                have k85 : H23 53 16 = h 53 16 := hf25 53 16 rfl
                have k86 : fl_gM h (H23 53 24) = (h 65 (v77.toNat)) := by rw [e78]; exact fl_gM_y ⟨by omega, by omega⟩ rfl
                refine fz_iaddN kX11_isO rfl (by omega) ?_
                refine fz_bipush ⟨by decide, by decide⟩ kX11_isO rfl ?_
                refine fz_isubN kX11_isO rfl (by omega) ?_
                refine fz_istore_n (ls' := [(1, fz_i (((10 * x21) + (h 65 (v77.toNat))) - 48)), (2, fz_i x20), (0, fz_r 53)]) kX11_isO rfl (by decide) rfl ?_
                refine fz_aload_n kX11_isO rfl rfl ?_
                refine fz_dup rfl kX11_isO rfl ?_
                refine fz_getV (v := v77) kX11_isO rfl rfl e78 ?_
                refine fz_iconst ⟨by decide, by decide⟩ kX11_isO rfl ?_
                refine fz_iaddN kX11_isO rfl (by omega) ?_
                refine fz_putI kX11_isO rfl rfl rfl ?_
                refine fz_nmu (S := [(53, 24), (53, 25), (53, 26), (73, 99999)]) (h0 := h) (fz_Iv_up hI24 (by decide) (show (0 : Int) ≤ (v77 + 1) by omega) (show ((v77 + 1) : Int) ≤ 120 by omega)) (fz_fr_up hf25 rfl) (fun H87 hI88 hf89 e90 => ?_)
                have k91 : H87 53 25 = L := by rw [e90]; exact (fz_up_s (by decide)).trans hv33
                have k92 : H87 53 24 = (v77 + 1) := by rw [e90]; exact fz_up_e
                have t93 : H87 53 26 = H23 53 26 := by rw [e90]; exact fz_up_s (by decide)
                have hCa94 : fz_Ca h H87 := fz_Ca_eq (by rw [e90]; exact fz_up_ne (by decide)) (by rw [e90]; exact fz_up_s (by decide)) hCa22
                refine fz_iincN (ls' := [(2, fz_i (x20 + 1)), (1, fz_i (((10 * x21) + (h 65 (v77.toNat))) - 48)), (0, fz_r 53)]) kX11_isO rfl (by decide) rfl (by omega) rfl ?_
                refine fz_goto (tgt := 11) kX11_isO rfl (by decide) ?_
                exact ih28 (x20 + 1) (((10 * x21) + (h 65 (v77.toNat))) - 48) H87 hI88 hf89 hCa94 (by omega) (by omega) (by omega) (by omega) (by omega) (by omega) (by omega) (fl_dg_st hv37 (by omega) ⟨by omega, by omega⟩ (by omega) (by omega)) (by omega)
            · refine fz_if_eq (tgt := 57) kX11_isO rfl (by decide) (fun c96 => ?_) (fun c96 => ?_)
              · have k97 : 1 ≤ x20 := by first | omega | (refine Classical.byContradiction (fun z => ?_); have e : H23 53 24 = h 53 24 := (by omega); have zz := c75; rw [e, hf25 53 16 rfl, hf25 65 _ rfl] at zz; exact zz k16)
                have k99 : 1 ≤ x20 := by omega
                have k100 : fl_dg (fl_gM h) 4 (0, h 53 24) = (x21, H23 53 24) := by first | exact fl_dg_x hv37 (Or.inl (by omega)) | exact fl_dg_x hv37 (Or.inr (fl_gM_nd (funext fun s => hf25 65 s rfl) (hf25 53 16 rfl) (by omega) c75))
                refine fz_aload_n kX11_isO rfl rfl ?_
                refine fz_bipush ⟨by decide, by decide⟩ kX11_isO rfl ?_
                refine fz_iload_n kX11_isO rfl rfl ?_
                refine fz_iaddN kX11_isO rfl (by omega) ?_
                have k102 := hCa22
                have b104 : 0 ≤ H23 53 26 ∧ H23 53 26 ≤ 200 := hI24.1 53 _
                refine fz_callV (d' := 0) (M' := mX11_codes) (As := [fz_i (18 + x21)]) (st := []) kX11_isO rfl rfl vX11_codes rfl rfl rfl rfl (Nat.le_of_ble_eq_true rfl) (Nat.le_of_ble_eq_true rfl) (by omega) (sX11_codes H23 hI24 (18 + x21) (by omega)) (fun H105 r106 q107 o108 => ?_)
                obtain ⟨hI109, hf110, y114, rfl, p115, f111, f112, f113⟩ := q107
                clear o108
                have hf116 := fz_fr_tr hf25 hf110 (show fz_su [(53, 26), (73, 99999)] [(53, 24), (53, 25), (53, 26), (73, 99999)] = true from rfl)
                have k117 : H105 53 25 = L := (hf110 53 25 rfl).trans hv33
                have t118 : H105 53 24 = H23 53 24 := hf110 53 24 rfl
                refine fz_eqi (show y114 = 1 by omega) ?_
                have hPa119 : fz_Pa h H105 := fz_Pa_n k102 f113 (by omega) (by omega)
                exact fz_zret kX11_isO rfl rfl (by omega) ⟨hI109, hf116, _, rfl, (by omega), (by omega), (by omega), (by omega), (by omega), (by omega), (by omega), (by first | (intro z; exfalso; omega) | (intro _; exact hPa119)), (by first | exact fl_mO_num k18 k100 rfl f113 rfl (by omega) (by omega) k102.1 | exact fl_mO_nam (by omega) lost (by omega) (by omega) lost rfl f113 (by omega) | exact fl_mO_un (k := k) (by omega) lost (by omega) (by omega) (Or.inl ⟨by omega, rfl⟩) (by omega) (by omega) (funext fun s => (lost 73 s rfl).trans (by rw [lost]; exact congrFun (fz_up_ne (by decide)) s)) (by omega) (fl_gM_e (funext fun s => (lost 65 s rfl).trans (by rw [lost]; exact congrFun (fz_up_ne (by decide)) s)) ((lost 53 16 rfl).trans (by rw [lost]; exact fz_up_s (by decide)))) lost (Or.inl ⟨by omega, ⟨_, f113, (by rw [lost]; exact fz_up_ne (by decide)), (by rw [lost]; exact fz_up_s (by decide))⟩, by omega, by omega⟩) | exact fl_mO_un (k := k) (by omega) lost (by omega) (by omega) (Or.inl ⟨by omega, rfl⟩) (by omega) (by omega) (funext fun s => (lost 73 s rfl).trans (by rw [lost]; exact congrFun (fz_up_ne (by decide)) s)) (by omega) (fl_gM_e (funext fun s => (lost 65 s rfl).trans (by rw [lost]; exact congrFun (fz_up_ne (by decide)) s)) ((lost 53 16 rfl).trans (by rw [lost]; exact fz_up_s (by decide)))) lost (Or.inr ⟨by omega, by omega, by omega⟩) | exact fl_mO_un (k := k) (by omega) lost (by omega) (by omega) (Or.inr ⟨by omega, rfl⟩) (by omega) (by omega) (funext fun s => (lost 73 s rfl).trans ((lost 73 s rfl).trans (by rw [lost]; exact congrFun (fz_up_ne (by decide)) s))) (by omega) (fl_gM_e (funext fun s => (lost 65 s rfl).trans ((lost 65 s rfl).trans (by rw [lost]; exact congrFun (fz_up_ne (by decide)) s))) ((lost 53 16 rfl).trans ((lost 53 16 rfl).trans (by rw [lost]; exact fz_up_s (by decide))))) lost (Or.inl ⟨by omega, ⟨_, f113, (by rw [lost]; exact fz_up_ne (by decide)), (by rw [lost]; exact fz_up_s (by decide))⟩, by omega, by omega⟩) | exact fl_mO_un (k := k) (by omega) lost (by omega) (by omega) (Or.inr ⟨by omega, rfl⟩) (by omega) (by omega) (funext fun s => (lost 73 s rfl).trans ((lost 73 s rfl).trans (by rw [lost]; exact congrFun (fz_up_ne (by decide)) s))) (by omega) (fl_gM_e (funext fun s => (lost 65 s rfl).trans ((lost 65 s rfl).trans (by rw [lost]; exact congrFun (fz_up_ne (by decide)) s))) ((lost 53 16 rfl).trans ((lost 53 16 rfl).trans (by rw [lost]; exact fz_up_s (by decide))))) lost (Or.inr ⟨by omega, by omega, by omega⟩) | exact fl_mO_par (k := k) (by omega) lost (by omega) (by omega) (by omega) (by omega) (by omega) (funext fun s => (lost 73 s rfl).trans ((lost 73 s rfl).trans ((lost 73 s rfl).trans (by rw [lost]; exact congrFun (fz_up_ne (by decide)) s)))) (fl_gM_e (funext fun s => (lost 65 s rfl).trans ((lost 65 s rfl).trans ((lost 65 s rfl).trans (by rw [lost]; exact congrFun (fz_up_ne (by decide)) s)))) ((lost 53 16 rfl).trans ((lost 53 16 rfl).trans ((lost 53 16 rfl).trans (by rw [lost]; exact fz_up_s (by decide)))))) lost (by rw [lost]; exact (fz_up_s (by decide)).trans (lost 53 26 rfl)) (by rw [lost, fz_up_ne (by decide)]; exact (funext fun s => lost 73 s rfl)) (Or.inl ⟨by omega, by omega, by omega, by omega⟩) | exact fl_mO_par (k := k) (by omega) lost (by omega) (by omega) (by omega) (by omega) (by omega) (funext fun s => (lost 73 s rfl).trans ((lost 73 s rfl).trans ((lost 73 s rfl).trans (by rw [lost]; exact congrFun (fz_up_ne (by decide)) s)))) (fl_gM_e (funext fun s => (lost 65 s rfl).trans ((lost 65 s rfl).trans ((lost 65 s rfl).trans (by rw [lost]; exact congrFun (fz_up_ne (by decide)) s)))) ((lost 53 16 rfl).trans ((lost 53 16 rfl).trans ((lost 53 16 rfl).trans (by rw [lost]; exact fz_up_s (by decide)))))) lost (by rw [lost]; exact (fz_up_s (by decide)).trans (lost 53 26 rfl)) (by rw [lost, fz_up_ne (by decide)]; exact (funext fun s => lost 73 s rfl)) (Or.inr (Or.inl ⟨by omega, by omega, by omega, by omega⟩)) | exact fl_mO_par (k := k) (by omega) lost (by omega) (by omega) (by omega) (by omega) (by omega) (funext fun s => (lost 73 s rfl).trans ((lost 73 s rfl).trans ((lost 73 s rfl).trans (by rw [lost]; exact congrFun (fz_up_ne (by decide)) s)))) (fl_gM_e (funext fun s => (lost 65 s rfl).trans ((lost 65 s rfl).trans ((lost 65 s rfl).trans (by rw [lost]; exact congrFun (fz_up_ne (by decide)) s)))) ((lost 53 16 rfl).trans ((lost 53 16 rfl).trans ((lost 53 16 rfl).trans (by rw [lost]; exact fz_up_s (by decide)))))) lost (by rw [lost]; exact (fz_up_s (by decide)).trans rfl) (by rw [lost, fz_up_ne (by decide)]) (Or.inr (Or.inr ⟨by omega, by omega, by omega⟩)) | exact fl_mO_no (k := k) (by omega) lost (by omega) (by omega) ⟨by omega, by omega, by omega⟩ (by omega))⟩
              · exfalso; omega
      exact lp27 _ 0 0 h hI hf hCa5 (by omega) (by omega) (by omega) (by omega) (by omega) (by omega) (by omega) (rfl) (Nat.lt_succ_self _)
  · refine fz_if_eq (tgt := 66) kX11_isO rfl (by decide) (fun c124 => ?_) (fun c124 => ?_)
    · refine fz_aload_n kX11_isO rfl rfl ?_
      refine fz_callV (d' := 0) (M' := mX11_sign) (As := []) (st := []) kX11_isO rfl rfl vX11_sign rfl rfl rfl rfl (Nat.le_of_ble_eq_true rfl) (Nat.le_of_ble_eq_true rfl) (by omega) (sX11_sign h hI  (by omega)) (fun H125 r126 q127 o128 => ?_)
      obtain ⟨e129, y133, rfl, f130, f131, f132⟩ := q127
      subst H125
      clear o128
      refine fz_callS (d' := 0) (M' := mX11_nameOf) (As := [fz_i y133]) (st := []) kX11_isO rfl rfl vX11_nameOf rfl rfl (Nat.le_of_ble_eq_true rfl) (Nat.le_of_ble_eq_true rfl) (by omega) (sX11_nameOf h hI y133 ) (fun H134 r135 q136 o137 => ?_)
      obtain ⟨e138, y142, rfl, f139, f140, f141⟩ := q136
      subst H134
      clear o137
      refine fz_istore_n (ls' := [(1, fz_i y142), (0, fz_r 53)]) kX11_isO rfl (by decide) rfl ?_
      refine fz_iload_n kX11_isO rfl rfl ?_
      refine fz_if_lt (tgt := 94) kX11_isO rfl (by decide) (fun c143 => ?_) (fun c143 => ?_)
      · refine fz_aload_n kX11_isO rfl rfl ?_
        refine fz_getV (v := h 53 25) kX11_isO rfl rfl rfl ?_
        have b144 : 0 ≤ h 53 25 ∧ h 53 25 ≤ 6 := hI.1 53 _
        refine fz_eqi (show (h 53 25) = L by omega) ?_
        refine fz_bipush ⟨by decide, by decide⟩ kX11_isO rfl ?_
        refine fz_icmp_ne (tgt := 105) kX11_isO rfl (by decide) (fun c145 => ?_) (fun c145 => ?_)
        · refine fz_aload_n kX11_isO rfl rfl ?_
          refine fz_dup rfl kX11_isO rfl ?_
          refine fz_getV (v := h 53 25) kX11_isO rfl rfl rfl ?_
          refine fz_eqi (show (h 53 25) = L by omega) ?_
          refine fz_iconst ⟨by decide, by decide⟩ kX11_isO rfl ?_
          refine fz_iaddN kX11_isO rfl (by omega) ?_
          refine fz_eqi (y := (L + 1)) (by omega) ?_
          refine fz_putI kX11_isO rfl rfl rfl ?_
          refine fz_nmu (S := [(53, 24), (53, 25), (53, 26), (73, 99999)]) (h0 := h) (fz_Iv_up hI (by decide) (show (0 : Int) ≤ (L + 1) by omega) (show ((L + 1) : Int) ≤ 6 by omega)) (fz_fr_up hf rfl) (fun H146 hI147 hf148 e149 => ?_)
          have k150 : H146 53 24 = (h 53 24) := by rw [e149]; exact (fz_up_s (by decide)).trans rfl
          have k151 : H146 53 26 = (h 53 26) := by rw [e149]; exact (fz_up_s (by decide)).trans rfl
          have k152 : H146 53 25 = (L + 1) := by rw [e149]; exact fz_up_e
          have t153 : H146 53 24 = h 53 24 := by rw [e149]; exact fz_up_s (by decide)
          have t154 : H146 53 26 = h 53 26 := by rw [e149]; exact fz_up_s (by decide)
          have hCa155 : fz_Ca h H146 := fz_Ca_eq (by rw [e149]; exact fz_up_ne (by decide)) (by rw [e149]; exact fz_up_s (by decide)) hCa5
          have k156 : fl_gM H146 (H146 53 24) = fl_gM h (h 53 24) := fl_gMs (by rw [e149]; exact fz_up_ne (by decide)) (by rw [e149]; exact fz_up_s (by decide)) (by omega)
          refine fz_aload_n kX11_isO rfl rfl ?_
          refine fz_bipush ⟨by decide, by decide⟩ kX11_isO rfl ?_
          have b157 : 0 ≤ H146 53 24 ∧ H146 53 24 ≤ 120 := hI147.1 53 _
          have e158 : H146 53 16 = h 53 16 := hf148 53 16 rfl
          refine fz_callV (d' := 1) (M' := mX11_is) (As := [fz_i 33]) (st := []) kX11_isO rfl rfl vX11_is rfl rfl rfl rfl (Nat.le_of_ble_eq_true rfl) (Nat.le_of_ble_eq_true rfl) (by omega) (sX11_is H146 hI147 33 (by omega) (by omega)) (fun H159 r160 q161 o162 => ?_)
          obtain ⟨hI163, hf164, y167, rfl, p168, f165, f166⟩ := q161
          clear o162
          have hf169 := fz_fr_tr hf148 hf164 (show fz_su [(53, 24)] [(53, 24), (53, 25), (53, 26), (73, 99999)] = true from rfl)
          have k170 : H159 53 26 = (h 53 26) := (hf164 53 26 rfl).trans k151
          have k171 : H159 53 25 = (L + 1) := (hf164 53 25 rfl).trans k152
          have hCa172 : fz_Ca h H159 := fz_Ca_eq (funext fun s => hf164 73 s rfl) (hf164 53 26 rfl) hCa155
          have t173 : H159 53 26 = H146 53 26 := hf164 53 26 rfl
          refine fz_if_eq (tgt := 149) kX11_isO rfl (by decide) (fun c174 => ?_) (fun c174 => ?_)
          · have k175 : fl_gM H159 (H159 53 24) = fl_gM h (h 53 24) := fl_gMs (funext fun s => (hf164 65 s rfl).trans (by rw [e149]; exact congrFun (fz_up_ne (by decide)) s)) ((hf164 53 16 rfl).trans (by rw [e149]; exact fz_up_s (by decide))) (by omega)
            refine fz_aload_n kX11_isO rfl rfl ?_
            refine fz_bipush ⟨by decide, by decide⟩ kX11_isO rfl ?_
            have b176 : 0 ≤ H159 53 24 ∧ H159 53 24 ≤ 120 := hI163.1 53 _
            have e177 : H159 53 16 = h 53 16 := hf169 53 16 rfl
            refine fz_callV (d' := 1) (M' := mX11_is) (As := [fz_i 45]) (st := []) kX11_isO rfl rfl vX11_is rfl rfl rfl rfl (Nat.le_of_ble_eq_true rfl) (Nat.le_of_ble_eq_true rfl) (by omega) (sX11_is H159 hI163 45 (by omega) (by omega)) (fun H178 r179 q180 o181 => ?_)
            obtain ⟨hI182, hf183, y186, rfl, p187, f184, f185⟩ := q180
            clear o181
            have hf188 := fz_fr_tr hf169 hf183 (show fz_su [(53, 24)] [(53, 24), (53, 25), (53, 26), (73, 99999)] = true from rfl)
            have k189 : H178 53 26 = (h 53 26) := (hf183 53 26 rfl).trans k170
            have k190 : H178 53 25 = (L + 1) := (hf183 53 25 rfl).trans k171
            have hCa191 : fz_Ca h H178 := fz_Ca_eq (funext fun s => hf183 73 s rfl) (hf183 53 26 rfl) hCa172
            have t192 : H178 53 26 = H159 53 26 := hf183 53 26 rfl
            refine fz_if_eq (tgt := 183) kX11_isO rfl (by decide) (fun c193 => ?_) (fun c193 => ?_)
            · have k194 : fl_gM H178 (H178 53 24) = fl_gM h (h 53 24) := fl_gMs (funext fun s => (hf183 65 s rfl).trans ((hf164 65 s rfl).trans (by rw [e149]; exact congrFun (fz_up_ne (by decide)) s))) ((hf183 53 16 rfl).trans ((hf164 53 16 rfl).trans (by rw [e149]; exact fz_up_s (by decide)))) (by omega)
              refine fz_aload_n kX11_isO rfl rfl ?_
              refine fz_bipush ⟨by decide, by decide⟩ kX11_isO rfl ?_
              have b195 : 0 ≤ H178 53 24 ∧ H178 53 24 ≤ 120 := hI182.1 53 _
              have e196 : H178 53 16 = h 53 16 := hf188 53 16 rfl
              refine fz_callV (d' := 1) (M' := mX11_is) (As := [fz_i 40]) (st := []) kX11_isO rfl rfl vX11_is rfl rfl rfl rfl (Nat.le_of_ble_eq_true rfl) (Nat.le_of_ble_eq_true rfl) (by omega) (sX11_is H178 hI182 40 (by omega) (by omega)) (fun H197 r198 q199 o200 => ?_)
              obtain ⟨hI201, hf202, y205, rfl, p206, f203, f204⟩ := q199
              clear o200
              have hf207 := fz_fr_tr hf188 hf202 (show fz_su [(53, 24)] [(53, 24), (53, 25), (53, 26), (73, 99999)] = true from rfl)
              have k208 : H197 53 26 = (h 53 26) := (hf202 53 26 rfl).trans k189
              have k209 : H197 53 25 = (L + 1) := (hf202 53 25 rfl).trans k190
              have hCa210 : fz_Ca h H197 := fz_Ca_eq (funext fun s => hf202 73 s rfl) (hf202 53 26 rfl) hCa191
              have t211 : H197 53 26 = H178 53 26 := hf202 53 26 rfl
              refine fz_if_eq (tgt := 212) kX11_isO rfl (by decide) (fun c212 => ?_) (fun c212 => ?_)
              · refine fz_iconst ⟨by decide, by decide⟩ kX11_isO rfl ?_
                refine fz_istore_n (ls' := [(2, fz_i 0), (1, fz_i y142), (0, fz_r 53)]) kX11_isO rfl (by decide) rfl ?_
                refine fz_aload_n kX11_isO rfl rfl ?_
                refine fz_dup rfl kX11_isO rfl ?_
                refine fz_getV (v := (L + 1)) kX11_isO rfl rfl k209 ?_
                refine fz_iconst ⟨by decide, by decide⟩ kX11_isO rfl ?_
                refine fz_isubN kX11_isO rfl (by omega) ?_
                refine fz_eqi (y := L) (by omega) ?_
                refine fz_putI kX11_isO rfl rfl rfl ?_
                refine fz_nmu (S := [(53, 24), (53, 25), (53, 26), (73, 99999)]) (h0 := h) (fz_Iv_up hI201 (by decide) (show (0 : Int) ≤ L by omega) (show (L : Int) ≤ 6 by omega)) (fz_fr_up hf207 rfl) (fun H213 hI214 hf215 e216 => ?_)
                have k217 : H213 53 26 = (h 53 26) := by rw [e216]; exact (fz_up_s (by decide)).trans k208
                have k218 : H213 53 25 = L := by rw [e216]; exact fz_up_e
                have t219 : H213 53 24 = H197 53 24 := by rw [e216]; exact fz_up_s (by decide)
                have t220 : H213 53 26 = H197 53 26 := by rw [e216]; exact fz_up_s (by decide)
                have hCa221 : fz_Ca h H213 := fz_Ca_eq (by rw [e216]; exact fz_up_ne (by decide)) (by rw [e216]; exact fz_up_s (by decide)) hCa210
                refine fz_iload_n kX11_isO rfl rfl ?_
                exact fz_zret kX11_isO rfl rfl (by omega) ⟨hI214, hf215, _, rfl, (by omega), (by omega), (by omega), (by omega), (by omega), (by omega), (by omega), (by first | (intro z; exfalso; omega) | (intro _; exact lost)), (by first | exact fl_mO_num lost lost rfl lost rfl (by omega) (by omega) lost.1 | exact fl_mO_nam (by omega) f141 (by omega) (by omega) lost rfl lost (by omega) | exact fl_mO_un (k := k) (by omega) f141 (by omega) (by omega) (Or.inl ⟨by omega, rfl⟩) (by omega) (by omega) (funext fun s => (hf164 73 s rfl).trans (by rw [e149]; exact congrFun (fz_up_ne (by decide)) s)) (by omega) (fl_gM_e (funext fun s => (hf164 65 s rfl).trans (by rw [e149]; exact congrFun (fz_up_ne (by decide)) s)) ((hf164 53 16 rfl).trans (by rw [e149]; exact fz_up_s (by decide)))) lost (Or.inl ⟨by omega, ⟨_, lost, (by rw [e216]; exact fz_up_ne (by decide)), (by rw [e216]; exact fz_up_s (by decide))⟩, by omega, by omega⟩) | exact fl_mO_un (k := k) (by omega) f141 (by omega) (by omega) (Or.inl ⟨by omega, rfl⟩) (by omega) (by omega) (funext fun s => (hf164 73 s rfl).trans (by rw [e149]; exact congrFun (fz_up_ne (by decide)) s)) (by omega) (fl_gM_e (funext fun s => (hf164 65 s rfl).trans (by rw [e149]; exact congrFun (fz_up_ne (by decide)) s)) ((hf164 53 16 rfl).trans (by rw [e149]; exact fz_up_s (by decide)))) lost (Or.inr ⟨by omega, by omega, by omega⟩) | exact fl_mO_un (k := k) (by omega) f141 (by omega) (by omega) (Or.inr ⟨by omega, rfl⟩) (by omega) (by omega) (funext fun s => (hf183 73 s rfl).trans ((hf164 73 s rfl).trans (by rw [e149]; exact congrFun (fz_up_ne (by decide)) s))) (by omega) (fl_gM_e (funext fun s => (hf183 65 s rfl).trans ((hf164 65 s rfl).trans (by rw [e149]; exact congrFun (fz_up_ne (by decide)) s))) ((hf183 53 16 rfl).trans ((hf164 53 16 rfl).trans (by rw [e149]; exact fz_up_s (by decide))))) lost (Or.inl ⟨by omega, ⟨_, lost, (by rw [e216]; exact fz_up_ne (by decide)), (by rw [e216]; exact fz_up_s (by decide))⟩, by omega, by omega⟩) | exact fl_mO_un (k := k) (by omega) f141 (by omega) (by omega) (Or.inr ⟨by omega, rfl⟩) (by omega) (by omega) (funext fun s => (hf183 73 s rfl).trans ((hf164 73 s rfl).trans (by rw [e149]; exact congrFun (fz_up_ne (by decide)) s))) (by omega) (fl_gM_e (funext fun s => (hf183 65 s rfl).trans ((hf164 65 s rfl).trans (by rw [e149]; exact congrFun (fz_up_ne (by decide)) s))) ((hf183 53 16 rfl).trans ((hf164 53 16 rfl).trans (by rw [e149]; exact fz_up_s (by decide))))) lost (Or.inr ⟨by omega, by omega, by omega⟩) | exact fl_mO_par (k := k) (by omega) f141 (by omega) (by omega) (by omega) (by omega) (by omega) (funext fun s => (hf202 73 s rfl).trans ((hf183 73 s rfl).trans ((hf164 73 s rfl).trans (by rw [e149]; exact congrFun (fz_up_ne (by decide)) s)))) (fl_gM_e (funext fun s => (hf202 65 s rfl).trans ((hf183 65 s rfl).trans ((hf164 65 s rfl).trans (by rw [e149]; exact congrFun (fz_up_ne (by decide)) s)))) ((hf202 53 16 rfl).trans ((hf183 53 16 rfl).trans ((hf164 53 16 rfl).trans (by rw [e149]; exact fz_up_s (by decide)))))) lost (by rw [e216]; exact (fz_up_s (by decide)).trans (lost 53 26 rfl)) (by rw [e216, fz_up_ne (by decide)]; exact (funext fun s => lost 73 s rfl)) (Or.inl ⟨by omega, by omega, by omega, by omega⟩) | exact fl_mO_par (k := k) (by omega) f141 (by omega) (by omega) (by omega) (by omega) (by omega) (funext fun s => (hf202 73 s rfl).trans ((hf183 73 s rfl).trans ((hf164 73 s rfl).trans (by rw [e149]; exact congrFun (fz_up_ne (by decide)) s)))) (fl_gM_e (funext fun s => (hf202 65 s rfl).trans ((hf183 65 s rfl).trans ((hf164 65 s rfl).trans (by rw [e149]; exact congrFun (fz_up_ne (by decide)) s)))) ((hf202 53 16 rfl).trans ((hf183 53 16 rfl).trans ((hf164 53 16 rfl).trans (by rw [e149]; exact fz_up_s (by decide)))))) lost (by rw [e216]; exact (fz_up_s (by decide)).trans (lost 53 26 rfl)) (by rw [e216, fz_up_ne (by decide)]; exact (funext fun s => lost 73 s rfl)) (Or.inr (Or.inl ⟨by omega, by omega, by omega, by omega⟩)) | exact fl_mO_par (k := k) (by omega) f141 (by omega) (by omega) (by omega) (by omega) (by omega) (funext fun s => (hf202 73 s rfl).trans ((hf183 73 s rfl).trans ((hf164 73 s rfl).trans (by rw [e149]; exact congrFun (fz_up_ne (by decide)) s)))) (fl_gM_e (funext fun s => (hf202 65 s rfl).trans ((hf183 65 s rfl).trans ((hf164 65 s rfl).trans (by rw [e149]; exact congrFun (fz_up_ne (by decide)) s)))) ((hf202 53 16 rfl).trans ((hf183 53 16 rfl).trans ((hf164 53 16 rfl).trans (by rw [e149]; exact fz_up_s (by decide)))))) lost (by rw [e216]; exact (fz_up_s (by decide)).trans rfl) (by rw [e216, fz_up_ne (by decide)]) (Or.inr (Or.inr ⟨by omega, by omega, by omega⟩)) | exact fl_mO_no (k := k) (by omega) f141 (by omega) (by omega) ⟨by omega, by omega, by omega⟩ (by omega))⟩
              · refine fz_aload_n kX11_isO rfl rfl ?_
                have k224 := hCa210
                have b226 : 0 ≤ H197 53 25 ∧ H197 53 25 ≤ 6 := hI201.1 53 _
                have b227 : 0 ≤ H197 53 24 ∧ H197 53 24 ≤ 120 := hI201.1 53 _
                have b228 : 0 ≤ H197 53 26 ∧ H197 53 26 ≤ 200 := hI201.1 53 _
                have e229 : H197 53 16 = h 53 16 := hf207 53 16 rfl
                refine fz_callV (d' := (D + 7)) (M' := mX11_isE) (As := []) (st := []) kX11_isO rfl rfl vX11_isE rfl rfl rfl rfl (Nat.le_of_ble_eq_true rfl) (Nat.le_of_ble_eq_true rfl) (by omega) (ihE H197 hI201  (by omega) (by omega) (by omega)) (fun H230 r231 q232 o233 => ?_)
                obtain ⟨hI234, hf235, y244, rfl, p245, f236, f237, f238, f239, f240, f241, f242, f243⟩ := q232
                clear o233
                have hf246 := fz_fr_tr hf207 hf235 (show fz_su [(53, 24), (53, 25), (53, 26), (73, 99999)] [(53, 24), (53, 25), (53, 26), (73, 99999)] = true from rfl)
                refine fz_if_eq (tgt := 212) kX11_isO rfl (by decide) (fun c247 => ?_) (fun c247 => ?_)
                · refine fz_iconst ⟨by decide, by decide⟩ kX11_isO rfl ?_
                  refine fz_istore_n (ls' := [(2, fz_i 0), (1, fz_i y142), (0, fz_r 53)]) kX11_isO rfl (by decide) rfl ?_
                  refine fz_aload_n kX11_isO rfl rfl ?_
                  refine fz_dup rfl kX11_isO rfl ?_
                  refine fz_getV (v := (L + 1)) kX11_isO rfl rfl f236 ?_
                  refine fz_iconst ⟨by decide, by decide⟩ kX11_isO rfl ?_
                  refine fz_isubN kX11_isO rfl (by omega) ?_
                  refine fz_eqi (y := L) (by omega) ?_
                  refine fz_putI kX11_isO rfl rfl rfl ?_
                  refine fz_nmu (S := [(53, 24), (53, 25), (53, 26), (73, 99999)]) (h0 := h) (fz_Iv_up hI234 (by decide) (show (0 : Int) ≤ L by omega) (show (L : Int) ≤ 6 by omega)) (fz_fr_up hf246 rfl) (fun H248 hI249 hf250 e251 => ?_)
                  have k252 : H248 53 25 = L := by rw [e251]; exact fz_up_e
                  have t253 : H248 53 24 = H230 53 24 := by rw [e251]; exact fz_up_s (by decide)
                  have t254 : H248 53 26 = H230 53 26 := by rw [e251]; exact fz_up_s (by decide)
                  refine fz_iload_n kX11_isO rfl rfl ?_
                  exact fz_zret kX11_isO rfl rfl (by omega) ⟨hI249, hf250, _, rfl, (by omega), (by omega), (by omega), (by omega), (by omega), (by omega), (by omega), (by first | (intro z; exfalso; omega) | (intro _; exact lost)), (by first | exact fl_mO_num lost lost rfl lost rfl (by omega) (by omega) k224.1 | exact fl_mO_nam (by omega) f141 (by omega) (by omega) lost rfl lost (by omega) | exact fl_mO_un (k := k) (by omega) f141 (by omega) (by omega) (Or.inl ⟨by omega, rfl⟩) (by omega) (by omega) (funext fun s => (hf164 73 s rfl).trans (by rw [e149]; exact congrFun (fz_up_ne (by decide)) s)) (by omega) (fl_gM_e (funext fun s => (hf164 65 s rfl).trans (by rw [e149]; exact congrFun (fz_up_ne (by decide)) s)) ((hf164 53 16 rfl).trans (by rw [e149]; exact fz_up_s (by decide)))) f243 (Or.inl ⟨by omega, ⟨_, lost, (by rw [e251]; exact fz_up_ne (by decide)), (by rw [e251]; exact fz_up_s (by decide))⟩, by omega, by omega⟩) | exact fl_mO_un (k := k) (by omega) f141 (by omega) (by omega) (Or.inl ⟨by omega, rfl⟩) (by omega) (by omega) (funext fun s => (hf164 73 s rfl).trans (by rw [e149]; exact congrFun (fz_up_ne (by decide)) s)) (by omega) (fl_gM_e (funext fun s => (hf164 65 s rfl).trans (by rw [e149]; exact congrFun (fz_up_ne (by decide)) s)) ((hf164 53 16 rfl).trans (by rw [e149]; exact fz_up_s (by decide)))) f243 (Or.inr ⟨by omega, by omega, by omega⟩) | exact fl_mO_un (k := k) (by omega) f141 (by omega) (by omega) (Or.inr ⟨by omega, rfl⟩) (by omega) (by omega) (funext fun s => (hf183 73 s rfl).trans ((hf164 73 s rfl).trans (by rw [e149]; exact congrFun (fz_up_ne (by decide)) s))) (by omega) (fl_gM_e (funext fun s => (hf183 65 s rfl).trans ((hf164 65 s rfl).trans (by rw [e149]; exact congrFun (fz_up_ne (by decide)) s))) ((hf183 53 16 rfl).trans ((hf164 53 16 rfl).trans (by rw [e149]; exact fz_up_s (by decide))))) f243 (Or.inl ⟨by omega, ⟨_, lost, (by rw [e251]; exact fz_up_ne (by decide)), (by rw [e251]; exact fz_up_s (by decide))⟩, by omega, by omega⟩) | exact fl_mO_un (k := k) (by omega) f141 (by omega) (by omega) (Or.inr ⟨by omega, rfl⟩) (by omega) (by omega) (funext fun s => (hf183 73 s rfl).trans ((hf164 73 s rfl).trans (by rw [e149]; exact congrFun (fz_up_ne (by decide)) s))) (by omega) (fl_gM_e (funext fun s => (hf183 65 s rfl).trans ((hf164 65 s rfl).trans (by rw [e149]; exact congrFun (fz_up_ne (by decide)) s))) ((hf183 53 16 rfl).trans ((hf164 53 16 rfl).trans (by rw [e149]; exact fz_up_s (by decide))))) f243 (Or.inr ⟨by omega, by omega, by omega⟩) | exact fl_mO_par (k := k) (by omega) f141 (by omega) (by omega) (by omega) (by omega) (by omega) (funext fun s => (hf202 73 s rfl).trans ((hf183 73 s rfl).trans ((hf164 73 s rfl).trans (by rw [e149]; exact congrFun (fz_up_ne (by decide)) s)))) (fl_gM_e (funext fun s => (hf202 65 s rfl).trans ((hf183 65 s rfl).trans ((hf164 65 s rfl).trans (by rw [e149]; exact congrFun (fz_up_ne (by decide)) s)))) ((hf202 53 16 rfl).trans ((hf183 53 16 rfl).trans ((hf164 53 16 rfl).trans (by rw [e149]; exact fz_up_s (by decide)))))) f243 (by rw [e251]; exact (fz_up_s (by decide)).trans (lost 53 26 rfl)) (by rw [e251, fz_up_ne (by decide)]; exact (funext fun s => lost 73 s rfl)) (Or.inl ⟨by omega, by omega, by omega, by omega⟩) | exact fl_mO_par (k := k) (by omega) f141 (by omega) (by omega) (by omega) (by omega) (by omega) (funext fun s => (hf202 73 s rfl).trans ((hf183 73 s rfl).trans ((hf164 73 s rfl).trans (by rw [e149]; exact congrFun (fz_up_ne (by decide)) s)))) (fl_gM_e (funext fun s => (hf202 65 s rfl).trans ((hf183 65 s rfl).trans ((hf164 65 s rfl).trans (by rw [e149]; exact congrFun (fz_up_ne (by decide)) s)))) ((hf202 53 16 rfl).trans ((hf183 53 16 rfl).trans ((hf164 53 16 rfl).trans (by rw [e149]; exact fz_up_s (by decide)))))) f243 (by rw [e251]; exact (fz_up_s (by decide)).trans (lost 53 26 rfl)) (by rw [e251, fz_up_ne (by decide)]; exact (funext fun s => lost 73 s rfl)) (Or.inr (Or.inl ⟨by omega, by omega, by omega, by omega⟩)) | exact fl_mO_par (k := k) (by omega) f141 (by omega) (by omega) (by omega) (by omega) (by omega) (funext fun s => (hf202 73 s rfl).trans ((hf183 73 s rfl).trans ((hf164 73 s rfl).trans (by rw [e149]; exact congrFun (fz_up_ne (by decide)) s)))) (fl_gM_e (funext fun s => (hf202 65 s rfl).trans ((hf183 65 s rfl).trans ((hf164 65 s rfl).trans (by rw [e149]; exact congrFun (fz_up_ne (by decide)) s)))) ((hf202 53 16 rfl).trans ((hf183 53 16 rfl).trans ((hf164 53 16 rfl).trans (by rw [e149]; exact fz_up_s (by decide)))))) f243 (by rw [e251]; exact (fz_up_s (by decide)).trans rfl) (by rw [e251, fz_up_ne (by decide)]) (Or.inr (Or.inr ⟨by omega, by omega, by omega⟩)) | exact fl_mO_no (k := k) (by omega) f141 (by omega) (by omega) ⟨by omega, by omega, by omega⟩ (by omega))⟩
                · have hPa257 : fz_Pa h H230 := fz_Pa_of k224 (f242 (by omega))
                  have k259 : fl_gM H230 (H230 53 24) = fl_gM h (H230 53 24) := fl_gMe2 (funext fun s => (hf235 65 s rfl).trans (congrFun (funext fun s => (hf202 65 s rfl).trans ((hf183 65 s rfl).trans ((hf164 65 s rfl).trans (by rw [e149]; exact congrFun (fz_up_ne (by decide)) s)))) s)) ((hf235 53 16 rfl).trans ((hf202 53 16 rfl).trans ((hf183 53 16 rfl).trans ((hf164 53 16 rfl).trans (by rw [e149]; exact fz_up_s (by decide))))))
                  refine fz_aload_n kX11_isO rfl rfl ?_
                  refine fz_bipush ⟨by decide, by decide⟩ kX11_isO rfl ?_
                  have b260 : 0 ≤ H230 53 24 ∧ H230 53 24 ≤ 120 := hI234.1 53 _
                  have e261 : H230 53 16 = h 53 16 := hf246 53 16 rfl
                  refine fz_callV (d' := 1) (M' := mX11_is) (As := [fz_i 41]) (st := []) kX11_isO rfl rfl vX11_is rfl rfl rfl rfl (Nat.le_of_ble_eq_true rfl) (Nat.le_of_ble_eq_true rfl) (by omega) (sX11_is H230 hI234 41 (by omega) (by omega)) (fun H262 r263 q264 o265 => ?_)
                  obtain ⟨hI266, hf267, y270, rfl, p271, f268, f269⟩ := q264
                  clear o265
                  have hf272 := fz_fr_tr hf246 hf267 (show fz_su [(53, 24)] [(53, 24), (53, 25), (53, 26), (73, 99999)] = true from rfl)
                  have k273 : H262 53 25 = (L + 1) := (hf267 53 25 rfl).trans f236
                  have hPa274 : fz_Pa h H262 := fz_Pa_eq (funext fun s => hf267 73 s rfl) (hf267 53 26 rfl) hPa257
                  have t275 : H262 53 26 = H230 53 26 := hf267 53 26 rfl
                  refine fz_if_eq (tgt := 212) kX11_isO rfl (by decide) (fun c276 => ?_) (fun c276 => ?_)
                  · refine fz_iconst ⟨by decide, by decide⟩ kX11_isO rfl ?_
                    refine fz_istore_n (ls' := [(2, fz_i 0), (1, fz_i y142), (0, fz_r 53)]) kX11_isO rfl (by decide) rfl ?_
                    refine fz_aload_n kX11_isO rfl rfl ?_
                    refine fz_dup rfl kX11_isO rfl ?_
                    refine fz_getV (v := (L + 1)) kX11_isO rfl rfl k273 ?_
                    refine fz_iconst ⟨by decide, by decide⟩ kX11_isO rfl ?_
                    refine fz_isubN kX11_isO rfl (by omega) ?_
                    refine fz_eqi (y := L) (by omega) ?_
                    refine fz_putI kX11_isO rfl rfl rfl ?_
                    refine fz_nmu (S := [(53, 24), (53, 25), (53, 26), (73, 99999)]) (h0 := h) (fz_Iv_up hI266 (by decide) (show (0 : Int) ≤ L by omega) (show (L : Int) ≤ 6 by omega)) (fz_fr_up hf272 rfl) (fun H277 hI278 hf279 e280 => ?_)
                    have k281 : H277 53 25 = L := by rw [e280]; exact fz_up_e
                    have t282 : H277 53 24 = H262 53 24 := by rw [e280]; exact fz_up_s (by decide)
                    have t283 : H277 53 26 = H262 53 26 := by rw [e280]; exact fz_up_s (by decide)
                    have hPa284 : fz_Pa h H277 := fz_Pa_eq (by rw [e280]; exact fz_up_ne (by decide)) (by rw [e280]; exact fz_up_s (by decide)) hPa274
                    refine fz_iload_n kX11_isO rfl rfl ?_
                    exact fz_zret kX11_isO rfl rfl (by omega) ⟨hI278, hf279, _, rfl, (by omega), (by omega), (by omega), (by omega), (by omega), (by omega), (by omega), (by first | (intro z; exfalso; omega) | (intro _; exact hPa284)), (by first | exact fl_mO_num lost lost rfl lost rfl (by omega) (by omega) k224.1 | exact fl_mO_nam (by omega) f141 (by omega) (by omega) lost rfl lost (by omega) | exact fl_mO_un (k := k) (by omega) f141 (by omega) (by omega) (Or.inl ⟨by omega, rfl⟩) (by omega) (by omega) (funext fun s => (hf164 73 s rfl).trans (by rw [e149]; exact congrFun (fz_up_ne (by decide)) s)) (by omega) (fl_gM_e (funext fun s => (hf164 65 s rfl).trans (by rw [e149]; exact congrFun (fz_up_ne (by decide)) s)) ((hf164 53 16 rfl).trans (by rw [e149]; exact fz_up_s (by decide)))) f243 (Or.inl ⟨by omega, ⟨_, lost, (by rw [e280]; exact fz_up_ne (by decide)), (by rw [e280]; exact fz_up_s (by decide))⟩, by omega, by omega⟩) | exact fl_mO_un (k := k) (by omega) f141 (by omega) (by omega) (Or.inl ⟨by omega, rfl⟩) (by omega) (by omega) (funext fun s => (hf164 73 s rfl).trans (by rw [e149]; exact congrFun (fz_up_ne (by decide)) s)) (by omega) (fl_gM_e (funext fun s => (hf164 65 s rfl).trans (by rw [e149]; exact congrFun (fz_up_ne (by decide)) s)) ((hf164 53 16 rfl).trans (by rw [e149]; exact fz_up_s (by decide)))) f243 (Or.inr ⟨by omega, by omega, by omega⟩) | exact fl_mO_un (k := k) (by omega) f141 (by omega) (by omega) (Or.inr ⟨by omega, rfl⟩) (by omega) (by omega) (funext fun s => (hf183 73 s rfl).trans ((hf164 73 s rfl).trans (by rw [e149]; exact congrFun (fz_up_ne (by decide)) s))) (by omega) (fl_gM_e (funext fun s => (hf183 65 s rfl).trans ((hf164 65 s rfl).trans (by rw [e149]; exact congrFun (fz_up_ne (by decide)) s))) ((hf183 53 16 rfl).trans ((hf164 53 16 rfl).trans (by rw [e149]; exact fz_up_s (by decide))))) f243 (Or.inl ⟨by omega, ⟨_, lost, (by rw [e280]; exact fz_up_ne (by decide)), (by rw [e280]; exact fz_up_s (by decide))⟩, by omega, by omega⟩) | exact fl_mO_un (k := k) (by omega) f141 (by omega) (by omega) (Or.inr ⟨by omega, rfl⟩) (by omega) (by omega) (funext fun s => (hf183 73 s rfl).trans ((hf164 73 s rfl).trans (by rw [e149]; exact congrFun (fz_up_ne (by decide)) s))) (by omega) (fl_gM_e (funext fun s => (hf183 65 s rfl).trans ((hf164 65 s rfl).trans (by rw [e149]; exact congrFun (fz_up_ne (by decide)) s))) ((hf183 53 16 rfl).trans ((hf164 53 16 rfl).trans (by rw [e149]; exact fz_up_s (by decide))))) f243 (Or.inr ⟨by omega, by omega, by omega⟩) | exact fl_mO_par (k := k) (by omega) f141 (by omega) (by omega) (by omega) (by omega) (by omega) (funext fun s => (hf202 73 s rfl).trans ((hf183 73 s rfl).trans ((hf164 73 s rfl).trans (by rw [e149]; exact congrFun (fz_up_ne (by decide)) s)))) (fl_gM_e (funext fun s => (hf202 65 s rfl).trans ((hf183 65 s rfl).trans ((hf164 65 s rfl).trans (by rw [e149]; exact congrFun (fz_up_ne (by decide)) s)))) ((hf202 53 16 rfl).trans ((hf183 53 16 rfl).trans ((hf164 53 16 rfl).trans (by rw [e149]; exact fz_up_s (by decide)))))) f243 (by rw [e280]; exact (fz_up_s (by decide)).trans (hf267 53 26 rfl)) (by rw [e280, fz_up_ne (by decide)]; exact (funext fun s => hf267 73 s rfl)) (Or.inl ⟨by omega, by omega, by omega, by omega⟩) | exact fl_mO_par (k := k) (by omega) f141 (by omega) (by omega) (by omega) (by omega) (by omega) (funext fun s => (hf202 73 s rfl).trans ((hf183 73 s rfl).trans ((hf164 73 s rfl).trans (by rw [e149]; exact congrFun (fz_up_ne (by decide)) s)))) (fl_gM_e (funext fun s => (hf202 65 s rfl).trans ((hf183 65 s rfl).trans ((hf164 65 s rfl).trans (by rw [e149]; exact congrFun (fz_up_ne (by decide)) s)))) ((hf202 53 16 rfl).trans ((hf183 53 16 rfl).trans ((hf164 53 16 rfl).trans (by rw [e149]; exact fz_up_s (by decide)))))) f243 (by rw [e280]; exact (fz_up_s (by decide)).trans (hf267 53 26 rfl)) (by rw [e280, fz_up_ne (by decide)]; exact (funext fun s => hf267 73 s rfl)) (Or.inr (Or.inl ⟨by omega, by omega, by omega, by omega⟩)) | exact fl_mO_par (k := k) (by omega) f141 (by omega) (by omega) (by omega) (by omega) (by omega) (funext fun s => (hf202 73 s rfl).trans ((hf183 73 s rfl).trans ((hf164 73 s rfl).trans (by rw [e149]; exact congrFun (fz_up_ne (by decide)) s)))) (fl_gM_e (funext fun s => (hf202 65 s rfl).trans ((hf183 65 s rfl).trans ((hf164 65 s rfl).trans (by rw [e149]; exact congrFun (fz_up_ne (by decide)) s)))) ((hf202 53 16 rfl).trans ((hf183 53 16 rfl).trans ((hf164 53 16 rfl).trans (by rw [e149]; exact fz_up_s (by decide)))))) f243 (by rw [e280]; exact (fz_up_s (by decide)).trans rfl) (by rw [e280, fz_up_ne (by decide)]) (Or.inr (Or.inr ⟨by omega, by omega, by omega⟩)) | exact fl_mO_no (k := k) (by omega) f141 (by omega) (by omega) ⟨by omega, by omega, by omega⟩ (by omega))⟩
                  · refine fz_iconst ⟨by decide, by decide⟩ kX11_isO rfl ?_
                    refine fz_goto (tgt := 213) kX11_isO rfl (by decide) ?_
                    refine fz_istore_n (ls' := [(2, fz_i 1), (1, fz_i y142), (0, fz_r 53)]) kX11_isO rfl (by decide) rfl ?_
                    refine fz_aload_n kX11_isO rfl rfl ?_
                    refine fz_dup rfl kX11_isO rfl ?_
                    refine fz_getV (v := (L + 1)) kX11_isO rfl rfl k273 ?_
                    refine fz_iconst ⟨by decide, by decide⟩ kX11_isO rfl ?_
                    refine fz_isubN kX11_isO rfl (by omega) ?_
                    refine fz_eqi (y := L) (by omega) ?_
                    refine fz_putI kX11_isO rfl rfl rfl ?_
                    refine fz_nmu (S := [(53, 24), (53, 25), (53, 26), (73, 99999)]) (h0 := h) (fz_Iv_up hI266 (by decide) (show (0 : Int) ≤ L by omega) (show (L : Int) ≤ 6 by omega)) (fz_fr_up hf272 rfl) (fun H287 hI288 hf289 e290 => ?_)
                    have k291 : H287 53 25 = L := by rw [e290]; exact fz_up_e
                    have t292 : H287 53 24 = H262 53 24 := by rw [e290]; exact fz_up_s (by decide)
                    have t293 : H287 53 26 = H262 53 26 := by rw [e290]; exact fz_up_s (by decide)
                    have hPa294 : fz_Pa h H287 := fz_Pa_eq (by rw [e290]; exact fz_up_ne (by decide)) (by rw [e290]; exact fz_up_s (by decide)) hPa274
                    refine fz_iload_n kX11_isO rfl rfl ?_
                    exact fz_zret kX11_isO rfl rfl (by omega) ⟨hI288, hf289, _, rfl, (by omega), (by omega), (by omega), (by omega), (by omega), (by omega), (by omega), (by first | (intro z; exfalso; omega) | (intro _; exact hPa294)), (by first | exact fl_mO_num lost lost rfl lost rfl (by omega) (by omega) k224.1 | exact fl_mO_nam (by omega) f141 (by omega) (by omega) lost rfl lost (by omega) | exact fl_mO_un (k := k) (by omega) f141 (by omega) (by omega) (Or.inl ⟨by omega, rfl⟩) (by omega) (by omega) (funext fun s => (hf164 73 s rfl).trans (by rw [e149]; exact congrFun (fz_up_ne (by decide)) s)) (by omega) (fl_gM_e (funext fun s => (hf164 65 s rfl).trans (by rw [e149]; exact congrFun (fz_up_ne (by decide)) s)) ((hf164 53 16 rfl).trans (by rw [e149]; exact fz_up_s (by decide)))) f243 (Or.inl ⟨by omega, ⟨_, lost, (by rw [e290]; exact fz_up_ne (by decide)), (by rw [e290]; exact fz_up_s (by decide))⟩, by omega, by omega⟩) | exact fl_mO_un (k := k) (by omega) f141 (by omega) (by omega) (Or.inl ⟨by omega, rfl⟩) (by omega) (by omega) (funext fun s => (hf164 73 s rfl).trans (by rw [e149]; exact congrFun (fz_up_ne (by decide)) s)) (by omega) (fl_gM_e (funext fun s => (hf164 65 s rfl).trans (by rw [e149]; exact congrFun (fz_up_ne (by decide)) s)) ((hf164 53 16 rfl).trans (by rw [e149]; exact fz_up_s (by decide)))) f243 (Or.inr ⟨by omega, by omega, by omega⟩) | exact fl_mO_un (k := k) (by omega) f141 (by omega) (by omega) (Or.inr ⟨by omega, rfl⟩) (by omega) (by omega) (funext fun s => (hf183 73 s rfl).trans ((hf164 73 s rfl).trans (by rw [e149]; exact congrFun (fz_up_ne (by decide)) s))) (by omega) (fl_gM_e (funext fun s => (hf183 65 s rfl).trans ((hf164 65 s rfl).trans (by rw [e149]; exact congrFun (fz_up_ne (by decide)) s))) ((hf183 53 16 rfl).trans ((hf164 53 16 rfl).trans (by rw [e149]; exact fz_up_s (by decide))))) f243 (Or.inl ⟨by omega, ⟨_, lost, (by rw [e290]; exact fz_up_ne (by decide)), (by rw [e290]; exact fz_up_s (by decide))⟩, by omega, by omega⟩) | exact fl_mO_un (k := k) (by omega) f141 (by omega) (by omega) (Or.inr ⟨by omega, rfl⟩) (by omega) (by omega) (funext fun s => (hf183 73 s rfl).trans ((hf164 73 s rfl).trans (by rw [e149]; exact congrFun (fz_up_ne (by decide)) s))) (by omega) (fl_gM_e (funext fun s => (hf183 65 s rfl).trans ((hf164 65 s rfl).trans (by rw [e149]; exact congrFun (fz_up_ne (by decide)) s))) ((hf183 53 16 rfl).trans ((hf164 53 16 rfl).trans (by rw [e149]; exact fz_up_s (by decide))))) f243 (Or.inr ⟨by omega, by omega, by omega⟩) | exact fl_mO_par (k := k) (by omega) f141 (by omega) (by omega) (by omega) (by omega) (by omega) (funext fun s => (hf202 73 s rfl).trans ((hf183 73 s rfl).trans ((hf164 73 s rfl).trans (by rw [e149]; exact congrFun (fz_up_ne (by decide)) s)))) (fl_gM_e (funext fun s => (hf202 65 s rfl).trans ((hf183 65 s rfl).trans ((hf164 65 s rfl).trans (by rw [e149]; exact congrFun (fz_up_ne (by decide)) s)))) ((hf202 53 16 rfl).trans ((hf183 53 16 rfl).trans ((hf164 53 16 rfl).trans (by rw [e149]; exact fz_up_s (by decide)))))) f243 (by rw [e290]; exact (fz_up_s (by decide)).trans (hf267 53 26 rfl)) (by rw [e290, fz_up_ne (by decide)]; exact (funext fun s => hf267 73 s rfl)) (Or.inl ⟨by omega, by omega, by omega, by omega⟩) | exact fl_mO_par (k := k) (by omega) f141 (by omega) (by omega) (by omega) (by omega) (by omega) (funext fun s => (hf202 73 s rfl).trans ((hf183 73 s rfl).trans ((hf164 73 s rfl).trans (by rw [e149]; exact congrFun (fz_up_ne (by decide)) s)))) (fl_gM_e (funext fun s => (hf202 65 s rfl).trans ((hf183 65 s rfl).trans ((hf164 65 s rfl).trans (by rw [e149]; exact congrFun (fz_up_ne (by decide)) s)))) ((hf202 53 16 rfl).trans ((hf183 53 16 rfl).trans ((hf164 53 16 rfl).trans (by rw [e149]; exact fz_up_s (by decide)))))) f243 (by rw [e290]; exact (fz_up_s (by decide)).trans (hf267 53 26 rfl)) (by rw [e290, fz_up_ne (by decide)]; exact (funext fun s => hf267 73 s rfl)) (Or.inr (Or.inl ⟨by omega, by omega, by omega, by omega⟩)) | exact fl_mO_par (k := k) (by omega) f141 (by omega) (by omega) (by omega) (by omega) (by omega) (funext fun s => (hf202 73 s rfl).trans ((hf183 73 s rfl).trans ((hf164 73 s rfl).trans (by rw [e149]; exact congrFun (fz_up_ne (by decide)) s)))) (fl_gM_e (funext fun s => (hf202 65 s rfl).trans ((hf183 65 s rfl).trans ((hf164 65 s rfl).trans (by rw [e149]; exact congrFun (fz_up_ne (by decide)) s)))) ((hf202 53 16 rfl).trans ((hf183 53 16 rfl).trans ((hf164 53 16 rfl).trans (by rw [e149]; exact fz_up_s (by decide)))))) f243 (by rw [e290]; exact (fz_up_s (by decide)).trans rfl) (by rw [e290, fz_up_ne (by decide)]) (Or.inr (Or.inr ⟨by omega, by omega, by omega⟩)) | exact fl_mO_no (k := k) (by omega) f141 (by omega) (by omega) ⟨by omega, by omega, by omega⟩ (by omega))⟩
            · refine fz_aload_n kX11_isO rfl rfl ?_
              have k297 := hCa191
              have b299 : 0 ≤ H178 53 25 ∧ H178 53 25 ≤ 6 := hI182.1 53 _
              have b300 : 0 ≤ H178 53 24 ∧ H178 53 24 ≤ 120 := hI182.1 53 _
              have b301 : 0 ≤ H178 53 26 ∧ H178 53 26 ≤ 200 := hI182.1 53 _
              have e302 : H178 53 16 = h 53 16 := hf188 53 16 rfl
              refine fz_callV (d' := (D + 2)) (M' := mX11_isO) (As := []) (st := []) kX11_isO rfl rfl vX11_isO rfl rfl rfl rfl (Nat.le_of_ble_eq_true rfl) (Nat.le_of_ble_eq_true rfl) (by omega) (ihO H178 hI182  (by omega) (by omega) (by omega)) (fun H303 r304 q305 o306 => ?_)
              obtain ⟨hI307, hf308, y317, rfl, p318, f309, f310, f311, f312, f313, f314, f315, f316⟩ := q305
              clear o306
              have hf319 := fz_fr_tr hf188 hf308 (show fz_su [(53, 24), (53, 25), (53, 26), (73, 99999)] [(53, 24), (53, 25), (53, 26), (73, 99999)] = true from rfl)
              refine fz_if_eq (tgt := 178) kX11_isO rfl (by decide) (fun c320 => ?_) (fun c320 => ?_)
              · refine fz_iconst ⟨by decide, by decide⟩ kX11_isO rfl ?_
                refine fz_istore_n (ls' := [(2, fz_i 0), (1, fz_i y142), (0, fz_r 53)]) kX11_isO rfl (by decide) rfl ?_
                refine fz_goto (tgt := 214) kX11_isO rfl (by decide) ?_
                refine fz_aload_n kX11_isO rfl rfl ?_
                refine fz_dup rfl kX11_isO rfl ?_
                refine fz_getV (v := (L + 1)) kX11_isO rfl rfl f309 ?_
                refine fz_iconst ⟨by decide, by decide⟩ kX11_isO rfl ?_
                refine fz_isubN kX11_isO rfl (by omega) ?_
                refine fz_eqi (y := L) (by omega) ?_
                refine fz_putI kX11_isO rfl rfl rfl ?_
                refine fz_nmu (S := [(53, 24), (53, 25), (53, 26), (73, 99999)]) (h0 := h) (fz_Iv_up hI307 (by decide) (show (0 : Int) ≤ L by omega) (show (L : Int) ≤ 6 by omega)) (fz_fr_up hf319 rfl) (fun H321 hI322 hf323 e324 => ?_)
                have k325 : H321 53 25 = L := by rw [e324]; exact fz_up_e
                have t326 : H321 53 24 = H303 53 24 := by rw [e324]; exact fz_up_s (by decide)
                have t327 : H321 53 26 = H303 53 26 := by rw [e324]; exact fz_up_s (by decide)
                refine fz_iload_n kX11_isO rfl rfl ?_
                exact fz_zret kX11_isO rfl rfl (by omega) ⟨hI322, hf323, _, rfl, (by omega), (by omega), (by omega), (by omega), (by omega), (by omega), (by omega), (by first | (intro z; exfalso; omega) | (intro _; exact lost)), (by first | exact fl_mO_num lost lost rfl lost rfl (by omega) (by omega) k297.1 | exact fl_mO_nam (by omega) f141 (by omega) (by omega) lost rfl lost (by omega) | exact fl_mO_un (k := k) (by omega) f141 (by omega) (by omega) (Or.inl ⟨by omega, rfl⟩) (by omega) (by omega) (funext fun s => (hf164 73 s rfl).trans (by rw [e149]; exact congrFun (fz_up_ne (by decide)) s)) (by omega) (fl_gM_e (funext fun s => (hf164 65 s rfl).trans (by rw [e149]; exact congrFun (fz_up_ne (by decide)) s)) ((hf164 53 16 rfl).trans (by rw [e149]; exact fz_up_s (by decide)))) f316 (Or.inl ⟨by omega, ⟨_, lost, (by rw [e324]; exact fz_up_ne (by decide)), (by rw [e324]; exact fz_up_s (by decide))⟩, by omega, by omega⟩) | exact fl_mO_un (k := k) (by omega) f141 (by omega) (by omega) (Or.inl ⟨by omega, rfl⟩) (by omega) (by omega) (funext fun s => (hf164 73 s rfl).trans (by rw [e149]; exact congrFun (fz_up_ne (by decide)) s)) (by omega) (fl_gM_e (funext fun s => (hf164 65 s rfl).trans (by rw [e149]; exact congrFun (fz_up_ne (by decide)) s)) ((hf164 53 16 rfl).trans (by rw [e149]; exact fz_up_s (by decide)))) f316 (Or.inr ⟨by omega, by omega, by omega⟩) | exact fl_mO_un (k := k) (by omega) f141 (by omega) (by omega) (Or.inr ⟨by omega, rfl⟩) (by omega) (by omega) (funext fun s => (hf183 73 s rfl).trans ((hf164 73 s rfl).trans (by rw [e149]; exact congrFun (fz_up_ne (by decide)) s))) (by omega) (fl_gM_e (funext fun s => (hf183 65 s rfl).trans ((hf164 65 s rfl).trans (by rw [e149]; exact congrFun (fz_up_ne (by decide)) s))) ((hf183 53 16 rfl).trans ((hf164 53 16 rfl).trans (by rw [e149]; exact fz_up_s (by decide))))) f316 (Or.inl ⟨by omega, ⟨_, lost, (by rw [e324]; exact fz_up_ne (by decide)), (by rw [e324]; exact fz_up_s (by decide))⟩, by omega, by omega⟩) | exact fl_mO_un (k := k) (by omega) f141 (by omega) (by omega) (Or.inr ⟨by omega, rfl⟩) (by omega) (by omega) (funext fun s => (hf183 73 s rfl).trans ((hf164 73 s rfl).trans (by rw [e149]; exact congrFun (fz_up_ne (by decide)) s))) (by omega) (fl_gM_e (funext fun s => (hf183 65 s rfl).trans ((hf164 65 s rfl).trans (by rw [e149]; exact congrFun (fz_up_ne (by decide)) s))) ((hf183 53 16 rfl).trans ((hf164 53 16 rfl).trans (by rw [e149]; exact fz_up_s (by decide))))) f316 (Or.inr ⟨by omega, by omega, by omega⟩) | exact fl_mO_par (k := k) (by omega) f141 (by omega) (by omega) (by omega) (by omega) (by omega) (funext fun s => (lost 73 s rfl).trans ((hf183 73 s rfl).trans ((hf164 73 s rfl).trans (by rw [e149]; exact congrFun (fz_up_ne (by decide)) s)))) (fl_gM_e (funext fun s => (lost 65 s rfl).trans ((hf183 65 s rfl).trans ((hf164 65 s rfl).trans (by rw [e149]; exact congrFun (fz_up_ne (by decide)) s)))) ((lost 53 16 rfl).trans ((hf183 53 16 rfl).trans ((hf164 53 16 rfl).trans (by rw [e149]; exact fz_up_s (by decide)))))) f316 (by rw [e324]; exact (fz_up_s (by decide)).trans (lost 53 26 rfl)) (by rw [e324, fz_up_ne (by decide)]; exact (funext fun s => lost 73 s rfl)) (Or.inl ⟨by omega, by omega, by omega, by omega⟩) | exact fl_mO_par (k := k) (by omega) f141 (by omega) (by omega) (by omega) (by omega) (by omega) (funext fun s => (lost 73 s rfl).trans ((hf183 73 s rfl).trans ((hf164 73 s rfl).trans (by rw [e149]; exact congrFun (fz_up_ne (by decide)) s)))) (fl_gM_e (funext fun s => (lost 65 s rfl).trans ((hf183 65 s rfl).trans ((hf164 65 s rfl).trans (by rw [e149]; exact congrFun (fz_up_ne (by decide)) s)))) ((lost 53 16 rfl).trans ((hf183 53 16 rfl).trans ((hf164 53 16 rfl).trans (by rw [e149]; exact fz_up_s (by decide)))))) f316 (by rw [e324]; exact (fz_up_s (by decide)).trans (lost 53 26 rfl)) (by rw [e324, fz_up_ne (by decide)]; exact (funext fun s => lost 73 s rfl)) (Or.inr (Or.inl ⟨by omega, by omega, by omega, by omega⟩)) | exact fl_mO_par (k := k) (by omega) f141 (by omega) (by omega) (by omega) (by omega) (by omega) (funext fun s => (lost 73 s rfl).trans ((hf183 73 s rfl).trans ((hf164 73 s rfl).trans (by rw [e149]; exact congrFun (fz_up_ne (by decide)) s)))) (fl_gM_e (funext fun s => (lost 65 s rfl).trans ((hf183 65 s rfl).trans ((hf164 65 s rfl).trans (by rw [e149]; exact congrFun (fz_up_ne (by decide)) s)))) ((lost 53 16 rfl).trans ((hf183 53 16 rfl).trans ((hf164 53 16 rfl).trans (by rw [e149]; exact fz_up_s (by decide)))))) f316 (by rw [e324]; exact (fz_up_s (by decide)).trans rfl) (by rw [e324, fz_up_ne (by decide)]) (Or.inr (Or.inr ⟨by omega, by omega, by omega⟩)) | exact fl_mO_no (k := k) (by omega) f141 (by omega) (by omega) ⟨by omega, by omega, by omega⟩ (by omega))⟩
              · have hPa330 : fz_Pa h H303 := fz_Pa_of k297 (f315 (by omega))
                have k332 := hPa330
                refine fz_aload_n kX11_isO rfl rfl ?_
                refine fz_bipush ⟨by decide, by decide⟩ kX11_isO rfl ?_
                have b334 : 0 ≤ H303 53 26 ∧ H303 53 26 ≤ 200 := hI307.1 53 _
                refine fz_callV (d' := 0) (M' := mX11_codes) (As := [fz_i 17]) (st := []) kX11_isO rfl rfl vX11_codes rfl rfl rfl rfl (Nat.le_of_ble_eq_true rfl) (Nat.le_of_ble_eq_true rfl) (by omega) (sX11_codes H303 hI307 17 (by omega)) (fun H335 r336 q337 o338 => ?_)
                obtain ⟨hI339, hf340, y344, rfl, p345, f341, f342, f343⟩ := q337
                clear o338
                have hf346 := fz_fr_tr hf319 hf340 (show fz_su [(53, 26), (73, 99999)] [(53, 24), (53, 25), (53, 26), (73, 99999)] = true from rfl)
                have k347 : H335 53 25 = (L + 1) := (hf340 53 25 rfl).trans f309
                have t348 : H335 53 24 = H303 53 24 := hf340 53 24 rfl
                refine fz_eqi (show y344 = 1 by omega) ?_
                have hPa349 : fz_Pa h H335 := fz_Pa_u k332 f343 (by omega)
                refine fz_if_eq (tgt := 178) kX11_isO rfl (by decide) (fun c351 => ?_) (fun c351 => ?_)
                · exfalso; omega
                · refine fz_iconst ⟨by decide, by decide⟩ kX11_isO rfl ?_
                  refine fz_goto (tgt := 179) kX11_isO rfl (by decide) ?_
                  refine fz_istore_n (ls' := [(2, fz_i 1), (1, fz_i y142), (0, fz_r 53)]) kX11_isO rfl (by decide) rfl ?_
                  refine fz_goto (tgt := 214) kX11_isO rfl (by decide) ?_
                  refine fz_aload_n kX11_isO rfl rfl ?_
                  refine fz_dup rfl kX11_isO rfl ?_
                  refine fz_getV (v := (L + 1)) kX11_isO rfl rfl k347 ?_
                  refine fz_iconst ⟨by decide, by decide⟩ kX11_isO rfl ?_
                  refine fz_isubN kX11_isO rfl (by omega) ?_
                  refine fz_eqi (y := L) (by omega) ?_
                  refine fz_putI kX11_isO rfl rfl rfl ?_
                  refine fz_nmu (S := [(53, 24), (53, 25), (53, 26), (73, 99999)]) (h0 := h) (fz_Iv_up hI339 (by decide) (show (0 : Int) ≤ L by omega) (show (L : Int) ≤ 6 by omega)) (fz_fr_up hf346 rfl) (fun H352 hI353 hf354 e355 => ?_)
                  have k356 : H352 53 25 = L := by rw [e355]; exact fz_up_e
                  have t357 : H352 53 24 = H335 53 24 := by rw [e355]; exact fz_up_s (by decide)
                  have t358 : H352 53 26 = H335 53 26 := by rw [e355]; exact fz_up_s (by decide)
                  have hPa359 : fz_Pa h H352 := fz_Pa_eq (by rw [e355]; exact fz_up_ne (by decide)) (by rw [e355]; exact fz_up_s (by decide)) hPa349
                  refine fz_iload_n kX11_isO rfl rfl ?_
                  exact fz_zret kX11_isO rfl rfl (by omega) ⟨hI353, hf354, _, rfl, (by omega), (by omega), (by omega), (by omega), (by omega), (by omega), (by omega), (by first | (intro z; exfalso; omega) | (intro _; exact hPa359)), (by first | exact fl_mO_num lost lost rfl f343 rfl (by omega) (by omega) k297.1 | exact fl_mO_nam (by omega) f141 (by omega) (by omega) lost rfl f343 (by omega) | exact fl_mO_un (k := k) (by omega) f141 (by omega) (by omega) (Or.inl ⟨by omega, rfl⟩) (by omega) (by omega) (funext fun s => (hf164 73 s rfl).trans (by rw [e149]; exact congrFun (fz_up_ne (by decide)) s)) (by omega) (fl_gM_e (funext fun s => (hf164 65 s rfl).trans (by rw [e149]; exact congrFun (fz_up_ne (by decide)) s)) ((hf164 53 16 rfl).trans (by rw [e149]; exact fz_up_s (by decide)))) f316 (Or.inl ⟨by omega, ⟨_, f343, (by rw [e355]; exact fz_up_ne (by decide)), (by rw [e355]; exact fz_up_s (by decide))⟩, by omega, by omega⟩) | exact fl_mO_un (k := k) (by omega) f141 (by omega) (by omega) (Or.inl ⟨by omega, rfl⟩) (by omega) (by omega) (funext fun s => (hf164 73 s rfl).trans (by rw [e149]; exact congrFun (fz_up_ne (by decide)) s)) (by omega) (fl_gM_e (funext fun s => (hf164 65 s rfl).trans (by rw [e149]; exact congrFun (fz_up_ne (by decide)) s)) ((hf164 53 16 rfl).trans (by rw [e149]; exact fz_up_s (by decide)))) f316 (Or.inr ⟨by omega, by omega, by omega⟩) | exact fl_mO_un (k := k) (by omega) f141 (by omega) (by omega) (Or.inr ⟨by omega, rfl⟩) (by omega) (by omega) (funext fun s => (hf183 73 s rfl).trans ((hf164 73 s rfl).trans (by rw [e149]; exact congrFun (fz_up_ne (by decide)) s))) (by omega) (fl_gM_e (funext fun s => (hf183 65 s rfl).trans ((hf164 65 s rfl).trans (by rw [e149]; exact congrFun (fz_up_ne (by decide)) s))) ((hf183 53 16 rfl).trans ((hf164 53 16 rfl).trans (by rw [e149]; exact fz_up_s (by decide))))) f316 (Or.inl ⟨by omega, ⟨_, f343, (by rw [e355]; exact fz_up_ne (by decide)), (by rw [e355]; exact fz_up_s (by decide))⟩, by omega, by omega⟩) | exact fl_mO_un (k := k) (by omega) f141 (by omega) (by omega) (Or.inr ⟨by omega, rfl⟩) (by omega) (by omega) (funext fun s => (hf183 73 s rfl).trans ((hf164 73 s rfl).trans (by rw [e149]; exact congrFun (fz_up_ne (by decide)) s))) (by omega) (fl_gM_e (funext fun s => (hf183 65 s rfl).trans ((hf164 65 s rfl).trans (by rw [e149]; exact congrFun (fz_up_ne (by decide)) s))) ((hf183 53 16 rfl).trans ((hf164 53 16 rfl).trans (by rw [e149]; exact fz_up_s (by decide))))) f316 (Or.inr ⟨by omega, by omega, by omega⟩) | exact fl_mO_par (k := k) (by omega) f141 (by omega) (by omega) (by omega) (by omega) (by omega) (funext fun s => (lost 73 s rfl).trans ((hf183 73 s rfl).trans ((hf164 73 s rfl).trans (by rw [e149]; exact congrFun (fz_up_ne (by decide)) s)))) (fl_gM_e (funext fun s => (lost 65 s rfl).trans ((hf183 65 s rfl).trans ((hf164 65 s rfl).trans (by rw [e149]; exact congrFun (fz_up_ne (by decide)) s)))) ((lost 53 16 rfl).trans ((hf183 53 16 rfl).trans ((hf164 53 16 rfl).trans (by rw [e149]; exact fz_up_s (by decide)))))) f316 (by rw [e355]; exact (fz_up_s (by decide)).trans (lost 53 26 rfl)) (by rw [e355, fz_up_ne (by decide)]; exact (funext fun s => lost 73 s rfl)) (Or.inl ⟨by omega, by omega, by omega, by omega⟩) | exact fl_mO_par (k := k) (by omega) f141 (by omega) (by omega) (by omega) (by omega) (by omega) (funext fun s => (lost 73 s rfl).trans ((hf183 73 s rfl).trans ((hf164 73 s rfl).trans (by rw [e149]; exact congrFun (fz_up_ne (by decide)) s)))) (fl_gM_e (funext fun s => (lost 65 s rfl).trans ((hf183 65 s rfl).trans ((hf164 65 s rfl).trans (by rw [e149]; exact congrFun (fz_up_ne (by decide)) s)))) ((lost 53 16 rfl).trans ((hf183 53 16 rfl).trans ((hf164 53 16 rfl).trans (by rw [e149]; exact fz_up_s (by decide)))))) f316 (by rw [e355]; exact (fz_up_s (by decide)).trans (lost 53 26 rfl)) (by rw [e355, fz_up_ne (by decide)]; exact (funext fun s => lost 73 s rfl)) (Or.inr (Or.inl ⟨by omega, by omega, by omega, by omega⟩)) | exact fl_mO_par (k := k) (by omega) f141 (by omega) (by omega) (by omega) (by omega) (by omega) (funext fun s => (lost 73 s rfl).trans ((hf183 73 s rfl).trans ((hf164 73 s rfl).trans (by rw [e149]; exact congrFun (fz_up_ne (by decide)) s)))) (fl_gM_e (funext fun s => (lost 65 s rfl).trans ((hf183 65 s rfl).trans ((hf164 65 s rfl).trans (by rw [e149]; exact congrFun (fz_up_ne (by decide)) s)))) ((lost 53 16 rfl).trans ((hf183 53 16 rfl).trans ((hf164 53 16 rfl).trans (by rw [e149]; exact fz_up_s (by decide)))))) f316 (by rw [e355]; exact (fz_up_s (by decide)).trans rfl) (by rw [e355, fz_up_ne (by decide)]) (Or.inr (Or.inr ⟨by omega, by omega, by omega⟩)) | exact fl_mO_no (k := k) (by omega) f141 (by omega) (by omega) ⟨by omega, by omega, by omega⟩ (by omega))⟩
          · refine fz_aload_n kX11_isO rfl rfl ?_
            have k362 := hCa172
            have b364 : 0 ≤ H159 53 25 ∧ H159 53 25 ≤ 6 := hI163.1 53 _
            have b365 : 0 ≤ H159 53 24 ∧ H159 53 24 ≤ 120 := hI163.1 53 _
            have b366 : 0 ≤ H159 53 26 ∧ H159 53 26 ≤ 200 := hI163.1 53 _
            have e367 : H159 53 16 = h 53 16 := hf169 53 16 rfl
            refine fz_callV (d' := (D + 2)) (M' := mX11_isO) (As := []) (st := []) kX11_isO rfl rfl vX11_isO rfl rfl rfl rfl (Nat.le_of_ble_eq_true rfl) (Nat.le_of_ble_eq_true rfl) (by omega) (ihO H159 hI163  (by omega) (by omega) (by omega)) (fun H368 r369 q370 o371 => ?_)
            obtain ⟨hI372, hf373, y382, rfl, p383, f374, f375, f376, f377, f378, f379, f380, f381⟩ := q370
            clear o371
            have hf384 := fz_fr_tr hf169 hf373 (show fz_su [(53, 24), (53, 25), (53, 26), (73, 99999)] [(53, 24), (53, 25), (53, 26), (73, 99999)] = true from rfl)
            refine fz_if_eq (tgt := 144) kX11_isO rfl (by decide) (fun c385 => ?_) (fun c385 => ?_)
            · refine fz_iconst ⟨by decide, by decide⟩ kX11_isO rfl ?_
              refine fz_istore_n (ls' := [(2, fz_i 0), (1, fz_i y142), (0, fz_r 53)]) kX11_isO rfl (by decide) rfl ?_
              refine fz_goto (tgt := 214) kX11_isO rfl (by decide) ?_
              refine fz_aload_n kX11_isO rfl rfl ?_
              refine fz_dup rfl kX11_isO rfl ?_
              refine fz_getV (v := (L + 1)) kX11_isO rfl rfl f374 ?_
              refine fz_iconst ⟨by decide, by decide⟩ kX11_isO rfl ?_
              refine fz_isubN kX11_isO rfl (by omega) ?_
              refine fz_eqi (y := L) (by omega) ?_
              refine fz_putI kX11_isO rfl rfl rfl ?_
              refine fz_nmu (S := [(53, 24), (53, 25), (53, 26), (73, 99999)]) (h0 := h) (fz_Iv_up hI372 (by decide) (show (0 : Int) ≤ L by omega) (show (L : Int) ≤ 6 by omega)) (fz_fr_up hf384 rfl) (fun H386 hI387 hf388 e389 => ?_)
              have k390 : H386 53 25 = L := by rw [e389]; exact fz_up_e
              have t391 : H386 53 24 = H368 53 24 := by rw [e389]; exact fz_up_s (by decide)
              have t392 : H386 53 26 = H368 53 26 := by rw [e389]; exact fz_up_s (by decide)
              refine fz_iload_n kX11_isO rfl rfl ?_
              exact fz_zret kX11_isO rfl rfl (by omega) ⟨hI387, hf388, _, rfl, (by omega), (by omega), (by omega), (by omega), (by omega), (by omega), (by omega), (by first | (intro z; exfalso; omega) | (intro _; exact lost)), (by first | exact fl_mO_num lost lost rfl lost rfl (by omega) (by omega) k362.1 | exact fl_mO_nam (by omega) f141 (by omega) (by omega) lost rfl lost (by omega) | exact fl_mO_un (k := k) (by omega) f141 (by omega) (by omega) (Or.inl ⟨by omega, rfl⟩) (by omega) (by omega) (funext fun s => (hf164 73 s rfl).trans (by rw [e149]; exact congrFun (fz_up_ne (by decide)) s)) (by omega) (fl_gM_e (funext fun s => (hf164 65 s rfl).trans (by rw [e149]; exact congrFun (fz_up_ne (by decide)) s)) ((hf164 53 16 rfl).trans (by rw [e149]; exact fz_up_s (by decide)))) f381 (Or.inl ⟨by omega, ⟨_, lost, (by rw [e389]; exact fz_up_ne (by decide)), (by rw [e389]; exact fz_up_s (by decide))⟩, by omega, by omega⟩) | exact fl_mO_un (k := k) (by omega) f141 (by omega) (by omega) (Or.inl ⟨by omega, rfl⟩) (by omega) (by omega) (funext fun s => (hf164 73 s rfl).trans (by rw [e149]; exact congrFun (fz_up_ne (by decide)) s)) (by omega) (fl_gM_e (funext fun s => (hf164 65 s rfl).trans (by rw [e149]; exact congrFun (fz_up_ne (by decide)) s)) ((hf164 53 16 rfl).trans (by rw [e149]; exact fz_up_s (by decide)))) f381 (Or.inr ⟨by omega, by omega, by omega⟩) | exact fl_mO_un (k := k) (by omega) f141 (by omega) (by omega) (Or.inr ⟨by omega, rfl⟩) (by omega) (by omega) (funext fun s => (lost 73 s rfl).trans ((hf164 73 s rfl).trans (by rw [e149]; exact congrFun (fz_up_ne (by decide)) s))) (by omega) (fl_gM_e (funext fun s => (lost 65 s rfl).trans ((hf164 65 s rfl).trans (by rw [e149]; exact congrFun (fz_up_ne (by decide)) s))) ((lost 53 16 rfl).trans ((hf164 53 16 rfl).trans (by rw [e149]; exact fz_up_s (by decide))))) f381 (Or.inl ⟨by omega, ⟨_, lost, (by rw [e389]; exact fz_up_ne (by decide)), (by rw [e389]; exact fz_up_s (by decide))⟩, by omega, by omega⟩) | exact fl_mO_un (k := k) (by omega) f141 (by omega) (by omega) (Or.inr ⟨by omega, rfl⟩) (by omega) (by omega) (funext fun s => (lost 73 s rfl).trans ((hf164 73 s rfl).trans (by rw [e149]; exact congrFun (fz_up_ne (by decide)) s))) (by omega) (fl_gM_e (funext fun s => (lost 65 s rfl).trans ((hf164 65 s rfl).trans (by rw [e149]; exact congrFun (fz_up_ne (by decide)) s))) ((lost 53 16 rfl).trans ((hf164 53 16 rfl).trans (by rw [e149]; exact fz_up_s (by decide))))) f381 (Or.inr ⟨by omega, by omega, by omega⟩) | exact fl_mO_par (k := k) (by omega) f141 (by omega) (by omega) (by omega) (by omega) (by omega) (funext fun s => (lost 73 s rfl).trans ((lost 73 s rfl).trans ((hf164 73 s rfl).trans (by rw [e149]; exact congrFun (fz_up_ne (by decide)) s)))) (fl_gM_e (funext fun s => (lost 65 s rfl).trans ((lost 65 s rfl).trans ((hf164 65 s rfl).trans (by rw [e149]; exact congrFun (fz_up_ne (by decide)) s)))) ((lost 53 16 rfl).trans ((lost 53 16 rfl).trans ((hf164 53 16 rfl).trans (by rw [e149]; exact fz_up_s (by decide)))))) f381 (by rw [e389]; exact (fz_up_s (by decide)).trans (lost 53 26 rfl)) (by rw [e389, fz_up_ne (by decide)]; exact (funext fun s => lost 73 s rfl)) (Or.inl ⟨by omega, by omega, by omega, by omega⟩) | exact fl_mO_par (k := k) (by omega) f141 (by omega) (by omega) (by omega) (by omega) (by omega) (funext fun s => (lost 73 s rfl).trans ((lost 73 s rfl).trans ((hf164 73 s rfl).trans (by rw [e149]; exact congrFun (fz_up_ne (by decide)) s)))) (fl_gM_e (funext fun s => (lost 65 s rfl).trans ((lost 65 s rfl).trans ((hf164 65 s rfl).trans (by rw [e149]; exact congrFun (fz_up_ne (by decide)) s)))) ((lost 53 16 rfl).trans ((lost 53 16 rfl).trans ((hf164 53 16 rfl).trans (by rw [e149]; exact fz_up_s (by decide)))))) f381 (by rw [e389]; exact (fz_up_s (by decide)).trans (lost 53 26 rfl)) (by rw [e389, fz_up_ne (by decide)]; exact (funext fun s => lost 73 s rfl)) (Or.inr (Or.inl ⟨by omega, by omega, by omega, by omega⟩)) | exact fl_mO_par (k := k) (by omega) f141 (by omega) (by omega) (by omega) (by omega) (by omega) (funext fun s => (lost 73 s rfl).trans ((lost 73 s rfl).trans ((hf164 73 s rfl).trans (by rw [e149]; exact congrFun (fz_up_ne (by decide)) s)))) (fl_gM_e (funext fun s => (lost 65 s rfl).trans ((lost 65 s rfl).trans ((hf164 65 s rfl).trans (by rw [e149]; exact congrFun (fz_up_ne (by decide)) s)))) ((lost 53 16 rfl).trans ((lost 53 16 rfl).trans ((hf164 53 16 rfl).trans (by rw [e149]; exact fz_up_s (by decide)))))) f381 (by rw [e389]; exact (fz_up_s (by decide)).trans rfl) (by rw [e389, fz_up_ne (by decide)]) (Or.inr (Or.inr ⟨by omega, by omega, by omega⟩)) | exact fl_mO_no (k := k) (by omega) f141 (by omega) (by omega) ⟨by omega, by omega, by omega⟩ (by omega))⟩
            · have hPa395 : fz_Pa h H368 := fz_Pa_of k362 (f380 (by omega))
              have k397 := hPa395
              refine fz_aload_n kX11_isO rfl rfl ?_
              refine fz_bipush ⟨by decide, by decide⟩ kX11_isO rfl ?_
              have b399 : 0 ≤ H368 53 26 ∧ H368 53 26 ≤ 200 := hI372.1 53 _
              refine fz_callV (d' := 0) (M' := mX11_codes) (As := [fz_i 16]) (st := []) kX11_isO rfl rfl vX11_codes rfl rfl rfl rfl (Nat.le_of_ble_eq_true rfl) (Nat.le_of_ble_eq_true rfl) (by omega) (sX11_codes H368 hI372 16 (by omega)) (fun H400 r401 q402 o403 => ?_)
              obtain ⟨hI404, hf405, y409, rfl, p410, f406, f407, f408⟩ := q402
              clear o403
              have hf411 := fz_fr_tr hf384 hf405 (show fz_su [(53, 26), (73, 99999)] [(53, 24), (53, 25), (53, 26), (73, 99999)] = true from rfl)
              have k412 : H400 53 25 = (L + 1) := (hf405 53 25 rfl).trans f374
              have t413 : H400 53 24 = H368 53 24 := hf405 53 24 rfl
              refine fz_eqi (show y409 = 1 by omega) ?_
              have hPa414 : fz_Pa h H400 := fz_Pa_u k397 f408 (by omega)
              refine fz_if_eq (tgt := 144) kX11_isO rfl (by decide) (fun c416 => ?_) (fun c416 => ?_)
              · exfalso; omega
              · refine fz_iconst ⟨by decide, by decide⟩ kX11_isO rfl ?_
                refine fz_goto (tgt := 145) kX11_isO rfl (by decide) ?_
                refine fz_istore_n (ls' := [(2, fz_i 1), (1, fz_i y142), (0, fz_r 53)]) kX11_isO rfl (by decide) rfl ?_
                refine fz_goto (tgt := 214) kX11_isO rfl (by decide) ?_
                refine fz_aload_n kX11_isO rfl rfl ?_
                refine fz_dup rfl kX11_isO rfl ?_
                refine fz_getV (v := (L + 1)) kX11_isO rfl rfl k412 ?_
                refine fz_iconst ⟨by decide, by decide⟩ kX11_isO rfl ?_
                refine fz_isubN kX11_isO rfl (by omega) ?_
                refine fz_eqi (y := L) (by omega) ?_
                refine fz_putI kX11_isO rfl rfl rfl ?_
                refine fz_nmu (S := [(53, 24), (53, 25), (53, 26), (73, 99999)]) (h0 := h) (fz_Iv_up hI404 (by decide) (show (0 : Int) ≤ L by omega) (show (L : Int) ≤ 6 by omega)) (fz_fr_up hf411 rfl) (fun H417 hI418 hf419 e420 => ?_)
                have k421 : H417 53 25 = L := by rw [e420]; exact fz_up_e
                have t422 : H417 53 24 = H400 53 24 := by rw [e420]; exact fz_up_s (by decide)
                have t423 : H417 53 26 = H400 53 26 := by rw [e420]; exact fz_up_s (by decide)
                have hPa424 : fz_Pa h H417 := fz_Pa_eq (by rw [e420]; exact fz_up_ne (by decide)) (by rw [e420]; exact fz_up_s (by decide)) hPa414
                refine fz_iload_n kX11_isO rfl rfl ?_
                exact fz_zret kX11_isO rfl rfl (by omega) ⟨hI418, hf419, _, rfl, (by omega), (by omega), (by omega), (by omega), (by omega), (by omega), (by omega), (by first | (intro z; exfalso; omega) | (intro _; exact hPa424)), (by first | exact fl_mO_num lost lost rfl f408 rfl (by omega) (by omega) k362.1 | exact fl_mO_nam (by omega) f141 (by omega) (by omega) lost rfl f408 (by omega) | exact fl_mO_un (k := k) (by omega) f141 (by omega) (by omega) (Or.inl ⟨by omega, rfl⟩) (by omega) (by omega) (funext fun s => (hf164 73 s rfl).trans (by rw [e149]; exact congrFun (fz_up_ne (by decide)) s)) (by omega) (fl_gM_e (funext fun s => (hf164 65 s rfl).trans (by rw [e149]; exact congrFun (fz_up_ne (by decide)) s)) ((hf164 53 16 rfl).trans (by rw [e149]; exact fz_up_s (by decide)))) f381 (Or.inl ⟨by omega, ⟨_, f408, (by rw [e420]; exact fz_up_ne (by decide)), (by rw [e420]; exact fz_up_s (by decide))⟩, by omega, by omega⟩) | exact fl_mO_un (k := k) (by omega) f141 (by omega) (by omega) (Or.inl ⟨by omega, rfl⟩) (by omega) (by omega) (funext fun s => (hf164 73 s rfl).trans (by rw [e149]; exact congrFun (fz_up_ne (by decide)) s)) (by omega) (fl_gM_e (funext fun s => (hf164 65 s rfl).trans (by rw [e149]; exact congrFun (fz_up_ne (by decide)) s)) ((hf164 53 16 rfl).trans (by rw [e149]; exact fz_up_s (by decide)))) f381 (Or.inr ⟨by omega, by omega, by omega⟩) | exact fl_mO_un (k := k) (by omega) f141 (by omega) (by omega) (Or.inr ⟨by omega, rfl⟩) (by omega) (by omega) (funext fun s => (lost 73 s rfl).trans ((hf164 73 s rfl).trans (by rw [e149]; exact congrFun (fz_up_ne (by decide)) s))) (by omega) (fl_gM_e (funext fun s => (lost 65 s rfl).trans ((hf164 65 s rfl).trans (by rw [e149]; exact congrFun (fz_up_ne (by decide)) s))) ((lost 53 16 rfl).trans ((hf164 53 16 rfl).trans (by rw [e149]; exact fz_up_s (by decide))))) f381 (Or.inl ⟨by omega, ⟨_, f408, (by rw [e420]; exact fz_up_ne (by decide)), (by rw [e420]; exact fz_up_s (by decide))⟩, by omega, by omega⟩) | exact fl_mO_un (k := k) (by omega) f141 (by omega) (by omega) (Or.inr ⟨by omega, rfl⟩) (by omega) (by omega) (funext fun s => (lost 73 s rfl).trans ((hf164 73 s rfl).trans (by rw [e149]; exact congrFun (fz_up_ne (by decide)) s))) (by omega) (fl_gM_e (funext fun s => (lost 65 s rfl).trans ((hf164 65 s rfl).trans (by rw [e149]; exact congrFun (fz_up_ne (by decide)) s))) ((lost 53 16 rfl).trans ((hf164 53 16 rfl).trans (by rw [e149]; exact fz_up_s (by decide))))) f381 (Or.inr ⟨by omega, by omega, by omega⟩) | exact fl_mO_par (k := k) (by omega) f141 (by omega) (by omega) (by omega) (by omega) (by omega) (funext fun s => (lost 73 s rfl).trans ((lost 73 s rfl).trans ((hf164 73 s rfl).trans (by rw [e149]; exact congrFun (fz_up_ne (by decide)) s)))) (fl_gM_e (funext fun s => (lost 65 s rfl).trans ((lost 65 s rfl).trans ((hf164 65 s rfl).trans (by rw [e149]; exact congrFun (fz_up_ne (by decide)) s)))) ((lost 53 16 rfl).trans ((lost 53 16 rfl).trans ((hf164 53 16 rfl).trans (by rw [e149]; exact fz_up_s (by decide)))))) f381 (by rw [e420]; exact (fz_up_s (by decide)).trans (lost 53 26 rfl)) (by rw [e420, fz_up_ne (by decide)]; exact (funext fun s => lost 73 s rfl)) (Or.inl ⟨by omega, by omega, by omega, by omega⟩) | exact fl_mO_par (k := k) (by omega) f141 (by omega) (by omega) (by omega) (by omega) (by omega) (funext fun s => (lost 73 s rfl).trans ((lost 73 s rfl).trans ((hf164 73 s rfl).trans (by rw [e149]; exact congrFun (fz_up_ne (by decide)) s)))) (fl_gM_e (funext fun s => (lost 65 s rfl).trans ((lost 65 s rfl).trans ((hf164 65 s rfl).trans (by rw [e149]; exact congrFun (fz_up_ne (by decide)) s)))) ((lost 53 16 rfl).trans ((lost 53 16 rfl).trans ((hf164 53 16 rfl).trans (by rw [e149]; exact fz_up_s (by decide)))))) f381 (by rw [e420]; exact (fz_up_s (by decide)).trans (lost 53 26 rfl)) (by rw [e420, fz_up_ne (by decide)]; exact (funext fun s => lost 73 s rfl)) (Or.inr (Or.inl ⟨by omega, by omega, by omega, by omega⟩)) | exact fl_mO_par (k := k) (by omega) f141 (by omega) (by omega) (by omega) (by omega) (by omega) (funext fun s => (lost 73 s rfl).trans ((lost 73 s rfl).trans ((hf164 73 s rfl).trans (by rw [e149]; exact congrFun (fz_up_ne (by decide)) s)))) (fl_gM_e (funext fun s => (lost 65 s rfl).trans ((lost 65 s rfl).trans ((hf164 65 s rfl).trans (by rw [e149]; exact congrFun (fz_up_ne (by decide)) s)))) ((lost 53 16 rfl).trans ((lost 53 16 rfl).trans ((hf164 53 16 rfl).trans (by rw [e149]; exact fz_up_s (by decide)))))) f381 (by rw [e420]; exact (fz_up_s (by decide)).trans rfl) (by rw [e420, fz_up_ne (by decide)]) (Or.inr (Or.inr ⟨by omega, by omega, by omega⟩)) | exact fl_mO_no (k := k) (by omega) f141 (by omega) (by omega) ⟨by omega, by omega, by omega⟩ (by omega))⟩
        · exfalso; omega
      · refine fz_aload_n kX11_isO rfl rfl ?_
        refine fz_dup rfl kX11_isO rfl ?_
        refine fz_getV (v := h 53 24) kX11_isO rfl rfl rfl ?_
        have b427 : 0 ≤ h 53 24 ∧ h 53 24 ≤ 120 := hI.1 53 _
        refine fz_iconst ⟨by decide, by decide⟩ kX11_isO rfl ?_
        refine fz_iaddN kX11_isO rfl (by omega) ?_
        refine fz_putI kX11_isO rfl rfl rfl ?_
        refine fz_nmu (S := [(53, 24), (53, 25), (53, 26), (73, 99999)]) (h0 := h) (fz_Iv_up hI (by decide) (show (0 : Int) ≤ ((h 53 24) + 1) by omega) (show (((h 53 24) + 1) : Int) ≤ 120 by omega)) (fz_fr_up hf rfl) (fun H428 hI429 hf430 e431 => ?_)
        have k432 : H428 53 25 = (h 53 25) := by rw [e431]; exact (fz_up_s (by decide)).trans rfl
        have k433 : H428 53 26 = (h 53 26) := by rw [e431]; exact (fz_up_s (by decide)).trans rfl
        have k434 : H428 53 24 = ((h 53 24) + 1) := by rw [e431]; exact fz_up_e
        have t435 : H428 53 26 = h 53 26 := by rw [e431]; exact fz_up_s (by decide)
        have hCa436 : fz_Ca h H428 := fz_Ca_eq (by rw [e431]; exact fz_up_ne (by decide)) (by rw [e431]; exact fz_up_s (by decide)) hCa5
        refine fz_aload_n kX11_isO rfl rfl ?_
        refine fz_iload_n kX11_isO rfl rfl ?_
        have k437 := hCa436
        have b439 : 0 ≤ H428 53 26 ∧ H428 53 26 ≤ 200 := hI429.1 53 _
        refine fz_callV (d' := 0) (M' := mX11_codes) (As := [fz_i y142]) (st := []) kX11_isO rfl rfl vX11_codes rfl rfl rfl rfl (Nat.le_of_ble_eq_true rfl) (Nat.le_of_ble_eq_true rfl) (by omega) (sX11_codes H428 hI429 y142 (by omega)) (fun H440 r441 q442 o443 => ?_)
        obtain ⟨hI444, hf445, y449, rfl, p450, f446, f447, f448⟩ := q442
        clear o443
        have hf451 := fz_fr_tr hf430 hf445 (show fz_su [(53, 26), (73, 99999)] [(53, 24), (53, 25), (53, 26), (73, 99999)] = true from rfl)
        have k452 : H440 53 25 = (h 53 25) := (hf445 53 25 rfl).trans k432
        have k453 : H440 53 24 = ((h 53 24) + 1) := (hf445 53 24 rfl).trans k434
        have t454 : H440 53 24 = H428 53 24 := hf445 53 24 rfl
        refine fz_eqi (show y449 = 1 by omega) ?_
        have hPa455 : fz_Pa h H440 := fz_Pa_n k437 f448 (by omega) (by omega)
        exact fz_zret kX11_isO rfl rfl (by omega) ⟨hI444, hf451, _, rfl, (by omega), (by omega), (by omega), (by omega), (by omega), (by omega), (by omega), (by first | (intro z; exfalso; omega) | (intro _; exact hPa455)), (by first | exact fl_mO_num lost lost rfl f448 rfl (by omega) (by omega) k437.1 | exact fl_mO_nam (by omega) f141 (by omega) (by omega) e431 rfl f448 (by omega) | exact fl_mO_un (k := k) (by omega) f141 (by omega) (by omega) (Or.inl ⟨by omega, rfl⟩) (by omega) (by omega) (funext fun s => (lost 73 s rfl).trans (by rw [lost]; exact congrFun (fz_up_ne (by decide)) s)) (by omega) (fl_gM_e (funext fun s => (lost 65 s rfl).trans (by rw [lost]; exact congrFun (fz_up_ne (by decide)) s)) ((lost 53 16 rfl).trans (by rw [lost]; exact fz_up_s (by decide)))) lost (Or.inl ⟨by omega, ⟨_, f448, (by rw [lost]; exact fz_up_ne (by decide)), (by rw [lost]; exact fz_up_s (by decide))⟩, by omega, by omega⟩) | exact fl_mO_un (k := k) (by omega) f141 (by omega) (by omega) (Or.inl ⟨by omega, rfl⟩) (by omega) (by omega) (funext fun s => (lost 73 s rfl).trans (by rw [lost]; exact congrFun (fz_up_ne (by decide)) s)) (by omega) (fl_gM_e (funext fun s => (lost 65 s rfl).trans (by rw [lost]; exact congrFun (fz_up_ne (by decide)) s)) ((lost 53 16 rfl).trans (by rw [lost]; exact fz_up_s (by decide)))) lost (Or.inr ⟨by omega, by omega, by omega⟩) | exact fl_mO_un (k := k) (by omega) f141 (by omega) (by omega) (Or.inr ⟨by omega, rfl⟩) (by omega) (by omega) (funext fun s => (lost 73 s rfl).trans ((lost 73 s rfl).trans (by rw [lost]; exact congrFun (fz_up_ne (by decide)) s))) (by omega) (fl_gM_e (funext fun s => (lost 65 s rfl).trans ((lost 65 s rfl).trans (by rw [lost]; exact congrFun (fz_up_ne (by decide)) s))) ((lost 53 16 rfl).trans ((lost 53 16 rfl).trans (by rw [lost]; exact fz_up_s (by decide))))) lost (Or.inl ⟨by omega, ⟨_, f448, (by rw [lost]; exact fz_up_ne (by decide)), (by rw [lost]; exact fz_up_s (by decide))⟩, by omega, by omega⟩) | exact fl_mO_un (k := k) (by omega) f141 (by omega) (by omega) (Or.inr ⟨by omega, rfl⟩) (by omega) (by omega) (funext fun s => (lost 73 s rfl).trans ((lost 73 s rfl).trans (by rw [lost]; exact congrFun (fz_up_ne (by decide)) s))) (by omega) (fl_gM_e (funext fun s => (lost 65 s rfl).trans ((lost 65 s rfl).trans (by rw [lost]; exact congrFun (fz_up_ne (by decide)) s))) ((lost 53 16 rfl).trans ((lost 53 16 rfl).trans (by rw [lost]; exact fz_up_s (by decide))))) lost (Or.inr ⟨by omega, by omega, by omega⟩) | exact fl_mO_par (k := k) (by omega) f141 (by omega) (by omega) (by omega) (by omega) (by omega) (funext fun s => (lost 73 s rfl).trans ((lost 73 s rfl).trans ((lost 73 s rfl).trans (by rw [lost]; exact congrFun (fz_up_ne (by decide)) s)))) (fl_gM_e (funext fun s => (lost 65 s rfl).trans ((lost 65 s rfl).trans ((lost 65 s rfl).trans (by rw [lost]; exact congrFun (fz_up_ne (by decide)) s)))) ((lost 53 16 rfl).trans ((lost 53 16 rfl).trans ((lost 53 16 rfl).trans (by rw [lost]; exact fz_up_s (by decide)))))) lost (by rw [lost]; exact (fz_up_s (by decide)).trans (lost 53 26 rfl)) (by rw [lost, fz_up_ne (by decide)]; exact (funext fun s => lost 73 s rfl)) (Or.inl ⟨by omega, by omega, by omega, by omega⟩) | exact fl_mO_par (k := k) (by omega) f141 (by omega) (by omega) (by omega) (by omega) (by omega) (funext fun s => (lost 73 s rfl).trans ((lost 73 s rfl).trans ((lost 73 s rfl).trans (by rw [lost]; exact congrFun (fz_up_ne (by decide)) s)))) (fl_gM_e (funext fun s => (lost 65 s rfl).trans ((lost 65 s rfl).trans ((lost 65 s rfl).trans (by rw [lost]; exact congrFun (fz_up_ne (by decide)) s)))) ((lost 53 16 rfl).trans ((lost 53 16 rfl).trans ((lost 53 16 rfl).trans (by rw [lost]; exact fz_up_s (by decide)))))) lost (by rw [lost]; exact (fz_up_s (by decide)).trans (lost 53 26 rfl)) (by rw [lost, fz_up_ne (by decide)]; exact (funext fun s => lost 73 s rfl)) (Or.inr (Or.inl ⟨by omega, by omega, by omega, by omega⟩)) | exact fl_mO_par (k := k) (by omega) f141 (by omega) (by omega) (by omega) (by omega) (by omega) (funext fun s => (lost 73 s rfl).trans ((lost 73 s rfl).trans ((lost 73 s rfl).trans (by rw [lost]; exact congrFun (fz_up_ne (by decide)) s)))) (fl_gM_e (funext fun s => (lost 65 s rfl).trans ((lost 65 s rfl).trans ((lost 65 s rfl).trans (by rw [lost]; exact congrFun (fz_up_ne (by decide)) s)))) ((lost 53 16 rfl).trans ((lost 53 16 rfl).trans ((lost 53 16 rfl).trans (by rw [lost]; exact fz_up_s (by decide)))))) lost (by rw [lost]; exact (fz_up_s (by decide)).trans rfl) (by rw [lost, fz_up_ne (by decide)]) (Or.inr (Or.inr ⟨by omega, by omega, by omega⟩)) | exact fl_mO_no (k := k) (by omega) f141 (by omega) (by omega) ⟨by omega, by omega, by omega⟩ (by omega))⟩
    · exfalso; omega

set_option maxHeartbeats 1000000 in
set_option maxRecDepth 100000 in
theorem sX11_isP_g (k : Nat) (L : Int) (D : Nat) (hL : 0 ≤ L ∧ L ≤ 5) (ihO : ∀ (h : fz_H) (hI : fz_Iv h) (hp0 : h 53 25 = L + 1) (hp1 : h 53 24 ≤ h 53 16) (hp2 : h 53 26 ≤ h 53 24), fz_R (D + 2) mX11_isO 0 [(0, fz_r 53)] [] h (qX11_isO_g k (L + 1) h)) (ihE : ∀ (h : fz_H) (hI : fz_Iv h) (hp0 : h 53 25 = L + 1) (hp1 : h 53 24 ≤ h 53 16) (hp2 : h 53 26 ≤ h 53 24), fz_R (D + 7) mX11_isE 0 [(0, fz_r 53)] [] h (qX11_isE_g k (L + 1) h)) (h : fz_H) (hI : fz_Iv h) (hp0 : h 53 25 = L) (hp1 : h 53 24 ≤ h 53 16) (hp2 : h 53 26 ≤ h 53 24) : fz_R (D + 9) mX11_isP 0 [(0, fz_r 53)] [] h (qX11_isP_g (k + 1) L h) := by
  have hf : fz_fr [(53, 24), (53, 25), (53, 26), (73, 99999)] h h := fz_fr_rf
  have b1 : 0 ≤ h 53 25 ∧ h 53 25 ≤ 6 := hI.1 53 _
  have b2 : 0 ≤ h 53 24 ∧ h 53 24 ≤ 120 := hI.1 53 _
  have b3 : 0 ≤ h 53 16 ∧ h 53 16 ≤ 120 := hI.1 53 _
  have b4 : 0 ≤ h 53 26 ∧ h 53 26 ≤ 200 := hI.1 53 _
  refine fz_aload_n kX11_isP rfl rfl ?_
  refine fz_callV (d' := (D + 8)) (M' := mX11_isO) (As := []) (st := []) kX11_isP rfl rfl vX11_isO rfl rfl rfl rfl (Nat.le_of_ble_eq_true rfl) (Nat.le_of_ble_eq_true rfl) (by omega) (sX11_isO_g k L D hL ihO ihE h hI  (by omega) (by omega) (by omega)) (fun H5 r6 q7 o8 => ?_)
  obtain ⟨hI9, hf10, y19, rfl, p20, f11, f12, f13, f14, f15, f16, f17, f18⟩ := q7
  clear o8
  have hf21 := fz_fr_tr hf hf10 (show fz_su [(53, 24), (53, 25), (53, 26), (73, 99999)] [(53, 24), (53, 25), (53, 26), (73, 99999)] = true from rfl)
  refine fz_if_ne (tgt := 9) kX11_isP rfl (by decide) (fun c22 => ?_) (fun c22 => ?_)
  · have hPa23 : fz_Pa h H5 := f17 (by omega)
    have lp30 : ∀ (n29 : Nat) (H26 : fz_H), fz_Iv H26 → fz_fr [(53, 24), (53, 25), (53, 26), (73, 99999)] h H26 → fz_Pa h H26 → (H26 53 25 = L) → (h 53 24 + 1 ≤ H26 53 24) → (H26 53 24 ≤ h 53 16) → (h 53 26 ≤ H26 53 26) → (H26 53 26 - h 53 26 ≤ H26 53 24 - h 53 24) → (fl_sL h H26 (fl_eP (fl_gM h) (fl_pO (fl_gM h) (k + 1)) (h 53 24)) fl_oP (fl_pO (fl_gM h) (k + 1)) (fl_gM h) 200) → (h 53 16 - H26 53 24).toNat < n29 → fz_R (D + 9) mX11_isP 9 [(0, fz_r 53)] [] H26 (qX11_isP_g (k + 1) L h) := by
      intro n29
      induction n29 with
      | zero => intro H26 hI27 hf28 hPa25 hv33 hv34 hv35 hv36 hv37 hv38 hm32; exact absurd hm32 (by omega)
      | succ n29 ih31 =>
        intro H26 hI27 hf28 hPa25 hv33 hv34 hv35 hv36 hv37 hv38 hm32
        refine fz_aload_n kX11_isP rfl rfl ?_
        have k39 : fl_gM H26 (H26 53 24) = fl_gM h (H26 53 24) := fl_gMe2 (funext fun s => hf28 65 s rfl) (hf28 53 16 rfl)
        have b41 : 0 ≤ H26 53 24 ∧ H26 53 24 ≤ 120 := hI27.1 53 _
        have b42 : 0 ≤ h 53 16 ∧ h 53 16 ≤ 120 := hI.1 53 _
        have e43 : H26 53 16 = h 53 16 := hf28 53 16 rfl
        refine fz_callV (d' := 0) (M' := mX11_sign) (As := []) (st := []) kX11_isP rfl rfl vX11_sign rfl rfl rfl rfl (Nat.le_of_ble_eq_true rfl) (Nat.le_of_ble_eq_true rfl) (by omega) (sX11_sign H26 hI27  (by omega)) (fun H44 r45 q46 o47 => ?_)
        obtain ⟨e48, y52, rfl, f49, f50, f51⟩ := q46
        subst H44
        clear o47
        refine fz_bipush ⟨by decide, by decide⟩ kX11_isP rfl ?_
        refine fz_icmp_ne (tgt := 23) kX11_isP rfl (by decide) (fun c53 => ?_) (fun c53 => ?_)
        · refine fz_aload_n kX11_isP rfl rfl ?_
          refine fz_callV (d' := 0) (M' := mX11_sign) (As := []) (st := []) kX11_isP rfl rfl vX11_sign rfl rfl rfl rfl (Nat.le_of_ble_eq_true rfl) (Nat.le_of_ble_eq_true rfl) (by omega) (sX11_sign H26 hI27  (by omega)) (fun H54 r55 q56 o57 => ?_)
          obtain ⟨e58, y62, rfl, f59, f60, f61⟩ := q56
          subst H54
          clear o57
          refine fz_bipush ⟨by decide, by decide⟩ kX11_isP rfl ?_
          refine fz_icmp_ne (tgt := 37) kX11_isP rfl (by decide) (fun c63 => ?_) (fun c63 => ?_)
          · refine fz_aload_n kX11_isP rfl rfl ?_
            refine fz_callV (d' := 0) (M' := mX11_sign) (As := []) (st := []) kX11_isP rfl rfl vX11_sign rfl rfl rfl rfl (Nat.le_of_ble_eq_true rfl) (Nat.le_of_ble_eq_true rfl) (by omega) (sX11_sign H26 hI27  (by omega)) (fun H64 r65 q66 o67 => ?_)
            obtain ⟨e68, y72, rfl, f69, f70, f71⟩ := q66
            subst H64
            clear o67
            refine fz_bipush ⟨by decide, by decide⟩ kX11_isP rfl ?_
            refine fz_icmp_ne (tgt := 51) kX11_isP rfl (by decide) (fun c73 => ?_) (fun c73 => ?_)
            · refine fz_iconst ⟨by decide, by decide⟩ kX11_isP rfl ?_
              refine fz_istore_n (ls' := [(1, fz_i (-1)), (0, fz_r 53)]) kX11_isP rfl (by decide) rfl ?_
              refine fz_iload_n kX11_isP rfl rfl ?_
              refine fz_if_ge (tgt := 59) kX11_isP rfl (by decide) (fun c74 => ?_) (fun c74 => ?_)
              · exfalso; omega
              · refine fz_iconst ⟨by decide, by decide⟩ kX11_isP rfl ?_
                exact fz_zret kX11_isP rfl rfl (by omega) ⟨hI27, hf28, _, rfl, (by omega), (by omega), (by omega), (by omega), (by omega), (by omega), (by omega), (by first | (intro z; exfalso; omega) | (intro _; exact hPa25)), (by first | exact fl_sL_n0 f18 rfl (by omega) | exact fl_sL_x hv38 (by unfold fl_oP; omega) rfl rfl rfl | exact fl_sL_no (l := (-1)) hv38 (by decide) ⟨by omega, by omega⟩ (by unfold fl_oP; omega) (by omega) (by omega) (by rw [lost]; exact fz_up_s (by decide)) (by rw [lost]; exact fz_up_ne (by decide)) lost (congrArg (fun g => fl_pO g (k + 1)) (fl_gM_e (funext fun s => lost 65 s rfl) (lost 53 16 rfl))) (by omega))⟩
            · refine fz_bipush ⟨by decide, by decide⟩ kX11_isP rfl ?_
              refine fz_goto (tgt := 52) kX11_isP rfl (by decide) ?_
              refine fz_istore_n (ls' := [(1, fz_i 15), (0, fz_r 53)]) kX11_isP rfl (by decide) rfl ?_
              refine fz_iload_n kX11_isP rfl rfl ?_
              refine fz_if_ge (tgt := 59) kX11_isP rfl (by decide) (fun c77 => ?_) (fun c77 => ?_)
              · refine fz_aload_n kX11_isP rfl rfl ?_
                refine fz_dup rfl kX11_isP rfl ?_
                obtain ⟨v78, e79⟩ : ∃ z, H26 53 (24) = z := ⟨_, rfl⟩
                refine fz_getV (v := v78) kX11_isP rfl rfl e79 ?_
                have b80 : 0 ≤ v78 ∧ v78 ≤ 120 := by rw [← e79]; exact hI27.1 53 _
                refine fz_iconst ⟨by decide, by decide⟩ kX11_isP rfl ?_
                refine fz_iaddN kX11_isP rfl (by omega) ?_
                refine fz_putI kX11_isP rfl rfl rfl ?_
                refine fz_nmu (S := [(53, 24), (53, 25), (53, 26), (73, 99999)]) (h0 := h) (fz_Iv_up hI27 (by decide) (show (0 : Int) ≤ (v78 + 1) by omega) (show ((v78 + 1) : Int) ≤ 120 by omega)) (fz_fr_up hf28 rfl) (fun H81 hI82 hf83 e84 => ?_)
                have k85 : H81 53 25 = L := by rw [e84]; exact (fz_up_s (by decide)).trans hv33
                have k86 : H81 53 24 = (v78 + 1) := by rw [e84]; exact fz_up_e
                have t87 : H81 53 26 = H26 53 26 := by rw [e84]; exact fz_up_s (by decide)
                have hPa88 : fz_Pa h H81 := fz_Pa_eq (by rw [e84]; exact fz_up_ne (by decide)) (by rw [e84]; exact fz_up_s (by decide)) hPa25
                refine fz_aload_n kX11_isP rfl rfl ?_
                have k89 := hPa88
                have b91 : 0 ≤ H81 53 25 ∧ H81 53 25 ≤ 6 := hI82.1 53 _
                have b92 : 0 ≤ H81 53 24 ∧ H81 53 24 ≤ 120 := hI82.1 53 _
                have b93 : 0 ≤ H81 53 26 ∧ H81 53 26 ≤ 200 := hI82.1 53 _
                have e94 : H81 53 16 = h 53 16 := hf83 53 16 rfl
                refine fz_callV (d' := (D + 8)) (M' := mX11_isO) (As := []) (st := []) kX11_isP rfl rfl vX11_isO rfl rfl rfl rfl (Nat.le_of_ble_eq_true rfl) (Nat.le_of_ble_eq_true rfl) (by omega) (sX11_isO_g k L D hL ihO ihE H81 hI82  (by omega) (by omega) (by omega)) (fun H95 r96 q97 o98 => ?_)
                obtain ⟨hI99, hf100, y109, rfl, p110, f101, f102, f103, f104, f105, f106, f107, f108⟩ := q97
                clear o98
                have hf111 := fz_fr_tr hf83 hf100 (show fz_su [(53, 24), (53, 25), (53, 26), (73, 99999)] [(53, 24), (53, 25), (53, 26), (73, 99999)] = true from rfl)
                refine fz_if_ne (tgt := 78) kX11_isP rfl (by decide) (fun c112 => ?_) (fun c112 => ?_)
                · have k113 := f107 (by omega)
                  refine fz_aload_n kX11_isP rfl rfl ?_
                  refine fz_iload_n kX11_isP rfl rfl ?_
                  have b115 : 0 ≤ H95 53 26 ∧ H95 53 26 ≤ 200 := hI99.1 53 _
                  refine fz_callV (d' := 0) (M' := mX11_codes) (As := [fz_i 15]) (st := []) kX11_isP rfl rfl vX11_codes rfl rfl rfl rfl (Nat.le_of_ble_eq_true rfl) (Nat.le_of_ble_eq_true rfl) (by omega) (sX11_codes H95 hI99 15 (by omega)) (fun H116 r117 q118 o119 => ?_)
                  obtain ⟨hI120, hf121, y125, rfl, p126, f122, f123, f124⟩ := q118
                  clear o119
                  have hf127 := fz_fr_tr hf111 hf121 (show fz_su [(53, 26), (73, 99999)] [(53, 24), (53, 25), (53, 26), (73, 99999)] = true from rfl)
                  have k128 : H116 53 25 = L := (hf121 53 25 rfl).trans f101
                  have t129 : H116 53 24 = H95 53 24 := hf121 53 24 rfl
                  refine fz_eqi (show y125 = 1 by omega) ?_
                  have hPa130 : fz_Pa h H116 := fz_Pa_b k89 k113 f124 (by omega)
                  refine fz_pop rfl kX11_isP rfl ?_
                  refine fz_goto (tgt := 9) kX11_isP rfl (by decide) ?_
                  refine fz_sub (fz_pk_sub (ls' := [(0, fz_r 53)]) [1] rfl) ?_
                  exact ih31  H116 hI120 hf127 hPa130 (by omega) (by omega) (by omega) (by omega) (by omega) (fl_sL_st hv38 (by decide) ⟨by omega, by omega, by omega, by omega⟩ (by unfold fl_oP; omega) (by omega) (by omega) (by rw [e84]; exact fz_up_s (by decide)) (by rw [e84]; exact fz_up_ne (by decide)) f108 (congrArg (fun g => fl_pO g (k + 1)) (fl_gM_e (funext fun s => hf83 65 s rfl) (hf83 53 16 rfl))) (by omega) f124 (by omega) (by omega)) (by omega)
                · refine fz_iconst ⟨by decide, by decide⟩ kX11_isP rfl ?_
                  exact fz_zret kX11_isP rfl rfl (by omega) ⟨hI99, hf111, _, rfl, (by omega), (by omega), (by omega), (by omega), (by omega), (by omega), (by omega), (by first | (intro z; exfalso; omega) | (intro _; exact lost)), (by first | exact fl_sL_n0 f18 rfl (by omega) | exact fl_sL_x hv38 (by unfold fl_oP; omega) rfl rfl rfl | exact fl_sL_no (l := 15) hv38 (by decide) ⟨by omega, by omega⟩ (by unfold fl_oP; omega) (by omega) (by omega) (by rw [e84]; exact fz_up_s (by decide)) (by rw [e84]; exact fz_up_ne (by decide)) f108 (congrArg (fun g => fl_pO g (k + 1)) (fl_gM_e (funext fun s => hf83 65 s rfl) (hf83 53 16 rfl))) (by omega))⟩
              · exfalso; omega
          · refine fz_bipush ⟨by decide, by decide⟩ kX11_isP rfl ?_
            refine fz_goto (tgt := 52) kX11_isP rfl (by decide) ?_
            refine fz_istore_n (ls' := [(1, fz_i 14), (0, fz_r 53)]) kX11_isP rfl (by decide) rfl ?_
            refine fz_iload_n kX11_isP rfl rfl ?_
            refine fz_if_ge (tgt := 59) kX11_isP rfl (by decide) (fun c135 => ?_) (fun c135 => ?_)
            · refine fz_aload_n kX11_isP rfl rfl ?_
              refine fz_dup rfl kX11_isP rfl ?_
              obtain ⟨v136, e137⟩ : ∃ z, H26 53 (24) = z := ⟨_, rfl⟩
              refine fz_getV (v := v136) kX11_isP rfl rfl e137 ?_
              have b138 : 0 ≤ v136 ∧ v136 ≤ 120 := by rw [← e137]; exact hI27.1 53 _
              refine fz_iconst ⟨by decide, by decide⟩ kX11_isP rfl ?_
              refine fz_iaddN kX11_isP rfl (by omega) ?_
              refine fz_putI kX11_isP rfl rfl rfl ?_
              refine fz_nmu (S := [(53, 24), (53, 25), (53, 26), (73, 99999)]) (h0 := h) (fz_Iv_up hI27 (by decide) (show (0 : Int) ≤ (v136 + 1) by omega) (show ((v136 + 1) : Int) ≤ 120 by omega)) (fz_fr_up hf28 rfl) (fun H139 hI140 hf141 e142 => ?_)
              have k143 : H139 53 25 = L := by rw [e142]; exact (fz_up_s (by decide)).trans hv33
              have k144 : H139 53 24 = (v136 + 1) := by rw [e142]; exact fz_up_e
              have t145 : H139 53 26 = H26 53 26 := by rw [e142]; exact fz_up_s (by decide)
              have hPa146 : fz_Pa h H139 := fz_Pa_eq (by rw [e142]; exact fz_up_ne (by decide)) (by rw [e142]; exact fz_up_s (by decide)) hPa25
              refine fz_aload_n kX11_isP rfl rfl ?_
              have k147 := hPa146
              have b149 : 0 ≤ H139 53 25 ∧ H139 53 25 ≤ 6 := hI140.1 53 _
              have b150 : 0 ≤ H139 53 24 ∧ H139 53 24 ≤ 120 := hI140.1 53 _
              have b151 : 0 ≤ H139 53 26 ∧ H139 53 26 ≤ 200 := hI140.1 53 _
              have e152 : H139 53 16 = h 53 16 := hf141 53 16 rfl
              refine fz_callV (d' := (D + 8)) (M' := mX11_isO) (As := []) (st := []) kX11_isP rfl rfl vX11_isO rfl rfl rfl rfl (Nat.le_of_ble_eq_true rfl) (Nat.le_of_ble_eq_true rfl) (by omega) (sX11_isO_g k L D hL ihO ihE H139 hI140  (by omega) (by omega) (by omega)) (fun H153 r154 q155 o156 => ?_)
              obtain ⟨hI157, hf158, y167, rfl, p168, f159, f160, f161, f162, f163, f164, f165, f166⟩ := q155
              clear o156
              have hf169 := fz_fr_tr hf141 hf158 (show fz_su [(53, 24), (53, 25), (53, 26), (73, 99999)] [(53, 24), (53, 25), (53, 26), (73, 99999)] = true from rfl)
              refine fz_if_ne (tgt := 78) kX11_isP rfl (by decide) (fun c170 => ?_) (fun c170 => ?_)
              · have k171 := f165 (by omega)
                refine fz_aload_n kX11_isP rfl rfl ?_
                refine fz_iload_n kX11_isP rfl rfl ?_
                have b173 : 0 ≤ H153 53 26 ∧ H153 53 26 ≤ 200 := hI157.1 53 _
                refine fz_callV (d' := 0) (M' := mX11_codes) (As := [fz_i 14]) (st := []) kX11_isP rfl rfl vX11_codes rfl rfl rfl rfl (Nat.le_of_ble_eq_true rfl) (Nat.le_of_ble_eq_true rfl) (by omega) (sX11_codes H153 hI157 14 (by omega)) (fun H174 r175 q176 o177 => ?_)
                obtain ⟨hI178, hf179, y183, rfl, p184, f180, f181, f182⟩ := q176
                clear o177
                have hf185 := fz_fr_tr hf169 hf179 (show fz_su [(53, 26), (73, 99999)] [(53, 24), (53, 25), (53, 26), (73, 99999)] = true from rfl)
                have k186 : H174 53 25 = L := (hf179 53 25 rfl).trans f159
                have t187 : H174 53 24 = H153 53 24 := hf179 53 24 rfl
                refine fz_eqi (show y183 = 1 by omega) ?_
                have hPa188 : fz_Pa h H174 := fz_Pa_b k147 k171 f182 (by omega)
                refine fz_pop rfl kX11_isP rfl ?_
                refine fz_goto (tgt := 9) kX11_isP rfl (by decide) ?_
                refine fz_sub (fz_pk_sub (ls' := [(0, fz_r 53)]) [1] rfl) ?_
                exact ih31  H174 hI178 hf185 hPa188 (by omega) (by omega) (by omega) (by omega) (by omega) (fl_sL_st hv38 (by decide) ⟨by omega, by omega, by omega, by omega⟩ (by unfold fl_oP; omega) (by omega) (by omega) (by rw [e142]; exact fz_up_s (by decide)) (by rw [e142]; exact fz_up_ne (by decide)) f166 (congrArg (fun g => fl_pO g (k + 1)) (fl_gM_e (funext fun s => hf141 65 s rfl) (hf141 53 16 rfl))) (by omega) f182 (by omega) (by omega)) (by omega)
              · refine fz_iconst ⟨by decide, by decide⟩ kX11_isP rfl ?_
                exact fz_zret kX11_isP rfl rfl (by omega) ⟨hI157, hf169, _, rfl, (by omega), (by omega), (by omega), (by omega), (by omega), (by omega), (by omega), (by first | (intro z; exfalso; omega) | (intro _; exact lost)), (by first | exact fl_sL_n0 f18 rfl (by omega) | exact fl_sL_x hv38 (by unfold fl_oP; omega) rfl rfl rfl | exact fl_sL_no (l := 14) hv38 (by decide) ⟨by omega, by omega⟩ (by unfold fl_oP; omega) (by omega) (by omega) (by rw [e142]; exact fz_up_s (by decide)) (by rw [e142]; exact fz_up_ne (by decide)) f166 (congrArg (fun g => fl_pO g (k + 1)) (fl_gM_e (funext fun s => hf141 65 s rfl) (hf141 53 16 rfl))) (by omega))⟩
            · exfalso; omega
        · refine fz_bipush ⟨by decide, by decide⟩ kX11_isP rfl ?_
          refine fz_goto (tgt := 52) kX11_isP rfl (by decide) ?_
          refine fz_istore_n (ls' := [(1, fz_i 13), (0, fz_r 53)]) kX11_isP rfl (by decide) rfl ?_
          refine fz_iload_n kX11_isP rfl rfl ?_
          refine fz_if_ge (tgt := 59) kX11_isP rfl (by decide) (fun c193 => ?_) (fun c193 => ?_)
          · refine fz_aload_n kX11_isP rfl rfl ?_
            refine fz_dup rfl kX11_isP rfl ?_
            obtain ⟨v194, e195⟩ : ∃ z, H26 53 (24) = z := ⟨_, rfl⟩
            refine fz_getV (v := v194) kX11_isP rfl rfl e195 ?_
            have b196 : 0 ≤ v194 ∧ v194 ≤ 120 := by rw [← e195]; exact hI27.1 53 _
            refine fz_iconst ⟨by decide, by decide⟩ kX11_isP rfl ?_
            refine fz_iaddN kX11_isP rfl (by omega) ?_
            refine fz_putI kX11_isP rfl rfl rfl ?_
            refine fz_nmu (S := [(53, 24), (53, 25), (53, 26), (73, 99999)]) (h0 := h) (fz_Iv_up hI27 (by decide) (show (0 : Int) ≤ (v194 + 1) by omega) (show ((v194 + 1) : Int) ≤ 120 by omega)) (fz_fr_up hf28 rfl) (fun H197 hI198 hf199 e200 => ?_)
            have k201 : H197 53 25 = L := by rw [e200]; exact (fz_up_s (by decide)).trans hv33
            have k202 : H197 53 24 = (v194 + 1) := by rw [e200]; exact fz_up_e
            have t203 : H197 53 26 = H26 53 26 := by rw [e200]; exact fz_up_s (by decide)
            have hPa204 : fz_Pa h H197 := fz_Pa_eq (by rw [e200]; exact fz_up_ne (by decide)) (by rw [e200]; exact fz_up_s (by decide)) hPa25
            refine fz_aload_n kX11_isP rfl rfl ?_
            have k205 := hPa204
            have b207 : 0 ≤ H197 53 25 ∧ H197 53 25 ≤ 6 := hI198.1 53 _
            have b208 : 0 ≤ H197 53 24 ∧ H197 53 24 ≤ 120 := hI198.1 53 _
            have b209 : 0 ≤ H197 53 26 ∧ H197 53 26 ≤ 200 := hI198.1 53 _
            have e210 : H197 53 16 = h 53 16 := hf199 53 16 rfl
            refine fz_callV (d' := (D + 8)) (M' := mX11_isO) (As := []) (st := []) kX11_isP rfl rfl vX11_isO rfl rfl rfl rfl (Nat.le_of_ble_eq_true rfl) (Nat.le_of_ble_eq_true rfl) (by omega) (sX11_isO_g k L D hL ihO ihE H197 hI198  (by omega) (by omega) (by omega)) (fun H211 r212 q213 o214 => ?_)
            obtain ⟨hI215, hf216, y225, rfl, p226, f217, f218, f219, f220, f221, f222, f223, f224⟩ := q213
            clear o214
            have hf227 := fz_fr_tr hf199 hf216 (show fz_su [(53, 24), (53, 25), (53, 26), (73, 99999)] [(53, 24), (53, 25), (53, 26), (73, 99999)] = true from rfl)
            refine fz_if_ne (tgt := 78) kX11_isP rfl (by decide) (fun c228 => ?_) (fun c228 => ?_)
            · have k229 := f223 (by omega)
              refine fz_aload_n kX11_isP rfl rfl ?_
              refine fz_iload_n kX11_isP rfl rfl ?_
              have b231 : 0 ≤ H211 53 26 ∧ H211 53 26 ≤ 200 := hI215.1 53 _
              refine fz_callV (d' := 0) (M' := mX11_codes) (As := [fz_i 13]) (st := []) kX11_isP rfl rfl vX11_codes rfl rfl rfl rfl (Nat.le_of_ble_eq_true rfl) (Nat.le_of_ble_eq_true rfl) (by omega) (sX11_codes H211 hI215 13 (by omega)) (fun H232 r233 q234 o235 => ?_)
              obtain ⟨hI236, hf237, y241, rfl, p242, f238, f239, f240⟩ := q234
              clear o235
              have hf243 := fz_fr_tr hf227 hf237 (show fz_su [(53, 26), (73, 99999)] [(53, 24), (53, 25), (53, 26), (73, 99999)] = true from rfl)
              have k244 : H232 53 25 = L := (hf237 53 25 rfl).trans f217
              have t245 : H232 53 24 = H211 53 24 := hf237 53 24 rfl
              refine fz_eqi (show y241 = 1 by omega) ?_
              have hPa246 : fz_Pa h H232 := fz_Pa_b k205 k229 f240 (by omega)
              refine fz_pop rfl kX11_isP rfl ?_
              refine fz_goto (tgt := 9) kX11_isP rfl (by decide) ?_
              refine fz_sub (fz_pk_sub (ls' := [(0, fz_r 53)]) [1] rfl) ?_
              exact ih31  H232 hI236 hf243 hPa246 (by omega) (by omega) (by omega) (by omega) (by omega) (fl_sL_st hv38 (by decide) ⟨by omega, by omega, by omega, by omega⟩ (by unfold fl_oP; omega) (by omega) (by omega) (by rw [e200]; exact fz_up_s (by decide)) (by rw [e200]; exact fz_up_ne (by decide)) f224 (congrArg (fun g => fl_pO g (k + 1)) (fl_gM_e (funext fun s => hf199 65 s rfl) (hf199 53 16 rfl))) (by omega) f240 (by omega) (by omega)) (by omega)
            · refine fz_iconst ⟨by decide, by decide⟩ kX11_isP rfl ?_
              exact fz_zret kX11_isP rfl rfl (by omega) ⟨hI215, hf227, _, rfl, (by omega), (by omega), (by omega), (by omega), (by omega), (by omega), (by omega), (by first | (intro z; exfalso; omega) | (intro _; exact lost)), (by first | exact fl_sL_n0 f18 rfl (by omega) | exact fl_sL_x hv38 (by unfold fl_oP; omega) rfl rfl rfl | exact fl_sL_no (l := 13) hv38 (by decide) ⟨by omega, by omega⟩ (by unfold fl_oP; omega) (by omega) (by omega) (by rw [e200]; exact fz_up_s (by decide)) (by rw [e200]; exact fz_up_ne (by decide)) f224 (congrArg (fun g => fl_pO g (k + 1)) (fl_gM_e (funext fun s => hf199 65 s rfl) (hf199 53 16 rfl))) (by omega))⟩
          · exfalso; omega
    exact lp30 _  H5 hI9 hf21 hPa23 (by omega) (by omega) (by omega) (by omega) (by omega) (fl_sL_0 f18 rfl (by omega) (by omega)) (Nat.lt_succ_self _)
  · refine fz_iconst ⟨by decide, by decide⟩ kX11_isP rfl ?_
    exact fz_zret kX11_isP rfl rfl (by omega) ⟨hI9, hf21, _, rfl, (by omega), (by omega), (by omega), (by omega), (by omega), (by omega), (by omega), (by first | (intro z; exfalso; omega) | (intro _; exact lost)), (by first | exact fl_sL_n0 f18 rfl (by omega) | exact fl_sL_x lost (by unfold fl_oP; omega) rfl rfl rfl | exact fl_sL_no (l := {l1}) lost (by decide) ⟨by omega, by omega⟩ (by unfold fl_oP; omega) (by omega) (by omega) (by rw [lost]; exact fz_up_s (by decide)) (by rw [lost]; exact fz_up_ne (by decide)) lost (congrArg (fun g => fl_pO g (k + 1)) (fl_gM_e (funext fun s => lost 65 s rfl) (lost 53 16 rfl))) (by omega))⟩

set_option maxHeartbeats 1000000 in
set_option maxRecDepth 100000 in
theorem sX11_isS_g (k : Nat) (L : Int) (D : Nat) (hL : 0 ≤ L ∧ L ≤ 5) (ihO : ∀ (h : fz_H) (hI : fz_Iv h) (hp0 : h 53 25 = L + 1) (hp1 : h 53 24 ≤ h 53 16) (hp2 : h 53 26 ≤ h 53 24), fz_R (D + 2) mX11_isO 0 [(0, fz_r 53)] [] h (qX11_isO_g k (L + 1) h)) (ihE : ∀ (h : fz_H) (hI : fz_Iv h) (hp0 : h 53 25 = L + 1) (hp1 : h 53 24 ≤ h 53 16) (hp2 : h 53 26 ≤ h 53 24), fz_R (D + 7) mX11_isE 0 [(0, fz_r 53)] [] h (qX11_isE_g k (L + 1) h)) (h : fz_H) (hI : fz_Iv h) (hp0 : h 53 25 = L) (hp1 : h 53 24 ≤ h 53 16) (hp2 : h 53 26 ≤ h 53 24) : fz_R (D + 10) mX11_isS 0 [(0, fz_r 53)] [] h (qX11_isS_g (k + 1) L h) := by
  have hf : fz_fr [(53, 24), (53, 25), (53, 26), (73, 99999)] h h := fz_fr_rf
  have b1 : 0 ≤ h 53 25 ∧ h 53 25 ≤ 6 := hI.1 53 _
  have b2 : 0 ≤ h 53 24 ∧ h 53 24 ≤ 120 := hI.1 53 _
  have b3 : 0 ≤ h 53 16 ∧ h 53 16 ≤ 120 := hI.1 53 _
  have b4 : 0 ≤ h 53 26 ∧ h 53 26 ≤ 200 := hI.1 53 _
  refine fz_aload_n kX11_isS rfl rfl ?_
  refine fz_callV (d' := (D + 9)) (M' := mX11_isP) (As := []) (st := []) kX11_isS rfl rfl vX11_isP rfl rfl rfl rfl (Nat.le_of_ble_eq_true rfl) (Nat.le_of_ble_eq_true rfl) (by omega) (sX11_isP_g k L D hL ihO ihE h hI  (by omega) (by omega) (by omega)) (fun H5 r6 q7 o8 => ?_)
  obtain ⟨hI9, hf10, y19, rfl, p20, f11, f12, f13, f14, f15, f16, f17, f18⟩ := q7
  clear o8
  have hf21 := fz_fr_tr hf hf10 (show fz_su [(53, 24), (53, 25), (53, 26), (73, 99999)] [(53, 24), (53, 25), (53, 26), (73, 99999)] = true from rfl)
  refine fz_if_ne (tgt := 9) kX11_isS rfl (by decide) (fun c22 => ?_) (fun c22 => ?_)
  · have hPa23 : fz_Pa h H5 := f17 (by omega)
    have lp30 : ∀ (n29 : Nat) (H26 : fz_H), fz_Iv H26 → fz_fr [(53, 24), (53, 25), (53, 26), (73, 99999)] h H26 → fz_Pa h H26 → (H26 53 25 = L) → (h 53 24 + 1 ≤ H26 53 24) → (H26 53 24 ≤ h 53 16) → (h 53 26 ≤ H26 53 26) → (H26 53 26 - h 53 26 ≤ H26 53 24 - h 53 24) → (fl_sL h H26 (fl_eS (fl_gM h) (fl_pO (fl_gM h) (k + 1)) (h 53 24)) fl_oS (fl_eP (fl_gM h) (fl_pO (fl_gM h) (k + 1))) (fl_gM h) 200) → (h 53 16 - H26 53 24).toNat < n29 → fz_R (D + 10) mX11_isS 9 [(0, fz_r 53)] [] H26 (qX11_isS_g (k + 1) L h) := by
      intro n29
      induction n29 with
      | zero => intro H26 hI27 hf28 hPa25 hv33 hv34 hv35 hv36 hv37 hv38 hm32; exact absurd hm32 (by omega)
      | succ n29 ih31 =>
        intro H26 hI27 hf28 hPa25 hv33 hv34 hv35 hv36 hv37 hv38 hm32
        refine fz_aload_n kX11_isS rfl rfl ?_
        have k39 : fl_gM H26 (H26 53 24) = fl_gM h (H26 53 24) := fl_gMe2 (funext fun s => hf28 65 s rfl) (hf28 53 16 rfl)
        have b41 : 0 ≤ H26 53 24 ∧ H26 53 24 ≤ 120 := hI27.1 53 _
        have b42 : 0 ≤ h 53 16 ∧ h 53 16 ≤ 120 := hI.1 53 _
        have e43 : H26 53 16 = h 53 16 := hf28 53 16 rfl
        refine fz_callV (d' := 0) (M' := mX11_sign) (As := []) (st := []) kX11_isS rfl rfl vX11_sign rfl rfl rfl rfl (Nat.le_of_ble_eq_true rfl) (Nat.le_of_ble_eq_true rfl) (by omega) (sX11_sign H26 hI27  (by omega)) (fun H44 r45 q46 o47 => ?_)
        obtain ⟨e48, y52, rfl, f49, f50, f51⟩ := q46
        subst H44
        clear o47
        refine fz_bipush ⟨by decide, by decide⟩ kX11_isS rfl ?_
        refine fz_icmp_ne (tgt := 23) kX11_isS rfl (by decide) (fun c53 => ?_) (fun c53 => ?_)
        · refine fz_aload_n kX11_isS rfl rfl ?_
          refine fz_callV (d' := 0) (M' := mX11_sign) (As := []) (st := []) kX11_isS rfl rfl vX11_sign rfl rfl rfl rfl (Nat.le_of_ble_eq_true rfl) (Nat.le_of_ble_eq_true rfl) (by omega) (sX11_sign H26 hI27  (by omega)) (fun H54 r55 q56 o57 => ?_)
          obtain ⟨e58, y62, rfl, f59, f60, f61⟩ := q56
          subst H54
          clear o57
          refine fz_bipush ⟨by decide, by decide⟩ kX11_isS rfl ?_
          refine fz_icmp_ne (tgt := 37) kX11_isS rfl (by decide) (fun c63 => ?_) (fun c63 => ?_)
          · refine fz_iconst ⟨by decide, by decide⟩ kX11_isS rfl ?_
            refine fz_istore_n (ls' := [(1, fz_i (-1)), (0, fz_r 53)]) kX11_isS rfl (by decide) rfl ?_
            refine fz_iload_n kX11_isS rfl rfl ?_
            refine fz_if_ge (tgt := 45) kX11_isS rfl (by decide) (fun c64 => ?_) (fun c64 => ?_)
            · exfalso; omega
            · refine fz_iconst ⟨by decide, by decide⟩ kX11_isS rfl ?_
              exact fz_zret kX11_isS rfl rfl (by omega) ⟨hI27, hf28, _, rfl, (by omega), (by omega), (by omega), (by omega), (by omega), (by omega), (by omega), (by first | (intro z; exfalso; omega) | (intro _; exact hPa25)), (by first | exact fl_sL_n0 f18 rfl (by omega) | exact fl_sL_x hv38 (by unfold fl_oS; omega) rfl rfl rfl | exact fl_sL_no (l := (-1)) hv38 (by decide) ⟨by omega, by omega⟩ (by unfold fl_oS; omega) (by omega) (by omega) (by rw [lost]; exact fz_up_s (by decide)) (by rw [lost]; exact fz_up_ne (by decide)) lost (congrArg (fun g => fl_eP g (fl_pO g (k + 1))) (fl_gM_e (funext fun s => lost 65 s rfl) (lost 53 16 rfl))) (by omega))⟩
          · refine fz_bipush ⟨by decide, by decide⟩ kX11_isS rfl ?_
            refine fz_goto (tgt := 38) kX11_isS rfl (by decide) ?_
            refine fz_istore_n (ls' := [(1, fz_i 12), (0, fz_r 53)]) kX11_isS rfl (by decide) rfl ?_
            refine fz_iload_n kX11_isS rfl rfl ?_
            refine fz_if_ge (tgt := 45) kX11_isS rfl (by decide) (fun c67 => ?_) (fun c67 => ?_)
            · refine fz_aload_n kX11_isS rfl rfl ?_
              refine fz_dup rfl kX11_isS rfl ?_
              obtain ⟨v68, e69⟩ : ∃ z, H26 53 (24) = z := ⟨_, rfl⟩
              refine fz_getV (v := v68) kX11_isS rfl rfl e69 ?_
              have b70 : 0 ≤ v68 ∧ v68 ≤ 120 := by rw [← e69]; exact hI27.1 53 _
              refine fz_iconst ⟨by decide, by decide⟩ kX11_isS rfl ?_
              refine fz_iaddN kX11_isS rfl (by omega) ?_
              refine fz_putI kX11_isS rfl rfl rfl ?_
              refine fz_nmu (S := [(53, 24), (53, 25), (53, 26), (73, 99999)]) (h0 := h) (fz_Iv_up hI27 (by decide) (show (0 : Int) ≤ (v68 + 1) by omega) (show ((v68 + 1) : Int) ≤ 120 by omega)) (fz_fr_up hf28 rfl) (fun H71 hI72 hf73 e74 => ?_)
              have k75 : H71 53 25 = L := by rw [e74]; exact (fz_up_s (by decide)).trans hv33
              have k76 : H71 53 24 = (v68 + 1) := by rw [e74]; exact fz_up_e
              have t77 : H71 53 26 = H26 53 26 := by rw [e74]; exact fz_up_s (by decide)
              have hPa78 : fz_Pa h H71 := fz_Pa_eq (by rw [e74]; exact fz_up_ne (by decide)) (by rw [e74]; exact fz_up_s (by decide)) hPa25
              refine fz_aload_n kX11_isS rfl rfl ?_
              have k79 := hPa78
              have b81 : 0 ≤ H71 53 25 ∧ H71 53 25 ≤ 6 := hI72.1 53 _
              have b82 : 0 ≤ H71 53 24 ∧ H71 53 24 ≤ 120 := hI72.1 53 _
              have b83 : 0 ≤ H71 53 26 ∧ H71 53 26 ≤ 200 := hI72.1 53 _
              have e84 : H71 53 16 = h 53 16 := hf73 53 16 rfl
              refine fz_callV (d' := (D + 9)) (M' := mX11_isP) (As := []) (st := []) kX11_isS rfl rfl vX11_isP rfl rfl rfl rfl (Nat.le_of_ble_eq_true rfl) (Nat.le_of_ble_eq_true rfl) (by omega) (sX11_isP_g k L D hL ihO ihE H71 hI72  (by omega) (by omega) (by omega)) (fun H85 r86 q87 o88 => ?_)
              obtain ⟨hI89, hf90, y99, rfl, p100, f91, f92, f93, f94, f95, f96, f97, f98⟩ := q87
              clear o88
              have hf101 := fz_fr_tr hf73 hf90 (show fz_su [(53, 24), (53, 25), (53, 26), (73, 99999)] [(53, 24), (53, 25), (53, 26), (73, 99999)] = true from rfl)
              refine fz_if_ne (tgt := 64) kX11_isS rfl (by decide) (fun c102 => ?_) (fun c102 => ?_)
              · have k103 := f97 (by omega)
                refine fz_aload_n kX11_isS rfl rfl ?_
                refine fz_iload_n kX11_isS rfl rfl ?_
                have b105 : 0 ≤ H85 53 26 ∧ H85 53 26 ≤ 200 := hI89.1 53 _
                refine fz_callV (d' := 0) (M' := mX11_codes) (As := [fz_i 12]) (st := []) kX11_isS rfl rfl vX11_codes rfl rfl rfl rfl (Nat.le_of_ble_eq_true rfl) (Nat.le_of_ble_eq_true rfl) (by omega) (sX11_codes H85 hI89 12 (by omega)) (fun H106 r107 q108 o109 => ?_)
                obtain ⟨hI110, hf111, y115, rfl, p116, f112, f113, f114⟩ := q108
                clear o109
                have hf117 := fz_fr_tr hf101 hf111 (show fz_su [(53, 26), (73, 99999)] [(53, 24), (53, 25), (53, 26), (73, 99999)] = true from rfl)
                have k118 : H106 53 25 = L := (hf111 53 25 rfl).trans f91
                have t119 : H106 53 24 = H85 53 24 := hf111 53 24 rfl
                refine fz_eqi (show y115 = 1 by omega) ?_
                have hPa120 : fz_Pa h H106 := fz_Pa_b k79 k103 f114 (by omega)
                refine fz_pop rfl kX11_isS rfl ?_
                refine fz_goto (tgt := 9) kX11_isS rfl (by decide) ?_
                refine fz_sub (fz_pk_sub (ls' := [(0, fz_r 53)]) [1] rfl) ?_
                exact ih31  H106 hI110 hf117 hPa120 (by omega) (by omega) (by omega) (by omega) (by omega) (fl_sL_st hv38 (by decide) ⟨by omega, by omega, by omega, by omega⟩ (by unfold fl_oS; omega) (by omega) (by omega) (by rw [e74]; exact fz_up_s (by decide)) (by rw [e74]; exact fz_up_ne (by decide)) f98 (congrArg (fun g => fl_eP g (fl_pO g (k + 1))) (fl_gM_e (funext fun s => hf73 65 s rfl) (hf73 53 16 rfl))) (by omega) f114 (by omega) (by omega)) (by omega)
              · refine fz_iconst ⟨by decide, by decide⟩ kX11_isS rfl ?_
                exact fz_zret kX11_isS rfl rfl (by omega) ⟨hI89, hf101, _, rfl, (by omega), (by omega), (by omega), (by omega), (by omega), (by omega), (by omega), (by first | (intro z; exfalso; omega) | (intro _; exact lost)), (by first | exact fl_sL_n0 f18 rfl (by omega) | exact fl_sL_x hv38 (by unfold fl_oS; omega) rfl rfl rfl | exact fl_sL_no (l := 12) hv38 (by decide) ⟨by omega, by omega⟩ (by unfold fl_oS; omega) (by omega) (by omega) (by rw [e74]; exact fz_up_s (by decide)) (by rw [e74]; exact fz_up_ne (by decide)) f98 (congrArg (fun g => fl_eP g (fl_pO g (k + 1))) (fl_gM_e (funext fun s => hf73 65 s rfl) (hf73 53 16 rfl))) (by omega))⟩
            · exfalso; omega
        · refine fz_bipush ⟨by decide, by decide⟩ kX11_isS rfl ?_
          refine fz_goto (tgt := 38) kX11_isS rfl (by decide) ?_
          refine fz_istore_n (ls' := [(1, fz_i 11), (0, fz_r 53)]) kX11_isS rfl (by decide) rfl ?_
          refine fz_iload_n kX11_isS rfl rfl ?_
          refine fz_if_ge (tgt := 45) kX11_isS rfl (by decide) (fun c125 => ?_) (fun c125 => ?_)
          · refine fz_aload_n kX11_isS rfl rfl ?_
            refine fz_dup rfl kX11_isS rfl ?_
            obtain ⟨v126, e127⟩ : ∃ z, H26 53 (24) = z := ⟨_, rfl⟩
            refine fz_getV (v := v126) kX11_isS rfl rfl e127 ?_
            have b128 : 0 ≤ v126 ∧ v126 ≤ 120 := by rw [← e127]; exact hI27.1 53 _
            refine fz_iconst ⟨by decide, by decide⟩ kX11_isS rfl ?_
            refine fz_iaddN kX11_isS rfl (by omega) ?_
            refine fz_putI kX11_isS rfl rfl rfl ?_
            refine fz_nmu (S := [(53, 24), (53, 25), (53, 26), (73, 99999)]) (h0 := h) (fz_Iv_up hI27 (by decide) (show (0 : Int) ≤ (v126 + 1) by omega) (show ((v126 + 1) : Int) ≤ 120 by omega)) (fz_fr_up hf28 rfl) (fun H129 hI130 hf131 e132 => ?_)
            have k133 : H129 53 25 = L := by rw [e132]; exact (fz_up_s (by decide)).trans hv33
            have k134 : H129 53 24 = (v126 + 1) := by rw [e132]; exact fz_up_e
            have t135 : H129 53 26 = H26 53 26 := by rw [e132]; exact fz_up_s (by decide)
            have hPa136 : fz_Pa h H129 := fz_Pa_eq (by rw [e132]; exact fz_up_ne (by decide)) (by rw [e132]; exact fz_up_s (by decide)) hPa25
            refine fz_aload_n kX11_isS rfl rfl ?_
            have k137 := hPa136
            have b139 : 0 ≤ H129 53 25 ∧ H129 53 25 ≤ 6 := hI130.1 53 _
            have b140 : 0 ≤ H129 53 24 ∧ H129 53 24 ≤ 120 := hI130.1 53 _
            have b141 : 0 ≤ H129 53 26 ∧ H129 53 26 ≤ 200 := hI130.1 53 _
            have e142 : H129 53 16 = h 53 16 := hf131 53 16 rfl
            refine fz_callV (d' := (D + 9)) (M' := mX11_isP) (As := []) (st := []) kX11_isS rfl rfl vX11_isP rfl rfl rfl rfl (Nat.le_of_ble_eq_true rfl) (Nat.le_of_ble_eq_true rfl) (by omega) (sX11_isP_g k L D hL ihO ihE H129 hI130  (by omega) (by omega) (by omega)) (fun H143 r144 q145 o146 => ?_)
            obtain ⟨hI147, hf148, y157, rfl, p158, f149, f150, f151, f152, f153, f154, f155, f156⟩ := q145
            clear o146
            have hf159 := fz_fr_tr hf131 hf148 (show fz_su [(53, 24), (53, 25), (53, 26), (73, 99999)] [(53, 24), (53, 25), (53, 26), (73, 99999)] = true from rfl)
            refine fz_if_ne (tgt := 64) kX11_isS rfl (by decide) (fun c160 => ?_) (fun c160 => ?_)
            · have k161 := f155 (by omega)
              refine fz_aload_n kX11_isS rfl rfl ?_
              refine fz_iload_n kX11_isS rfl rfl ?_
              have b163 : 0 ≤ H143 53 26 ∧ H143 53 26 ≤ 200 := hI147.1 53 _
              refine fz_callV (d' := 0) (M' := mX11_codes) (As := [fz_i 11]) (st := []) kX11_isS rfl rfl vX11_codes rfl rfl rfl rfl (Nat.le_of_ble_eq_true rfl) (Nat.le_of_ble_eq_true rfl) (by omega) (sX11_codes H143 hI147 11 (by omega)) (fun H164 r165 q166 o167 => ?_)
              obtain ⟨hI168, hf169, y173, rfl, p174, f170, f171, f172⟩ := q166
              clear o167
              have hf175 := fz_fr_tr hf159 hf169 (show fz_su [(53, 26), (73, 99999)] [(53, 24), (53, 25), (53, 26), (73, 99999)] = true from rfl)
              have k176 : H164 53 25 = L := (hf169 53 25 rfl).trans f149
              have t177 : H164 53 24 = H143 53 24 := hf169 53 24 rfl
              refine fz_eqi (show y173 = 1 by omega) ?_
              have hPa178 : fz_Pa h H164 := fz_Pa_b k137 k161 f172 (by omega)
              refine fz_pop rfl kX11_isS rfl ?_
              refine fz_goto (tgt := 9) kX11_isS rfl (by decide) ?_
              refine fz_sub (fz_pk_sub (ls' := [(0, fz_r 53)]) [1] rfl) ?_
              exact ih31  H164 hI168 hf175 hPa178 (by omega) (by omega) (by omega) (by omega) (by omega) (fl_sL_st hv38 (by decide) ⟨by omega, by omega, by omega, by omega⟩ (by unfold fl_oS; omega) (by omega) (by omega) (by rw [e132]; exact fz_up_s (by decide)) (by rw [e132]; exact fz_up_ne (by decide)) f156 (congrArg (fun g => fl_eP g (fl_pO g (k + 1))) (fl_gM_e (funext fun s => hf131 65 s rfl) (hf131 53 16 rfl))) (by omega) f172 (by omega) (by omega)) (by omega)
            · refine fz_iconst ⟨by decide, by decide⟩ kX11_isS rfl ?_
              exact fz_zret kX11_isS rfl rfl (by omega) ⟨hI147, hf159, _, rfl, (by omega), (by omega), (by omega), (by omega), (by omega), (by omega), (by omega), (by first | (intro z; exfalso; omega) | (intro _; exact lost)), (by first | exact fl_sL_n0 f18 rfl (by omega) | exact fl_sL_x hv38 (by unfold fl_oS; omega) rfl rfl rfl | exact fl_sL_no (l := 11) hv38 (by decide) ⟨by omega, by omega⟩ (by unfold fl_oS; omega) (by omega) (by omega) (by rw [e132]; exact fz_up_s (by decide)) (by rw [e132]; exact fz_up_ne (by decide)) f156 (congrArg (fun g => fl_eP g (fl_pO g (k + 1))) (fl_gM_e (funext fun s => hf131 65 s rfl) (hf131 53 16 rfl))) (by omega))⟩
          · exfalso; omega
    exact lp30 _  H5 hI9 hf21 hPa23 (by omega) (by omega) (by omega) (by omega) (by omega) (fl_sL_0 f18 rfl (by omega) (by omega)) (Nat.lt_succ_self _)
  · refine fz_iconst ⟨by decide, by decide⟩ kX11_isS rfl ?_
    exact fz_zret kX11_isS rfl rfl (by omega) ⟨hI9, hf21, _, rfl, (by omega), (by omega), (by omega), (by omega), (by omega), (by omega), (by omega), (by first | (intro z; exfalso; omega) | (intro _; exact lost)), (by first | exact fl_sL_n0 f18 rfl (by omega) | exact fl_sL_x lost (by unfold fl_oS; omega) rfl rfl rfl | exact fl_sL_no (l := {l1}) lost (by decide) ⟨by omega, by omega⟩ (by unfold fl_oS; omega) (by omega) (by omega) (by rw [lost]; exact fz_up_s (by decide)) (by rw [lost]; exact fz_up_ne (by decide)) lost (congrArg (fun g => fl_eP g (fl_pO g (k + 1))) (fl_gM_e (funext fun s => lost 65 s rfl) (lost 53 16 rfl))) (by omega))⟩

set_option maxHeartbeats 1000000 in
set_option maxRecDepth 100000 in
theorem sX11_isB_g (k : Nat) (L : Int) (D : Nat) (hL : 0 ≤ L ∧ L ≤ 5) (ihO : ∀ (h : fz_H) (hI : fz_Iv h) (hp0 : h 53 25 = L + 1) (hp1 : h 53 24 ≤ h 53 16) (hp2 : h 53 26 ≤ h 53 24), fz_R (D + 2) mX11_isO 0 [(0, fz_r 53)] [] h (qX11_isO_g k (L + 1) h)) (ihE : ∀ (h : fz_H) (hI : fz_Iv h) (hp0 : h 53 25 = L + 1) (hp1 : h 53 24 ≤ h 53 16) (hp2 : h 53 26 ≤ h 53 24), fz_R (D + 7) mX11_isE 0 [(0, fz_r 53)] [] h (qX11_isE_g k (L + 1) h)) (h : fz_H) (hI : fz_Iv h) (hp0 : h 53 25 = L) (hp1 : h 53 24 ≤ h 53 16) (hp2 : h 53 26 ≤ h 53 24) : fz_R (D + 11) mX11_isB 0 [(0, fz_r 53)] [] h (qX11_isB_g (k + 1) L h) := by
  have hf : fz_fr [(53, 24), (53, 25), (53, 26), (73, 99999)] h h := fz_fr_rf
  have b1 : 0 ≤ h 53 25 ∧ h 53 25 ≤ 6 := hI.1 53 _
  have b2 : 0 ≤ h 53 24 ∧ h 53 24 ≤ 120 := hI.1 53 _
  have b3 : 0 ≤ h 53 16 ∧ h 53 16 ≤ 120 := hI.1 53 _
  have b4 : 0 ≤ h 53 26 ∧ h 53 26 ≤ 200 := hI.1 53 _
  refine fz_aload_n kX11_isB rfl rfl ?_
  refine fz_callV (d' := (D + 10)) (M' := mX11_isS) (As := []) (st := []) kX11_isB rfl rfl vX11_isS rfl rfl rfl rfl (Nat.le_of_ble_eq_true rfl) (Nat.le_of_ble_eq_true rfl) (by omega) (sX11_isS_g k L D hL ihO ihE h hI  (by omega) (by omega) (by omega)) (fun H5 r6 q7 o8 => ?_)
  obtain ⟨hI9, hf10, y19, rfl, p20, f11, f12, f13, f14, f15, f16, f17, f18⟩ := q7
  clear o8
  have hf21 := fz_fr_tr hf hf10 (show fz_su [(53, 24), (53, 25), (53, 26), (73, 99999)] [(53, 24), (53, 25), (53, 26), (73, 99999)] = true from rfl)
  refine fz_if_ne (tgt := 9) kX11_isB rfl (by decide) (fun c22 => ?_) (fun c22 => ?_)
  · have k23 : fl_gM H5 (H5 53 24) = fl_gM h (H5 53 24) := fl_gMe2 (funext fun s => hf21 65 s rfl) (hf21 53 16 rfl)
    have hPa25 : fz_Pa h H5 := f17 (by omega)
    refine fz_aload_n kX11_isB rfl rfl ?_
    have b27 : 0 ≤ H5 53 24 ∧ H5 53 24 ≤ 120 := hI9.1 53 _
    have e28 : H5 53 16 = h 53 16 := hf21 53 16 rfl
    refine fz_callV (d' := 0) (M' := mX11_sign) (As := []) (st := []) kX11_isB rfl rfl vX11_sign rfl rfl rfl rfl (Nat.le_of_ble_eq_true rfl) (Nat.le_of_ble_eq_true rfl) (by omega) (sX11_sign H5 hI9  (by omega)) (fun H29 r30 q31 o32 => ?_)
    obtain ⟨e33, y37, rfl, f34, f35, f36⟩ := q31
    subst H29
    clear o32
    refine fz_bipush ⟨by decide, by decide⟩ kX11_isB rfl ?_
    refine fz_icmp_ne (tgt := 23) kX11_isB rfl (by decide) (fun c38 => ?_) (fun c38 => ?_)
    · refine fz_aload_n kX11_isB rfl rfl ?_
      refine fz_callV (d' := 0) (M' := mX11_sign) (As := []) (st := []) kX11_isB rfl rfl vX11_sign rfl rfl rfl rfl (Nat.le_of_ble_eq_true rfl) (Nat.le_of_ble_eq_true rfl) (by omega) (sX11_sign H5 hI9  (by omega)) (fun H39 r40 q41 o42 => ?_)
      obtain ⟨e43, y47, rfl, f44, f45, f46⟩ := q41
      subst H39
      clear o42
      refine fz_bipush ⟨by decide, by decide⟩ kX11_isB rfl ?_
      refine fz_icmp_ne (tgt := 37) kX11_isB rfl (by decide) (fun c48 => ?_) (fun c48 => ?_)
      · refine fz_aload_n kX11_isB rfl rfl ?_
        refine fz_callV (d' := 0) (M' := mX11_sign) (As := []) (st := []) kX11_isB rfl rfl vX11_sign rfl rfl rfl rfl (Nat.le_of_ble_eq_true rfl) (Nat.le_of_ble_eq_true rfl) (by omega) (sX11_sign H5 hI9  (by omega)) (fun H49 r50 q51 o52 => ?_)
        obtain ⟨e53, y57, rfl, f54, f55, f56⟩ := q51
        subst H49
        clear o52
        refine fz_bipush ⟨by decide, by decide⟩ kX11_isB rfl ?_
        refine fz_icmp_ne (tgt := 51) kX11_isB rfl (by decide) (fun c58 => ?_) (fun c58 => ?_)
        · refine fz_iconst ⟨by decide, by decide⟩ kX11_isB rfl ?_
          refine fz_istore_n (ls' := [(1, fz_i (-1)), (0, fz_r 53)]) kX11_isB rfl (by decide) rfl ?_
          refine fz_iload_n kX11_isB rfl rfl ?_
          refine fz_if_ge (tgt := 59) kX11_isB rfl (by decide) (fun c59 => ?_) (fun c59 => ?_)
          · exfalso; omega
          · refine fz_iconst ⟨by decide, by decide⟩ kX11_isB rfl ?_
            exact fz_zret kX11_isB rfl rfl (by omega) ⟨hI9, hf21, _, rfl, (by omega), (by omega), (by omega), (by omega), (by omega), (by omega), (by omega), (by first | (intro z; exfalso; omega) | (intro _; exact hPa25)), (by first | exact fl_sL_n0 f18 rfl (by omega) | exact fl_sL_x (fl_sL_0 (op := fl_oB) (K := 1) f18 rfl (by omega) (by omega)) (by unfold fl_oB; omega) rfl rfl rfl | exact fl_sB_1 f18 rfl (by omega) ⟨by omega, by omega⟩ (by unfold fl_oB; omega) (by omega) (by omega) (by rw [lost]; exact fz_up_s (by decide)) (by rw [lost]; exact fz_up_ne (by decide)) lost (congrArg (fun g => fl_eS g (fl_pO g (k + 1))) (fl_gM_e (funext fun s => lost 65 s rfl) (lost 53 16 rfl))) (by omega) lost (by omega) | exact fl_sB_0 (l := (-1)) f18 rfl (by omega) (by unfold fl_oB; omega) (by omega) (by omega) (by rw [lost]; exact fz_up_s (by decide)) (by rw [lost]; exact fz_up_ne (by decide)) lost (congrArg (fun g => fl_eS g (fl_pO g (k + 1))) (fl_gM_e (funext fun s => lost 65 s rfl) (lost 53 16 rfl))) (by omega))⟩
        · refine fz_bipush ⟨by decide, by decide⟩ kX11_isB rfl ?_
          refine fz_goto (tgt := 52) kX11_isB rfl (by decide) ?_
          refine fz_istore_n (ls' := [(1, fz_i 10), (0, fz_r 53)]) kX11_isB rfl (by decide) rfl ?_
          refine fz_iload_n kX11_isB rfl rfl ?_
          refine fz_if_ge (tgt := 59) kX11_isB rfl (by decide) (fun c62 => ?_) (fun c62 => ?_)
          · refine fz_aload_n kX11_isB rfl rfl ?_
            refine fz_dup rfl kX11_isB rfl ?_
            obtain ⟨v63, e64⟩ : ∃ z, H5 53 (24) = z := ⟨_, rfl⟩
            refine fz_getV (v := v63) kX11_isB rfl rfl e64 ?_
            have b65 : 0 ≤ v63 ∧ v63 ≤ 120 := by rw [← e64]; exact hI9.1 53 _
            refine fz_iconst ⟨by decide, by decide⟩ kX11_isB rfl ?_
            refine fz_iaddN kX11_isB rfl (by omega) ?_
            refine fz_putI kX11_isB rfl rfl rfl ?_
            refine fz_nmu (S := [(53, 24), (53, 25), (53, 26), (73, 99999)]) (h0 := h) (fz_Iv_up hI9 (by decide) (show (0 : Int) ≤ (v63 + 1) by omega) (show ((v63 + 1) : Int) ≤ 120 by omega)) (fz_fr_up hf21 rfl) (fun H66 hI67 hf68 e69 => ?_)
            have k70 : H66 53 25 = L := by rw [e69]; exact (fz_up_s (by decide)).trans f11
            have k71 : H66 53 24 = (v63 + 1) := by rw [e69]; exact fz_up_e
            have t72 : H66 53 26 = H5 53 26 := by rw [e69]; exact fz_up_s (by decide)
            have hPa73 : fz_Pa h H66 := fz_Pa_eq (by rw [e69]; exact fz_up_ne (by decide)) (by rw [e69]; exact fz_up_s (by decide)) hPa25
            refine fz_aload_n kX11_isB rfl rfl ?_
            have k74 := hPa73
            have b76 : 0 ≤ H66 53 25 ∧ H66 53 25 ≤ 6 := hI67.1 53 _
            have b77 : 0 ≤ H66 53 24 ∧ H66 53 24 ≤ 120 := hI67.1 53 _
            have b78 : 0 ≤ H66 53 26 ∧ H66 53 26 ≤ 200 := hI67.1 53 _
            have e79 : H66 53 16 = h 53 16 := hf68 53 16 rfl
            refine fz_callV (d' := (D + 10)) (M' := mX11_isS) (As := []) (st := []) kX11_isB rfl rfl vX11_isS rfl rfl rfl rfl (Nat.le_of_ble_eq_true rfl) (Nat.le_of_ble_eq_true rfl) (by omega) (sX11_isS_g k L D hL ihO ihE H66 hI67  (by omega) (by omega) (by omega)) (fun H80 r81 q82 o83 => ?_)
            obtain ⟨hI84, hf85, y94, rfl, p95, f86, f87, f88, f89, f90, f91, f92, f93⟩ := q82
            clear o83
            have hf96 := fz_fr_tr hf68 hf85 (show fz_su [(53, 24), (53, 25), (53, 26), (73, 99999)] [(53, 24), (53, 25), (53, 26), (73, 99999)] = true from rfl)
            refine fz_if_eq (tgt := 88) kX11_isB rfl (by decide) (fun c97 => ?_) (fun c97 => ?_)
            · refine fz_iconst ⟨by decide, by decide⟩ kX11_isB rfl ?_
              exact fz_zret kX11_isB rfl rfl (by omega) ⟨hI84, hf96, _, rfl, (by omega), (by omega), (by omega), (by omega), (by omega), (by omega), (by omega), (by first | (intro z; exfalso; omega) | (intro _; exact lost)), (by first | exact fl_sL_n0 f18 rfl (by omega) | exact fl_sL_x (fl_sL_0 (op := fl_oB) (K := 1) f18 rfl (by omega) (by omega)) (by unfold fl_oB; omega) rfl rfl rfl | exact fl_sB_1 f18 rfl (by omega) ⟨by omega, by omega⟩ (by unfold fl_oB; omega) (by omega) (by omega) (by rw [e69]; exact fz_up_s (by decide)) (by rw [e69]; exact fz_up_ne (by decide)) f93 (congrArg (fun g => fl_eS g (fl_pO g (k + 1))) (fl_gM_e (funext fun s => hf68 65 s rfl) (hf68 53 16 rfl))) (by omega) lost (by omega) | exact fl_sB_0 (l := 10) f18 rfl (by omega) (by unfold fl_oB; omega) (by omega) (by omega) (by rw [e69]; exact fz_up_s (by decide)) (by rw [e69]; exact fz_up_ne (by decide)) f93 (congrArg (fun g => fl_eS g (fl_pO g (k + 1))) (fl_gM_e (funext fun s => hf68 65 s rfl) (hf68 53 16 rfl))) (by omega))⟩
            · have k100 := f92 (by omega)
              refine fz_aload_n kX11_isB rfl rfl ?_
              refine fz_iload_n kX11_isB rfl rfl ?_
              have b102 : 0 ≤ H80 53 26 ∧ H80 53 26 ≤ 200 := hI84.1 53 _
              refine fz_callV (d' := 0) (M' := mX11_codes) (As := [fz_i 10]) (st := []) kX11_isB rfl rfl vX11_codes rfl rfl rfl rfl (Nat.le_of_ble_eq_true rfl) (Nat.le_of_ble_eq_true rfl) (by omega) (sX11_codes H80 hI84 10 (by omega)) (fun H103 r104 q105 o106 => ?_)
              obtain ⟨hI107, hf108, y112, rfl, p113, f109, f110, f111⟩ := q105
              clear o106
              have hf114 := fz_fr_tr hf96 hf108 (show fz_su [(53, 26), (73, 99999)] [(53, 24), (53, 25), (53, 26), (73, 99999)] = true from rfl)
              have k115 : H103 53 25 = L := (hf108 53 25 rfl).trans f86
              have t116 : H103 53 24 = H80 53 24 := hf108 53 24 rfl
              refine fz_eqi (show y112 = 1 by omega) ?_
              have hPa117 : fz_Pa h H103 := fz_Pa_b k74 k100 f111 (by omega)
              refine fz_if_eq (tgt := 88) kX11_isB rfl (by decide) (fun c119 => ?_) (fun c119 => ?_)
              · exfalso; omega
              · refine fz_iconst ⟨by decide, by decide⟩ kX11_isB rfl ?_
                refine fz_goto (tgt := 89) kX11_isB rfl (by decide) ?_
                exact fz_zret kX11_isB rfl rfl (by omega) ⟨hI107, hf114, _, rfl, (by omega), (by omega), (by omega), (by omega), (by omega), (by omega), (by omega), (by first | (intro z; exfalso; omega) | (intro _; exact hPa117)), (by first | exact fl_sL_n0 f18 rfl (by omega) | exact fl_sL_x (fl_sL_0 (op := fl_oB) (K := 1) f18 rfl (by omega) (by omega)) (by unfold fl_oB; omega) rfl rfl rfl | exact fl_sB_1 f18 rfl (by omega) ⟨by omega, by omega⟩ (by unfold fl_oB; omega) (by omega) (by omega) (by rw [e69]; exact fz_up_s (by decide)) (by rw [e69]; exact fz_up_ne (by decide)) f93 (congrArg (fun g => fl_eS g (fl_pO g (k + 1))) (fl_gM_e (funext fun s => hf68 65 s rfl) (hf68 53 16 rfl))) (by omega) f111 (by omega) | exact fl_sB_0 (l := 10) f18 rfl (by omega) (by unfold fl_oB; omega) (by omega) (by omega) (by rw [e69]; exact fz_up_s (by decide)) (by rw [e69]; exact fz_up_ne (by decide)) f93 (congrArg (fun g => fl_eS g (fl_pO g (k + 1))) (fl_gM_e (funext fun s => hf68 65 s rfl) (hf68 53 16 rfl))) (by omega))⟩
          · exfalso; omega
      · refine fz_bipush ⟨by decide, by decide⟩ kX11_isB rfl ?_
        refine fz_goto (tgt := 52) kX11_isB rfl (by decide) ?_
        refine fz_istore_n (ls' := [(1, fz_i 9), (0, fz_r 53)]) kX11_isB rfl (by decide) rfl ?_
        refine fz_iload_n kX11_isB rfl rfl ?_
        refine fz_if_ge (tgt := 59) kX11_isB rfl (by decide) (fun c122 => ?_) (fun c122 => ?_)
        · refine fz_aload_n kX11_isB rfl rfl ?_
          refine fz_dup rfl kX11_isB rfl ?_
          obtain ⟨v123, e124⟩ : ∃ z, H5 53 (24) = z := ⟨_, rfl⟩
          refine fz_getV (v := v123) kX11_isB rfl rfl e124 ?_
          have b125 : 0 ≤ v123 ∧ v123 ≤ 120 := by rw [← e124]; exact hI9.1 53 _
          refine fz_iconst ⟨by decide, by decide⟩ kX11_isB rfl ?_
          refine fz_iaddN kX11_isB rfl (by omega) ?_
          refine fz_putI kX11_isB rfl rfl rfl ?_
          refine fz_nmu (S := [(53, 24), (53, 25), (53, 26), (73, 99999)]) (h0 := h) (fz_Iv_up hI9 (by decide) (show (0 : Int) ≤ (v123 + 1) by omega) (show ((v123 + 1) : Int) ≤ 120 by omega)) (fz_fr_up hf21 rfl) (fun H126 hI127 hf128 e129 => ?_)
          have k130 : H126 53 25 = L := by rw [e129]; exact (fz_up_s (by decide)).trans f11
          have k131 : H126 53 24 = (v123 + 1) := by rw [e129]; exact fz_up_e
          have t132 : H126 53 26 = H5 53 26 := by rw [e129]; exact fz_up_s (by decide)
          have hPa133 : fz_Pa h H126 := fz_Pa_eq (by rw [e129]; exact fz_up_ne (by decide)) (by rw [e129]; exact fz_up_s (by decide)) hPa25
          refine fz_aload_n kX11_isB rfl rfl ?_
          have k134 := hPa133
          have b136 : 0 ≤ H126 53 25 ∧ H126 53 25 ≤ 6 := hI127.1 53 _
          have b137 : 0 ≤ H126 53 24 ∧ H126 53 24 ≤ 120 := hI127.1 53 _
          have b138 : 0 ≤ H126 53 26 ∧ H126 53 26 ≤ 200 := hI127.1 53 _
          have e139 : H126 53 16 = h 53 16 := hf128 53 16 rfl
          refine fz_callV (d' := (D + 10)) (M' := mX11_isS) (As := []) (st := []) kX11_isB rfl rfl vX11_isS rfl rfl rfl rfl (Nat.le_of_ble_eq_true rfl) (Nat.le_of_ble_eq_true rfl) (by omega) (sX11_isS_g k L D hL ihO ihE H126 hI127  (by omega) (by omega) (by omega)) (fun H140 r141 q142 o143 => ?_)
          obtain ⟨hI144, hf145, y154, rfl, p155, f146, f147, f148, f149, f150, f151, f152, f153⟩ := q142
          clear o143
          have hf156 := fz_fr_tr hf128 hf145 (show fz_su [(53, 24), (53, 25), (53, 26), (73, 99999)] [(53, 24), (53, 25), (53, 26), (73, 99999)] = true from rfl)
          refine fz_if_eq (tgt := 88) kX11_isB rfl (by decide) (fun c157 => ?_) (fun c157 => ?_)
          · refine fz_iconst ⟨by decide, by decide⟩ kX11_isB rfl ?_
            exact fz_zret kX11_isB rfl rfl (by omega) ⟨hI144, hf156, _, rfl, (by omega), (by omega), (by omega), (by omega), (by omega), (by omega), (by omega), (by first | (intro z; exfalso; omega) | (intro _; exact lost)), (by first | exact fl_sL_n0 f18 rfl (by omega) | exact fl_sL_x (fl_sL_0 (op := fl_oB) (K := 1) f18 rfl (by omega) (by omega)) (by unfold fl_oB; omega) rfl rfl rfl | exact fl_sB_1 f18 rfl (by omega) ⟨by omega, by omega⟩ (by unfold fl_oB; omega) (by omega) (by omega) (by rw [e129]; exact fz_up_s (by decide)) (by rw [e129]; exact fz_up_ne (by decide)) f153 (congrArg (fun g => fl_eS g (fl_pO g (k + 1))) (fl_gM_e (funext fun s => hf128 65 s rfl) (hf128 53 16 rfl))) (by omega) lost (by omega) | exact fl_sB_0 (l := 9) f18 rfl (by omega) (by unfold fl_oB; omega) (by omega) (by omega) (by rw [e129]; exact fz_up_s (by decide)) (by rw [e129]; exact fz_up_ne (by decide)) f153 (congrArg (fun g => fl_eS g (fl_pO g (k + 1))) (fl_gM_e (funext fun s => hf128 65 s rfl) (hf128 53 16 rfl))) (by omega))⟩
          · have k160 := f152 (by omega)
            refine fz_aload_n kX11_isB rfl rfl ?_
            refine fz_iload_n kX11_isB rfl rfl ?_
            have b162 : 0 ≤ H140 53 26 ∧ H140 53 26 ≤ 200 := hI144.1 53 _
            refine fz_callV (d' := 0) (M' := mX11_codes) (As := [fz_i 9]) (st := []) kX11_isB rfl rfl vX11_codes rfl rfl rfl rfl (Nat.le_of_ble_eq_true rfl) (Nat.le_of_ble_eq_true rfl) (by omega) (sX11_codes H140 hI144 9 (by omega)) (fun H163 r164 q165 o166 => ?_)
            obtain ⟨hI167, hf168, y172, rfl, p173, f169, f170, f171⟩ := q165
            clear o166
            have hf174 := fz_fr_tr hf156 hf168 (show fz_su [(53, 26), (73, 99999)] [(53, 24), (53, 25), (53, 26), (73, 99999)] = true from rfl)
            have k175 : H163 53 25 = L := (hf168 53 25 rfl).trans f146
            have t176 : H163 53 24 = H140 53 24 := hf168 53 24 rfl
            refine fz_eqi (show y172 = 1 by omega) ?_
            have hPa177 : fz_Pa h H163 := fz_Pa_b k134 k160 f171 (by omega)
            refine fz_if_eq (tgt := 88) kX11_isB rfl (by decide) (fun c179 => ?_) (fun c179 => ?_)
            · exfalso; omega
            · refine fz_iconst ⟨by decide, by decide⟩ kX11_isB rfl ?_
              refine fz_goto (tgt := 89) kX11_isB rfl (by decide) ?_
              exact fz_zret kX11_isB rfl rfl (by omega) ⟨hI167, hf174, _, rfl, (by omega), (by omega), (by omega), (by omega), (by omega), (by omega), (by omega), (by first | (intro z; exfalso; omega) | (intro _; exact hPa177)), (by first | exact fl_sL_n0 f18 rfl (by omega) | exact fl_sL_x (fl_sL_0 (op := fl_oB) (K := 1) f18 rfl (by omega) (by omega)) (by unfold fl_oB; omega) rfl rfl rfl | exact fl_sB_1 f18 rfl (by omega) ⟨by omega, by omega⟩ (by unfold fl_oB; omega) (by omega) (by omega) (by rw [e129]; exact fz_up_s (by decide)) (by rw [e129]; exact fz_up_ne (by decide)) f153 (congrArg (fun g => fl_eS g (fl_pO g (k + 1))) (fl_gM_e (funext fun s => hf128 65 s rfl) (hf128 53 16 rfl))) (by omega) f171 (by omega) | exact fl_sB_0 (l := 9) f18 rfl (by omega) (by unfold fl_oB; omega) (by omega) (by omega) (by rw [e129]; exact fz_up_s (by decide)) (by rw [e129]; exact fz_up_ne (by decide)) f153 (congrArg (fun g => fl_eS g (fl_pO g (k + 1))) (fl_gM_e (funext fun s => hf128 65 s rfl) (hf128 53 16 rfl))) (by omega))⟩
        · exfalso; omega
    · refine fz_bipush ⟨by decide, by decide⟩ kX11_isB rfl ?_
      refine fz_goto (tgt := 52) kX11_isB rfl (by decide) ?_
      refine fz_istore_n (ls' := [(1, fz_i 8), (0, fz_r 53)]) kX11_isB rfl (by decide) rfl ?_
      refine fz_iload_n kX11_isB rfl rfl ?_
      refine fz_if_ge (tgt := 59) kX11_isB rfl (by decide) (fun c182 => ?_) (fun c182 => ?_)
      · refine fz_aload_n kX11_isB rfl rfl ?_
        refine fz_dup rfl kX11_isB rfl ?_
        obtain ⟨v183, e184⟩ : ∃ z, H5 53 (24) = z := ⟨_, rfl⟩
        refine fz_getV (v := v183) kX11_isB rfl rfl e184 ?_
        have b185 : 0 ≤ v183 ∧ v183 ≤ 120 := by rw [← e184]; exact hI9.1 53 _
        refine fz_iconst ⟨by decide, by decide⟩ kX11_isB rfl ?_
        refine fz_iaddN kX11_isB rfl (by omega) ?_
        refine fz_putI kX11_isB rfl rfl rfl ?_
        refine fz_nmu (S := [(53, 24), (53, 25), (53, 26), (73, 99999)]) (h0 := h) (fz_Iv_up hI9 (by decide) (show (0 : Int) ≤ (v183 + 1) by omega) (show ((v183 + 1) : Int) ≤ 120 by omega)) (fz_fr_up hf21 rfl) (fun H186 hI187 hf188 e189 => ?_)
        have k190 : H186 53 25 = L := by rw [e189]; exact (fz_up_s (by decide)).trans f11
        have k191 : H186 53 24 = (v183 + 1) := by rw [e189]; exact fz_up_e
        have t192 : H186 53 26 = H5 53 26 := by rw [e189]; exact fz_up_s (by decide)
        have hPa193 : fz_Pa h H186 := fz_Pa_eq (by rw [e189]; exact fz_up_ne (by decide)) (by rw [e189]; exact fz_up_s (by decide)) hPa25
        refine fz_aload_n kX11_isB rfl rfl ?_
        have k194 := hPa193
        have b196 : 0 ≤ H186 53 25 ∧ H186 53 25 ≤ 6 := hI187.1 53 _
        have b197 : 0 ≤ H186 53 24 ∧ H186 53 24 ≤ 120 := hI187.1 53 _
        have b198 : 0 ≤ H186 53 26 ∧ H186 53 26 ≤ 200 := hI187.1 53 _
        have e199 : H186 53 16 = h 53 16 := hf188 53 16 rfl
        refine fz_callV (d' := (D + 10)) (M' := mX11_isS) (As := []) (st := []) kX11_isB rfl rfl vX11_isS rfl rfl rfl rfl (Nat.le_of_ble_eq_true rfl) (Nat.le_of_ble_eq_true rfl) (by omega) (sX11_isS_g k L D hL ihO ihE H186 hI187  (by omega) (by omega) (by omega)) (fun H200 r201 q202 o203 => ?_)
        obtain ⟨hI204, hf205, y214, rfl, p215, f206, f207, f208, f209, f210, f211, f212, f213⟩ := q202
        clear o203
        have hf216 := fz_fr_tr hf188 hf205 (show fz_su [(53, 24), (53, 25), (53, 26), (73, 99999)] [(53, 24), (53, 25), (53, 26), (73, 99999)] = true from rfl)
        refine fz_if_eq (tgt := 88) kX11_isB rfl (by decide) (fun c217 => ?_) (fun c217 => ?_)
        · refine fz_iconst ⟨by decide, by decide⟩ kX11_isB rfl ?_
          exact fz_zret kX11_isB rfl rfl (by omega) ⟨hI204, hf216, _, rfl, (by omega), (by omega), (by omega), (by omega), (by omega), (by omega), (by omega), (by first | (intro z; exfalso; omega) | (intro _; exact lost)), (by first | exact fl_sL_n0 f18 rfl (by omega) | exact fl_sL_x (fl_sL_0 (op := fl_oB) (K := 1) f18 rfl (by omega) (by omega)) (by unfold fl_oB; omega) rfl rfl rfl | exact fl_sB_1 f18 rfl (by omega) ⟨by omega, by omega⟩ (by unfold fl_oB; omega) (by omega) (by omega) (by rw [e189]; exact fz_up_s (by decide)) (by rw [e189]; exact fz_up_ne (by decide)) f213 (congrArg (fun g => fl_eS g (fl_pO g (k + 1))) (fl_gM_e (funext fun s => hf188 65 s rfl) (hf188 53 16 rfl))) (by omega) lost (by omega) | exact fl_sB_0 (l := 8) f18 rfl (by omega) (by unfold fl_oB; omega) (by omega) (by omega) (by rw [e189]; exact fz_up_s (by decide)) (by rw [e189]; exact fz_up_ne (by decide)) f213 (congrArg (fun g => fl_eS g (fl_pO g (k + 1))) (fl_gM_e (funext fun s => hf188 65 s rfl) (hf188 53 16 rfl))) (by omega))⟩
        · have k220 := f212 (by omega)
          refine fz_aload_n kX11_isB rfl rfl ?_
          refine fz_iload_n kX11_isB rfl rfl ?_
          have b222 : 0 ≤ H200 53 26 ∧ H200 53 26 ≤ 200 := hI204.1 53 _
          refine fz_callV (d' := 0) (M' := mX11_codes) (As := [fz_i 8]) (st := []) kX11_isB rfl rfl vX11_codes rfl rfl rfl rfl (Nat.le_of_ble_eq_true rfl) (Nat.le_of_ble_eq_true rfl) (by omega) (sX11_codes H200 hI204 8 (by omega)) (fun H223 r224 q225 o226 => ?_)
          obtain ⟨hI227, hf228, y232, rfl, p233, f229, f230, f231⟩ := q225
          clear o226
          have hf234 := fz_fr_tr hf216 hf228 (show fz_su [(53, 26), (73, 99999)] [(53, 24), (53, 25), (53, 26), (73, 99999)] = true from rfl)
          have k235 : H223 53 25 = L := (hf228 53 25 rfl).trans f206
          have t236 : H223 53 24 = H200 53 24 := hf228 53 24 rfl
          refine fz_eqi (show y232 = 1 by omega) ?_
          have hPa237 : fz_Pa h H223 := fz_Pa_b k194 k220 f231 (by omega)
          refine fz_if_eq (tgt := 88) kX11_isB rfl (by decide) (fun c239 => ?_) (fun c239 => ?_)
          · exfalso; omega
          · refine fz_iconst ⟨by decide, by decide⟩ kX11_isB rfl ?_
            refine fz_goto (tgt := 89) kX11_isB rfl (by decide) ?_
            exact fz_zret kX11_isB rfl rfl (by omega) ⟨hI227, hf234, _, rfl, (by omega), (by omega), (by omega), (by omega), (by omega), (by omega), (by omega), (by first | (intro z; exfalso; omega) | (intro _; exact hPa237)), (by first | exact fl_sL_n0 f18 rfl (by omega) | exact fl_sL_x (fl_sL_0 (op := fl_oB) (K := 1) f18 rfl (by omega) (by omega)) (by unfold fl_oB; omega) rfl rfl rfl | exact fl_sB_1 f18 rfl (by omega) ⟨by omega, by omega⟩ (by unfold fl_oB; omega) (by omega) (by omega) (by rw [e189]; exact fz_up_s (by decide)) (by rw [e189]; exact fz_up_ne (by decide)) f213 (congrArg (fun g => fl_eS g (fl_pO g (k + 1))) (fl_gM_e (funext fun s => hf188 65 s rfl) (hf188 53 16 rfl))) (by omega) f231 (by omega) | exact fl_sB_0 (l := 8) f18 rfl (by omega) (by unfold fl_oB; omega) (by omega) (by omega) (by rw [e189]; exact fz_up_s (by decide)) (by rw [e189]; exact fz_up_ne (by decide)) f213 (congrArg (fun g => fl_eS g (fl_pO g (k + 1))) (fl_gM_e (funext fun s => hf188 65 s rfl) (hf188 53 16 rfl))) (by omega))⟩
      · exfalso; omega
  · refine fz_iconst ⟨by decide, by decide⟩ kX11_isB rfl ?_
    exact fz_zret kX11_isB rfl rfl (by omega) ⟨hI9, hf21, _, rfl, (by omega), (by omega), (by omega), (by omega), (by omega), (by omega), (by omega), (by first | (intro z; exfalso; omega) | (intro _; exact lost)), (by first | exact fl_sL_n0 f18 rfl (by omega) | exact fl_sL_x (fl_sL_0 (op := fl_oB) (K := 1) f18 rfl (by omega) (by omega)) (by unfold fl_oB; omega) rfl rfl rfl | exact fl_sB_1 f18 rfl (by omega) ⟨by omega, by omega⟩ (by unfold fl_oB; omega) (by omega) (by omega) (by rw [lost]; exact fz_up_s (by decide)) (by rw [lost]; exact fz_up_ne (by decide)) lost (congrArg (fun g => fl_eS g (fl_pO g (k + 1))) (fl_gM_e (funext fun s => lost 65 s rfl) (lost 53 16 rfl))) (by omega) lost (by omega) | exact fl_sB_0 (l := {l1}) f18 rfl (by omega) (by unfold fl_oB; omega) (by omega) (by omega) (by rw [lost]; exact fz_up_s (by decide)) (by rw [lost]; exact fz_up_ne (by decide)) lost (congrArg (fun g => fl_eS g (fl_pO g (k + 1))) (fl_gM_e (funext fun s => lost 65 s rfl) (lost 53 16 rfl))) (by omega))⟩

set_option maxHeartbeats 1000000 in
set_option maxRecDepth 100000 in
theorem sX11_isA_g (k : Nat) (L : Int) (D : Nat) (hL : 0 ≤ L ∧ L ≤ 5) (ihO : ∀ (h : fz_H) (hI : fz_Iv h) (hp0 : h 53 25 = L + 1) (hp1 : h 53 24 ≤ h 53 16) (hp2 : h 53 26 ≤ h 53 24), fz_R (D + 2) mX11_isO 0 [(0, fz_r 53)] [] h (qX11_isO_g k (L + 1) h)) (ihE : ∀ (h : fz_H) (hI : fz_Iv h) (hp0 : h 53 25 = L + 1) (hp1 : h 53 24 ≤ h 53 16) (hp2 : h 53 26 ≤ h 53 24), fz_R (D + 7) mX11_isE 0 [(0, fz_r 53)] [] h (qX11_isE_g k (L + 1) h)) (h : fz_H) (hI : fz_Iv h) (hp0 : h 53 25 = L) (hp1 : h 53 24 ≤ h 53 16) (hp2 : h 53 26 ≤ h 53 24) : fz_R (D + 12) mX11_isA 0 [(0, fz_r 53)] [] h (qX11_isA_g (k + 1) L h) := by
  have hf : fz_fr [(53, 24), (53, 25), (53, 26), (73, 99999)] h h := fz_fr_rf
  have b1 : 0 ≤ h 53 25 ∧ h 53 25 ≤ 6 := hI.1 53 _
  have b2 : 0 ≤ h 53 24 ∧ h 53 24 ≤ 120 := hI.1 53 _
  have b3 : 0 ≤ h 53 16 ∧ h 53 16 ≤ 120 := hI.1 53 _
  have b4 : 0 ≤ h 53 26 ∧ h 53 26 ≤ 200 := hI.1 53 _
  refine fz_aload_n kX11_isA rfl rfl ?_
  refine fz_callV (d' := (D + 11)) (M' := mX11_isB) (As := []) (st := []) kX11_isA rfl rfl vX11_isB rfl rfl rfl rfl (Nat.le_of_ble_eq_true rfl) (Nat.le_of_ble_eq_true rfl) (by omega) (sX11_isB_g k L D hL ihO ihE h hI  (by omega) (by omega) (by omega)) (fun H5 r6 q7 o8 => ?_)
  obtain ⟨hI9, hf10, y19, rfl, p20, f11, f12, f13, f14, f15, f16, f17, f18⟩ := q7
  clear o8
  have hf21 := fz_fr_tr hf hf10 (show fz_su [(53, 24), (53, 25), (53, 26), (73, 99999)] [(53, 24), (53, 25), (53, 26), (73, 99999)] = true from rfl)
  refine fz_if_ne (tgt := 9) kX11_isA rfl (by decide) (fun c22 => ?_) (fun c22 => ?_)
  · have hPa23 : fz_Pa h H5 := f17 (by omega)
    have lp30 : ∀ (n29 : Nat) (H26 : fz_H), fz_Iv H26 → fz_fr [(53, 24), (53, 25), (53, 26), (73, 99999)] h H26 → fz_Pa h H26 → (H26 53 25 = L) → (h 53 24 + 1 ≤ H26 53 24) → (H26 53 24 ≤ h 53 16) → (h 53 26 ≤ H26 53 26) → (H26 53 26 - h 53 26 ≤ H26 53 24 - h 53 24) → (fl_sL h H26 (fl_eA (fl_gM h) (fl_pO (fl_gM h) (k + 1)) (h 53 24)) fl_oA (fl_eB (fl_gM h) (fl_pO (fl_gM h) (k + 1))) (fl_gM h) 200) → (h 53 16 - H26 53 24).toNat < n29 → fz_R (D + 12) mX11_isA 9 [(0, fz_r 53)] [] H26 (qX11_isA_g (k + 1) L h) := by
      intro n29
      induction n29 with
      | zero => intro H26 hI27 hf28 hPa25 hv33 hv34 hv35 hv36 hv37 hv38 hm32; exact absurd hm32 (by omega)
      | succ n29 ih31 =>
        intro H26 hI27 hf28 hPa25 hv33 hv34 hv35 hv36 hv37 hv38 hm32
        refine fz_aload_n kX11_isA rfl rfl ?_
        have k39 : fl_gM H26 (H26 53 24) = fl_gM h (H26 53 24) := fl_gMe2 (funext fun s => hf28 65 s rfl) (hf28 53 16 rfl)
        refine fz_bipush ⟨by decide, by decide⟩ kX11_isA rfl ?_
        have b41 : 0 ≤ H26 53 24 ∧ H26 53 24 ≤ 120 := hI27.1 53 _
        have b42 : 0 ≤ h 53 16 ∧ h 53 16 ≤ 120 := hI.1 53 _
        have e43 : H26 53 16 = h 53 16 := hf28 53 16 rfl
        refine fz_callV (d' := 1) (M' := mX11_is) (As := [fz_i 38]) (st := []) kX11_isA rfl rfl vX11_is rfl rfl rfl rfl (Nat.le_of_ble_eq_true rfl) (Nat.le_of_ble_eq_true rfl) (by omega) (sX11_is H26 hI27 38 (by omega) (by omega)) (fun H44 r45 q46 o47 => ?_)
        obtain ⟨hI48, hf49, y52, rfl, p53, f50, f51⟩ := q46
        clear o47
        have hf54 := fz_fr_tr hf28 hf49 (show fz_su [(53, 24)] [(53, 24), (53, 25), (53, 26), (73, 99999)] = true from rfl)
        have k55 : H44 53 25 = L := (hf49 53 25 rfl).trans hv33
        have hPa56 : fz_Pa h H44 := fz_Pa_eq (funext fun s => hf49 73 s rfl) (hf49 53 26 rfl) hPa25
        have t57 : H44 53 26 = H26 53 26 := hf49 53 26 rfl
        refine fz_if_eq (tgt := 37) kX11_isA rfl (by decide) (fun c58 => ?_) (fun c58 => ?_)
        · refine fz_iconst ⟨by decide, by decide⟩ kX11_isA rfl ?_
          exact fz_zret kX11_isA rfl rfl (by omega) ⟨hI48, hf54, _, rfl, (by omega), (by omega), (by omega), (by omega), (by omega), (by omega), (by omega), (by first | (intro z; exfalso; omega) | (intro _; exact hPa56)), (by first | exact fl_sL_n0 f18 rfl (by omega) | exact fl_sL_x hv38 (by unfold fl_oA; omega) (by omega) (hf49 53 26 rfl) (funext fun s => hf49 73 s rfl) | exact fl_sL_no (l := 7) hv38 (by decide) ⟨by omega, by omega⟩ (by unfold fl_oA; omega) (by decide) (by omega) (hf49 53 26 rfl) (funext fun s => hf49 73 s rfl) lost (congrArg (fun g => fl_eB g (fl_pO g (k + 1))) (fl_gM_e (funext fun s => lost 65 s rfl) (lost 53 16 rfl))) (by omega))⟩
        · refine fz_aload_n kX11_isA rfl rfl ?_
          have k61 := hPa56
          have b63 : 0 ≤ H44 53 25 ∧ H44 53 25 ≤ 6 := hI48.1 53 _
          have b64 : 0 ≤ H44 53 24 ∧ H44 53 24 ≤ 120 := hI48.1 53 _
          have b65 : 0 ≤ H44 53 26 ∧ H44 53 26 ≤ 200 := hI48.1 53 _
          have e66 : H44 53 16 = h 53 16 := hf54 53 16 rfl
          refine fz_callV (d' := (D + 11)) (M' := mX11_isB) (As := []) (st := []) kX11_isA rfl rfl vX11_isB rfl rfl rfl rfl (Nat.le_of_ble_eq_true rfl) (Nat.le_of_ble_eq_true rfl) (by omega) (sX11_isB_g k L D hL ihO ihE H44 hI48  (by omega) (by omega) (by omega)) (fun H67 r68 q69 o70 => ?_)
          obtain ⟨hI71, hf72, y81, rfl, p82, f73, f74, f75, f76, f77, f78, f79, f80⟩ := q69
          clear o70
          have hf83 := fz_fr_tr hf54 hf72 (show fz_su [(53, 24), (53, 25), (53, 26), (73, 99999)] [(53, 24), (53, 25), (53, 26), (73, 99999)] = true from rfl)
          refine fz_if_ne (tgt := 27) kX11_isA rfl (by decide) (fun c84 => ?_) (fun c84 => ?_)
          · have k85 := f79 (by omega)
            refine fz_aload_n kX11_isA rfl rfl ?_
            refine fz_bipush ⟨by decide, by decide⟩ kX11_isA rfl ?_
            have b87 : 0 ≤ H67 53 26 ∧ H67 53 26 ≤ 200 := hI71.1 53 _
            refine fz_callV (d' := 0) (M' := mX11_codes) (As := [fz_i 7]) (st := []) kX11_isA rfl rfl vX11_codes rfl rfl rfl rfl (Nat.le_of_ble_eq_true rfl) (Nat.le_of_ble_eq_true rfl) (by omega) (sX11_codes H67 hI71 7 (by omega)) (fun H88 r89 q90 o91 => ?_)
            obtain ⟨hI92, hf93, y97, rfl, p98, f94, f95, f96⟩ := q90
            clear o91
            have hf99 := fz_fr_tr hf83 hf93 (show fz_su [(53, 26), (73, 99999)] [(53, 24), (53, 25), (53, 26), (73, 99999)] = true from rfl)
            have k100 : H88 53 25 = L := (hf93 53 25 rfl).trans f73
            have t101 : H88 53 24 = H67 53 24 := hf93 53 24 rfl
            refine fz_eqi (show y97 = 1 by omega) ?_
            have hPa102 : fz_Pa h H88 := fz_Pa_b k61 k85 f96 (by omega)
            refine fz_pop rfl kX11_isA rfl ?_
            refine fz_goto (tgt := 9) kX11_isA rfl (by decide) ?_
            exact ih31  H88 hI92 hf99 hPa102 (by omega) (by omega) (by omega) (by omega) (by omega) (fl_sL_st (l := 7) hv38 (by decide) ⟨by omega, by omega, by omega, by omega⟩ (by unfold fl_oA; omega) (by decide) (by omega) (hf49 53 26 rfl) (funext fun s => hf49 73 s rfl) f80 (congrArg (fun g => fl_eB g (fl_pO g (k + 1))) (fl_gM_e (funext fun s => hf54 65 s rfl) (hf54 53 16 rfl))) (by omega) f96 (by omega) (by omega)) (by omega)
          · refine fz_iconst ⟨by decide, by decide⟩ kX11_isA rfl ?_
            exact fz_zret kX11_isA rfl rfl (by omega) ⟨hI71, hf83, _, rfl, (by omega), (by omega), (by omega), (by omega), (by omega), (by omega), (by omega), (by first | (intro z; exfalso; omega) | (intro _; exact lost)), (by first | exact fl_sL_n0 f18 rfl (by omega) | exact fl_sL_x hv38 (by unfold fl_oA; omega) (by omega) (hf49 53 26 rfl) (funext fun s => hf49 73 s rfl) | exact fl_sL_no (l := 7) hv38 (by decide) ⟨by omega, by omega⟩ (by unfold fl_oA; omega) (by decide) (by omega) (hf49 53 26 rfl) (funext fun s => hf49 73 s rfl) f80 (congrArg (fun g => fl_eB g (fl_pO g (k + 1))) (fl_gM_e (funext fun s => hf54 65 s rfl) (hf54 53 16 rfl))) (by omega))⟩
    exact lp30 _  H5 hI9 hf21 hPa23 (by omega) (by omega) (by omega) (by omega) (by omega) (fl_sL_0 f18 rfl (by omega) (by omega)) (Nat.lt_succ_self _)
  · refine fz_iconst ⟨by decide, by decide⟩ kX11_isA rfl ?_
    exact fz_zret kX11_isA rfl rfl (by omega) ⟨hI9, hf21, _, rfl, (by omega), (by omega), (by omega), (by omega), (by omega), (by omega), (by omega), (by first | (intro z; exfalso; omega) | (intro _; exact lost)), (by first | exact fl_sL_n0 f18 rfl (by omega) | exact fl_sL_x lost (by unfold fl_oA; omega) (by omega) (lost 53 26 rfl) (funext fun s => lost 73 s rfl) | exact fl_sL_no (l := 7) lost (by decide) ⟨by omega, by omega⟩ (by unfold fl_oA; omega) (by decide) (by omega) (lost 53 26 rfl) (funext fun s => lost 73 s rfl) lost (congrArg (fun g => fl_eB g (fl_pO g (k + 1))) (fl_gM_e (funext fun s => lost 65 s rfl) (lost 53 16 rfl))) (by omega))⟩

set_option maxHeartbeats 1000000 in
set_option maxRecDepth 100000 in
theorem sX11_isE_g (k : Nat) (L : Int) (D : Nat) (hL : 0 ≤ L ∧ L ≤ 5) (ihO : ∀ (h : fz_H) (hI : fz_Iv h) (hp0 : h 53 25 = L + 1) (hp1 : h 53 24 ≤ h 53 16) (hp2 : h 53 26 ≤ h 53 24), fz_R (D + 2) mX11_isO 0 [(0, fz_r 53)] [] h (qX11_isO_g k (L + 1) h)) (ihE : ∀ (h : fz_H) (hI : fz_Iv h) (hp0 : h 53 25 = L + 1) (hp1 : h 53 24 ≤ h 53 16) (hp2 : h 53 26 ≤ h 53 24), fz_R (D + 7) mX11_isE 0 [(0, fz_r 53)] [] h (qX11_isE_g k (L + 1) h)) (h : fz_H) (hI : fz_Iv h) (hp0 : h 53 25 = L) (hp1 : h 53 24 ≤ h 53 16) (hp2 : h 53 26 ≤ h 53 24) : fz_R (D + 13) mX11_isE 0 [(0, fz_r 53)] [] h (qX11_isE_g (k + 1) L h) := by
  have hf : fz_fr [(53, 24), (53, 25), (53, 26), (73, 99999)] h h := fz_fr_rf
  have b1 : 0 ≤ h 53 25 ∧ h 53 25 ≤ 6 := hI.1 53 _
  have b2 : 0 ≤ h 53 24 ∧ h 53 24 ≤ 120 := hI.1 53 _
  have b3 : 0 ≤ h 53 16 ∧ h 53 16 ≤ 120 := hI.1 53 _
  have b4 : 0 ≤ h 53 26 ∧ h 53 26 ≤ 200 := hI.1 53 _
  refine fz_aload_n kX11_isE rfl rfl ?_
  refine fz_callV (d' := (D + 12)) (M' := mX11_isA) (As := []) (st := []) kX11_isE rfl rfl vX11_isA rfl rfl rfl rfl (Nat.le_of_ble_eq_true rfl) (Nat.le_of_ble_eq_true rfl) (by omega) (sX11_isA_g k L D hL ihO ihE h hI  (by omega) (by omega) (by omega)) (fun H5 r6 q7 o8 => ?_)
  obtain ⟨hI9, hf10, y19, rfl, p20, f11, f12, f13, f14, f15, f16, f17, f18⟩ := q7
  clear o8
  have hf21 := fz_fr_tr hf hf10 (show fz_su [(53, 24), (53, 25), (53, 26), (73, 99999)] [(53, 24), (53, 25), (53, 26), (73, 99999)] = true from rfl)
  refine fz_if_ne (tgt := 9) kX11_isE rfl (by decide) (fun c22 => ?_) (fun c22 => ?_)
  · have hPa23 : fz_Pa h H5 := f17 (by omega)
    have lp30 : ∀ (n29 : Nat) (H26 : fz_H), fz_Iv H26 → fz_fr [(53, 24), (53, 25), (53, 26), (73, 99999)] h H26 → fz_Pa h H26 → (H26 53 25 = L) → (h 53 24 + 1 ≤ H26 53 24) → (H26 53 24 ≤ h 53 16) → (h 53 26 ≤ H26 53 26) → (H26 53 26 - h 53 26 ≤ H26 53 24 - h 53 24) → (fl_sL h H26 (fl_eE (fl_gM h) (fl_pO (fl_gM h) (k + 1)) (h 53 24)) fl_oE (fl_eA (fl_gM h) (fl_pO (fl_gM h) (k + 1))) (fl_gM h) 200) → (h 53 16 - H26 53 24).toNat < n29 → fz_R (D + 13) mX11_isE 9 [(0, fz_r 53)] [] H26 (qX11_isE_g (k + 1) L h) := by
      intro n29
      induction n29 with
      | zero => intro H26 hI27 hf28 hPa25 hv33 hv34 hv35 hv36 hv37 hv38 hm32; exact absurd hm32 (by omega)
      | succ n29 ih31 =>
        intro H26 hI27 hf28 hPa25 hv33 hv34 hv35 hv36 hv37 hv38 hm32
        refine fz_aload_n kX11_isE rfl rfl ?_
        have k39 : fl_gM H26 (H26 53 24) = fl_gM h (H26 53 24) := fl_gMe2 (funext fun s => hf28 65 s rfl) (hf28 53 16 rfl)
        refine fz_bipush ⟨by decide, by decide⟩ kX11_isE rfl ?_
        have b41 : 0 ≤ H26 53 24 ∧ H26 53 24 ≤ 120 := hI27.1 53 _
        have b42 : 0 ≤ h 53 16 ∧ h 53 16 ≤ 120 := hI.1 53 _
        have e43 : H26 53 16 = h 53 16 := hf28 53 16 rfl
        refine fz_callV (d' := 1) (M' := mX11_is) (As := [fz_i 124]) (st := []) kX11_isE rfl rfl vX11_is rfl rfl rfl rfl (Nat.le_of_ble_eq_true rfl) (Nat.le_of_ble_eq_true rfl) (by omega) (sX11_is H26 hI27 124 (by omega) (by omega)) (fun H44 r45 q46 o47 => ?_)
        obtain ⟨hI48, hf49, y52, rfl, p53, f50, f51⟩ := q46
        clear o47
        have hf54 := fz_fr_tr hf28 hf49 (show fz_su [(53, 24)] [(53, 24), (53, 25), (53, 26), (73, 99999)] = true from rfl)
        have k55 : H44 53 25 = L := (hf49 53 25 rfl).trans hv33
        have hPa56 : fz_Pa h H44 := fz_Pa_eq (funext fun s => hf49 73 s rfl) (hf49 53 26 rfl) hPa25
        have t57 : H44 53 26 = H26 53 26 := hf49 53 26 rfl
        refine fz_if_eq (tgt := 37) kX11_isE rfl (by decide) (fun c58 => ?_) (fun c58 => ?_)
        · refine fz_iconst ⟨by decide, by decide⟩ kX11_isE rfl ?_
          exact fz_zret kX11_isE rfl rfl (by omega) ⟨hI48, hf54, _, rfl, (by omega), (by omega), (by omega), (by omega), (by omega), (by omega), (by omega), (by first | (intro z; exfalso; omega) | (intro _; exact hPa56)), (by first | exact fl_sL_n0 f18 rfl (by omega) | exact fl_sL_x hv38 (by unfold fl_oE; omega) (by omega) (hf49 53 26 rfl) (funext fun s => hf49 73 s rfl) | exact fl_sL_no (l := 6) hv38 (by decide) ⟨by omega, by omega⟩ (by unfold fl_oE; omega) (by decide) (by omega) (hf49 53 26 rfl) (funext fun s => hf49 73 s rfl) lost (congrArg (fun g => fl_eA g (fl_pO g (k + 1))) (fl_gM_e (funext fun s => lost 65 s rfl) (lost 53 16 rfl))) (by omega))⟩
        · refine fz_aload_n kX11_isE rfl rfl ?_
          have k61 := hPa56
          have b63 : 0 ≤ H44 53 25 ∧ H44 53 25 ≤ 6 := hI48.1 53 _
          have b64 : 0 ≤ H44 53 24 ∧ H44 53 24 ≤ 120 := hI48.1 53 _
          have b65 : 0 ≤ H44 53 26 ∧ H44 53 26 ≤ 200 := hI48.1 53 _
          have e66 : H44 53 16 = h 53 16 := hf54 53 16 rfl
          refine fz_callV (d' := (D + 12)) (M' := mX11_isA) (As := []) (st := []) kX11_isE rfl rfl vX11_isA rfl rfl rfl rfl (Nat.le_of_ble_eq_true rfl) (Nat.le_of_ble_eq_true rfl) (by omega) (sX11_isA_g k L D hL ihO ihE H44 hI48  (by omega) (by omega) (by omega)) (fun H67 r68 q69 o70 => ?_)
          obtain ⟨hI71, hf72, y81, rfl, p82, f73, f74, f75, f76, f77, f78, f79, f80⟩ := q69
          clear o70
          have hf83 := fz_fr_tr hf54 hf72 (show fz_su [(53, 24), (53, 25), (53, 26), (73, 99999)] [(53, 24), (53, 25), (53, 26), (73, 99999)] = true from rfl)
          refine fz_if_ne (tgt := 27) kX11_isE rfl (by decide) (fun c84 => ?_) (fun c84 => ?_)
          · have k85 := f79 (by omega)
            refine fz_aload_n kX11_isE rfl rfl ?_
            refine fz_bipush ⟨by decide, by decide⟩ kX11_isE rfl ?_
            have b87 : 0 ≤ H67 53 26 ∧ H67 53 26 ≤ 200 := hI71.1 53 _
            refine fz_callV (d' := 0) (M' := mX11_codes) (As := [fz_i 6]) (st := []) kX11_isE rfl rfl vX11_codes rfl rfl rfl rfl (Nat.le_of_ble_eq_true rfl) (Nat.le_of_ble_eq_true rfl) (by omega) (sX11_codes H67 hI71 6 (by omega)) (fun H88 r89 q90 o91 => ?_)
            obtain ⟨hI92, hf93, y97, rfl, p98, f94, f95, f96⟩ := q90
            clear o91
            have hf99 := fz_fr_tr hf83 hf93 (show fz_su [(53, 26), (73, 99999)] [(53, 24), (53, 25), (53, 26), (73, 99999)] = true from rfl)
            have k100 : H88 53 25 = L := (hf93 53 25 rfl).trans f73
            have t101 : H88 53 24 = H67 53 24 := hf93 53 24 rfl
            refine fz_eqi (show y97 = 1 by omega) ?_
            have hPa102 : fz_Pa h H88 := fz_Pa_b k61 k85 f96 (by omega)
            refine fz_pop rfl kX11_isE rfl ?_
            refine fz_goto (tgt := 9) kX11_isE rfl (by decide) ?_
            exact ih31  H88 hI92 hf99 hPa102 (by omega) (by omega) (by omega) (by omega) (by omega) (fl_sL_st (l := 6) hv38 (by decide) ⟨by omega, by omega, by omega, by omega⟩ (by unfold fl_oE; omega) (by decide) (by omega) (hf49 53 26 rfl) (funext fun s => hf49 73 s rfl) f80 (congrArg (fun g => fl_eA g (fl_pO g (k + 1))) (fl_gM_e (funext fun s => hf54 65 s rfl) (hf54 53 16 rfl))) (by omega) f96 (by omega) (by omega)) (by omega)
          · refine fz_iconst ⟨by decide, by decide⟩ kX11_isE rfl ?_
            exact fz_zret kX11_isE rfl rfl (by omega) ⟨hI71, hf83, _, rfl, (by omega), (by omega), (by omega), (by omega), (by omega), (by omega), (by omega), (by first | (intro z; exfalso; omega) | (intro _; exact lost)), (by first | exact fl_sL_n0 f18 rfl (by omega) | exact fl_sL_x hv38 (by unfold fl_oE; omega) (by omega) (hf49 53 26 rfl) (funext fun s => hf49 73 s rfl) | exact fl_sL_no (l := 6) hv38 (by decide) ⟨by omega, by omega⟩ (by unfold fl_oE; omega) (by decide) (by omega) (hf49 53 26 rfl) (funext fun s => hf49 73 s rfl) f80 (congrArg (fun g => fl_eA g (fl_pO g (k + 1))) (fl_gM_e (funext fun s => hf54 65 s rfl) (hf54 53 16 rfl))) (by omega))⟩
    exact lp30 _  H5 hI9 hf21 hPa23 (by omega) (by omega) (by omega) (by omega) (by omega) (fl_sL_0 f18 rfl (by omega) (by omega)) (Nat.lt_succ_self _)
  · refine fz_iconst ⟨by decide, by decide⟩ kX11_isE rfl ?_
    exact fz_zret kX11_isE rfl rfl (by omega) ⟨hI9, hf21, _, rfl, (by omega), (by omega), (by omega), (by omega), (by omega), (by omega), (by omega), (by first | (intro z; exfalso; omega) | (intro _; exact lost)), (by first | exact fl_sL_n0 f18 rfl (by omega) | exact fl_sL_x lost (by unfold fl_oE; omega) (by omega) (lost 53 26 rfl) (funext fun s => lost 73 s rfl) | exact fl_sL_no (l := 6) lost (by decide) ⟨by omega, by omega⟩ (by unfold fl_oE; omega) (by decide) (by omega) (lost 53 26 rfl) (funext fun s => lost 73 s rfl) lost (congrArg (fun g => fl_eA g (fl_pO g (k + 1))) (fl_gM_e (funext fun s => lost 65 s rfl) (lost 53 16 rfl))) (by omega))⟩

abbrev qX11_isO_5 (h : fz_H) : fz_H → Option fz_V → Prop := fun h' r0 => fz_Iv h' ∧ fz_fr [(53, 24), (53, 25), (53, 26), (73, 99999)] h h' ∧ ∃ r : Int, r0 = some (fz_i r) ∧ (r = 0 ∨ r = 1) ∧ (h' 53 25 = 5) ∧ (h 53 24 ≤ h' 53 24) ∧ (h' 53 24 ≤ h 53 16) ∧ (h 53 26 ≤ h' 53 26) ∧ (h' 53 26 - h 53 26 ≤ h' 53 24 - h 53 24) ∧ (r = 1 → h 53 24 + 1 ≤ h' 53 24) ∧ (r = 1 → fz_Pa h h') ∧ (fl_rdM h h' (fl_pO (fl_gM h) 1 (h 53 24)) r)
theorem sX11_isO_5 (h : fz_H) (hI : fz_Iv h) (hp0 : h 53 25 = 5) (hp1 : h 53 24 ≤ h 53 16) (hp2 : h 53 26 ≤ h 53 24) : fz_R 8 mX11_isO 0 [(0, fz_r 53)] [] h (qX11_isO_5 h) := sX11_isO_g 0 5 0 ⟨by decide, by decide⟩ (fun h hI hp0 hp1 hp2 => sX11_isO_6 h hI (by omega) hp1 hp2) (fun h hI hp0 hp1 hp2 => sX11_isE_6 h hI (by omega) hp1 hp2) h hI hp0 hp1 hp2
abbrev qX11_isP_5 (h : fz_H) : fz_H → Option fz_V → Prop := fun h' r0 => fz_Iv h' ∧ fz_fr [(53, 24), (53, 25), (53, 26), (73, 99999)] h h' ∧ ∃ r : Int, r0 = some (fz_i r) ∧ (r = 0 ∨ r = 1) ∧ (h' 53 25 = 5) ∧ (h 53 24 ≤ h' 53 24) ∧ (h' 53 24 ≤ h 53 16) ∧ (h 53 26 ≤ h' 53 26) ∧ (h' 53 26 - h 53 26 ≤ h' 53 24 - h 53 24) ∧ (r = 1 → h 53 24 + 1 ≤ h' 53 24) ∧ (r = 1 → fz_Pa h h') ∧ (fl_rdM h h' (fl_eP (fl_gM h) (fl_pO (fl_gM h) 1) (h 53 24)) r)
theorem sX11_isP_5 (h : fz_H) (hI : fz_Iv h) (hp0 : h 53 25 = 5) (hp1 : h 53 24 ≤ h 53 16) (hp2 : h 53 26 ≤ h 53 24) : fz_R 9 mX11_isP 0 [(0, fz_r 53)] [] h (qX11_isP_5 h) := sX11_isP_g 0 5 0 ⟨by decide, by decide⟩ (fun h hI hp0 hp1 hp2 => sX11_isO_6 h hI (by omega) hp1 hp2) (fun h hI hp0 hp1 hp2 => sX11_isE_6 h hI (by omega) hp1 hp2) h hI hp0 hp1 hp2
abbrev qX11_isS_5 (h : fz_H) : fz_H → Option fz_V → Prop := fun h' r0 => fz_Iv h' ∧ fz_fr [(53, 24), (53, 25), (53, 26), (73, 99999)] h h' ∧ ∃ r : Int, r0 = some (fz_i r) ∧ (r = 0 ∨ r = 1) ∧ (h' 53 25 = 5) ∧ (h 53 24 ≤ h' 53 24) ∧ (h' 53 24 ≤ h 53 16) ∧ (h 53 26 ≤ h' 53 26) ∧ (h' 53 26 - h 53 26 ≤ h' 53 24 - h 53 24) ∧ (r = 1 → h 53 24 + 1 ≤ h' 53 24) ∧ (r = 1 → fz_Pa h h') ∧ (fl_rdM h h' (fl_eS (fl_gM h) (fl_pO (fl_gM h) 1) (h 53 24)) r)
theorem sX11_isS_5 (h : fz_H) (hI : fz_Iv h) (hp0 : h 53 25 = 5) (hp1 : h 53 24 ≤ h 53 16) (hp2 : h 53 26 ≤ h 53 24) : fz_R 10 mX11_isS 0 [(0, fz_r 53)] [] h (qX11_isS_5 h) := sX11_isS_g 0 5 0 ⟨by decide, by decide⟩ (fun h hI hp0 hp1 hp2 => sX11_isO_6 h hI (by omega) hp1 hp2) (fun h hI hp0 hp1 hp2 => sX11_isE_6 h hI (by omega) hp1 hp2) h hI hp0 hp1 hp2
abbrev qX11_isB_5 (h : fz_H) : fz_H → Option fz_V → Prop := fun h' r0 => fz_Iv h' ∧ fz_fr [(53, 24), (53, 25), (53, 26), (73, 99999)] h h' ∧ ∃ r : Int, r0 = some (fz_i r) ∧ (r = 0 ∨ r = 1) ∧ (h' 53 25 = 5) ∧ (h 53 24 ≤ h' 53 24) ∧ (h' 53 24 ≤ h 53 16) ∧ (h 53 26 ≤ h' 53 26) ∧ (h' 53 26 - h 53 26 ≤ h' 53 24 - h 53 24) ∧ (r = 1 → h 53 24 + 1 ≤ h' 53 24) ∧ (r = 1 → fz_Pa h h') ∧ (fl_rdM h h' (fl_eB (fl_gM h) (fl_pO (fl_gM h) 1) (h 53 24)) r)
theorem sX11_isB_5 (h : fz_H) (hI : fz_Iv h) (hp0 : h 53 25 = 5) (hp1 : h 53 24 ≤ h 53 16) (hp2 : h 53 26 ≤ h 53 24) : fz_R 11 mX11_isB 0 [(0, fz_r 53)] [] h (qX11_isB_5 h) := sX11_isB_g 0 5 0 ⟨by decide, by decide⟩ (fun h hI hp0 hp1 hp2 => sX11_isO_6 h hI (by omega) hp1 hp2) (fun h hI hp0 hp1 hp2 => sX11_isE_6 h hI (by omega) hp1 hp2) h hI hp0 hp1 hp2
abbrev qX11_isA_5 (h : fz_H) : fz_H → Option fz_V → Prop := fun h' r0 => fz_Iv h' ∧ fz_fr [(53, 24), (53, 25), (53, 26), (73, 99999)] h h' ∧ ∃ r : Int, r0 = some (fz_i r) ∧ (r = 0 ∨ r = 1) ∧ (h' 53 25 = 5) ∧ (h 53 24 ≤ h' 53 24) ∧ (h' 53 24 ≤ h 53 16) ∧ (h 53 26 ≤ h' 53 26) ∧ (h' 53 26 - h 53 26 ≤ h' 53 24 - h 53 24) ∧ (r = 1 → h 53 24 + 1 ≤ h' 53 24) ∧ (r = 1 → fz_Pa h h') ∧ (fl_rdM h h' (fl_eA (fl_gM h) (fl_pO (fl_gM h) 1) (h 53 24)) r)
theorem sX11_isA_5 (h : fz_H) (hI : fz_Iv h) (hp0 : h 53 25 = 5) (hp1 : h 53 24 ≤ h 53 16) (hp2 : h 53 26 ≤ h 53 24) : fz_R 12 mX11_isA 0 [(0, fz_r 53)] [] h (qX11_isA_5 h) := sX11_isA_g 0 5 0 ⟨by decide, by decide⟩ (fun h hI hp0 hp1 hp2 => sX11_isO_6 h hI (by omega) hp1 hp2) (fun h hI hp0 hp1 hp2 => sX11_isE_6 h hI (by omega) hp1 hp2) h hI hp0 hp1 hp2
abbrev qX11_isE_5 (h : fz_H) : fz_H → Option fz_V → Prop := fun h' r0 => fz_Iv h' ∧ fz_fr [(53, 24), (53, 25), (53, 26), (73, 99999)] h h' ∧ ∃ r : Int, r0 = some (fz_i r) ∧ (r = 0 ∨ r = 1) ∧ (h' 53 25 = 5) ∧ (h 53 24 ≤ h' 53 24) ∧ (h' 53 24 ≤ h 53 16) ∧ (h 53 26 ≤ h' 53 26) ∧ (h' 53 26 - h 53 26 ≤ h' 53 24 - h 53 24) ∧ (r = 1 → h 53 24 + 1 ≤ h' 53 24) ∧ (r = 1 → fz_Pa h h') ∧ (fl_rdM h h' (fl_eE (fl_gM h) (fl_pO (fl_gM h) 1) (h 53 24)) r)
theorem sX11_isE_5 (h : fz_H) (hI : fz_Iv h) (hp0 : h 53 25 = 5) (hp1 : h 53 24 ≤ h 53 16) (hp2 : h 53 26 ≤ h 53 24) : fz_R 13 mX11_isE 0 [(0, fz_r 53)] [] h (qX11_isE_5 h) := sX11_isE_g 0 5 0 ⟨by decide, by decide⟩ (fun h hI hp0 hp1 hp2 => sX11_isO_6 h hI (by omega) hp1 hp2) (fun h hI hp0 hp1 hp2 => sX11_isE_6 h hI (by omega) hp1 hp2) h hI hp0 hp1 hp2
