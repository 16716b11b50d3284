/-! ===== a law that cannot be read ===== -/
def st_g1 : Int → Int := fun a => if a = 0 then 40 else -1
theorem st_g1_t : (fl_tt st_g1).2.1 = false ∧ (fl_tt st_g1).1 = 1 := by decide +kernel
theorem st_g1_e {h : fz_H} (a : h 20 2 = 1) (b : h 26 0 = 40) : fl_gC h = st_g1 := funext fun x => by
  unfold fl_gC fl_lt st_g1
  rw [a]
  by_cases c : x = 0
  · subst c
    rw [if_pos ⟨by decide, by decide⟩, if_pos rfl]
    exact b
  · rw [if_neg (by omega), if_neg c]
theorem st_paren {g h h' : fz_H} {r : Int} (f : fl_fdC g h 40) (z : g 20 2 = 0) (o : h 20 2 = 1) (c : fl_laC h h' r) : r = -101 ∧ h' 15 4 = h 15 4 ∧ h' 16 = h 16 ∧ h' 17 = h 17 := by
  have b : h 26 0 = 40 := by
    rcases f with ⟨-, e⟩ | ⟨e, -⟩
    · rw [e, z]
      rfl
    · omega
  have e := st_g1_e o b
  have t := st_g1_t
  rcases c with ⟨n, -⟩ | ⟨-, c1, c2, c3, c4⟩
  · rw [e, t.1] at n
    cases n
  · rw [e, t.2] at c1
    exact ⟨by omega, c2, c3, c4⟩
theorem st_nm_law {h h' : fz_H} (f : fz_fr [(15, 4), (16, 99999), (17, 99999), (20, 2), (20, 3), (20, 4), (21, 4), (22, 99999), (23, 99999)] h h') (a : h' 15 4 = h 15 4) (b : h' 16 = h 16) (c : h' 17 = h 17) : fz_nm h' = fz_nm h := by
  funext x i
  show (bif fz_core x i then h' x i else 0) = (bif fz_core x i then h x i else 0)
  cases hc : fz_core x i with
  | false => rfl
  | true =>
    show h' x i = h x i
    by_cases c16 : x = 16
    · subst c16; rw [b]
    by_cases c17 : x = 17
    · subst c17; rw [c]
    have hC := fz_core_C hc
    have q : ∀ y, fz_coreC y = false → Nat.beq y x = false := fun y hy => by
      cases hb : Nat.beq y x with
      | false => rfl
      | true =>
        have := Nat.eq_of_beq_eq_true hb
        subst this
        rw [hy] at hC
        cases hC
    have q2 : ∀ y, y ≠ x → Nat.beq y x = false := fun y hy => by
      cases hb : Nat.beq y x with
      | false => rfl
      | true => exact absurd (Nat.eq_of_beq_eq_true hb) hy
    by_cases c15 : x = 15 ∧ i = 4
    · rw [c15.1, c15.2, a]
    · refine f x i ?_
      have q3 : Nat.beq 15 x = false ∨ Nat.beq 4 i = false := by
        by_cases y : 15 = x
        · right
          cases hb : Nat.beq 4 i with
          | false => rfl
          | true => exact absurd ⟨y.symm, (Nat.eq_of_beq_eq_true hb).symm⟩ c15
        · exact Or.inl (q2 15 y)
      unfold fz_me
      rcases q3 with q3 | q3
      · simp [q3, q2 16 (Ne.symm c16), q2 17 (Ne.symm c17), q 20 rfl, q 21 rfl, q 22 rfl, q 23 rfl]
      · simp [q3, q2 16 (Ne.symm c16), q2 17 (Ne.symm c17), q 20 rfl, q 21 rfl, q 22 rfl, q 23 rfl]
        intro _
        rfl
theorem st_S_nm {s : Int} {h h' : fz_H} (e : fz_nm h' = fz_nm h) (q : st_S s h) : st_S s h' := by
  unfold st_S
  rw [e]
  exact q
theorem st_N_2 {t : Int} {h h' : fz_H} (n : st_N t h) (a : h' 53 0 = h 53 0) (b : h' 53 1 = h 53 1) (c : h' 53 2 = h 53 2) (d : h' 1 7 = h 1 7) (e : h' 1 8 = h 1 8) (f : h' 9 5 = h 9 5) (g : h' 35 4 = h 35 4) (i : h' 20 2 = 0) : st_N t h' := by
  obtain ⟨⟨n1, n2, n3, n4⟩, n5, n6, n7⟩ := n
  unfold st_N
  rw [a, b, c, d, e, f, g, i]
  exact ⟨⟨n1, n2, n3, n4⟩, n5, n6, rfl⟩
