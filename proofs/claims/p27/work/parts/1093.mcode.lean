/-! ===== the model's law: how its code runs, how it is written ===== -/
/-- how many lie on the stack after m steps from n on, d having lain there -/
def fz_rn (f : Nat → Int) (n : Nat) : Nat → Nat → Option Nat
  | 0, d => some d
  | m + 1, d => match fz_rn f n m d with
    | none => none
    | some e => if (0 ≤ f (n + m) ∧ f (n + m) ≤ 5) ∨ 18 ≤ f (n + m) then some (e + 1) else if 16 ≤ f (n + m) ∧ f (n + m) ≤ 17 then (if 1 ≤ e then some e else none) else if 6 ≤ f (n + m) ∧ f (n + m) ≤ 15 then (if 2 ≤ e then some (e - 1) else none) else none
theorem fz_rn_eq {f g : Nat → Int} {n : Nat} : ∀ {m d : Nat}, (∀ k, n ≤ k → k < n + m → g k = f k) → fz_rn g n m d = fz_rn f n m d
  | 0, d, _ => rfl
  | m + 1, d, hk => by
    unfold fz_rn
    rw [fz_rn_eq (m := m) (d := d) (fun k h1 h2 => hk k h1 (by omega)), hk (n + m) (by omega) (by omega)]
theorem fz_rn_app {f : Nat → Int} {n a : Nat} {d e : Nat} (h1 : fz_rn f n a d = some e) : ∀ m : Nat, fz_rn f n (a + m) d = fz_rn f (n + a) m e
  | 0 => h1
  | m + 1 => by
    show fz_rn f n ((a + m) + 1) d = _
    unfold fz_rn
    rw [fz_rn_app h1 m, show n + (a + m) = n + a + m by omega]
/-- a code that is an expression: one more lies there after it, whatever lay there -/
def fz_ex (f : Nat → Int) (a b : Int) : Prop := 0 ≤ a ∧ a ≤ b ∧ ∀ d : Nat, fz_rn f a.toNat (b.toNat - a.toNat) d = some (d + 1)
def fz_Sg (f : Nat → Int) (a b : Int) : Prop := ∃ e, fz_rn f a.toNat (b.toNat - a.toNat) 0 = some e ∧ (a < b → e = 1)
theorem fz_ex_Sg {f : Nat → Int} {a b : Int} (h : fz_ex f a b) : fz_Sg f a b := ⟨_, h.2.2 0, fun _ => rfl⟩
theorem fz_ex_lt {f : Nat → Int} {a b : Int} (h : fz_ex f a b) : a < b := by
  obtain ⟨h0, h1, h2⟩ := h
  by_cases c : a < b
  · exact c
  · have z := h2 0
    rw [show b.toNat - a.toNat = 0 by omega] at z
    cases z
theorem fz_Sg_h {f g : Nat → Int} {a b : Int} (e : g = f) (s : fz_Sg f a b) : fz_Sg g a b := by rw [e]; exact s
theorem fz_Sg_0 {f : Nat → Int} {a : Int} : fz_Sg f a a := ⟨0, by rw [Nat.sub_self]; rfl, fun z => absurd z (Int.lt_irrefl _)⟩
theorem fz_Sg_eq {f g : Nat → Int} {a b : Int} (ha : 0 ≤ a) (hg : ∀ k : Nat, a ≤ k → (k : Int) < b → g k = f k) (h : fz_Sg f a b) : fz_Sg g a b := by
  obtain ⟨e, he, h1⟩ := h
  exact ⟨e, by rw [fz_rn_eq (f := f) (fun k h1 h2 => hg k (by omega) (by omega))]; exact he, h1⟩
theorem fz_ex_eq {f g : Nat → Int} {a b : Int} (hg : ∀ k : Nat, a ≤ k → (k : Int) < b → g k = f k) (h : fz_ex f a b) : fz_ex g a b :=
  ⟨h.1, h.2.1, fun d => by have := h.1; have := h.2.1; rw [fz_rn_eq (f := f) (fun k h1 h2 => hg k (by omega) (by omega))]; exact h.2.2 d⟩
theorem fz_ex_1 {f : Nat → Int} {a : Int} (ha : 0 ≤ a) (hc : (0 ≤ f a.toNat ∧ f a.toNat ≤ 5) ∨ 18 ≤ f a.toNat) : fz_ex f a (a + 1) := by
  refine ⟨ha, by omega, fun d => ?_⟩
  rw [show (a + 1).toNat - a.toNat = 0 + 1 by omega]
  unfold fz_rn
  show (if (0 ≤ f (a.toNat + 0) ∧ f (a.toNat + 0) ≤ 5) ∨ 18 ≤ f (a.toNat + 0) then some (d + 1) else _) = _
  rw [Nat.add_zero, if_pos hc]
theorem fz_ex_u {f : Nat → Int} {a b : Int} (h : fz_ex f a b) (hc : 16 ≤ f b.toNat ∧ f b.toNat ≤ 17) : fz_ex f a (b + 1) := by
  obtain ⟨h0, h1, h2⟩ := h
  refine ⟨h0, by omega, fun d => ?_⟩
  rw [show (b + 1).toNat - a.toNat = (b.toNat - a.toNat) + 1 by omega]
  unfold fz_rn
  rw [h2 d, show a.toNat + (b.toNat - a.toNat) = b.toNat by omega]
  show (if _ then _ else _) = _
  rw [if_neg (by omega), if_pos hc, if_pos (by omega)]
theorem fz_ex_b {f : Nat → Int} {a b c : Int} (h : fz_ex f a b) (g : fz_ex f b c) (hc : 6 ≤ f c.toNat ∧ f c.toNat ≤ 15) : fz_ex f a (c + 1) := by
  obtain ⟨h0, h1, h2⟩ := h
  obtain ⟨g0, g1, g2⟩ := g
  refine ⟨h0, by omega, fun d => ?_⟩
  rw [show (c + 1).toNat - a.toNat = ((b.toNat - a.toNat) + (c.toNat - b.toNat)) + 1 by omega]
  unfold fz_rn
  rw [fz_rn_app (h2 d), show a.toNat + (b.toNat - a.toNat) = b.toNat by omega, g2 (d + 1), show a.toNat + ((b.toNat - a.toNat) + (c.toNat - b.toNat)) = c.toNat by omega]
  show (if _ then _ else _) = _
  rw [if_neg (by omega), if_neg (by omega), if_pos hc, if_pos (by omega)]
  rfl
theorem fz_rn_no {f : Nat → Int} {n d : Nat} : ∀ {m k : Nat}, fz_rn f n m d = none → fz_rn f n (m + k) d = none
  | m, 0, h => h
  | m, k + 1, h => by
    show fz_rn f n ((m + k) + 1) d = none
    unfold fz_rn
    rw [fz_rn_no (k := k) h]
/-- in the middle of a run: top lie there -/
def fz_Dp (f : Nat → Int) (a i top : Int) : Prop := 0 ≤ a ∧ a ≤ i ∧ 0 ≤ top ∧ top ≤ i - a ∧ fz_rn f a.toNat (i.toNat - a.toNat) 0 = some top.toNat
theorem fz_Dp_0 {f : Nat → Int} {a : Int} (ha : 0 ≤ a) : fz_Dp f a a 0 := ⟨ha, by omega, by omega, by omega, by rw [Nat.sub_self]; rfl⟩
theorem fz_Dp_st {f : Nat → Int} {a b i top : Int} (h : fz_Dp f a i top) (s : fz_Sg f a b) (hi : i < b) :
    (((0 ≤ f i.toNat ∧ f i.toNat ≤ 5) ∨ 18 ≤ f i.toNat) ∧ fz_Dp f a (i + 1) (top + 1)) ∨ ((16 ≤ f i.toNat ∧ f i.toNat ≤ 17) ∧ 1 ≤ top ∧ fz_Dp f a (i + 1) top) ∨ ((6 ≤ f i.toNat ∧ f i.toNat ≤ 15) ∧ 2 ≤ top ∧ fz_Dp f a (i + 1) (top - 1)) := by
  obtain ⟨h0, h1, h2, h3, h4⟩ := h
  obtain ⟨e, he, _⟩ := s
  have hn : ∃ q, fz_rn f a.toNat ((i.toNat - a.toNat) + 1) 0 = some q := by
    cases hq : fz_rn f a.toNat ((i.toNat - a.toNat) + 1) 0 with
    | some q => exact ⟨q, rfl⟩
    | none =>
      exfalso
      have := fz_rn_no (k := b.toNat - a.toNat - ((i.toNat - a.toNat) + 1)) hq
      rw [show (i.toNat - a.toNat) + 1 + (b.toNat - a.toNat - ((i.toNat - a.toNat) + 1)) = b.toNat - a.toNat by omega, he] at this
      cases this
  obtain ⟨q, hq⟩ := hn
  have hq0 := hq
  unfold fz_rn at hq
  rw [h4, show a.toNat + (i.toNat - a.toNat) = i.toNat by omega] at hq
  dsimp only at hq
  rw [show (i.toNat - a.toNat) + 1 = (i + 1).toNat - a.toNat by omega] at hq0
  split at hq
  · next c =>
    cases hq
    exact Or.inl ⟨c, h0, by omega, by omega, by omega, by rw [hq0]; congr 1; omega⟩
  · split at hq
    · next c =>
      split at hq
      · next c2 =>
        cases hq
        exact Or.inr (Or.inl ⟨c, by omega, h0, by omega, by omega, by omega, hq0⟩)
      · cases hq
    · split at hq
      · next c =>
        split at hq
        · next c2 =>
          cases hq
          exact Or.inr (Or.inr ⟨c, by omega, h0, by omega, by omega, by omega, by rw [hq0]; congr 1; omega⟩)
        · cases hq
      · cases hq
theorem fz_Dp_o {f : Nat → Int} {a b i top : Int} (h : fz_Dp f a i top) (s : fz_Sg f a b) (hi : i < b) :
    ((0 ≤ f i.toNat ∧ f i.toNat ≤ 5) ∨ 18 ≤ f i.toNat) ∨ ((16 ≤ f i.toNat ∧ f i.toNat ≤ 17) ∧ 1 ≤ top) ∨ ((6 ≤ f i.toNat ∧ f i.toNat ≤ 15) ∧ 2 ≤ top) := by
  rcases fz_Dp_st h s hi with z | z | z
  · exact Or.inl z.1
  · exact Or.inr (Or.inl ⟨z.1, z.2.1⟩)
  · exact Or.inr (Or.inr ⟨z.1, z.2.1⟩)
theorem fz_Dp_n {f : Nat → Int} {a b i top j t : Int} (h : fz_Dp f a i top) (s : fz_Sg f a b) (hi : i < b) (hj : j = i + 1)
    (ht : (((0 ≤ f i.toNat ∧ f i.toNat ≤ 5) ∨ 18 ≤ f i.toNat) ∧ t = top + 1) ∨ ((16 ≤ f i.toNat ∧ f i.toNat ≤ 17) ∧ t = top) ∨ ((6 ≤ f i.toNat ∧ f i.toNat ≤ 15) ∧ t = top - 1)) : fz_Dp f a j t := by
  subst hj
  rcases fz_Dp_st h s hi with z | z | z
  · rw [show t = top + 1 by omega]; exact z.2
  · rw [show t = top by omega]; exact z.2.2
  · rw [show t = top - 1 by omega]; exact z.2.2
/-- what the model's law holds: its lines' codes can be run -/
def fz_Xw (h : fz_H) : Prop := ∀ i : Nat, (i : Int) < h 53 19 → (0 ≤ h 66 i ∧ h 66 i ≤ h 67 i ∧ h 67 i < h 68 i ∧ h 68 i ≤ 200) ∧ fz_Sg (h 69) (h 66 i) (h 67 i) ∧ fz_Sg (h 69) (h 67 i) (h 68 i)
theorem fz_Xw_eq {h h' : fz_H} (e0 : h' 53 19 = h 53 19) (e1 : h' 66 = h 66) (e2 : h' 67 = h 67) (e3 : h' 68 = h 68) (e4 : h' 69 = h 69) (hX : fz_Xw h) : fz_Xw h' := by
  intro i hi
  rw [e1, e2, e3, e4]
  exact hX i (by omega)
theorem fz_Xw_i {h : fz_H} {x : Int} (hX : fz_Xw h) (hx : 0 ≤ x ∧ x < h 53 19) : (0 ≤ h 66 x.toNat ∧ h 66 x.toNat ≤ h 67 x.toNat ∧ h 67 x.toNat < h 68 x.toNat ∧ h 68 x.toNat ≤ 200) ∧ fz_Sg (h 69) (h 66 x.toNat) (h 67 x.toNat) ∧ fz_Sg (h 69) (h 67 x.toNat) (h 68 x.toNat) := hX x.toNat (by omega)
/-- while it is written: nothing of the code so far, and how many of it -/
def fz_Ca (h H : fz_H) : Prop := H 73 = h 73 ∧ H 53 26 = h 53 26
theorem fz_Ca_eq {h H H' : fz_H} (e1 : H' 73 = H 73) (e2 : H' 53 26 = H 53 26) (c : fz_Ca h H) : fz_Ca h H' := ⟨e1.trans c.1, e2.trans c.2⟩
/-- one word more -/
def fz_Cd (h H : fz_H) (c : Int) : Prop := (∀ k : Nat, (k : Int) < h 53 26 → H 73 k = h 73 k) ∧ H 73 (h 53 26).toNat = c ∧ H 53 26 = h 53 26 + 1
theorem fz_Cd_in {h H1 H2 : fz_H} {c v w : Int} (e1 : H1 = fz_up h 53 26 w) (e2 : H2 = fz_up H1 73 v.toNat c) (hv : v = h 53 26) (hw : w = h 53 26 + 1) (h0 : 0 ≤ h 53 26) : fz_Cd h H2 c := by
  subst hv
  refine ⟨fun k hk => ?_, ?_, ?_⟩
  · rw [e2, fz_up_s (by omega), e1, fz_up_o (by decide)]
  · rw [e2, fz_up_e]
  · rw [e2, fz_up_o (by decide), e1, fz_up_e, hw]
/-- an expression's code has come behind what was there -/
def fz_Pa (h H : fz_H) : Prop := (∀ k : Nat, (k : Int) < h 53 26 → H 73 k = h 73 k) ∧ fz_ex (H 73) (h 53 26) (H 53 26)
theorem fz_Pa_eq {h H H' : fz_H} (e1 : H' 73 = H 73) (e2 : H' 53 26 = H 53 26) (p : fz_Pa h H) : fz_Pa h H' := by
  unfold fz_Pa
  rw [e1, e2]
  exact p
theorem fz_Pa_of {h H H' : fz_H} (c : fz_Ca h H) (p : fz_Pa H H') : fz_Pa h H' := by
  unfold fz_Pa at p ⊢
  rw [c.1, c.2] at p
  exact p
theorem fz_Pa_n {h H H' : fz_H} {c : Int} (ca : fz_Ca h H) (cd : fz_Cd H H' c) (h0 : 0 ≤ h 53 26) (hc : (0 ≤ c ∧ c ≤ 5) ∨ 18 ≤ c) : fz_Pa h H' := by
  obtain ⟨c1, c2⟩ := ca
  obtain ⟨d1, d2, d3⟩ := cd
  rw [c2] at d1 d2 d3
  rw [c1] at d1
  refine ⟨d1, ?_⟩
  rw [d3]
  exact fz_ex_1 h0 (by rw [d2]; exact hc)
theorem fz_Pa_u {h H H' : fz_H} {c : Int} (p : fz_Pa h H) (cd : fz_Cd H H' c) (hc : 16 ≤ c ∧ c ≤ 17) : fz_Pa h H' := by
  obtain ⟨p1, p2⟩ := p
  obtain ⟨d1, d2, d3⟩ := cd
  have q := p2.2.1
  have q0 := p2.1
  refine ⟨fun k hk => (d1 k (by omega)).trans (p1 k hk), ?_⟩
  rw [d3]
  exact fz_ex_u (fz_ex_eq (fun k h1 h2 => d1 k h2) p2) (by rw [d2]; exact hc)
theorem fz_Pa_b {h H1 H2 H3 : fz_H} {c : Int} (p : fz_Pa h H1) (p2 : fz_Pa H1 H2) (cd : fz_Cd H2 H3 c) (hc : 6 ≤ c ∧ c ≤ 15) : fz_Pa h H3 := by
  obtain ⟨a1, a2⟩ := p
  obtain ⟨b1, b2⟩ := p2
  obtain ⟨d1, d2, d3⟩ := cd
  have q := a2.2.1
  have q2 := b2.2.1
  have q0 := a2.1
  have e1 : ∀ k : Nat, (k : Int) < H1 53 26 → H3 73 k = H1 73 k := fun k hk => (d1 k (by omega)).trans (b1 k hk)
  refine ⟨fun k hk => (e1 k (by omega)).trans (a1 k hk), ?_⟩
  rw [d3]
  exact fz_ex_b (fz_ex_eq (fun k h1 h2 => e1 k h2) a2) (fz_ex_eq (fun k h1 h2 => d1 k h2) b2) (by rw [d2]; exact hc)
/-- the lines written so far -/
def fz_Lp (h : fz_H) (i : Nat) : Prop := (0 ≤ h 70 i ∧ h 70 i ≤ h 71 i ∧ h 71 i < h 72 i ∧ h 72 i ≤ h 53 26) ∧ fz_Sg (h 73) (h 70 i) (h 71 i) ∧ fz_Sg (h 73) (h 71 i) (h 72 i)
def fz_Ln (h : fz_H) : Prop := ∀ i : Nat, (i : Int) < h 53 27 → fz_Lp h i
theorem fz_Ln_eq {h h' : fz_H} (e0 : h' 70 = h 70) (e1 : h' 71 = h 71) (e2 : h' 72 = h 72) (e3 : h' 73 = h 73) (e4 : h' 53 26 = h 53 26) (e5 : h' 53 27 = h 53 27) (hX : fz_Ln h) : fz_Ln h' := by
  intro i hi
  unfold fz_Lp
  rw [e0, e1, e2, e3, e4]
  exact hX i (by omega)
theorem fz_Ln_0 {h : fz_H} (e : h 53 27 = 0) : fz_Ln h := fun i hi => by omega
def fz_Kp (H H' : fz_H) : Prop := ∀ c s, (c = 70 ∨ c = 71 ∨ c = 72 ∨ (c = 53 ∧ s = 27)) → H' c s = H c s
theorem fz_Kp_fr {S : List (Nat × Nat)} {H H' : fz_H} (hf : fz_fr S H H') (hs : S.all (fun q => !(Nat.beq q.1 70) && !(Nat.beq q.1 71) && !(Nat.beq q.1 72) && !(Nat.beq q.1 53 && (Nat.beq q.2 99999 || Nat.beq q.2 27))) = true) : fz_Kp H H' := by
  intro c s hc
  refine hf c s ?_
  cases hm : fz_me S c s with
  | false => rfl
  | true =>
    exfalso
    obtain ⟨q, hq, h1⟩ := List.any_eq_true.mp hm
    have h2 := List.all_eq_true.mp hs q hq
    rw [Bool.and_eq_true] at h1
    have e := Nat.eq_of_beq_eq_true h1.1
    simp only [Bool.and_eq_true, Bool.not_eq_true'] at h2
    rcases hc with rfl | rfl | rfl | ⟨rfl, rfl⟩
    · rw [e] at h2; exact absurd h2.1.1.1 (by decide)
    · rw [e] at h2; exact absurd h2.1.1.2 (by decide)
    · rw [e] at h2; exact absurd h2.1.2 (by decide)
    · rw [e, h1.2] at h2; exact absurd h2.2 (by decide)
/-- one more line -/
theorem fz_Ln_in {h H : fz_H} {c1 : Int} (hL : fz_Ln h) (hn : H 53 27 = h 53 27 + 1) (h0 : 0 ≤ h 53 27 ∧ 0 ≤ h 53 26) (hlo : ∀ k : Nat, (k : Int) < h 53 26 → H 73 k = h 73 k)
    (ha : ∀ j : Nat, (j : Int) ≠ h 53 27 → H 70 j = h 70 j ∧ H 71 j = h 71 j ∧ H 72 j = h 72 j) (hb : H 70 (h 53 27).toNat = h 53 26 ∧ H 71 (h 53 27).toNat = c1 ∧ H 72 (h 53 27).toNat = H 53 26)
    (hc : h 53 26 ≤ c1 ∧ c1 < H 53 26) (s1 : fz_Sg (H 73) (h 53 26) c1) (s2 : fz_Sg (H 73) c1 (H 53 26)) : fz_Ln H := by
  intro i hi
  by_cases e : (i : Int) = h 53 27
  · have e2 : i = (h 53 27).toNat := by omega
    obtain ⟨b1, b2, b3⟩ := hb
    rw [← e2] at b1 b2 b3
    unfold fz_Lp
    rw [b1, b2, b3]
    exact ⟨⟨by omega, hc.1, hc.2, by omega⟩, s1, s2⟩
  · obtain ⟨a1, a2, a3⟩ := ha i e
    obtain ⟨⟨l0, l1, l2, l3⟩, l4, l5⟩ := hL i (by omega)
    unfold fz_Lp
    rw [a1, a2, a3]
    exact ⟨⟨l0, l1, l2, by omega⟩, fz_Sg_eq l0 (fun k h1 h2 => hlo k (by omega)) l4, fz_Sg_eq (by omega) (fun k h1 h2 => hlo k (by omega)) l5⟩
theorem fz_x3 {h H1 H2 : fz_H} {i n v c : Int} (q : H2 70 i.toNat = v) (k : fz_Kp H1 H2) (e : H1 = fz_up h 70 n.toNat c) (hi : i = n) : v = c := by
  subst hi
  rw [← q, k 70 _ (Or.inl rfl), e, fz_up_e]
/-- a line without '?' -/
theorem fz_Ln_a {h H1 H2 H3 H4 H5 H6 : fz_H} {n1 n3 n6 m c1 x3 c6 : Int} (hL : fz_Ln h) (h0 : 0 ≤ h 53 27 ∧ 0 ≤ h 53 26)
    (e1 : H1 = fz_up h 70 n1.toNat c1) (k2 : fz_Kp H1 H2) (p2 : fz_Pa H1 H2) (e3 : H3 = fz_up H2 71 n3.toNat x3) (k4 : fz_Kp H3 H4) (g4 : H4 73 = H3 73 ∧ H4 53 26 = H3 53 26)
    (e5 : H5 = fz_up H4 53 27 m) (e6 : H6 = fz_up H5 72 n6.toNat c6) (hn : n1 = h 53 27 ∧ n3 = h 53 27 ∧ n6 = h 53 27 ∧ m = h 53 27 + 1 ∧ c1 = h 53 26) (hx : x3 = c1) (hc6 : c6 = H4 53 26) : fz_Ln H6 := by
  obtain ⟨rfl, rfl, rfl, rfl, rfl⟩ := hn
  have q73 : ∀ k, H6 73 k = H2 73 k := fun k => by rw [e6, fz_up_o (by decide), e5, fz_up_o (by decide), g4.1, e3, fz_up_o (by decide)]
  have q26 : H6 53 26 = H2 53 26 := by rw [e6, fz_up_o (by decide), e5, fz_up_s (by decide), g4.2, e3, fz_up_o (by decide)]
  have p26 : H1 53 26 = h 53 26 := by rw [e1, fz_up_o (by decide)]
  obtain ⟨r1, r2⟩ := p2
  rw [p26] at r1 r2
  have r3 := fz_ex_lt r2
  refine fz_Ln_in (c1 := h 53 26) hL ?_ h0 ?_ ?_ ⟨?_, ?_, ?_⟩ ⟨Int.le_refl _, by rw [q26]; exact r3⟩ fz_Sg_0 ?_
  · rw [e6, fz_up_o (by decide), e5, fz_up_e]
  · intro k hk
    rw [q73, r1 k hk, e1, fz_up_o (by decide)]
  · intro j hj
    have hj2 : j ≠ (h 53 27).toNat := by omega
    refine ⟨?_, ?_, ?_⟩
    · rw [e6, fz_up_o (by decide), e5, fz_up_o (by decide), k4 70 j (Or.inl rfl), e3, fz_up_o (by decide), k2 70 j (Or.inl rfl), e1, fz_up_s hj2]
    · rw [e6, fz_up_o (by decide), e5, fz_up_o (by decide), k4 71 j (Or.inr (Or.inl rfl)), e3, fz_up_s hj2, k2 71 j (Or.inr (Or.inl rfl)), e1, fz_up_o (by decide)]
    · rw [e6, fz_up_s hj2, e5, fz_up_o (by decide), k4 72 j (Or.inr (Or.inr (Or.inl rfl))), e3, fz_up_o (by decide), k2 72 j (Or.inr (Or.inr (Or.inl rfl))), e1, fz_up_o (by decide)]
  · rw [e6, fz_up_o (by decide), e5, fz_up_o (by decide), k4 70 _ (Or.inl rfl), e3, fz_up_o (by decide), k2 70 _ (Or.inl rfl), e1, fz_up_e]
  · rw [e6, fz_up_o (by decide), e5, fz_up_o (by decide), k4 71 _ (Or.inr (Or.inl rfl)), e3, fz_up_e, hx]
  · rw [q26, e6, fz_up_e, hc6, g4.2, e3, fz_up_o (by decide)]
  · rw [q26]
    exact fz_ex_Sg (fz_ex_eq (fun k _ _ => q73 k) r2)
/-- a line with '?' -/
theorem fz_Ln_b {h H1 H2 H3 H4 H5 H6 H7 H8 : fz_H} {n1 n3 n5 n8 m c1 x3 c5 c8 : Int} (hL : fz_Ln h) (h0 : 0 ≤ h 53 27 ∧ 0 ≤ h 53 26)
    (e1 : H1 = fz_up h 70 n1.toNat c1) (k2 : fz_Kp H1 H2) (p2 : fz_Pa H1 H2) (e3 : H3 = fz_up H2 71 n3.toNat x3) (k4 : fz_Kp H3 H4) (g4 : H4 73 = H3 73 ∧ H4 53 26 = H3 53 26)
    (e5 : H5 = fz_up H4 71 n5.toNat c5) (k6 : fz_Kp H5 H6) (p6 : fz_Pa H5 H6)
    (e7 : H7 = fz_up H6 53 27 m) (e8 : H8 = fz_up H7 72 n8.toNat c8) (hn : n1 = h 53 27 ∧ n3 = h 53 27 ∧ n5 = h 53 27 ∧ n8 = h 53 27 ∧ m = h 53 27 + 1 ∧ c1 = h 53 26) (hc5 : c5 = H4 53 26) (hc8 : c8 = H6 53 26) : fz_Ln H8 := by
  obtain ⟨rfl, rfl, rfl, rfl, rfl, rfl⟩ := hn
  have q73 : ∀ k, H8 73 k = H6 73 k := fun k => by rw [e8, fz_up_o (by decide), e7, fz_up_o (by decide)]
  have q26 : H8 53 26 = H6 53 26 := by rw [e8, fz_up_o (by decide), e7, fz_up_s (by decide)]
  have p26 : H1 53 26 = h 53 26 := by rw [e1, fz_up_o (by decide)]
  have u26 : H5 53 26 = H2 53 26 := by rw [e5, fz_up_o (by decide), g4.2, e3, fz_up_o (by decide)]
  have v26 : c5 = H2 53 26 := by rw [hc5, g4.2, e3, fz_up_o (by decide)]
  have u73 : ∀ k, H5 73 k = H2 73 k := fun k => by rw [e5, fz_up_o (by decide), g4.1, e3, fz_up_o (by decide)]
  obtain ⟨r1, r2⟩ := p2
  obtain ⟨t1, t2⟩ := p6
  rw [p26] at r1 r2
  rw [u26] at t1 t2
  have r3 := r2.2.1
  have t3 := fz_ex_lt t2
  refine fz_Ln_in (c1 := H2 53 26) hL ?_ h0 ?_ ?_ ⟨?_, ?_, ?_⟩ ⟨r3, by rw [q26]; exact t3⟩ ?_ ?_
  · rw [e8, fz_up_o (by decide), e7, fz_up_e]
  · intro k hk
    rw [q73, t1 k (by omega), u73, r1 k hk, e1, fz_up_o (by decide)]
  · intro j hj
    have hj2 : j ≠ (h 53 27).toNat := by omega
    refine ⟨?_, ?_, ?_⟩
    · rw [e8, fz_up_o (by decide), e7, fz_up_o (by decide), k6 70 j (Or.inl rfl), e5, fz_up_o (by decide), k4 70 j (Or.inl rfl), e3, fz_up_o (by decide), k2 70 j (Or.inl rfl), e1, fz_up_s hj2]
    · rw [e8, fz_up_o (by decide), e7, fz_up_o (by decide), k6 71 j (Or.inr (Or.inl rfl)), e5, fz_up_s hj2, k4 71 j (Or.inr (Or.inl rfl)), e3, fz_up_s hj2, k2 71 j (Or.inr (Or.inl rfl)), e1, fz_up_o (by decide)]
    · rw [e8, fz_up_s hj2, e7, fz_up_o (by decide), k6 72 j (Or.inr (Or.inr (Or.inl rfl))), e5, fz_up_o (by decide), k4 72 j (Or.inr (Or.inr (Or.inl rfl))), e3, fz_up_o (by decide), k2 72 j (Or.inr (Or.inr (Or.inl rfl))), e1, fz_up_o (by decide)]
  · rw [e8, fz_up_o (by decide), e7, fz_up_o (by decide), k6 70 _ (Or.inl rfl), e5, fz_up_o (by decide), k4 70 _ (Or.inl rfl), e3, fz_up_o (by decide), k2 70 _ (Or.inl rfl), e1, fz_up_e]
  · rw [e8, fz_up_o (by decide), e7, fz_up_o (by decide), k6 71 _ (Or.inr (Or.inl rfl)), e5, fz_up_e, v26]
  · rw [q26, e8, fz_up_e, hc8]
  · exact fz_ex_Sg (fz_ex_eq (fun k _ hk => (q73 k).trans ((t1 k hk).trans (u73 k))) r2)
  · rw [q26]
    exact fz_ex_Sg (fz_ex_eq (fun k _ _ => q73 k) t2)
/-- the copy of the lines, and of the code -/
def fz_C3 (h : fz_H) (i : Int) : Prop := ∀ j : Nat, (j : Int) < i → h 66 j = h 70 j ∧ h 67 j = h 71 j ∧ h 68 j = h 72 j
theorem fz_C3_0 {h : fz_H} : fz_C3 h 0 := fun j z => by omega
theorem fz_C3_st {h H1 H2 H3 : fz_H} {i a b c : Int} (hc : fz_C3 h i) (h0 : 0 ≤ i) (e1 : H1 = fz_up h 66 i.toNat a) (q1 : h 70 i.toNat = a) (e2 : H2 = fz_up H1 67 i.toNat b) (q2 : H1 71 i.toNat = b) (e3 : H3 = fz_up H2 68 i.toNat c) (q3 : H2 72 i.toNat = c) : fz_C3 H3 (i + 1) := by
  have k : ∀ c j, c = 70 ∨ c = 71 ∨ c = 72 → H3 c j = h c j := fun c j hc => by
    rcases hc with rfl | rfl | rfl <;> rw [e3, fz_up_o (by decide), e2, fz_up_o (by decide), e1, fz_up_o (by decide)]
  have k1 : H1 71 i.toNat = h 71 i.toNat := by rw [e1, fz_up_o (by decide)]
  have k2 : H2 72 i.toNat = h 72 i.toNat := by rw [e2, fz_up_o (by decide), e1, fz_up_o (by decide)]
  intro j hj
  rw [k 70 j (Or.inl rfl), k 71 j (Or.inr (Or.inl rfl)), k 72 j (Or.inr (Or.inr rfl))]
  by_cases e : j = i.toNat
  · rw [e]
    refine ⟨?_, ?_, ?_⟩
    · rw [e3, fz_up_o (by decide), e2, fz_up_o (by decide), e1, fz_up_e, q1]
    · rw [e3, fz_up_o (by decide), e2, fz_up_e, ← q2, k1]
    · rw [e3, fz_up_e, ← q3, k2]
  · obtain ⟨a1, a2, a3⟩ := hc j (by omega)
    refine ⟨?_, ?_, ?_⟩
    · rw [e3, fz_up_o (by decide), e2, fz_up_o (by decide), e1, fz_up_s e, a1]
    · rw [e3, fz_up_o (by decide), e2, fz_up_s e, e1, fz_up_o (by decide), a2]
    · rw [e3, fz_up_s e, e2, fz_up_o (by decide), e1, fz_up_o (by decide), a3]
def fz_C3f (h : fz_H) : Prop := fz_C3 h (h 53 19)
theorem fz_C3f_eq {h h' : fz_H} (e0 : h' 53 19 = h 53 19) (e1 : h' 66 = h 66) (e2 : h' 67 = h 67) (e3 : h' 68 = h 68) (e4 : h' 70 = h 70) (e5 : h' 71 = h 71) (e6 : h' 72 = h 72) (hc : fz_C3f h) : fz_C3f h' := by
  intro j hj
  rw [e1, e2, e3, e4, e5, e6]
  exact hc j (by omega)
def fz_C4 (h : fz_H) (i : Int) : Prop := ∀ j : Nat, (j : Int) < i → h 69 j = h 73 j
theorem fz_C4_0 {h : fz_H} : fz_C4 h 0 := fun j z => by omega
theorem fz_C4_st {h H1 : fz_H} {i a : Int} (hc : fz_C4 h i) (h0 : 0 ≤ i) (e1 : H1 = fz_up h 69 i.toNat a) (q1 : h 73 i.toNat = a) : fz_C4 H1 (i + 1) := by
  intro j hj
  by_cases e : j = i.toNat
  · rw [e, e1, fz_up_e, fz_up_o (by decide), q1]
  · rw [e1, fz_up_s e, fz_up_o (by decide)]
    exact hc j (by omega)
theorem fz_Xw_in {h : fz_H} {i : Int} (hL : fz_Ln h) (c3 : fz_C3f h) (c4 : fz_C4 h i) (hi : h 53 26 ≤ i) (hn : h 53 19 = h 53 27) (hc : h 53 26 ≤ 200) : fz_Xw h := by
  intro j hj
  obtain ⟨a1, a2, a3⟩ := c3 j hj
  obtain ⟨⟨l0, l1, l2, l3⟩, l4, l5⟩ := hL j (by omega)
  rw [a1, a2, a3]
  exact ⟨⟨l0, l1, l2, by omega⟩, fz_Sg_eq l0 (fun k h1 h2 => c4 k (by omega)) l4, fz_Sg_eq (by omega) (fun k h1 h2 => c4 k (by omega)) l5⟩
