/-! ===== the law's text: what a reading of it does ===== -/
/-- the letter at a place; -1: none -/
def fl_lt (f : Nat → Int) (n a : Int) : Int := if 0 ≤ a ∧ a < n then f a.toNat else -1
theorem fl_lt_y {f : Nat → Int} {n a : Int} (h : 0 ≤ a ∧ a < n) : fl_lt f n a = f a.toNat := if_pos h
theorem fl_lt_n {f : Nat → Int} {n a : Int} (h : n ≤ a) : fl_lt f n a = -1 := if_neg (by omega)
theorem fl_lt_eq {f f' : Nat → Int} {n n' : Int} (hn : n' = n) (h : ∀ i : Nat, (i : Int) < n → f' i = f i) : fl_lt f' n' = fl_lt f n := by
  subst hn
  funext a
  unfold fl_lt
  by_cases c : 0 ≤ a ∧ a < n'
  · rw [if_pos c, if_pos c]
    exact h _ (by omega)
  · rw [if_neg c, if_neg c]
/-- an answer of a reading: where it stands then, whether it went well, the codes -/
abbrev fl_A : Type := Int × Bool × List Int
abbrev fl_P : Type := Int → fl_A
def fl_ap (L : List Int) (q : fl_A) : fl_A := (q.1, q.2.1, L ++ q.2.2)
theorem fl_ap_0 {q : fl_A} : fl_ap [] q = q := rfl
theorem fl_ap_ap {L L' : List Int} {q : fl_A} : fl_ap L (fl_ap L' q) = fl_ap (L ++ L') q := by
  unfold fl_ap
  simp only [List.append_assoc]
/-- one, and behind it, if it went well, the other -/
def fl_sq (P Q : fl_P) : fl_P := fun a => if (P a).2.1 = true then fl_ap (P a).2.2 (Q (P a).1) else P a
/-- as long as a sign comes: what follows it, and the sign -/
def fl_ch (op : Int → Int) (P : fl_P) (g : Int → Int) : Nat → fl_P
  | 0, a => (a, true, [])
  | k + 1, a => if op (g a) < 0 then (a, true, [])
    else if (P (a + 1)).2.1 = true then fl_ap ((P (a + 1)).2.2 ++ [op (g a)]) (fl_ch op P g k (P (a + 1)).1) else P (a + 1)
def fl_lv (op : Int → Int) (k : Nat) (g : Int → Int) (P : fl_P) : fl_P := fl_sq P (fl_ch op P g k)
def fl_oP (c : Int) : Int := if c = 42 then 13 else if c = 47 then 14 else if c = 37 then 15 else -1
def fl_oS (c : Int) : Int := if c = 43 then 11 else if c = 45 then 12 else -1
def fl_oB (c : Int) : Int := if c = 60 then 8 else if c = 61 then 9 else if c = 62 then 10 else -1
def fl_oA (c : Int) : Int := if c = 38 then 7 else -1
def fl_oE (c : Int) : Int := if c = 124 then 6 else -1
/-- digits, at most so many: the number, and where it stands then -/
def fl_dg (g : Int → Int) : Nat → Int × Int → Int × Int
  | 0, s => s
  | k + 1, s => if 48 ≤ g s.2 ∧ g s.2 ≤ 57 then fl_dg g k (s.1 * 10 + g s.2 - 48, s.2 + 1) else s
def fl_nm (c : Int) : Int := if c = 119 then 0 else if c = 97 then 1 else if c = 100 then 2 else if c = 109 then 3 else if c = 116 then 4 else if c = 112 then 5 else -1
def fl_un (c : Int) (P : fl_P) : fl_P := fun a => if (P a).2.1 = true then ((P a).1, true, (P a).2.2 ++ [c]) else P a
def fl_pr (g : Int → Int) (P : fl_P) : fl_P := fun a => if (P a).2.1 = true then (if g (P a).1 = 41 then ((P a).1 + 1, true, (P a).2.2) else ((P a).1, false, (P a).2.2)) else P a
/-- a number, a name, or what else -/
def fl_bs0 (g : Int → Int) (R : fl_P) : fl_P := fun a =>
  if 48 ≤ g a ∧ g a ≤ 57 then ((fl_dg g 4 (0, a)).2, true, [18 + (fl_dg g 4 (0, a)).1])
  else if 0 ≤ fl_nm (g a) then (a + 1, true, [fl_nm (g a)]) else R a
def fl_eP (g : Int → Int) (O : fl_P) : fl_P := fl_lv fl_oP 200 g O
def fl_eS (g : Int → Int) (O : fl_P) : fl_P := fl_lv fl_oS 200 g (fl_eP g O)
def fl_eB (g : Int → Int) (O : fl_P) : fl_P := fl_lv fl_oB 1 g (fl_eS g O)
def fl_eA (g : Int → Int) (O : fl_P) : fl_P := fl_lv fl_oA 200 g (fl_eB g O)
def fl_eE (g : Int → Int) (O : fl_P) : fl_P := fl_lv fl_oE 200 g (fl_eA g O)
/-- what is open, and how many more may be -/
def fl_op (g : Int → Int) (O : fl_P) : fl_P := fun a =>
  if g a = 40 then fl_pr g (fl_eE g O) (a + 1) else if g a = 33 then fl_un 16 O (a + 1) else if g a = 45 then fl_un 17 O (a + 1) else (a, false, [])
def fl_pO (g : Int → Int) : Nat → fl_P
  | 0 => fl_bs0 g (fun a => (a, false, []))
  | k + 1 => fl_bs0 g (fl_op g (fl_pO g k))
/-- a line: what is asked (or nothing), what is said -/
abbrev fl_B : Type := Int × Bool × List (List Int × List Int)
def fl_ln (g : Int → Int) (a : Int) : Int × Bool × List Int × List Int :=
  if (fl_eE g (fl_pO g 6) a).2.1 = true then
    (if g (fl_eE g (fl_pO g 6) a).1 = 63 then ((fl_eE g (fl_pO g 6) ((fl_eE g (fl_pO g 6) a).1 + 1)).1, (fl_eE g (fl_pO g 6) ((fl_eE g (fl_pO g 6) a).1 + 1)).2.1, (fl_eE g (fl_pO g 6) a).2.2, (fl_eE g (fl_pO g 6) ((fl_eE g (fl_pO g 6) a).1 + 1)).2.2)
     else ((fl_eE g (fl_pO g 6) a).1, true, [], (fl_eE g (fl_pO g 6) a).2.2))
  else ((fl_eE g (fl_pO g 6) a).1, false, [], [])
def fl_bp (L : List (List Int × List Int)) (q : fl_B) : fl_B := (q.1, q.2.1, L ++ q.2.2)
theorem fl_bp_bp {L L' : List (List Int × List Int)} {q : fl_B} : fl_bp L (fl_bp L' q) = fl_bp (L ++ L') q := by
  unfold fl_bp
  simp only [List.append_assoc]
/-- the lines, the first of them here -/
def fl_tx (g : Int → Int) : Nat → Int → fl_B
  | 0, a => (a, false, [])
  | k + 1, a => if (fl_ln g a).2.1 = true then fl_bp [(fl_ln g a).2.2] (if g (fl_ln g a).1 = 59 then fl_tx g k ((fl_ln g a).1 + 1) else ((fl_ln g a).1, true, [])) else ((fl_ln g a).1, false, [])
def fl_tt (g : Int → Int) : fl_B := fl_tx g 200 0
/-! ===== codes that are expressions ===== -/
def fl_dl : List Int → Nat → Option Nat
  | [], d => some d
  | c :: l, d => if (0 ≤ c ∧ c ≤ 5) ∨ 18 ≤ c then fl_dl l (d + 1) else if 16 ≤ c ∧ c ≤ 17 then (if 1 ≤ d then fl_dl l d else none) else if 6 ≤ c ∧ c ≤ 15 then (if 2 ≤ d then fl_dl l (d - 1) else none) else none
theorem fl_dl_app : ∀ (l m : List Int) (d : Nat), fl_dl (l ++ m) d = (fl_dl l d).bind (fl_dl m)
  | [], m, d => rfl
  | c :: l, m, d => by
    show fl_dl (c :: (l ++ m)) d = _
    unfold fl_dl
    by_cases h1 : (0 ≤ c ∧ c ≤ 5) ∨ 18 ≤ c
    · rw [if_pos h1, if_pos h1]; exact fl_dl_app l m _
    · rw [if_neg h1, if_neg h1]
      by_cases h2 : 16 ≤ c ∧ c ≤ 17
      · rw [if_pos h2, if_pos h2]
        by_cases h3 : 1 ≤ d
        · rw [if_pos h3, if_pos h3]; exact fl_dl_app l m _
        · rw [if_neg h3, if_neg h3]; rfl
      · rw [if_neg h2, if_neg h2]
        by_cases h3 : 6 ≤ c ∧ c ≤ 15
        · rw [if_pos h3, if_pos h3]
          by_cases h4 : 2 ≤ d
          · rw [if_pos h4, if_pos h4]; exact fl_dl_app l m _
          · rw [if_neg h4, if_neg h4]; rfl
        · rw [if_neg h3, if_neg h3]; rfl
def fl_xp (l : List Int) : Prop := ∀ d, fl_dl l d = some (d + 1)
theorem fl_xp_1 {c : Int} (h : (0 ≤ c ∧ c ≤ 5) ∨ 18 ≤ c) : fl_xp [c] := fun d => by
  unfold fl_dl
  rw [if_pos h]
  rfl
theorem fl_xp_u {c : Int} {l : List Int} (x : fl_xp l) (h : 16 ≤ c ∧ c ≤ 17) : fl_xp (l ++ [c]) := fun d => by
  rw [fl_dl_app, x d]
  show fl_dl [c] (d + 1) = _
  unfold fl_dl
  rw [if_neg (by omega), if_pos h, if_pos (by omega)]
  rfl
theorem fl_xp_b {c : Int} {l m : List Int} (x : fl_xp l) (y : fl_xp m) (h : 6 ≤ c ∧ c ≤ 15) : fl_xp (l ++ (m ++ [c])) := fun d => by
  rw [fl_dl_app, x d]
  show fl_dl (m ++ [c]) (d + 1) = _
  rw [fl_dl_app, y (d + 1)]
  show fl_dl [c] (d + 1 + 1) = _
  unfold fl_dl
  rw [if_neg (by omega), if_neg (by omega), if_pos h, if_pos (by omega)]
  rfl
theorem fl_xp_ne {l : List Int} (x : fl_xp l) : l ≠ [] := fun e => by
  have := x 0
  rw [e] at this
  cases this
/-- a reading is good: it goes on, its codes are an expression, not more of them than letters passed -/
def fl_gd (n : Int) (P : fl_P) : Prop := ∀ a, 0 ≤ a → a ≤ n → a ≤ (P a).1 ∧ (P a).1 ≤ n ∧ ((P a).2.1 = true → a + (P a).2.2.length ≤ (P a).1 ∧ fl_xp (P a).2.2)
def fl_gl (n : Int) (g : Int → Int) : Prop := ∀ a, 0 ≤ a → 0 ≤ g a → a < n
theorem fl_gl_lt {f : Nat → Int} {n : Int} : fl_gl n (fl_lt f n) := fun a h0 h1 => by
  unfold fl_lt at h1
  split at h1
  · next c => exact c.2
  · omega
theorem fl_gd_ch {n : Int} {op : Int → Int} {P : fl_P} {g : Int → Int} (G : fl_gd n P) (hg : fl_gl n g) (ho : ∀ c, 0 ≤ op c → 0 ≤ c ∧ 6 ≤ op c ∧ op c ≤ 15) : ∀ (k : Nat) (a : Int) (L : List Int), 0 ≤ a → a ≤ n → fl_xp L → a ≤ (fl_ch op P g k a).1 ∧ (fl_ch op P g k a).1 ≤ n ∧ ((fl_ch op P g k a).2.1 = true → a + (fl_ch op P g k a).2.2.length ≤ (fl_ch op P g k a).1 ∧ fl_xp (L ++ (fl_ch op P g k a).2.2))
  | 0, a, L, h0, h1, x => by
    show a ≤ a ∧ a ≤ n ∧ (true = true → a + (([] : List Int).length : Int) ≤ a ∧ fl_xp (L ++ []))
    rw [List.append_nil]
    exact ⟨Int.le_refl _, h1, fun _ => ⟨by simp, x⟩⟩
  | k + 1, a, L, h0, h1, x => by
    unfold fl_ch
    by_cases c : op (g a) < 0
    · rw [if_pos c]
      show a ≤ a ∧ a ≤ n ∧ (true = true → a + (([] : List Int).length : Int) ≤ a ∧ fl_xp (L ++ []))
      rw [List.append_nil]
      exact ⟨Int.le_refl _, h1, fun _ => ⟨by simp, x⟩⟩
    · rw [if_neg c]
      have o := ho (g a) (by omega)
      have b := hg a h0 o.1
      have p := G (a + 1) (by omega) (by omega)
      by_cases q : (P (a + 1)).2.1 = true
      · rw [if_pos q]
        have p3 := p.2.2 q
        have r := fl_gd_ch G hg ho k (P (a + 1)).1 (L ++ ((P (a + 1)).2.2 ++ [op (g a)])) (by omega) p.2.1 (fl_xp_b x p3.2 o.2)
        have e1 : (fl_ap ((P (a + 1)).2.2 ++ [op (g a)]) (fl_ch op P g k (P (a + 1)).1)).1 = (fl_ch op P g k (P (a + 1)).1).1 := rfl
        have e2 : (fl_ap ((P (a + 1)).2.2 ++ [op (g a)]) (fl_ch op P g k (P (a + 1)).1)).2.1 = (fl_ch op P g k (P (a + 1)).1).2.1 := rfl
        have e3 : (fl_ap ((P (a + 1)).2.2 ++ [op (g a)]) (fl_ch op P g k (P (a + 1)).1)).2.2 = ((P (a + 1)).2.2 ++ [op (g a)]) ++ (fl_ch op P g k (P (a + 1)).1).2.2 := rfl
        rw [e1, e2, e3]
        refine ⟨by omega, r.2.1, fun z => ?_⟩
        have r3 := r.2.2 z
        rw [List.append_assoc] at r3
        refine ⟨?_, r3.2⟩
        rw [List.length_append, List.length_append, List.length_singleton]
        have := r3.1
        omega
      · rw [if_neg q]
        exact ⟨by omega, p.2.1, fun z => absurd z q⟩
theorem fl_gd_lv {n : Int} {op : Int → Int} {P : fl_P} {g : Int → Int} {k : Nat} (G : fl_gd n P) (hg : fl_gl n g) (ho : ∀ c, 0 ≤ op c → 0 ≤ c ∧ 6 ≤ op c ∧ op c ≤ 15) : fl_gd n (fl_lv op k g P) := fun a h0 h1 => by
  have p := G a h0 h1
  show a ≤ (fl_sq P (fl_ch op P g k) a).1 ∧ (fl_sq P (fl_ch op P g k) a).1 ≤ n ∧ ((fl_sq P (fl_ch op P g k) a).2.1 = true → a + (fl_sq P (fl_ch op P g k) a).2.2.length ≤ (fl_sq P (fl_ch op P g k) a).1 ∧ fl_xp (fl_sq P (fl_ch op P g k) a).2.2)
  unfold fl_sq
  by_cases q : (P a).2.1 = true
  · rw [if_pos q]
    have p3 := p.2.2 q
    have r := fl_gd_ch G hg ho k (P a).1 (P a).2.2 (by omega) p.2.1 p3.2
    have e3 : (fl_ap (P a).2.2 (fl_ch op P g k (P a).1)).2.2 = (P a).2.2 ++ (fl_ch op P g k (P a).1).2.2 := rfl
    have e1 : (fl_ap (P a).2.2 (fl_ch op P g k (P a).1)).1 = (fl_ch op P g k (P a).1).1 := rfl
    have e2 : (fl_ap (P a).2.2 (fl_ch op P g k (P a).1)).2.1 = (fl_ch op P g k (P a).1).2.1 := rfl
    rw [e1, e2, e3]
    refine ⟨by omega, r.2.1, fun z => ?_⟩
    have r3 := r.2.2 z
    refine ⟨?_, r3.2⟩
    rw [List.length_append]
    have := r3.1
    omega
  · rw [if_neg q]
    exact p
theorem fl_oP_r (c : Int) (h : 0 ≤ fl_oP c) : 0 ≤ c ∧ 6 ≤ fl_oP c ∧ fl_oP c ≤ 15 := by
  unfold fl_oP at *
  omega
theorem fl_oS_r (c : Int) (h : 0 ≤ fl_oS c) : 0 ≤ c ∧ 6 ≤ fl_oS c ∧ fl_oS c ≤ 15 := by
  unfold fl_oS at *
  omega
theorem fl_oB_r (c : Int) (h : 0 ≤ fl_oB c) : 0 ≤ c ∧ 6 ≤ fl_oB c ∧ fl_oB c ≤ 15 := by
  unfold fl_oB at *
  omega
theorem fl_oA_r (c : Int) (h : 0 ≤ fl_oA c) : 0 ≤ c ∧ 6 ≤ fl_oA c ∧ fl_oA c ≤ 15 := by
  unfold fl_oA at *
  omega
theorem fl_oE_r (c : Int) (h : 0 ≤ fl_oE c) : 0 ≤ c ∧ 6 ≤ fl_oE c ∧ fl_oE c ≤ 15 := by
  unfold fl_oE at *
  omega
theorem fl_gd_E {n : Int} {g : Int → Int} {O : fl_P} (hg : fl_gl n g) (G : fl_gd n O) : fl_gd n (fl_eE g O) :=
  fl_gd_lv (fl_gd_lv (fl_gd_lv (fl_gd_lv (fl_gd_lv G hg fl_oP_r) hg fl_oS_r) hg fl_oB_r) hg fl_oA_r) hg fl_oE_r
theorem fl_dg_b {n : Int} {g : Int → Int} (hg : fl_gl n g) : ∀ (k : Nat) (s : Int × Int), 0 ≤ s.1 → 0 ≤ s.2 → s.2 ≤ n → 0 ≤ (fl_dg g k s).1 ∧ s.2 ≤ (fl_dg g k s).2 ∧ (fl_dg g k s).2 ≤ n
  | 0, s, h0, h1, h2 => ⟨h0, Int.le_refl _, h2⟩
  | k + 1, s, h0, h1, h2 => by
    unfold fl_dg
    by_cases c : 48 ≤ g s.2 ∧ g s.2 ≤ 57
    · rw [if_pos c]
      have b := hg s.2 h1 (by omega)
      have r := fl_dg_b hg k (s.1 * 10 + g s.2 - 48, s.2 + 1) (show 0 ≤ s.1 * 10 + g s.2 - 48 by omega) (show 0 ≤ s.2 + 1 by omega) (show s.2 + 1 ≤ n by omega)
      have r2 : s.2 + 1 ≤ _ := r.2.1
      exact ⟨r.1, by omega, r.2.2⟩
    · rw [if_neg c]
      exact ⟨h0, Int.le_refl _, h2⟩
theorem fl_dg_1 {n : Int} {g : Int → Int} (hg : fl_gl n g) {a : Int} (h0 : 0 ≤ a) (h1 : a ≤ n) (c : 48 ≤ g a ∧ g a ≤ 57) : 0 ≤ (fl_dg g 4 (0, a)).1 ∧ a + 1 ≤ (fl_dg g 4 (0, a)).2 ∧ (fl_dg g 4 (0, a)).2 ≤ n := by
  have b := hg a h0 (by omega)
  have e : fl_dg g 4 (0, a) = fl_dg g 3 (0 * 10 + g a - 48, a + 1) := by
    show (if 48 ≤ g a ∧ g a ≤ 57 then _ else _) = _
    rw [if_pos c]
  rw [e]
  exact fl_dg_b hg 3 _ (show 0 ≤ 0 * 10 + g a - 48 by omega) (show 0 ≤ a + 1 by omega) (show a + 1 ≤ n by omega)
theorem fl_nm_r (c : Int) : -1 ≤ fl_nm c ∧ fl_nm c ≤ 5 ∧ (0 ≤ fl_nm c → 0 ≤ c) := by
  unfold fl_nm
  omega
theorem fl_gd_b {n : Int} {g : Int → Int} {R : fl_P} (hg : fl_gl n g) (G : fl_gd n R) : fl_gd n (fl_bs0 g R) := fun a h0 h1 => by
  unfold fl_bs0
  by_cases c : 48 ≤ g a ∧ g a ≤ 57
  · rw [if_pos c]
    have d := fl_dg_1 hg h0 h1 c
    exact ⟨show a ≤ (fl_dg g 4 (0, a)).2 by omega, d.2.2, fun _ => ⟨show a + (([18 + (fl_dg g 4 (0, a)).1] : List Int).length : Int) ≤ (fl_dg g 4 (0, a)).2 by rw [List.length_singleton]; omega, fl_xp_1 (Or.inr (by omega))⟩⟩
  · rw [if_neg c]
    by_cases e : 0 ≤ fl_nm (g a)
    · rw [if_pos e]
      have r := fl_nm_r (g a)
      have b := hg a h0 (r.2.2 e)
      exact ⟨show a ≤ a + 1 by omega, show a + 1 ≤ n by omega, fun _ => ⟨show a + (([fl_nm (g a)] : List Int).length : Int) ≤ a + 1 by rw [List.length_singleton]; omega, fl_xp_1 (Or.inl ⟨e, r.2.1⟩)⟩⟩
    · rw [if_neg e]
      exact G a h0 h1
theorem fl_gd_un {n : Int} {P : fl_P} {c a : Int} (G : fl_gd n P) (h0 : 0 ≤ a) (h1 : a + 1 ≤ n) (hc : 16 ≤ c ∧ c ≤ 17) : a ≤ (fl_un c P (a + 1)).1 ∧ (fl_un c P (a + 1)).1 ≤ n ∧ ((fl_un c P (a + 1)).2.1 = true → a + (fl_un c P (a + 1)).2.2.length ≤ (fl_un c P (a + 1)).1 ∧ fl_xp (fl_un c P (a + 1)).2.2) := by
  have p := G (a + 1) (by omega) h1
  unfold fl_un
  by_cases q : (P (a + 1)).2.1 = true
  · rw [if_pos q]
    have p3 := p.2.2 q
    refine ⟨show a ≤ (P (a + 1)).1 by omega, p.2.1, fun _ => ⟨?_, fl_xp_u p3.2 hc⟩⟩
    show a + (((P (a + 1)).2.2 ++ [c]).length : Int) ≤ (P (a + 1)).1
    rw [List.length_append, List.length_singleton]
    omega
  · rw [if_neg q]
    exact ⟨by omega, p.2.1, fun z => absurd z q⟩
theorem fl_gd_op {n : Int} {g : Int → Int} {O : fl_P} (hg : fl_gl n g) (G : fl_gd n O) : fl_gd n (fl_op g O) := fun a h0 h1 => by
  unfold fl_op
  by_cases c1 : g a = 40
  · rw [if_pos c1]
    have b := hg a h0 (by omega)
    have p := fl_gd_E hg G (a + 1) (by omega) (by omega)
    unfold fl_pr
    by_cases q : (fl_eE g O (a + 1)).2.1 = true
    · rw [if_pos q]
      have p3 := p.2.2 q
      by_cases c : g (fl_eE g O (a + 1)).1 = 41
      · rw [if_pos c]
        have b2 := hg (fl_eE g O (a + 1)).1 (by omega) (by omega)
        exact ⟨show a ≤ (fl_eE g O (a + 1)).1 + 1 by omega, show (fl_eE g O (a + 1)).1 + 1 ≤ n by omega, fun _ => ⟨show a + ((fl_eE g O (a + 1)).2.2.length : Int) ≤ (fl_eE g O (a + 1)).1 + 1 by omega, p3.2⟩⟩
      · rw [if_neg c]
        exact ⟨show a ≤ (fl_eE g O (a + 1)).1 by omega, p.2.1, fun z => Bool.noConfusion z⟩
    · rw [if_neg q]
      exact ⟨by omega, p.2.1, fun z => absurd z q⟩
  · rw [if_neg c1]
    by_cases c2 : g a = 33
    · rw [if_pos c2]
      have b := hg a h0 (by omega)
      exact fl_gd_un G h0 (by omega) (by decide)
    · rw [if_neg c2]
      by_cases c3 : g a = 45
      · rw [if_pos c3]
        have b := hg a h0 (by omega)
        exact fl_gd_un G h0 (by omega) (by decide)
      · rw [if_neg c3]
        exact ⟨Int.le_refl _, h1, fun z => Bool.noConfusion z⟩
theorem fl_gd_O {n : Int} {g : Int → Int} (hg : fl_gl n g) : ∀ k, fl_gd n (fl_pO g k)
  | 0 => fl_gd_b hg (fun a h0 h1 => ⟨Int.le_refl _, h1, fun z => Bool.noConfusion z⟩)
  | k + 1 => fl_gd_b hg (fl_gd_op hg (fl_gd_O hg k))
/-- a line's codes are expressions -/
def fl_lx (q : List Int × List Int) : Prop := (q.1 = [] ∨ fl_xp q.1) ∧ fl_xp q.2
theorem fl_ln_g {n : Int} {g : Int → Int} (hg : fl_gl n g) {a : Int} (h0 : 0 ≤ a) (h1 : a ≤ n) : a ≤ (fl_ln g a).1 ∧ (fl_ln g a).1 ≤ n ∧ ((fl_ln g a).2.1 = true → fl_lx (fl_ln g a).2.2) := by
  have E := fl_gd_E hg (fl_gd_O hg 6)
  have p := E a h0 h1
  unfold fl_ln
  by_cases q : (fl_eE g (fl_pO g 6) a).2.1 = true
  · rw [if_pos q]
    have p3 := p.2.2 q
    by_cases c : g (fl_eE g (fl_pO g 6) a).1 = 63
    · rw [if_pos c]
      have b := hg (fl_eE g (fl_pO g 6) a).1 (by omega) (by omega)
      have r := E ((fl_eE g (fl_pO g 6) a).1 + 1) (by omega) (by omega)
      exact ⟨show a ≤ (fl_eE g (fl_pO g 6) ((fl_eE g (fl_pO g 6) a).1 + 1)).1 by omega, r.2.1, fun z => ⟨Or.inr p3.2, (r.2.2 z).2⟩⟩
    · rw [if_neg c]
      exact ⟨p.1, p.2.1, fun _ => ⟨Or.inl rfl, p3.2⟩⟩
  · rw [if_neg q]
    exact ⟨p.1, p.2.1, fun z => Bool.noConfusion z⟩
theorem fl_tx_x {n : Int} {g : Int → Int} (hg : fl_gl n g) : ∀ (k : Nat) (a : Int), 0 ≤ a → a ≤ n → (fl_tx g k a).2.1 = true → ∀ q ∈ (fl_tx g k a).2.2, fl_lx q
  | 0, a, h0, h1, z => Bool.noConfusion z
  | k + 1, a, h0, h1, z => by
    have p := fl_ln_g hg h0 h1
    unfold fl_tx at z ⊢
    by_cases q : (fl_ln g a).2.1 = true
    · rw [if_pos q] at z ⊢
      intro x hx
      have hx2 : x ∈ [(fl_ln g a).2.2] ++ (if g (fl_ln g a).1 = 59 then fl_tx g k ((fl_ln g a).1 + 1) else ((fl_ln g a).1, true, [])).2.2 := hx
      have z2 : (if g (fl_ln g a).1 = 59 then fl_tx g k ((fl_ln g a).1 + 1) else ((fl_ln g a).1, true, [])).2.1 = true := z
      rcases List.mem_append.mp hx2 with y | y
      · rw [List.mem_singleton.mp y]
        exact p.2.2 q
      · by_cases c : g (fl_ln g a).1 = 59
        · rw [if_pos c] at y z2
          have b := hg (fl_ln g a).1 (by omega) (by omega)
          exact fl_tx_x hg k ((fl_ln g a).1 + 1) (by omega) (by omega) z2 x y
        · rw [if_neg c] at y
          cases y
    · rw [if_neg q] at z
      exact Bool.noConfusion z
/-! ===== how codes run ===== -/
/-- what stands between two, by the class's sign -/
def fl_bs (s x y : Int) : Int := if s = 124 then (if x ≠ 0 ∨ y ≠ 0 then 1 else 0) else if s = 38 then (if x ≠ 0 ∧ y ≠ 0 then 1 else 0) else if s = 60 then (if x < y then 1 else 0) else if s = 61 then (if x = y then 1 else 0) else if s = 62 then (if y < x then 1 else 0) else if s = 43 then fz_w (x + y) else if s = 45 then fz_w (x - y) else if s = 42 then fz_w (x * y) else if s = 47 then (if y = 0 then 0 else fz_w (Int.tdiv x y)) else if s = 37 then (if y = 0 then 0 else fz_w (Int.tmod x y)) else 0
/-- the class's sign of a code, its operand -/
def fl_st (c : Int) : Int := if 18 ≤ c then 35 else if c ≤ 5 then 64 else if c = 6 then 124 else if c = 7 then 38 else if c = 8 then 60 else if c = 9 then 61 else if c = 10 then 62 else if c = 11 then 43 else if c = 12 then 45 else if c = 13 then 42 else if c = 14 then 47 else if c = 15 then 37 else if c = 16 then 33 else 126
def fl_od (c : Int) : Int := if 18 ≤ c then c - 18 else if c ≤ 5 then c else 0
def fl_cm (c : Int) : Int × Int := (fl_st c, fl_od c)
/-- one code over a stack, the top first -/
def fl_s1 (nm : Nat → Int) (c : Int) (s : List Int) : List Int := if 18 ≤ c then (c - 18) :: s else if c ≤ 5 then nm c.toNat :: s else match s with
  | [] => []
  | y :: t => if c = 16 then (if y = 0 then 1 else 0) :: t else if c = 17 then fz_w (-y) :: t else match t with
    | [] => []
    | x :: u => fl_bs (fl_st c) x y :: u
def fl_ev (nm : Nat → Int) : List Int → List Int → List Int
  | [], s => s
  | c :: l, s => fl_ev nm l (fl_s1 nm c s)
theorem fl_s1_fr {nm : Nat → Int} {c : Int} {s t : List Int} {d : Nat} (h : fl_dl [c] s.length = some d) : fl_s1 nm c (s ++ t) = fl_s1 nm c s ++ t ∧ (fl_s1 nm c s).length = d := by
  unfold fl_dl at h
  unfold fl_s1
  by_cases h1 : (0 ≤ c ∧ c ≤ 5) ∨ 18 ≤ c
  · rw [if_pos h1] at h
    have h' : some (s.length + 1) = some d := h
    cases h'
    by_cases h2 : 18 ≤ c
    · rw [if_pos h2, if_pos h2]; exact ⟨rfl, rfl⟩
    · rw [if_neg h2, if_neg h2, if_pos (by omega), if_pos (by omega)]; exact ⟨rfl, rfl⟩
  · rw [if_neg h1] at h
    by_cases h2 : 16 ≤ c ∧ c ≤ 17
    · rw [if_pos h2] at h
      rw [if_neg (by omega), if_neg (by omega), if_neg (by omega), if_neg (by omega)]
      match s, h with
      | [], h => rw [if_neg (by decide)] at h; cases h
      | y :: s, h =>
        rw [if_pos (by simp)] at h
        have h' : some (y :: s).length = some d := h
        cases h'
        show (if c = 16 then (if y = 0 then 1 else 0) :: (s ++ t) else if c = 17 then fz_w (-y) :: (s ++ t) else _) = (if c = 16 then (if y = 0 then 1 else 0) :: s else if c = 17 then fz_w (-y) :: s else _) ++ t ∧ (if c = 16 then (if y = 0 then 1 else 0) :: s else if c = 17 then fz_w (-y) :: s else (_ : List Int)).length = _
        by_cases h3 : c = 16
        · rw [if_pos h3, if_pos h3]; exact ⟨rfl, rfl⟩
        · rw [if_neg h3, if_neg h3, if_pos (by omega), if_pos (by omega)]; exact ⟨rfl, rfl⟩
    · rw [if_neg h2] at h
      by_cases h3 : 6 ≤ c ∧ c ≤ 15
      · rw [if_pos h3] at h
        rw [if_neg (by omega), if_neg (by omega), if_neg (by omega), if_neg (by omega)]
        match s, h with
        | [], h => rw [if_neg (by decide)] at h; cases h
        | [y], h => rw [if_neg (by simp)] at h; cases h
        | y :: x :: s, h =>
          rw [if_pos (by simp)] at h
          have h' : some ((y :: x :: s).length - 1) = some d := h
          cases h'
          show (if c = 16 then (if y = 0 then 1 else 0) :: (x :: s ++ t) else if c = 17 then fz_w (-y) :: (x :: s ++ t) else fl_bs (fl_st c) x y :: (s ++ t)) = (if c = 16 then (if y = 0 then 1 else 0) :: (x :: s) else if c = 17 then fz_w (-y) :: (x :: s) else fl_bs (fl_st c) x y :: s) ++ t ∧ (if c = 16 then (if y = 0 then 1 else 0) :: (x :: s) else if c = 17 then fz_w (-y) :: (x :: s) else fl_bs (fl_st c) x y :: s : List Int).length = _
          rw [if_neg (by omega), if_neg (by omega), if_neg (by omega), if_neg (by omega)]
          exact ⟨rfl, rfl⟩
      · rw [if_neg h3] at h; cases h
theorem fl_dl_c {c : Int} {l : List Int} {d e : Nat} (h : fl_dl (c :: l) d = some e) : ∃ k, fl_dl [c] d = some k ∧ fl_dl l k = some e := by
  have h2 : fl_dl ([c] ++ l) d = some e := h
  rw [fl_dl_app] at h2
  cases hk : fl_dl [c] d with
  | none => rw [hk] at h2; cases h2
  | some k => rw [hk] at h2; exact ⟨k, rfl, h2⟩
theorem fl_ev_fr {nm : Nat → Int} : ∀ (l s t : List Int) (d : Nat), fl_dl l s.length = some d → fl_ev nm l (s ++ t) = fl_ev nm l s ++ t ∧ (fl_ev nm l s).length = d
  | [], s, t, d, h => ⟨rfl, by have h' : some s.length = some d := h; cases h'; rfl⟩
  | c :: l, s, t, d, h => by
    obtain ⟨k, h1, h2⟩ := fl_dl_c h
    have a := fl_s1_fr (nm := nm) (t := t) h1
    have b := fl_ev_fr (nm := nm) l (fl_s1 nm c s) t d (by rw [a.2]; exact h2)
    refine ⟨?_, b.2⟩
    show fl_ev nm l (fl_s1 nm c (s ++ t)) = _
    rw [a.1]
    exact b.1
/-- an expression's worth -/
def fl_vl (nm : Nat → Int) (l : List Int) : Int := (fl_ev nm l []).headD 0
theorem fl_ev_x {nm : Nat → Int} {l : List Int} (x : fl_xp l) (t : List Int) : fl_ev nm l t = fl_vl nm l :: t := by
  have h := fl_ev_fr (nm := nm) l [] t 1 (x 0)
  rw [List.nil_append] at h
  rw [h.1]
  unfold fl_vl
  match he : fl_ev nm l [], h.2 with
  | [v], _ => rfl
/-- codes in a row of numbers -/
def fl_sg (f : Nat → Int) : Nat → List Int → Prop
  | _, [] => True
  | a, c :: l => f a = c ∧ fl_sg f (a + 1) l
theorem fl_sg_app {f : Nat → Int} : ∀ {l m : List Int} {a : Nat}, fl_sg f a (l ++ m) ↔ fl_sg f a l ∧ fl_sg f (a + l.length) m
  | [], m, a => ⟨fun h => ⟨trivial, h⟩, fun h => h.2⟩
  | c :: l, m, a => by
    show (f a = c ∧ fl_sg f (a + 1) (l ++ m)) ↔ (f a = c ∧ fl_sg f (a + 1) l) ∧ fl_sg f (a + (l.length + 1)) m
    rw [fl_sg_app, and_assoc, show a + 1 + l.length = a + (l.length + 1) by omega]
theorem fl_sg_eq {f g : Nat → Int} : ∀ {l : List Int} {a : Nat}, (∀ k, a ≤ k → k < a + l.length → g k = f k) → fl_sg f a l → fl_sg g a l
  | [], _, _, _ => trivial
  | c :: l, a, h, s => ⟨(h a (Nat.le_refl _) (by show a < a + (l.length + 1); omega)).trans s.1, fl_sg_eq (fun k h1 h2 => h k (by omega) (by show k < a + (l.length + 1); omega)) s.2⟩
/-- pairs in two rows -/
def fl_s2 (f g : Nat → Int) : Nat → List (Int × Int) → Prop
  | _, [] => True
  | a, c :: l => (f a = c.1 ∧ g a = c.2) ∧ fl_s2 f g (a + 1) l
theorem fl_s2_app {f g : Nat → Int} : ∀ {l m : List (Int × Int)} {a : Nat}, fl_s2 f g a (l ++ m) ↔ fl_s2 f g a l ∧ fl_s2 f g (a + l.length) m
  | [], m, a => ⟨fun h => ⟨trivial, h⟩, fun h => h.2⟩
  | c :: l, m, a => by
    show ((f a = c.1 ∧ g a = c.2) ∧ fl_s2 f g (a + 1) (l ++ m)) ↔ ((f a = c.1 ∧ g a = c.2) ∧ fl_s2 f g (a + 1) l) ∧ fl_s2 f g (a + (l.length + 1)) m
    rw [fl_s2_app, show a + 1 + l.length = a + (l.length + 1) by omega]
    exact ⟨fun h => ⟨⟨h.1, h.2.1⟩, h.2.2⟩, fun h => ⟨h.1.1, h.1.2, h.2⟩⟩
theorem fl_s2_eq {f g f' g' : Nat → Int} : ∀ {l : List (Int × Int)} {a : Nat}, (∀ k, a ≤ k → k < a + l.length → f' k = f k ∧ g' k = g k) → fl_s2 f g a l → fl_s2 f' g' a l
  | [], _, _, _ => trivial
  | c :: l, a, h, s => by
    have e := h a (Nat.le_refl _) (by show a < a + (l.length + 1); omega)
    exact ⟨⟨e.1.trans s.1.1, e.2.trans s.1.2⟩, fl_s2_eq (fun k h1 h2 => h k (by omega) (by show k < a + (l.length + 1); omega)) s.2⟩
/-- the class's steps of a line that begins at a place; of all lines -/
def fl_cl (a : Nat) (q : List Int × List Int) : List (Int × Int) := if q.1 = [] then q.2.map fl_cm ++ [(59, 0)] else q.1.map fl_cm ++ ((63, ((a + (q.1.length + (1 + (q.2.length + 1))) : Nat) : Int)) :: (q.2.map fl_cm ++ [(59, 0)]))
def fl_ct : Nat → List (List Int × List Int) → List (Int × Int)
  | _, [] => []
  | a, q :: L => fl_cl a q ++ fl_ct (a + (fl_cl a q).length) L
theorem fl_ct_app : ∀ (L M : List (List Int × List Int)) (a : Nat), fl_ct a (L ++ M) = fl_ct a L ++ fl_ct (a + (fl_ct a L).length) M
  | [], M, a => rfl
  | q :: L, M, a => by
    show fl_cl a q ++ fl_ct (a + (fl_cl a q).length) (L ++ M) = (fl_cl a q ++ fl_ct (a + (fl_cl a q).length) L) ++ fl_ct (a + (fl_cl a q ++ fl_ct (a + (fl_cl a q).length) L).length) M
    rw [fl_ct_app L M, List.append_assoc, List.length_append, Nat.add_assoc]
def fl_fdC (h h' : fz_H) (c : Int) : Prop := (h' 20 2 = h 20 2 + 1 ∧ h' 26 = fz_up h 26 (h 20 2).toNat c 26) ∨ (h' 20 2 = h 20 2 ∧ h' 26 = h 26)
def fl_fdM (h h' : fz_H) (c : Int) : Prop := (h' 53 16 = h 53 16 + 1 ∧ h' 65 = fz_up h 65 (h 53 16).toNat c 65) ∨ (h' 53 16 = h 53 16 ∧ h' 65 = h 65)
/-! ===== the class's run ===== -/
def fl_rG (c : Int) (R : Int → Int → List Int → Int) (a x y : Int) : List Int → Int
  | [] => 0
  | z :: u => R (a + 1) x (fl_bs c z y :: u)
def fl_rF (c o : Int) (R : Int → Int → List Int → Int) (a x : Int) : List Int → Int
  | [] => 0
  | y :: t => if c = 59 then y else if c = 63 then R (a + 1) (if y = 0 then o else 0) t else if c = 33 ∨ c = 126 then R (a + 1) x ((if c = 126 then fz_w (-y) else if y = 0 then 1 else 0) :: t) else fl_rG c R a x y t
def fl_rD (c o : Int) (nm : Nat → Int) (R : Int → Int → List Int → Int) (a x : Int) (s : List Int) : Int :=
  if c = 35 ∨ c = 64 then (if 128 ≤ s.length ∨ (c = 64 ∧ (o < 0 ∨ 6 ≤ o)) then 0 else R (a + 1) x ((if c = 35 then o else nm o.toNat) :: s)) else fl_rF c o R a x s
def fl_rB (st od : Nat → Int) (n : Int) (nm : Nat → Int) (R : Int → Int → List Int → Int) (a x : Int) (s : List Int) : Int :=
  if n ≤ a then 0 else if a < x then R (a + 1) x s else fl_rD (st a.toNat) (od a.toNat) nm R a x s
def fl_rC (st od : Nat → Int) (n : Int) (nm : Nat → Int) : Nat → Int → Int → List Int → Int
  | 0 => fun _ _ _ => 0
  | k + 1 => fl_rB st od n nm (fl_rC st od n nm k)
/-- one code, in the class's steps -/
theorem fl_rD_1 {c : Int} {nm : Nat → Int} {R : Int → Int → List Int → Int} {a x : Int} {s : List Int} {d : Nat} (h0 : s.length < 128) (hd : fl_dl [c] s.length = some d) : fl_rD (fl_st c) (fl_od c) nm R a x s = R (a + 1) x (fl_s1 nm c s) := by
  unfold fl_dl at hd
  unfold fl_rD fl_s1
  by_cases h1 : 18 ≤ c
  · have e : fl_st c = 35 := by unfold fl_st; rw [if_pos h1]
    have e2 : fl_od c = c - 18 := by unfold fl_od; rw [if_pos h1]
    rw [e, e2, if_pos (Or.inl rfl), if_neg (by omega), if_pos rfl, if_pos h1]
  · by_cases h2 : c ≤ 5
    · have e : fl_st c = 64 := by unfold fl_st; rw [if_neg h1, if_pos h2]
      have e2 : fl_od c = c := by unfold fl_od; rw [if_neg h1, if_pos h2]
      have h3 : 0 ≤ c := by
        by_cases h3 : 0 ≤ c
        · exact h3
        · rw [if_neg (by omega), if_neg (by omega), if_neg (by omega)] at hd; cases hd
      rw [e, e2, if_pos (Or.inr rfl), if_neg (by omega), if_neg (by decide), if_neg h1, if_pos h2]
    · rw [if_neg (by omega)] at hd
      have e2 : ¬ (fl_st c = 35 ∨ fl_st c = 64) := by
        unfold fl_st
        omega
      rw [if_neg e2, if_neg h1, if_neg h2]
      by_cases h3 : 16 ≤ c ∧ c ≤ 17
      · rw [if_pos h3] at hd
        match s, hd with
        | [], hd => rw [if_neg (by decide)] at hd; cases hd
        | y :: t, hd =>
          have n1 : ¬ fl_st c = 59 := by unfold fl_st; omega
          have n2 : ¬ fl_st c = 63 := by unfold fl_st; omega
          have n3 : fl_st c = 33 ∨ fl_st c = 126 := by unfold fl_st; omega
          show (if fl_st c = 59 then y else if fl_st c = 63 then _ else if fl_st c = 33 ∨ fl_st c = 126 then _ else _) = R (a + 1) x (if c = 16 then _ else if c = 17 then _ else _)
          rw [if_neg n1, if_neg n2, if_pos n3]
          by_cases h4 : c = 16
          · rw [if_pos h4, if_neg (show ¬ fl_st c = 126 by unfold fl_st; omega)]
          · rw [if_neg h4, if_pos (show c = 17 by omega), if_pos (show fl_st c = 126 by unfold fl_st; omega)]
      · rw [if_neg h3] at hd
        by_cases h4 : 6 ≤ c ∧ c ≤ 15
        · rw [if_pos h4] at hd
          match s, hd with
          | [], hd => rw [if_neg (by decide)] at hd; cases hd
          | [y], hd => rw [if_neg (by simp)] at hd; cases hd
          | y :: z :: u, hd =>
            have n1 : ¬ fl_st c = 59 := by unfold fl_st; omega
            have n2 : ¬ fl_st c = 63 := by unfold fl_st; omega
            have n3 : ¬ (fl_st c = 33 ∨ fl_st c = 126) := by unfold fl_st; omega
            show (if fl_st c = 59 then y else if fl_st c = 63 then _ else if fl_st c = 33 ∨ fl_st c = 126 then _ else _) = R (a + 1) x (if c = 16 then _ else if c = 17 then _ else _)
            rw [if_neg n1, if_neg n2, if_neg n3, if_neg (by omega), if_neg (by omega)]
            rfl
        · rw [if_neg h4] at hd; cases hd
theorem fl_rC_seg {st od : Nat → Int} {n : Int} {nm : Nat → Int} : ∀ (l : List Int) (K : Nat) (a x : Int) (s : List Int) (d : Nat), fl_s2 st od a.toNat (l.map fl_cm) → 0 ≤ a → x ≤ a → a + l.length ≤ n → n ≤ 128 → s.length ≤ a → fl_dl l s.length = some d → fl_rC st od n nm (l.length + K) a x s = fl_rC st od n nm K (a + l.length) x (fl_ev nm l s)
  | [], K, a, x, s, d, _, _, _, _, _, _, _ => by
    show fl_rC st od n nm (0 + K) a x s = fl_rC st od n nm K (a + ((0 : Nat) : Int)) x s
    rw [Nat.zero_add, show a + ((0 : Nat) : Int) = a by omega]
  | c :: l, K, a, x, s, d, h1, h2, h3, h4, h5, h6, h7 => by
    obtain ⟨k, g1, g2⟩ := fl_dl_c h7
    have h1' : (st a.toNat = fl_st c ∧ od a.toNat = fl_od c) ∧ fl_s2 st od (a.toNat + 1) (l.map fl_cm) := h1
    have hl : (c :: l).length = l.length + 1 := rfl
    have ls := (fl_s1_fr (nm := nm) (t := []) g1).2
    have kb : k ≤ s.length + 1 := by
      unfold fl_dl at g1
      split at g1
      · have : some (s.length + 1) = some k := g1
        cases this; omega
      · split at g1
        · split at g1
          · have : some s.length = some k := g1
            cases this; omega
          · cases g1
        · split at g1
          · split at g1
            · have : some (s.length - 1) = some k := g1
              cases this; omega
            · cases g1
          · cases g1
    have r := fl_rC_seg (st := st) (od := od) (n := n) (nm := nm) l K (a + 1) x (fl_s1 nm c s) d (by rw [show (a + 1).toNat = a.toNat + 1 by omega]; exact h1'.2) (by omega) (by omega) (by rw [hl] at h4; omega) h5 (by omega) (by rw [ls]; exact g2)
    rw [hl, show l.length + 1 + K = (l.length + K) + 1 by omega]
    show fl_rB st od n nm (fl_rC st od n nm (l.length + K)) a x s = fl_rC st od n nm K (a + ((l.length + 1 : Nat) : Int)) x (fl_ev nm l (fl_s1 nm c s))
    unfold fl_rB
    rw [if_neg (by rw [hl] at h4; omega), if_neg (by omega), h1'.1.1, h1'.1.2, fl_rD_1 (by rw [hl] at h4; omega) g1, r]
    congr 1
    omega
theorem fl_rC_skip {st od : Nat → Int} {n : Int} {nm : Nat → Int} : ∀ (j K : Nat) (a x : Int) (s : List Int), a + j = x → x ≤ n → fl_rC st od n nm (j + K) a x s = fl_rC st od n nm K x x s
  | 0, K, a, x, s, h1, h2 => by
    rw [Nat.zero_add, show a = x by omega]
  | j + 1, K, a, x, s, h1, h2 => by
    rw [show j + 1 + K = (j + K) + 1 by omega]
    show fl_rB st od n nm (fl_rC st od n nm (j + K)) a x s = _
    unfold fl_rB
    rw [if_neg (by omega), if_pos (by omega)]
    exact fl_rC_skip j K (a + 1) x s (by omega) h2
/-- what the lines say -/
def fl_lw (nm : Nat → Int) : List (List Int × List Int) → Int
  | [] => 0
  | q :: L => if q.1 ≠ [] ∧ fl_vl nm q.1 = 0 then fl_lw nm L else fl_vl nm q.2
theorem fl_rC_end {st od : Nat → Int} {n : Int} {nm : Nat → Int} {K : Nat} {a x : Int} {s : List Int} (h : n ≤ a) : fl_rC st od n nm (K + 1) a x s = 0 := if_pos h
/-- an expression, and the end of its line -/
theorem fl_rC_say {st od : Nat → Int} {n : Int} {nm : Nat → Int} {e : List Int} {K : Nat} {a x : Int} (hx : fl_xp e) (h : fl_s2 st od a.toNat (e.map fl_cm ++ [(59, 0)])) (h0 : 0 ≤ a) (h1 : x ≤ a) (h2 : a + e.length + 1 ≤ n) (h3 : n ≤ 128) : fl_rC st od n nm (e.length + (K + 1)) a x [] = fl_vl nm e := by
  obtain ⟨g1, g2⟩ := fl_s2_app.mp h
  rw [List.length_map] at g2
  rw [fl_rC_seg e (K + 1) a x [] 1 g1 h0 h1 (by omega) h3 (show ((0 : Nat) : Int) ≤ a by omega) (hx 0), fl_ev_x hx]
  show fl_rB st od n nm (fl_rC st od n nm K) (a + e.length) x [fl_vl nm e] = _
  have g3 : st (a + e.length).toNat = 59 := by
    rw [show (a + e.length).toNat = a.toNat + e.length by omega]
    exact g2.1.1
  unfold fl_rB
  rw [if_neg (by omega), if_neg (by omega), g3]
  rfl
theorem fl_cl_len0 {a : Nat} {q : List Int × List Int} (h : q.1 = []) : (fl_cl a q).length = q.2.length + 1 := by
  unfold fl_cl
  rw [if_pos h, List.length_append, List.length_map]
  rfl
theorem fl_cl_len1 {a : Nat} {q : List Int × List Int} (h : q.1 ≠ []) : (fl_cl a q).length = q.1.length + (1 + (q.2.length + 1)) := by
  unfold fl_cl
  rw [if_neg h, List.length_append, List.length_map, List.length_cons, List.length_append, List.length_map]
  show _ + (_ + 1 + 1) = _
  omega
theorem fl_run_C {st od : Nat → Int} {n : Int} {nm : Nat → Int} : ∀ (L : List (List Int × List Int)) (K : Nat) (a x : Int), (∀ q ∈ L, fl_lx q) → fl_s2 st od a.toNat (fl_ct a.toNat L) → 0 ≤ a → x ≤ a → n = a + (fl_ct a.toNat L).length → n ≤ 128 → (fl_ct a.toNat L).length < K → fl_rC st od n nm K a x [] = fl_lw nm L
  | [], K, a, x, _, _, _, _, hn, _, hk => by
    obtain ⟨K, rfl⟩ : ∃ k, K = k + 1 := ⟨K - 1, by omega⟩
    exact fl_rC_end (by have : n = a + ((0 : Nat) : Int) := hn; omega)
  | q :: L, K, a, x, hx, hs, h0, h1, hn, h3, hk => by
    have hq := hx q (List.mem_cons_self)
    obtain ⟨s1, s2⟩ := fl_s2_app.mp (show fl_s2 st od a.toNat (fl_cl a.toNat q ++ fl_ct (a.toNat + (fl_cl a.toNat q).length) L) from hs)
    have hl : (fl_ct a.toNat (q :: L)).length = (fl_cl a.toNat q).length + (fl_ct (a.toNat + (fl_cl a.toNat q).length) L).length := List.length_append
    rw [hl] at hn hk
    by_cases c : q.1 = []
    · have l0 := fl_cl_len0 (a := a.toNat) c
      rw [l0] at hn hk
      have s1' : fl_s2 st od a.toNat (q.2.map fl_cm ++ [(59, 0)]) := by
        unfold fl_cl at s1
        rw [if_pos c] at s1
        exact s1
      obtain ⟨K, rfl⟩ : ∃ k, K = q.2.length + (k + 1) := ⟨K - (q.2.length + 1), by omega⟩
      rw [fl_rC_say hq.2 s1' h0 h1 (by omega) h3]
      show _ = (if q.1 ≠ [] ∧ fl_vl nm q.1 = 0 then _ else _)
      rw [if_neg (fun z => z.1 c)]
    · have l1 := fl_cl_len1 (a := a.toNat) c
      rw [l1] at hn hk
      rw [l1] at s2
      have xq : fl_xp q.1 := hq.1.elim (fun z => absurd z c) id
      have s1' : fl_s2 st od a.toNat (q.1.map fl_cm ++ ((63, ((a.toNat + (q.1.length + (1 + (q.2.length + 1))) : Nat) : Int)) :: (q.2.map fl_cm ++ [(59, 0)]))) := by
        unfold fl_cl at s1
        rw [if_neg c] at s1
        exact s1
      obtain ⟨t1, t2⟩ := fl_s2_app.mp s1'
      rw [List.length_map] at t2
      obtain ⟨t3, t4⟩ := t2
      obtain ⟨K, rfl⟩ : ∃ k, K = q.1.length + (((q.2.length + 1) + (k + 1)) + 1) := ⟨K - (q.1.length + (q.2.length + 3)), by omega⟩
      rw [fl_rC_seg q.1 _ a x [] 1 t1 h0 h1 (by omega) h3 (show ((0 : Nat) : Int) ≤ a by omega) (xq 0), fl_ev_x xq]
      show fl_rB st od n nm (fl_rC st od n nm ((q.2.length + 1) + (K + 1))) (a + q.1.length) x [fl_vl nm q.1] = (if q.1 ≠ [] ∧ fl_vl nm q.1 = 0 then fl_lw nm L else fl_vl nm q.2)
      unfold fl_rB
      have e1 : (a + q.1.length).toNat = a.toNat + q.1.length := by omega
      rw [if_neg (by omega), if_neg (by omega), e1, t3.1, t3.2]
      show fl_rC st od n nm ((q.2.length + 1) + (K + 1)) (a + q.1.length + 1) (if fl_vl nm q.1 = 0 then ((a.toNat + (q.1.length + (1 + (q.2.length + 1))) : Nat) : Int) else 0) [] = _
      by_cases v : fl_vl nm q.1 = 0
      · rw [if_pos v, if_pos ⟨c, v⟩]
        rw [fl_rC_skip (q.2.length + 1) (K + 1) (a + q.1.length + 1) _ [] (by omega) (by omega)]
        exact fl_run_C L (K + 1) ((a.toNat + (q.1.length + (1 + (q.2.length + 1))) : Nat) : Int) _ (fun y hy => hx y (List.mem_cons_of_mem _ hy)) (by rw [Int.toNat_natCast]; exact s2) (by omega) (Int.le_refl _) (by rw [Int.toNat_natCast]; omega) h3 (by rw [Int.toNat_natCast]; omega)
      · rw [if_neg v, if_neg (fun z => v z.2)]
        rw [show (q.2.length + 1) + (K + 1) = q.2.length + ((K + 1) + 1) by omega]
        exact fl_rC_say hq.2 (by rw [show (a + q.1.length + 1).toNat = a.toNat + q.1.length + 1 by omega]; exact t4) (by omega) (by omega) (by omega) h3
/-! the class's loop -/
def fl_sk (f : Nat → Int) : Nat → List Int
  | 0 => []
  | k + 1 => f k :: fl_sk f k
theorem fl_sk_len {f : Nat → Int} : ∀ k, (fl_sk f k).length = k
  | 0 => rfl
  | k + 1 => by show (fl_sk f k).length + 1 = _; rw [fl_sk_len k]
theorem fl_sk_eq {f g : Nat → Int} : ∀ {k : Nat}, (∀ j, j < k → g j = f j) → fl_sk g k = fl_sk f k
  | 0, _ => rfl
  | k + 1, h => by
    show g k :: fl_sk g k = f k :: fl_sk f k
    rw [h k (by omega), fl_sk_eq (fun j hj => h j (by omega))]
theorem fl_sk_s {f : Nat → Int} {k : Int} (h : 1 ≤ k) : fl_sk f k.toNat = f (k - 1).toNat :: fl_sk f (k - 1).toNat := by
  rw [show k.toNat = (k - 1).toNat + 1 by omega]
  rfl
theorem fl_sk_pu {h H : fz_H} {c : Nat} {k v : Int} (e : H = fz_up h c k.toNat v) (h0 : 0 ≤ k) : fl_sk (H c) (k + 1).toNat = v :: fl_sk (h c) k.toNat := by
  rw [show (k + 1).toNat = k.toNat + 1 by omega]
  show H c k.toNat :: fl_sk (H c) k.toNat = _
  rw [e, fz_up_e]
  congr 1
  exact fl_sk_eq (fun j hj => fz_up_s (by omega))
theorem fl_sk_re {h H : fz_H} {c : Nat} {k j v : Int} (e : H = fz_up h c j.toNat v) (hj : j = k - 1) (h0 : 1 ≤ k) : fl_sk (H c) k.toNat = v :: fl_sk (h c) (k - 1).toNat := by
  subst hj
  have r := fl_sk_pu e (show 0 ≤ k - 1 by omega)
  rw [show k - 1 + 1 = k by omega] at r
  exact r
def fl_n6 (f : Nat → Int) : Nat → Int := fun k => if k < 6 then f k else 0
def fl_rT (h : fz_H) : Int := fl_rC (h 16) (h 17) (h 15 4) (fl_n6 (h 19)) ((h 15 4).toNat + 1) 0 0 []
def fl_rI (h H : fz_H) (a x t : Int) : Prop := fl_rC (h 16) (h 17) (h 15 4) (fl_n6 (h 19)) ((h 15 4 - a).toNat + 1) a x (fl_sk (H 18) t.toNat) = fl_rT h
theorem fl_rI_0 {h H : fz_H} : fl_rI h H 0 0 0 := by
  unfold fl_rI fl_rT
  rw [show h 15 4 - 0 = h 15 4 by omega]
  rfl
theorem fl_rI_end {h H : fz_H} {a x t : Int} (I : fl_rI h H a x t) (c : h 15 4 ≤ a) : 0 = fl_rT h := by
  unfold fl_rI at I
  rw [← I, fl_rC_end c]
theorem fl_rI_B {h H : fz_H} {a x t : Int} (I : fl_rI h H a x t) (c : a < h 15 4) : fl_rB (h 16) (h 17) (h 15 4) (fl_n6 (h 19)) (fl_rC (h 16) (h 17) (h 15 4) (fl_n6 (h 19)) ((h 15 4 - (a + 1)).toNat + 1)) a x (fl_sk (H 18) t.toNat) = fl_rT h := by
  unfold fl_rI at I
  rw [show (h 15 4 - a).toNat = (h 15 4 - (a + 1)).toNat + 1 by omega] at I
  exact I
theorem fl_rI_skip {h H : fz_H} {a x t : Int} (I : fl_rI h H a x t) (c : a < h 15 4) (c2 : a < x) : fl_rI h H (a + 1) x t := by
  have B := fl_rI_B I c
  unfold fl_rB at B
  rw [if_neg (by omega), if_pos c2] at B
  exact B
theorem fl_rI_D {h H : fz_H} {a x t s o : Int} (I : fl_rI h H a x t) (c : a < h 15 4) (c2 : x ≤ a) (es : s = h 16 a.toNat) (eo : o = h 17 a.toNat) : fl_rD s o (fl_n6 (h 19)) (fl_rC (h 16) (h 17) (h 15 4) (fl_n6 (h 19)) ((h 15 4 - (a + 1)).toNat + 1)) a x (fl_sk (H 18) t.toNat) = fl_rT h := by
  have B := fl_rI_B I c
  unfold fl_rB at B
  rw [if_neg (by omega), if_neg (by omega)] at B
  subst es eo
  exact B
theorem fl_rI_bad {h H : fz_H} {a x t s o : Int} (I : fl_rI h H a x t) (c : a < h 15 4) (c2 : x ≤ a) (es : s = h 16 a.toNat) (eo : o = h 17 a.toNat) (hs : s = 35 ∨ s = 64) (ht : 0 ≤ t) (hb : 128 ≤ t ∨ (s = 64 ∧ (o < 0 ∨ 6 ≤ o))) : 0 = fl_rT h := by
  have D := fl_rI_D I c c2 es eo
  unfold fl_rD at D
  rw [if_pos hs, if_pos (by rw [fl_sk_len]; omega)] at D
  exact D
theorem fl_rI_num {h H H' : fz_H} {a x t s o v : Int} (I : fl_rI h H a x t) (c : a < h 15 4) (c2 : x ≤ a) (es : s = h 16 a.toNat) (eo : o = h 17 a.toNat) (e : H' = fz_up H 18 t.toNat v) (ht : 0 ≤ t ∧ t < 128) (hs : s = 35) (hv : v = o) : fl_rI h H' (a + 1) x (t + 1) := by
  have D := fl_rI_D I c c2 es eo
  unfold fl_rD at D
  rw [if_pos (Or.inl hs), if_neg (by rw [fl_sk_len]; omega), if_pos hs] at D
  unfold fl_rI
  rw [fl_sk_pu e ht.1, hv]
  exact D
theorem fl_rI_nam {h H H' : fz_H} {a x t s o v : Int} (I : fl_rI h H a x t) (c : a < h 15 4) (c2 : x ≤ a) (es : s = h 16 a.toNat) (eo : o = h 17 a.toNat) (e : H' = fz_up H 18 t.toNat v) (ht : 0 ≤ t ∧ t < 128) (hs : s = 64) (ho : 0 ≤ o ∧ o < 6) (hv : v = h 19 o.toNat) : fl_rI h H' (a + 1) x (t + 1) := by
  have D := fl_rI_D I c c2 es eo
  unfold fl_rD at D
  rw [if_pos (Or.inr hs), if_neg (by rw [fl_sk_len]; omega), if_neg (by omega)] at D
  have e6 : fl_n6 (h 19) o.toNat = h 19 o.toNat := if_pos (by omega)
  unfold fl_rI
  rw [fl_sk_pu e ht.1, hv, ← e6]
  exact D
theorem fl_rI_F {h H : fz_H} {a x t s o : Int} (I : fl_rI h H a x t) (c : a < h 15 4) (c2 : x ≤ a) (es : s = h 16 a.toNat) (eo : o = h 17 a.toNat) (hs : ¬ (s = 35 ∨ s = 64)) : fl_rF s o (fl_rC (h 16) (h 17) (h 15 4) (fl_n6 (h 19)) ((h 15 4 - (a + 1)).toNat + 1)) a x (fl_sk (H 18) t.toNat) = fl_rT h := by
  have D := fl_rI_D I c c2 es eo
  unfold fl_rD at D
  rw [if_neg hs] at D
  exact D
theorem fl_rI_emp {h H : fz_H} {a x t s o : Int} (I : fl_rI h H a x t) (c : a < h 15 4) (c2 : x ≤ a) (es : s = h 16 a.toNat) (eo : o = h 17 a.toNat) (hs : ¬ (s = 35 ∨ s = 64)) (ht : t < 1) : 0 = fl_rT h := by
  have F := fl_rI_F I c c2 es eo hs
  rw [show t.toNat = 0 by omega] at F
  exact F
theorem fl_rI_F1 {h H : fz_H} {a x t s o y : Int} (I : fl_rI h H a x t) (c : a < h 15 4) (c2 : x ≤ a) (es : s = h 16 a.toNat) (eo : o = h 17 a.toNat) (hs : ¬ (s = 35 ∨ s = 64)) (ht : 1 ≤ t) (ey : H 18 (t - 1).toNat = y) : (if s = 59 then y else if s = 63 then fl_rC (h 16) (h 17) (h 15 4) (fl_n6 (h 19)) ((h 15 4 - (a + 1)).toNat + 1) (a + 1) (if y = 0 then o else 0) (fl_sk (H 18) (t - 1).toNat) else if s = 33 ∨ s = 126 then fl_rC (h 16) (h 17) (h 15 4) (fl_n6 (h 19)) ((h 15 4 - (a + 1)).toNat + 1) (a + 1) x ((if s = 126 then fz_w (-y) else if y = 0 then 1 else 0) :: fl_sk (H 18) (t - 1).toNat) else fl_rG s (fl_rC (h 16) (h 17) (h 15 4) (fl_n6 (h 19)) ((h 15 4 - (a + 1)).toNat + 1)) a x y (fl_sk (H 18) (t - 1).toNat)) = fl_rT h := by
  have F := fl_rI_F I c c2 es eo hs
  rw [fl_sk_s ht, ey] at F
  exact F
theorem fl_rI_sem {h H : fz_H} {a x t s o y : Int} (I : fl_rI h H a x t) (c : a < h 15 4) (c2 : x ≤ a) (es : s = h 16 a.toNat) (eo : o = h 17 a.toNat) (ht : 1 ≤ t) (ey : H 18 (t - 1).toNat = y) (hs : s = 59) : y = fl_rT h := by
  have F := fl_rI_F1 I c c2 es eo (by omega) ht ey
  rw [if_pos hs] at F
  exact F
theorem fl_rI_q {h H : fz_H} {a x t s o y x2 t2 : Int} (ht2 : t2 = t - 1) (I : fl_rI h H a x t) (c : a < h 15 4) (c2 : x ≤ a) (es : s = h 16 a.toNat) (eo : o = h 17 a.toNat) (ht : 1 ≤ t) (ey : H 18 (t - 1).toNat = y) (hs : s = 63) (hx : (y = 0 ∧ x2 = o) ∨ (y ≠ 0 ∧ x2 = 0)) : fl_rI h H (a + 1) x2 t2 := by
  subst ht2
  have F := fl_rI_F1 I c c2 es eo (by omega) ht ey
  rw [if_neg (by omega), if_pos hs] at F
  unfold fl_rI
  rcases hx with ⟨h1, h2⟩ | ⟨h1, h2⟩
  · rw [if_pos h1] at F; rw [h2]; exact F
  · rw [if_neg h1] at F; rw [h2]; exact F
theorem fl_rI_u {h H H' : fz_H} {a x t s o y j v : Int} (I : fl_rI h H a x t) (c : a < h 15 4) (c2 : x ≤ a) (es : s = h 16 a.toNat) (eo : o = h 17 a.toNat) (ht : 1 ≤ t) (ey : H 18 (t - 1).toNat = y) (e : H' = fz_up H 18 j.toNat v) (hj : j = t - 1) (hv : (s = 126 ∧ v = fz_w (-y)) ∨ (s = 33 ∧ y = 0 ∧ v = 1) ∨ (s = 33 ∧ y ≠ 0 ∧ v = 0)) : fl_rI h H' (a + 1) x t := by
  have F := fl_rI_F1 I c c2 es eo (by omega) ht ey
  rw [if_neg (by omega), if_neg (by omega), if_pos (by omega)] at F
  unfold fl_rI
  rw [fl_sk_re e hj ht]
  rcases hv with ⟨h1, h2⟩ | ⟨h1, h2, h3⟩ | ⟨h1, h2, h3⟩
  · rw [if_pos h1] at F; rw [h2]; exact F
  · rw [if_neg (by omega), if_pos h2] at F; rw [h3]; exact F
  · rw [if_neg (by omega), if_neg h2] at F; rw [h3]; exact F
theorem fl_rI_one {h H : fz_H} {a x t s o y : Int} (I : fl_rI h H a x t) (c : a < h 15 4) (c2 : x ≤ a) (es : s = h 16 a.toNat) (eo : o = h 17 a.toNat) (hs : ¬ (s = 35 ∨ s = 64) ∧ s ≠ 59 ∧ s ≠ 63 ∧ s ≠ 33 ∧ s ≠ 126) (ht : 1 ≤ t ∧ t < 2) (ey : H 18 (t - 1).toNat = y) : 0 = fl_rT h := by
  have F := fl_rI_F1 I c c2 es eo hs.1 ht.1 ey
  rw [if_neg hs.2.1, if_neg hs.2.2.1, if_neg (by omega), show (t - 1).toNat = 0 by omega] at F
  exact F
theorem fl_rI_b {h H H' : fz_H} {a x t s o y z j v t2 i2 : Int} (ht2 : t2 = t - 1) (hi2 : i2 = t - 1 - 1) (I : fl_rI h H a x t) (c : a < h 15 4) (c2 : x ≤ a) (es : s = h 16 a.toNat) (eo : o = h 17 a.toNat) (hs : ¬ (s = 35 ∨ s = 64) ∧ s ≠ 59 ∧ s ≠ 63 ∧ s ≠ 33 ∧ s ≠ 126) (ht : 2 ≤ t) (ey : H 18 (t - 1).toNat = y) (ez : H 18 i2.toNat = z) (e : H' = fz_up H 18 j.toNat v) (hj : j = t - 1 - 1) (hv : v = fl_bs s z y) : fl_rI h H' (a + 1) x t2 := by
  subst ht2 hi2
  have F := fl_rI_F1 I c c2 es eo hs.1 (by omega) ey
  rw [if_neg hs.2.1, if_neg hs.2.2.1, if_neg (by omega), fl_sk_s (show 1 ≤ t - 1 by omega), ez] at F
  unfold fl_rI
  rw [fl_sk_re e hj (by omega), hv]
  exact F
/-! the names, the worth -/
def fl_nv (w a d m t p : Int) : Nat → Int := fun k => if k = 0 then w else if k = 1 then a else if k = 2 then d else if k = 3 then m else if k = 4 then t else if k = 5 then p else 0
theorem fl_n6_in {h h1 h2 h3 h4 h5 h6 : fz_H} {c : Nat} {w a d m t p : Int} (e1 : h1 = fz_up h c 0 w) (e2 : h2 = fz_up h1 c 1 a) (e3 : h3 = fz_up h2 c 2 d) (e4 : h4 = fz_up h3 c 3 m) (e5 : h5 = fz_up h4 c 4 t) (e6 : h6 = fz_up h5 c 5 p) : fl_n6 (h6 c) = fl_nv w a d m t p := by
  funext k
  unfold fl_n6 fl_nv
  rw [e6, e5, e4, e3, e2, e1]
  unfold fz_up
  rcases (show k = 0 ∨ k = 1 ∨ k = 2 ∨ k = 3 ∨ k = 4 ∨ k = 5 ∨ 6 ≤ k by omega) with rfl | rfl | rfl | rfl | rfl | rfl | q
  · simp
  · simp
  · simp
  · simp
  · simp
  · simp
  · rw [if_neg (by omega), if_neg (by omega), if_neg (by omega), if_neg (by omega), if_neg (by omega), if_neg (by omega), if_neg (by omega)]
def fl_v0 (w a d : Int) : Int := max 0 (4 * w - a / 8 - d / 4)
def fl_vC (h : fz_H) (w a d m t p : Int) : Int := if h 15 4 = 0 then fl_v0 w a d else max 0 (min 99 (fl_rC (h 16) (h 17) (h 15 4) (fl_nv w a d m t p) ((h 15 4).toNat + 1) 0 0 []))
theorem fl_vC_0 {h : fz_H} {w a d m t p r : Int} (c : h 15 4 = 0) (e : r = max 0 (4 * w - a / 8 - d / 4)) : r = fl_vC h w a d m t p := by
  unfold fl_vC
  rw [if_pos c]
  exact e
theorem fl_vC_1 {h H : fz_H} {w a d m t p r v : Int} (c : h 15 4 ≠ 0) (n : fl_n6 (H 19) = fl_nv w a d m t p) (e16 : H 16 = h 16) (e17 : H 17 = h 17) (e4 : H 15 4 = h 15 4) (ev : v = fl_rT H) (e : r = max 0 (min 99 v)) : r = fl_vC h w a d m t p := by
  unfold fl_vC
  rw [if_neg c, e, ev]
  unfold fl_rT
  rw [n, e16, e17, e4]
theorem fl_vC_b (h : fz_H) (w a d m t p : Int) (hw : w ≤ 9) (ha : 0 ≤ a) (hd : 0 ≤ d) : 0 ≤ fl_vC h w a d m t p ∧ fl_vC h w a d m t p ≤ 99 := by
  unfold fl_vC fl_v0
  split <;> omega
theorem fl_bs_or {s x y : Int} (h : s = 124) : (x ≠ 0 ∨ y ≠ 0 → 1 = fl_bs s x y) ∧ (¬ (x ≠ 0 ∨ y ≠ 0) → 0 = fl_bs s x y) := by
  subst h
  unfold fl_bs
  exact ⟨fun c => by rw [if_pos rfl, if_pos c], fun c => by rw [if_pos rfl, if_neg c]⟩
theorem fl_bs_an {s x y : Int} (h : s = 38) : (x ≠ 0 ∧ y ≠ 0 → 1 = fl_bs s x y) ∧ (¬ (x ≠ 0 ∧ y ≠ 0) → 0 = fl_bs s x y) := by
  subst h
  unfold fl_bs
  exact ⟨fun c => by rw [if_neg (by decide), if_pos rfl, if_pos c], fun c => by rw [if_neg (by decide), if_pos rfl, if_neg c]⟩
theorem fl_bs_lt {s x y : Int} (h : s = 60) : (x < y → 1 = fl_bs s x y) ∧ (¬ x < y → 0 = fl_bs s x y) := by
  subst h
  unfold fl_bs
  exact ⟨fun c => by rw [if_neg (by decide), if_neg (by decide), if_pos rfl, if_pos c], fun c => by rw [if_neg (by decide), if_neg (by decide), if_pos rfl, if_neg c]⟩
theorem fl_bs_eq {s x y : Int} (h : s = 61) : (x = y → 1 = fl_bs s x y) ∧ (¬ x = y → 0 = fl_bs s x y) := by
  subst h
  unfold fl_bs
  exact ⟨fun c => by rw [if_neg (by decide), if_neg (by decide), if_neg (by decide), if_pos rfl, if_pos c], fun c => by rw [if_neg (by decide), if_neg (by decide), if_neg (by decide), if_pos rfl, if_neg c]⟩
theorem fl_bs_gt {s x y : Int} (h : s = 62) : (y < x → 1 = fl_bs s x y) ∧ (¬ y < x → 0 = fl_bs s x y) := by
  subst h
  unfold fl_bs
  exact ⟨fun c => by rw [if_neg (by decide), if_neg (by decide), if_neg (by decide), if_neg (by decide), if_pos rfl, if_pos c], fun c => by rw [if_neg (by decide), if_neg (by decide), if_neg (by decide), if_neg (by decide), if_pos rfl, if_neg c]⟩
theorem fl_bs_ad {s x y : Int} (h : s = 43) : fz_w (x + y) = fl_bs s x y := by
  subst h
  rfl
theorem fl_bs_su {s x y : Int} (h : s = 45) : fz_w (x - y) = fl_bs s x y := by
  subst h
  rfl
theorem fl_bs_mu {s x y : Int} (h : s = 42) : fz_w (x * y) = fl_bs s x y := by
  subst h
  rfl
theorem fl_bs_di {s x y : Int} (h : s = 47) : (y = 0 → 0 = fl_bs s x y) ∧ (¬ y = 0 → fz_w (Int.tdiv x y) = fl_bs s x y) := by
  subst h
  unfold fl_bs
  exact ⟨fun c => by rw [if_neg (by decide), if_neg (by decide), if_neg (by decide), if_neg (by decide), if_neg (by decide), if_neg (by decide), if_neg (by decide), if_neg (by decide), if_pos rfl, if_pos c], fun c => by rw [if_neg (by decide), if_neg (by decide), if_neg (by decide), if_neg (by decide), if_neg (by decide), if_neg (by decide), if_neg (by decide), if_neg (by decide), if_pos rfl, if_neg c]⟩
theorem fl_bs_re {s x y : Int} (h : s = 37) : (y = 0 → 0 = fl_bs s x y) ∧ (¬ y = 0 → fz_w (Int.tmod x y) = fl_bs s x y) := by
  subst h
  unfold fl_bs
  exact ⟨fun c => by rw [if_neg (by decide), if_neg (by decide), if_neg (by decide), if_neg (by decide), if_neg (by decide), if_neg (by decide), if_neg (by decide), if_neg (by decide), if_neg (by decide), if_pos rfl, if_pos c], fun c => by rw [if_neg (by decide), if_neg (by decide), if_neg (by decide), if_neg (by decide), if_neg (by decide), if_neg (by decide), if_neg (by decide), if_neg (by decide), if_neg (by decide), if_pos rfl, if_neg c]⟩
theorem fl_bs_no {s x y : Int} (h : s ≠ 124 ∧ s ≠ 38 ∧ s ≠ 60 ∧ s ≠ 61 ∧ s ≠ 62 ∧ s ≠ 43 ∧ s ≠ 45 ∧ s ≠ 42 ∧ s ≠ 47 ∧ s ≠ 37) : 0 = fl_bs s x y := by
  obtain ⟨h1, h2, h3, h4, h5, h6, h7, h8, h9, h10⟩ := h
  unfold fl_bs
  rw [if_neg h1, if_neg h2, if_neg h3, if_neg h4, if_neg h5, if_neg h6, if_neg h7, if_neg h8, if_neg h9, if_neg h10]
/-! ===== the class's reader ===== -/
def fl_gC (h : fz_H) : Int → Int := fl_lt (h 26) (h 20 2)
theorem fl_gC_e {h H : fz_H} (e26 : H 26 = h 26) (e2 : H 20 2 = h 20 2) : fl_gC H = fl_gC h := by
  unfold fl_gC
  rw [e26, e2]
/-- the letter that is next -/
def fl_lh (h : fz_H) : Int := if h 20 4 = 0 then fl_gC h (h 20 3) else -1
theorem fl_lh_y {h : fz_H} (f : h 20 4 = 0) (a : 0 ≤ h 20 3 ∧ h 20 3 < h 20 2) : h 26 (h 20 3).toNat = fl_lh h := by
  unfold fl_lh
  rw [if_pos f]
  exact (fl_lt_y a).symm
theorem fl_lh_f {h : fz_H} (f : h 20 4 ≠ 0) : -1 = fl_lh h := by
  unfold fl_lh
  rw [if_neg f]
theorem fl_lh_n {h : fz_H} (a : h 20 2 ≤ h 20 3) : -1 = fl_lh h := by
  unfold fl_lh
  split
  · exact (fl_lt_n a).symm
  · rfl
theorem fl_lh_0 {h : fz_H} (a : 0 ≤ fl_lh h) : h 20 4 = 0 := by
  unfold fl_lh at a
  split at a
  · next c => exact c
  · exact absurd a (by decide)
theorem fl_lh_g {h : fz_H} (f : h 20 4 = 0) : fl_lh h = fl_gC h (h 20 3) := if_pos f
theorem fl_lh_gh {h H : fz_H} (f : H 20 4 = 0) (e26 : H 26 = h 26) (e2 : H 20 2 = h 20 2) : fl_lh H = fl_gC h (H 20 3) := by
  rw [fl_lh_g f, fl_gC_e e26 e2]
theorem fl_lh_lt {h : fz_H} (a : 0 ≤ fl_lh h) : h 20 3 < h 20 2 := by
  have z := fl_lh_0 a
  rw [fl_lh_g z] at a
  unfold fl_gC fl_lt at a
  split at a
  · next c => exact c.2
  · exact absurd a (by decide)
theorem fl_lh_e {h H : fz_H} (e3 : H 20 3 = h 20 3) (e4 : H 20 4 = h 20 4) (e26 : H 26 = h 26) (e2 : H 20 2 = h 20 2) : fl_lh H = fl_lh h := by
  unfold fl_lh
  rw [e4, e3, fl_gC_e e26 e2]
/-- the draft grows by pairs -/
def fl_dC (h h' : fz_H) (L : List (Int × Int)) : Prop := h' 21 4 = h 21 4 + L.length ∧ (∀ k : Nat, (k : Int) < h 21 4 → h' 22 k = h 22 k ∧ h' 23 k = h 23 k) ∧ fl_s2 (h' 22) (h' 23) (h 21 4).toNat L
theorem fl_dC_0 {h h' : fz_H} (e4 : h' 21 4 = h 21 4) (e22 : h' 22 = h 22) (e23 : h' 23 = h 23) : fl_dC h h' [] :=
  ⟨by rw [e4]; show _ = _ + ((0 : Nat) : Int); omega, fun k _ => ⟨by rw [e22], by rw [e23]⟩, trivial⟩
theorem fl_dC_app {h h1 h2 : fz_H} {L M : List (Int × Int)} (h0 : 0 ≤ h 21 4) (a : fl_dC h h1 L) (b : fl_dC h1 h2 M) : fl_dC h h2 (L ++ M) := by
  obtain ⟨a1, a2, a3⟩ := a
  obtain ⟨b1, b2, b3⟩ := b
  refine ⟨by rw [b1, a1, List.length_append]; omega, fun k hk => ?_, fl_s2_app.mpr ⟨?_, ?_⟩⟩
  · have x := a2 k hk
    have y := b2 k (by omega)
    exact ⟨y.1.trans x.1, y.2.trans x.2⟩
  · exact fl_s2_eq (fun k k1 k2 => b2 k (by omega)) a3
  · rw [show (h1 21 4).toNat = (h 21 4).toNat + L.length by omega] at b3
    exact b3
theorem fl_dC_f {h h1 h2 : fz_H} {L : List (Int × Int)} (a : fl_dC h h1 L) (e4 : h2 21 4 = h1 21 4) (e22 : h2 22 = h1 22) (e23 : h2 23 = h1 23) : fl_dC h h2 L := by
  unfold fl_dC
  rw [e4, e22, e23]
  exact a
theorem fl_dC_b {h h1 h2 : fz_H} {L : List (Int × Int)} (a : fl_dC h1 h2 L) (e4 : h1 21 4 = h 21 4) (e22 : h1 22 = h 22) (e23 : h1 23 = h 23) : fl_dC h h2 L := by
  unfold fl_dC at *
  rw [e4, e22, e23] at a
  exact a
/-- one step is added, if there is room -/
def fl_ad (h h' : fz_H) (sp op r : Int) : Prop := (h 21 4 < 128 ∧ r = h 21 4 ∧ fl_dC h h' [(sp, op)]) ∨ (128 ≤ h 21 4 ∧ r = -1)
theorem fl_ad_in {h h1 h2 h3 : fz_H} {a b v sp op r : Int} (h0 : 0 ≤ h 21 4) (hl : h 21 4 < 128) (e1 : h1 = fz_up h 22 a.toNat sp) (e2 : h2 = fz_up h1 23 b.toNat op) (e3 : h3 = fz_up h2 21 4 v) (ha : a = h 21 4) (hb : b = h 21 4) (hv : v = h 21 4 + 1) (hr : r = h 21 4) : fl_ad h h3 sp op r := by
  subst ha hb
  refine Or.inl ⟨hl, hr, ?_, fun k hk => ⟨?_, ?_⟩, ⟨?_, ?_⟩, trivial⟩
  · rw [e3, fz_up_e, hv]; rfl
  · rw [e3, fz_up_o (by decide), e2, fz_up_o (by decide), e1, fz_up_s (by omega)]
  · rw [e3, fz_up_o (by decide), e2, fz_up_s (by omega), e1, fz_up_o (by decide)]
  · rw [e3, fz_up_o (by decide), e2, fz_up_o (by decide), e1, fz_up_e]
  · rw [e3, fz_up_o (by decide), e2, fz_up_e]
theorem fl_ad_y {h h' : fz_H} {sp op r : Int} (a : fl_ad h h' sp op r) (hl : h 21 4 < 128) : fl_dC h h' [(sp, op)] := by
  rcases a with a | a
  · exact a.2.2
  · exfalso; omega
/-- what a reading does -/
def fl_rdC (h h' : fz_H) (q : fl_A) : Prop := (h 20 4 ≠ 0 → h' 20 4 ≠ 0 ∧ h' 20 3 = h 20 3) ∧ (h 20 4 = 0 → h' 20 3 = q.1 ∧ ((h' 20 4 = 0 ∧ q.2.1 = true ∧ fl_dC h h' (q.2.2.map fl_cm)) ∨ (h' 20 4 ≠ 0 ∧ q.2.1 = false)))
/-- what still comes: F -/
def fl_stC (h H : fz_H) (tot F : fl_A) : Prop := (h 20 4 ≠ 0 → H 20 4 ≠ 0 ∧ H 20 3 = h 20 3) ∧ (h 20 4 = 0 → (H 20 4 = 0 ∧ ∃ L : List Int, fl_dC h H (L.map fl_cm) ∧ tot = fl_ap L F) ∨ (H 20 4 ≠ 0 ∧ tot.2.1 = false ∧ tot.1 = H 20 3))
/-- behind a sign (0: none) -/
def fl_nx (op : Int → Int) (Q : fl_P) (g : Int → Int) (k : Nat) (c a : Int) : fl_A := if c = 0 then (a, true, []) else if (Q a).2.1 = true then fl_ap ((Q a).2.2 ++ [op c]) (fl_ch op Q g k (Q a).1) else Q a
theorem fl_st_1 {h H : fz_H} {op : Int → Int} {Q Q' : fl_P} {g : Int → Int} {k : Nat} (r : fl_rdC h H (Q' (h 20 3))) (hQ : Q' = Q) : fl_stC h H (fl_lv op k g Q (h 20 3)) (fl_ch op Q g k (H 20 3)) := by
  subst hQ
  refine ⟨r.1, fun z => ?_⟩
  obtain ⟨r1, r2⟩ := r.2 z
  unfold fl_lv fl_sq
  rcases r2 with ⟨a1, a2, a3⟩ | ⟨a1, a2⟩
  · rw [if_pos a2, r1]
    exact Or.inl ⟨a1, _, a3, rfl⟩
  · rw [if_neg (by rw [a2]; decide), r1]
    exact Or.inr ⟨a1, a2, rfl⟩
theorem fl_st_nx {h H H2 : fz_H} {op : Int → Int} {Q : fl_P} {g : Int → Int} {k : Nat} {tot : fl_A} {y : Int} (s : fl_stC h H tot (fl_ch op Q g (k + 1) (H 20 3))) (hg : fl_gC H = g) (n : (y = fl_lh H ∧ 0 ≤ op y ∧ 1 ≤ y ∧ H2 20 3 = H 20 3 + 1) ∨ (y = 0 ∧ op (fl_lh H) < 0 ∧ H2 20 3 = H 20 3)) (e20 : H2 20 4 = H 20 4) (e4 : H2 21 4 = H 21 4) (e22 : H2 22 = H 22) (e23 : H2 23 = H 23) : fl_stC h H2 tot (fl_nx op Q g k y (H2 20 3)) := by
  subst hg
  have nf : H 20 4 ≠ 0 → H2 20 3 = H 20 3 := fun c => by
    rcases n with ⟨n1, n2, n3, n4⟩ | ⟨n1, n2, n3⟩
    · exact absurd (fl_lh_0 (by omega)) c
    · exact n3
  refine ⟨fun z => ?_, fun z => ?_⟩
  · have a := s.1 z
    exact ⟨by rw [e20]; exact a.1, (nf a.1).trans a.2⟩
  · rcases s.2 z with ⟨a1, L, a2, a3⟩ | ⟨a1, a2, a3⟩
    · left
      refine ⟨e20.trans a1, L, fl_dC_f a2 e4 e22 e23, ?_⟩
      rw [a3]
      congr 1
      have lh := fl_lh_g a1
      unfold fl_ch fl_nx
      rcases n with ⟨n1, n2, n3, n4⟩ | ⟨n1, n2, n3⟩
      · rw [← lh, ← n1, if_neg (by omega), if_neg (show ¬ y = 0 by omega), n4]
      · rw [← lh, if_pos n2, if_pos n1, n3]
    · right
      exact ⟨by rw [e20]; exact a1, a2, by rw [nf a1]; exact a3⟩
theorem fl_nxP {h h' : fz_H} {y : Int} (n : (y = fl_lh h ∧ (y = 42 ∨ y = 47 ∨ y = 37) ∧ h' 20 3 = h 20 3 + 1) ∨ (y = 0 ∧ fl_lh h ≠ 42 ∧ fl_lh h ≠ 47 ∧ fl_lh h ≠ 37 ∧ h' 20 3 = h 20 3)) : (y = fl_lh h ∧ 0 ≤ fl_oP y ∧ 1 ≤ y ∧ h' 20 3 = h 20 3 + 1) ∨ (y = 0 ∧ fl_oP (fl_lh h) < 0 ∧ h' 20 3 = h 20 3) := by
  unfold fl_oP
  omega
theorem fl_nxS {h h' : fz_H} {y : Int} (n : (y = fl_lh h ∧ (y = 43 ∨ y = 45 ∨ y = 45) ∧ h' 20 3 = h 20 3 + 1) ∨ (y = 0 ∧ fl_lh h ≠ 43 ∧ fl_lh h ≠ 45 ∧ fl_lh h ≠ 45 ∧ h' 20 3 = h 20 3)) : (y = fl_lh h ∧ 0 ≤ fl_oS y ∧ 1 ≤ y ∧ h' 20 3 = h 20 3 + 1) ∨ (y = 0 ∧ fl_oS (fl_lh h) < 0 ∧ h' 20 3 = h 20 3) := by
  unfold fl_oS
  omega
theorem fl_nxB {h h' : fz_H} {y : Int} (n : (y = fl_lh h ∧ (y = 60 ∨ y = 61 ∨ y = 62) ∧ h' 20 3 = h 20 3 + 1) ∨ (y = 0 ∧ fl_lh h ≠ 60 ∧ fl_lh h ≠ 61 ∧ fl_lh h ≠ 62 ∧ h' 20 3 = h 20 3)) : (y = fl_lh h ∧ 0 ≤ fl_oB y ∧ 1 ≤ y ∧ h' 20 3 = h 20 3 + 1) ∨ (y = 0 ∧ fl_oB (fl_lh h) < 0 ∧ h' 20 3 = h 20 3) := by
  unfold fl_oB
  omega
theorem fl_nxA {h h' : fz_H} {y c : Int} (n : (c = 1 ∧ fl_lh h = 38 ∧ h' 20 3 = h 20 3 + 1 ∧ h 20 3 < h 20 2) ∨ (c = 0 ∧ fl_lh h ≠ 38 ∧ h' 20 3 = h 20 3 ∧ fl_lh h' = fl_lh h)) (hy : (c = 1 ∧ y = 38) ∨ (c = 0 ∧ y = 0)) : (y = fl_lh h ∧ 0 ≤ fl_oA y ∧ 1 ≤ y ∧ h' 20 3 = h 20 3 + 1) ∨ (y = 0 ∧ fl_oA (fl_lh h) < 0 ∧ h' 20 3 = h 20 3) := by
  unfold fl_oA
  omega
theorem fl_nxE {h h' : fz_H} {y c : Int} (n : (c = 1 ∧ fl_lh h = 124 ∧ h' 20 3 = h 20 3 + 1 ∧ h 20 3 < h 20 2) ∨ (c = 0 ∧ fl_lh h ≠ 124 ∧ h' 20 3 = h 20 3 ∧ fl_lh h' = fl_lh h)) (hy : (c = 1 ∧ y = 124) ∨ (c = 0 ∧ y = 0)) : (y = fl_lh h ∧ 0 ≤ fl_oE y ∧ 1 ≤ y ∧ h' 20 3 = h 20 3 + 1) ∨ (y = 0 ∧ fl_oE (fl_lh h) < 0 ∧ h' 20 3 = h 20 3) := by
  unfold fl_oE
  omega
theorem fl_cmP {c : Int} (h : c = 42 ∨ c = 47 ∨ c = 37) : fl_cm (fl_oP c) = (c, 0) := by
  rcases h with rfl | rfl | rfl <;> rfl
theorem fl_cmS {c : Int} (h : c = 43 ∨ c = 45 ∨ c = 45) : fl_cm (fl_oS c) = (c, 0) := by
  rcases h with rfl | rfl | rfl <;> rfl
theorem fl_cmB {c : Int} (h : c = 60 ∨ c = 61 ∨ c = 62) : fl_cm (fl_oB c) = (c, 0) := by
  rcases h with rfl | rfl | rfl <;> rfl
/-- what follows the sign, and its step -/
theorem fl_st_it {h H H3 H4 : fz_H} {op : Int → Int} {Q Q' : fl_P} {g : Int → Int} {k : Nat} {tot : fl_A} {c y : Int} (h0 : 0 ≤ h 21 4 ∧ 0 ≤ H 21 4) (s : fl_stC h H tot (fl_nx op Q g k c (H 20 3))) (hc : c ≠ 0) (r : fl_rdC H H3 (Q' (H 20 3))) (hQ : Q' = Q) (a : fl_ad H3 H4 c 0 y) (hm : fl_cm (op c) = (c, 0)) (room : H3 20 4 ≠ 0 ∨ H3 21 4 < 128) (e3 : H4 20 3 = H3 20 3) (e4 : H4 20 4 = H3 20 4) : fl_stC h H4 tot (fl_ch op Q g k (H4 20 3)) := by
  subst hQ
  refine ⟨fun z => ?_, fun z => ?_⟩
  · have x := s.1 z
    have y := r.1 x.1
    exact ⟨by rw [e4]; exact y.1, by rw [e3, y.2]; exact x.2⟩
  · rcases s.2 z with ⟨a1, L, a2, a3⟩ | ⟨a1, a2, a3⟩
    · obtain ⟨r1, r2⟩ := r.2 a1
      unfold fl_nx at a3
      rw [if_neg hc] at a3
      rcases r2 with ⟨b1, b2, b3⟩ | ⟨b1, b2⟩
      · rw [if_pos b2, fl_ap_ap] at a3
        left
        refine ⟨e4.trans b1, L ++ ((Q' (H 20 3)).2.2 ++ [op c]), ?_, ?_⟩
        · rw [List.map_append, List.map_append]
          refine fl_dC_app h0.1 a2 (fl_dC_app h0.2 b3 ?_)
          have d := fl_ad_y a (room.elim (fun z => absurd b1 z) id)
          show fl_dC H3 H4 [fl_cm (op c)]
          rw [hm]
          exact d
        · rw [a3, e3, r1]
      · rw [if_neg (by rw [b2]; decide)] at a3
        right
        exact ⟨by rw [e4]; exact b1, by rw [a3]; exact b2, by rw [a3, e3, r1]; rfl⟩
    · have y := r.1 a1
      right
      exact ⟨by rw [e4]; exact y.1, a2, by rw [e3, y.2]; exact a3⟩
theorem fl_st_x {h H : fz_H} {tot : fl_A} (s : fl_stC h H tot (H 20 3, true, [])) : fl_rdC h H tot := by
  refine ⟨s.1, fun z => ?_⟩
  rcases s.2 z with ⟨a1, L, a2, a3⟩ | ⟨a1, a2, a3⟩
  · rw [a3]
    refine ⟨rfl, Or.inl ⟨a1, rfl, ?_⟩⟩
    show fl_dC h H ((L ++ []).map fl_cm)
    rw [List.append_nil]
    exact a2
  · exact ⟨a3.symm, Or.inr ⟨a1, a2⟩⟩
theorem fl_st_x0 {h H : fz_H} {op : Int → Int} {Q : fl_P} {g : Int → Int} {k : Nat} {tot : fl_A} {c : Int} (s : fl_stC h H tot (fl_nx op Q g k c (H 20 3))) (hc : c = 0) : fl_rdC h H tot := by
  unfold fl_nx at s
  rw [if_pos hc] at s
  exact fl_st_x s
theorem fl_st_xf {h H : fz_H} {tot F : fl_A} (s : fl_stC h H tot F) (hf : H 20 4 ≠ 0) : fl_rdC h H tot := by
  refine ⟨s.1, fun z => ?_⟩
  rcases s.2 z with ⟨a1, L, a2, a3⟩ | ⟨a1, a2, a3⟩
  · exact absurd a1 hf
  · exact ⟨a3.symm, Or.inr ⟨a1, a2⟩⟩
theorem fl_st_k {h H : fz_H} {op : Int → Int} {Q : fl_P} {g : Int → Int} {k k' : Nat} {tot : fl_A} {a : Int} (s : fl_stC h H tot (fl_ch op Q g k a)) (e : k = k') : fl_stC h H tot (fl_ch op Q g k' a) := by
  subst e
  exact s
theorem fl_st_kn {h H : fz_H} {op : Int → Int} {Q : fl_P} {g : Int → Int} {k k' : Nat} {tot : fl_A} {a c : Int} (s : fl_stC h H tot (fl_nx op Q g k c a)) (e : k = k') : fl_stC h H tot (fl_nx op Q g k' c a) := by
  subst e
  exact s
/-! an O -/
theorem fl_dg_st {g : Int → Int} {T : Int × Int} {l v a w b : Int} (h : fl_dg g (4 - l).toNat (v, a) = T) (hl : l < 4) (c : 48 ≤ g a ∧ g a ≤ 57) (hw : w = v * 10 + g a - 48) (hb : b = a + 1) : fl_dg g (4 - (l + 1)).toNat (w, b) = T := by
  rw [show (4 - l).toNat = (4 - (l + 1)).toNat + 1 by omega] at h
  have h2 : (if 48 ≤ g a ∧ g a ≤ 57 then fl_dg g (4 - (l + 1)).toNat (v * 10 + g a - 48, a + 1) else (v, a)) = T := h
  rw [if_pos c] at h2
  rw [hw, hb]
  exact h2
theorem fl_dg_x {g : Int → Int} {T : Int × Int} {l v a : Int} (h : fl_dg g (4 - l).toNat (v, a) = T) (c : 4 ≤ l ∨ ¬ (48 ≤ g a ∧ g a ≤ 57)) : T = (v, a) := by
  rw [← h]
  by_cases hl : 4 ≤ l
  · rw [show (4 - l).toNat = 0 by omega]
    rfl
  · rw [show (4 - l).toNat = (4 - (l + 1)).toNat + 1 by omega]
    show (if 48 ≤ g a ∧ g a ≤ 57 then _ else _) = _
    rw [if_neg (c.elim (fun z => absurd z hl) id)]
theorem fl_pO_bs {g : Int → Int} : ∀ k, ∃ R, fl_pO g k = fl_bs0 g R
  | 0 => ⟨_, rfl⟩
  | k + 1 => ⟨_, rfl⟩
/-- a number -/
def fl_rnC (h h' : fz_H) : Prop := h' 20 3 = (fl_dg (fl_gC h) 4 (0, h 20 3)).2 ∧ fl_dC h h' [(35, (fl_dg (fl_gC h) 4 (0, h 20 3)).1)] ∧ 0 ≤ (fl_dg (fl_gC h) 4 (0, h 20 3)).1
theorem fl_rn_in {h H H' : fz_H} {v a y : Int} (v0 : 0 ≤ v) (t : fl_dg (fl_gC h) 4 (0, h 20 3) = (v, a)) (ha : H 20 3 = a) (d : fl_ad H H' 35 v y) (room : H 21 4 < 128) (e3 : H' 20 3 = H 20 3) (f4 : H 21 4 = h 21 4) (f22 : H 22 = h 22) (f23 : H 23 = h 23) : fl_rnC h H' := by
  unfold fl_rnC
  rw [t]
  exact ⟨e3.trans ha, fl_dC_b (fl_ad_y d room) f4 f22 f23, v0⟩
theorem fl_O_num {h h' : fz_H} {k : Nat} {y : Int} (ey : y = fl_lh h) (c : 48 ≤ y ∧ y ≤ 57) (r : fl_rnC h h') (f : h' 20 4 = h 20 4) : fl_rdC h h' (fl_pO (fl_gC h) k (h 20 3)) := by
  have z : h 20 4 = 0 := fl_lh_0 (by omega)
  have lh := fl_lh_g z
  have v0 := r.2.2
  obtain ⟨R, e⟩ := fl_pO_bs (g := fl_gC h) k
  rw [e]
  unfold fl_bs0
  rw [if_pos (show 48 ≤ fl_gC h (h 20 3) ∧ fl_gC h (h 20 3) ≤ 57 by omega)]
  refine ⟨fun q => absurd z q, fun _ => ⟨r.1, Or.inl ⟨f.trans z, rfl, ?_⟩⟩⟩
  show fl_dC h h' [fl_cm (18 + (fl_dg (fl_gC h) 4 (0, h 20 3)).1)]
  have em : fl_cm (18 + (fl_dg (fl_gC h) 4 (0, h 20 3)).1) = (35, (fl_dg (fl_gC h) 4 (0, h 20 3)).1) := by
    unfold fl_cm fl_st fl_od
    rw [if_pos (by omega), if_pos (by omega)]
    congr 1
    omega
  rw [em]
  exact r.2.1
theorem fl_O_nam {h H h' : fz_H} {k : Nat} {y n v q : Int} (ey : y = fl_lh h) (en : n = fl_nm y) (c : ¬ (48 ≤ y ∧ y ≤ 57)) (hn : 0 ≤ n) (e : H = fz_up h 20 3 v) (hv : v = h 20 3 + 1) (d : fl_ad H h' 64 n q) (room : h 21 4 < 128) (e3 : h' 20 3 = H 20 3) (e4 : h' 20 4 = H 20 4) : fl_rdC h h' (fl_pO (fl_gC h) k (h 20 3)) := by
  have nr := fl_nm_r y
  have z : h 20 4 = 0 := fl_lh_0 (by omega)
  have lh := fl_lh_g z
  obtain ⟨R, er⟩ := fl_pO_bs (g := fl_gC h) k
  rw [er]
  unfold fl_bs0
  rw [← lh, ← ey, if_neg c, ← en, if_pos hn]
  refine ⟨fun q => absurd z q, fun _ => ⟨?_, Or.inl ⟨?_, rfl, ?_⟩⟩⟩
  · rw [e3, e, fz_up_e, hv]
  · rw [e4, e, fz_up_s (by decide)]; exact z
  · show fl_dC h h' [fl_cm n]
    have em : fl_cm n = (64, n) := by
      unfold fl_cm fl_st fl_od
      rw [if_neg (by omega), if_pos (by omega), if_neg (by omega), if_pos (by omega)]
    rw [em]
    have f4 : H 21 4 = h 21 4 := by rw [e, fz_up_o (by decide)]
    exact fl_dC_b (fl_ad_y d (by omega)) f4 (by rw [e, fz_up_ne (by decide)]) (by rw [e, fz_up_ne (by decide)])
/-- a fault here -/
theorem fl_O_f0 {h h' : fz_H} {k : Nat} {y n : Int} (ey : y = fl_lh h) (en : n = fl_nm y) (c : ¬ (48 ≤ y ∧ y ≤ 57)) (hn : n < 0) (hk : k = 0 ∨ (y ≠ 40 ∧ y ≠ 33 ∧ y ≠ 45)) (e3 : h' 20 3 = h 20 3) (e4 : h' 20 4 = 1) : fl_rdC h h' (fl_pO (fl_gC h) k (h 20 3)) := by
  refine ⟨fun _ => ⟨by omega, e3⟩, fun z => ?_⟩
  have lh := fl_lh_g z
  have er : fl_pO (fl_gC h) k (h 20 3) = (h 20 3, false, []) := by
    match k, hk with
    | 0, _ =>
      show fl_bs0 _ _ _ = _
      unfold fl_bs0
      rw [← lh, ← ey, if_neg c, ← en, if_neg (by omega)]
    | k + 1, hk =>
      have hk2 : y ≠ 40 ∧ y ≠ 33 ∧ y ≠ 45 := hk.elim (fun z => absurd z (Nat.succ_ne_zero k)) id
      show fl_bs0 _ _ _ = _
      unfold fl_bs0
      rw [← lh, ← ey, if_neg c, ← en, if_neg (by omega)]
      unfold fl_op
      rw [← lh, ← ey, if_neg hk2.1, if_neg hk2.2.1, if_neg hk2.2.2]
  rw [er]
  exact ⟨e3, Or.inr ⟨by omega, rfl⟩⟩
theorem fl_O_op {h : fz_H} {k : Nat} {y n : Int} (ey : y = fl_lh h) (en : n = fl_nm y) (c : ¬ (48 ≤ y ∧ y ≤ 57)) (hn : n < 0) (z : h 20 4 = 0) : fl_pO (fl_gC h) (k + 1) (h 20 3) = fl_op (fl_gC h) (fl_pO (fl_gC h) k) (h 20 3) := by
  have lh := fl_lh_g z
  show fl_bs0 _ _ _ = _
  unfold fl_bs0
  rw [← lh, ← ey, if_neg c, ← en, if_neg (by omega)]
/-- ( E ) -/
theorem fl_O_par {h H1 H2 H3 : fz_H} {k : Nat} {y n : Int} (ey : y = fl_lh h) (en : n = fl_nm y) (c : ¬ (48 ≤ y ∧ y ≤ 57)) (hn : n < 0) (hy : fl_lh h = 40) (e1 : H1 20 3 = h 20 3 + 1) (f1 : H1 20 4 = h 20 4) (d4 : H1 21 4 = h 21 4) (d22 : H1 22 = h 22) (d23 : H1 23 = h 23) (hg : fl_gC H1 = fl_gC h) (r : fl_rdC H1 H2 (fl_eE (fl_gC H1) (fl_pO (fl_gC H1) k) (H1 20 3))) (hg2 : fl_gC H2 = fl_gC h)
    (e3 : (H2 20 4 ≠ 0 ∧ H3 20 3 = H2 20 3 ∧ H3 20 4 = 1) ∨ (H2 20 4 = 0 ∧ fl_lh H2 = 41 ∧ H3 20 3 = H2 20 3 + 1 ∧ H3 20 4 = 0) ∨ (H2 20 4 = 0 ∧ fl_lh H2 ≠ 41 ∧ H3 20 3 = H2 20 3 ∧ H3 20 4 = 1)) (g4 : H3 21 4 = H2 21 4) (g22 : H3 22 = H2 22) (g23 : H3 23 = H2 23) : fl_rdC h H3 (fl_pO (fl_gC h) (k + 1) (h 20 3)) := by
  have z : h 20 4 = 0 := fl_lh_0 (by omega)
  have lh := fl_lh_g z
  rw [fl_O_op ey en c hn z]
  unfold fl_op
  rw [if_pos (show fl_gC h (h 20 3) = 40 by omega)]
  unfold fl_pr
  rw [hg, e1] at r
  refine ⟨fun q => absurd z q, fun _ => ?_⟩
  obtain ⟨r1, r2⟩ := r.2 (f1.trans z)
  rcases r2 with ⟨b1, b2, b3⟩ | ⟨b1, b2⟩
  · rw [if_pos b2]
    have lh2 := fl_lh_g b1
    rw [hg2, r1] at lh2
    rcases e3 with e3 | e3 | e3
    · exact absurd b1 e3.1
    · rw [if_pos (by rw [← lh2]; exact e3.2.1)]
      exact ⟨by rw [e3.2.2.1, r1], Or.inl ⟨e3.2.2.2, rfl, fl_dC_b (fl_dC_f b3 g4 g22 g23) d4 d22 d23⟩⟩
    · rw [if_neg (by rw [← lh2]; exact e3.2.1)]
      exact ⟨by rw [e3.2.2.1, r1], Or.inr ⟨by omega, rfl⟩⟩
  · rw [if_neg (by rw [b2]; decide)]
    rcases e3 with e3 | e3 | e3
    · exact ⟨by rw [e3.2.1, r1], Or.inr ⟨by omega, b2⟩⟩
    · exact absurd e3.1 b1
    · exact absurd e3.1 b1
/-- ! O, - O -/
theorem fl_O_un {h H1 H2 H3 : fz_H} {k : Nat} {y n c0 s q : Int} (ey : y = fl_lh h) (en : n = fl_nm y) (c : ¬ (48 ≤ y ∧ y ≤ 57)) (hn : n < 0) (hy : (fl_lh h = 33 ∧ c0 = 16 ∧ s = 33) ∨ (fl_lh h = 45 ∧ c0 = 17 ∧ s = 126)) (e1 : H1 20 3 = h 20 3 + 1) (f1 : H1 20 4 = h 20 4) (d4 : H1 21 4 = h 21 4) (d22 : H1 22 = h 22) (d23 : H1 23 = h 23) (h0 : 0 ≤ H1 21 4) (hg : fl_gC H1 = fl_gC h) (r : fl_rdC H1 H2 (fl_pO (fl_gC H1) k (H1 20 3))) (a : fl_ad H2 H3 s 0 q) (room : H2 20 4 ≠ 0 ∨ H2 21 4 < 128) (e3 : H3 20 3 = H2 20 3) (e4 : H3 20 4 = H2 20 4) : fl_rdC h H3 (fl_pO (fl_gC h) (k + 1) (h 20 3)) := by
  have z : h 20 4 = 0 := fl_lh_0 (by omega)
  have lh := fl_lh_g z
  have eo : fl_pO (fl_gC h) (k + 1) (h 20 3) = fl_un c0 (fl_pO (fl_gC h) k) (h 20 3 + 1) := by
    rw [fl_O_op ey en c hn z]
    unfold fl_op
    rcases hy with ⟨h1, h2, h3⟩ | ⟨h1, h2, h3⟩
    · rw [if_neg (by omega), if_pos (by omega), h2]
    · rw [if_neg (by omega), if_neg (by omega), if_pos (by omega), h2]
  have em : fl_cm c0 = (s, 0) := by
    rcases hy with ⟨h1, h2, h3⟩ | ⟨h1, h2, h3⟩
    · rw [h2, h3]; rfl
    · rw [h2, h3]; rfl
  rw [eo]
  unfold fl_un
  rw [hg, e1] at r
  refine ⟨fun q => absurd z q, fun _ => ?_⟩
  obtain ⟨r1, r2⟩ := r.2 (f1.trans z)
  rcases r2 with ⟨b1, b2, b3⟩ | ⟨b1, b2⟩
  · rw [if_pos b2]
    refine ⟨by rw [e3, r1], Or.inl ⟨e4.trans b1, rfl, ?_⟩⟩
    have d := fl_ad_y a (room.elim (fun z => absurd b1 z) id)
    show fl_dC h H3 (((fl_pO (fl_gC h) k (h 20 3 + 1)).2.2 ++ [c0]).map fl_cm)
    rw [List.map_append]
    show fl_dC h H3 (_ ++ [fl_cm c0])
    rw [em]
    exact fl_dC_b (fl_dC_app h0 b3 d) d4 d22 d23
  · rw [if_neg (by rw [b2]; decide)]
    exact ⟨by rw [e3, r1], Or.inr ⟨by rw [e4]; exact b1, b2⟩⟩
/-! ===== the class's lines ===== -/
def fl_ldh (h h' : fz_H) (sp : Int) : Prop := (0 ≤ sp ∧ sp < h 21 4 ∧ h' = fz_up h 23 sp.toNat (h 21 4)) ∨ (¬ (0 ≤ sp ∧ sp < h 21 4) ∧ h' = h)
theorem fl_dC_lead {h H H' : fz_H} {A B : List (Int × Int)} {x o v : Int} {p : Nat} (d : fl_dC h H (A ++ (x, o) :: B)) (h0 : 0 ≤ h 21 4) (hp : p = (h 21 4).toNat + A.length) (e : H' = fz_up H 23 p v) : fl_dC h H' (A ++ (x, v) :: B) := by
  obtain ⟨d1, d2, d3⟩ := d
  obtain ⟨s1, s2⟩ := fl_s2_app.mp d3
  obtain ⟨s3, s4⟩ := s2
  have e22 : H' 22 = H 22 := by rw [e]; exact fz_up_ne (by decide)
  have o : ∀ k, k ≠ p → H' 23 k = H 23 k := fun k hk => by rw [e]; exact fz_up_s hk
  refine ⟨?_, fun k hk => ⟨?_, ?_⟩, fl_s2_app.mpr ⟨?_, ⟨?_, ?_⟩, ?_⟩⟩
  · rw [e, fz_up_o (by decide), d1, List.length_append, List.length_append]
    rfl
  · rw [e22]; exact (d2 k hk).1
  · rw [o k (by omega)]; exact (d2 k hk).2
  · exact fl_s2_eq (fun k k1 k2 => ⟨by rw [e22], o k (by omega)⟩) s1
  · rw [e22]; exact s3.1
  · rw [e, ← hp, fz_up_e]
  · exact fl_s2_eq (fun k k1 k2 => ⟨by rw [e22], o k (by omega)⟩) s4
def fl_rlC (h h' : fz_H) : Prop := (h 20 4 ≠ 0 → h' 20 4 ≠ 0 ∧ h' 20 3 = h 20 3) ∧ (h 20 4 = 0 → h' 20 3 = (fl_ln (fl_gC h) (h 20 3)).1 ∧ ((h' 20 4 = 0 ∧ (fl_ln (fl_gC h) (h 20 3)).2.1 = true ∧ fl_dC h h' (fl_cl (h 21 4).toNat (fl_ln (fl_gC h) (h 20 3)).2.2)) ∨ (h' 20 4 ≠ 0 ∧ (fl_ln (fl_gC h) (h 20 3)).2.1 = false)))
/-- a line without '?' -/
theorem fl_rl_1 {h H1 H2 H3 H4 : fz_H} {y c : Int} (r : fl_rdC h H1 (fl_eE (fl_gC h) (fl_pO (fl_gC h) 6) (h 20 3))) (hg : fl_gC H1 = fl_gC h) (g : fl_lh H1 ≠ 63) (e1 : H2 20 3 = H1 20 3) (f1 : H2 20 4 = H1 20 4) (d4 : H2 21 4 = H1 21 4) (d22 : H2 22 = H1 22) (d23 : H2 23 = H1 23) (a : fl_ad H2 H3 59 0 y) (room : H2 20 4 ≠ 0 ∨ H2 21 4 < 128) (e3 : H3 20 3 = H2 20 3) (f3 : H3 20 4 = H2 20 4) (l : fl_ldh H3 H4 c) (hc : c < 0) (h0 : 0 ≤ h 21 4 ∧ 0 ≤ H1 21 4) : fl_rlC h H4 := by
  have e4 : H4 = H3 := by
    rcases l with l | l
    · exfalso; omega
    · exact l.2
  subst e4
  refine ⟨fun z => ?_, fun z => ?_⟩
  · have x := r.1 z
    exact ⟨by rw [f3, f1]; exact x.1, by rw [e3, e1]; exact x.2⟩
  · obtain ⟨r1, r2⟩ := r.2 z
    unfold fl_ln
    rcases r2 with ⟨b1, b2, b3⟩ | ⟨b1, b2⟩
    · have lh := fl_lh_g b1
      rw [hg, r1] at lh
      rw [if_pos b2, if_neg (by rw [← lh]; exact g)]
      refine ⟨by rw [e3, e1, r1], Or.inl ⟨by rw [f3, f1]; exact b1, rfl, ?_⟩⟩
      have d := fl_ad_y a (room.elim (fun q => absurd (f1.trans b1) q) id)
      show fl_dC h H4 ((fl_eE (fl_gC h) (fl_pO (fl_gC h) 6) (h 20 3)).2.2.map fl_cm ++ [(59, 0)])
      exact fl_dC_app h0.1 b3 (fl_dC_b d d4 d22 d23)
    · rw [if_neg (by rw [b2]; decide)]
      exact ⟨by rw [e3, e1, r1], Or.inr ⟨by rw [f3, f1]; exact b1, rfl⟩⟩
/-- a line with '?' -/
theorem fl_rl_2 {h H1 H2 H3 H4 H5 H6 : fz_H} {y y3 : Int} (r : fl_rdC h H1 (fl_eE (fl_gC h) (fl_pO (fl_gC h) 6) (h 20 3))) (hg : fl_gC H1 = fl_gC h) (g : fl_lh H1 = 63) (e1 : H2 20 3 = H1 20 3 + 1) (f1 : H2 20 4 = H1 20 4) (d4 : H2 21 4 = H1 21 4) (d22 : H2 22 = H1 22) (d23 : H2 23 = H1 23)
    (a : fl_ad H2 H3 63 0 y3) (room : H2 20 4 ≠ 0 ∨ H2 21 4 < 128) (e3 : H3 20 3 = H2 20 3) (f3 : H3 20 4 = H2 20 4) (hg3 : fl_gC H3 = fl_gC h) (r4 : fl_rdC H3 H4 (fl_eE (fl_gC H3) (fl_pO (fl_gC H3) 6) (H3 20 3)))
    (a5 : fl_ad H4 H5 59 0 y) (room5 : H4 20 4 ≠ 0 ∨ H4 21 4 < 128) (e5 : H5 20 3 = H4 20 3) (f5 : H5 20 4 = H4 20 4) (l : fl_ldh H5 H6 y3) (e6 : H6 20 3 = H5 20 3) (f6 : H6 20 4 = H5 20 4) (h0 : 0 ≤ h 21 4 ∧ 0 ≤ H1 21 4 ∧ 0 ≤ H3 21 4) (hat : 0 ≤ h 20 3 ∧ h 20 3 ≤ h 20 2) : fl_rlC h H6 := by
  have z1 : H1 20 4 = 0 := fl_lh_0 (by omega)
  have z : h 20 4 = 0 := by
    by_cases z : h 20 4 = 0
    · exact z
    · exact absurd z1 (r.1 z).1
  refine ⟨fun q => absurd z q, fun _ => ?_⟩
  obtain ⟨r1, r2⟩ := r.2 z
  rcases r2 with ⟨b1, b2, b3⟩ | ⟨b1, b2⟩
  · have lh := fl_lh_g z1
    rw [hg, r1] at lh
    have xq := ((fl_gd_E fl_gl_lt (fl_gd_O fl_gl_lt 6)) (h 20 3) hat.1 hat.2).2.2 b2
    have nq : (fl_eE (fl_gC h) (fl_pO (fl_gC h) 6) (h 20 3)).2.2 ≠ [] := fl_xp_ne xq.2
    unfold fl_ln
    rw [if_pos b2, if_pos (by rw [← lh]; exact g)]
    rw [hg3, e3, e1, r1] at r4
    obtain ⟨s1, s2⟩ := r4.2 (f3.trans (f1.trans z1))
    rcases s2 with ⟨c1, c2, c3⟩ | ⟨c1, c2⟩
    · refine ⟨by rw [e6, e5, s1], Or.inl ⟨by rw [f6, f5]; exact c1, c2, ?_⟩⟩
      have d3 := fl_ad_y a (room.elim (fun q => absurd (f1.trans z1) q) id)
      have d5 := fl_ad_y a5 (room5.elim (fun q => absurd c1 q) id)
      have hy3 : y3 = H2 21 4 := by
        rcases a with a | a
        · exact a.2.1
        · exfalso
          have := room.elim (fun q => absurd (f1.trans z1) q) id
          omega
      have D := fl_dC_app h0.1 b3 (fl_dC_b (fl_dC_app (by rw [d4]; exact h0.2.1) d3 (fl_dC_app h0.2.2 c3 d5)) d4 d22 d23)
      have n1 := b3.1
      rw [List.length_map] at n1
      have n5 := D.1
      rw [List.length_append, List.length_map, List.length_append, List.length_append, List.length_map] at n5
      have n5' : H5 21 4 = h 21 4 + (((fl_eE (fl_gC h) (fl_pO (fl_gC h) 6) (h 20 3)).2.2.length + (1 + ((fl_eE (fl_gC h) (fl_pO (fl_gC h) 6) ((fl_eE (fl_gC h) (fl_pO (fl_gC h) 6) (h 20 3)).1 + 1)).2.2.length + 1)) : Nat) : Int) := n5
      have hl : H6 = fz_up H5 23 y3.toNat (H5 21 4) := by
        rcases l with l | l
        · exact l.2.2
        · exfalso; omega
      show fl_dC h H6 (fl_cl (h 21 4).toNat (_, _))
      unfold fl_cl
      rw [if_neg nq]
      have := fl_dC_lead (A := (fl_eE (fl_gC h) (fl_pO (fl_gC h) 6) (h 20 3)).2.2.map fl_cm) (x := 63) (o := 0) D h0.1 (p := y3.toNat) (by rw [List.length_map]; omega) hl
      rw [show H5 21 4 = (((h 21 4).toNat + ((fl_eE (fl_gC h) (fl_pO (fl_gC h) 6) (h 20 3)).2.2.length + (1 + ((fl_eE (fl_gC h) (fl_pO (fl_gC h) 6) ((fl_eE (fl_gC h) (fl_pO (fl_gC h) 6) (h 20 3)).1 + 1)).2.2.length + 1))) : Nat) : Int) by omega] at this
      exact this
    · exact ⟨by rw [e6, e5, s1], Or.inr ⟨by rw [f6, f5]; exact c1, c2⟩⟩
  · exact absurd z1 b1
/-- between lines: H0 was the draft's beginning -/
def fl_txS (g : Int → Int) (n : Int) (H0 H : fz_H) (k : Nat) : Prop := (H 20 4 = 0 ∧ ∃ L, L ≠ [] ∧ fl_dC H0 H (fl_ct 0 L) ∧ fl_tt g = fl_bp L (if g (H 20 3) = 59 then fl_tx g k (H 20 3 + 1) else (H 20 3, true, [])) ∧ 0 ≤ H 20 3 ∧ H 20 3 ≤ n) ∨ (H 20 4 ≠ 0 ∧ (fl_tt g).2.1 = false ∧ (fl_tt g).1 = H 20 3)
theorem fl_txS_1 {h H0 H : fz_H} {g : Int → Int} {n : Int} (r : fl_rlC H0 H) (hg : fl_gC H0 = g) (hl : fl_gl n g) (f0 : H0 20 4 = 0) (a0 : H0 20 3 = 0) (d0 : H0 21 4 = 0) (hn : 0 ≤ n) : fl_txS g n H0 H 199 := by
  obtain ⟨r1, r2⟩ := r.2 f0
  rw [hg, a0] at r1 r2
  rw [d0] at r2
  have p := fl_ln_g hl (Int.le_refl 0) hn
  rcases r2 with ⟨b1, b2, b3⟩ | ⟨b1, b2⟩
  · left
    refine ⟨b1, [(fl_ln g 0).2.2], List.cons_ne_nil _ _, ?_, ?_, by rw [r1]; exact p.1, by rw [r1]; exact p.2.1⟩
    · show fl_dC H0 H (fl_cl 0 (fl_ln g 0).2.2 ++ [])
      rw [List.append_nil]
      exact b3
    · rw [r1]
      show (if (fl_ln g 0).2.1 = true then _ else _) = _
      rw [if_pos b2]
  · right
    have e : fl_tt g = ((fl_ln g 0).1, false, []) := by
      show (if (fl_ln g 0).2.1 = true then _ else _) = _
      rw [if_neg (by rw [b2]; decide)]
    rw [e]
    exact ⟨b1, rfl, r1.symm⟩
theorem fl_txS_st {g : Int → Int} {n : Int} {H0 H H1 H2 : fz_H} {k : Nat} (s : fl_txS g n H0 H (k + 1)) (hg1 : fl_gC H = g) (hl : fl_gl n g) (y : fl_lh H = 59) (e1 : H1 20 3 = H 20 3 + 1) (f1 : H1 20 4 = H 20 4) (d4 : H1 21 4 = H 21 4) (d22 : H1 22 = H 22) (d23 : H1 23 = H 23) (hg : fl_gC H1 = g) (r : fl_rlC H1 H2) (d0 : H0 21 4 = 0) (h1 : 0 ≤ H1 21 4) : fl_txS g n H0 H2 k := by
  have z : H 20 4 = 0 := fl_lh_0 (by omega)
  have lh := fl_lh_g z
  rw [hg1] at lh
  rcases s with ⟨s1, L, s2, s3, s4, s5, s6⟩ | ⟨s1, s2, s3⟩
  · obtain ⟨r1, r2⟩ := r.2 (f1.trans z)
    rw [hg, e1] at r1 r2
    have b := hl (H 20 3) s5 (by omega)
    have p := fl_ln_g hl (a := H 20 3 + 1) (by omega) (by omega)
    rw [if_pos (by rw [← lh]; exact y)] at s4
    have ex : fl_tx g (k + 1) (H 20 3 + 1) = (if (fl_ln g (H 20 3 + 1)).2.1 = true then fl_bp [(fl_ln g (H 20 3 + 1)).2.2] (if g (fl_ln g (H 20 3 + 1)).1 = 59 then fl_tx g k ((fl_ln g (H 20 3 + 1)).1 + 1) else ((fl_ln g (H 20 3 + 1)).1, true, [])) else ((fl_ln g (H 20 3 + 1)).1, false, [])) := rfl
    rw [ex] at s4
    rcases r2 with ⟨b1, b2, b3⟩ | ⟨b1, b2⟩
    · rw [if_pos b2, fl_bp_bp] at s4
      left
      refine ⟨b1, L ++ [(fl_ln g (H 20 3 + 1)).2.2], by simp, ?_, by rw [r1]; exact s4, by rw [r1]; omega, by rw [r1]; exact p.2.1⟩
      rw [fl_ct_app]
      have n1 := s3.1
      rw [d0] at n1
      have D := fl_dC_app (by rw [d0]; decide) s3 (fl_dC_b b3 d4 d22 d23)
      rw [show (H1 21 4).toNat = 0 + (fl_ct 0 L).length by omega] at D
      show fl_dC H0 H2 (fl_ct 0 L ++ (fl_cl (0 + (fl_ct 0 L).length) (fl_ln g (H 20 3 + 1)).2.2 ++ []))
      rw [List.append_nil]
      exact D
    · rw [if_neg (by rw [b2]; decide)] at s4
      right
      rw [s4]
      exact ⟨b1, rfl, r1.symm⟩
  · exact absurd z s1
theorem fl_txS_b {g : Int → Int} {n : Int} {H0 H : fz_H} {k : Nat} (s : fl_txS g n H0 H k) : H 20 4 = 0 → H 20 3 ≤ n := fun z => by
  rcases s with ⟨s1, L, s2, s3, s4, s5, s6⟩ | ⟨s1, s2, s3⟩
  · exact s6
  · exact absurd z s1
theorem fl_txS_k {g : Int → Int} {n : Int} {H0 H : fz_H} {k k' : Nat} (s : fl_txS g n H0 H k) (e : k = k') : fl_txS g n H0 H k' := by
  subst e
  exact s
/-- the whole text -/
def fl_rtC (h h' : fz_H) (r : Int) : Prop := ((fl_tt (fl_gC h)).2.1 = true ∧ h 20 2 ≤ (fl_tt (fl_gC h)).1 ∧ r = -1 ∧ ∃ H0 : fz_H, H0 21 4 = 0 ∧ fl_dC H0 h' (fl_ct 0 (fl_tt (fl_gC h)).2.2)) ∨ (¬ ((fl_tt (fl_gC h)).2.1 = true ∧ h 20 2 ≤ (fl_tt (fl_gC h)).1) ∧ 0 ≤ r ∧ r = (fl_tt (fl_gC h)).1)
theorem fl_rt_in {h H0 H H2 : fz_H} {k : Nat} {r : Int} (s : fl_txS (fl_gC h) (h 20 2) H0 H k) (hg : fl_gC H = fl_gC h) (d0 : H0 21 4 = 0) (e2 : h 20 2 = H 20 2) (hn : (fl_lh H ≠ 59 ∧ H2 20 3 = H 20 3) ∨ H 20 4 ≠ 0) (e3 : H2 20 3 = H 20 3) (e4 : H2 20 4 = H 20 4) (f4 : H2 21 4 = H 21 4) (f22 : H2 22 = H 22) (f23 : H2 23 = H 23) (hat : 0 ≤ H 20 3) (hr : (H2 20 4 ≠ 0 ∧ r = H2 20 3) ∨ (H2 20 3 < H 20 2 ∧ r = H2 20 3) ∨ (H2 20 4 = 0 ∧ H 20 2 ≤ H2 20 3 ∧ r = -1)) : fl_rtC h H2 r := by
  unfold fl_rtC
  rcases s with ⟨s1, L, s2, s3, s4, s5, s6⟩ | ⟨s1, s2, s3⟩
  · have lh := fl_lh_g s1
    rw [hg] at lh
    have hne : fl_lh H ≠ 59 := hn.elim (fun z => z.1) (fun z => absurd s1 z)
    rw [if_neg (by rw [← lh]; exact hne)] at s4
    rw [s4]
    show (true = true ∧ h 20 2 ≤ H 20 3 ∧ r = -1 ∧ ∃ H0 : fz_H, H0 21 4 = 0 ∧ fl_dC H0 H2 (fl_ct 0 (L ++ []))) ∨ (¬ (true = true ∧ h 20 2 ≤ H 20 3) ∧ 0 ≤ r ∧ r = H 20 3)
    rw [List.append_nil]
    rcases hr with hr | hr | hr
    · exact absurd (e4.trans s1) hr.1
    · exact Or.inr ⟨fun z => by omega, by omega, by omega⟩
    · exact Or.inl ⟨rfl, by omega, hr.2.2, H0, d0, fl_dC_f s3 f4 f22 f23⟩
  · right
    refine ⟨fun z => by rw [s2] at z; exact Bool.noConfusion z.1, ?_, ?_⟩
    · rcases hr with hr | hr | hr
      · omega
      · omega
      · exact absurd (e4.symm.trans hr.1) s1
    · rcases hr with hr | hr | hr
      · rw [hr.2, e3, s3]
      · rw [hr.2, e3, s3]
      · exact absurd (e4.symm.trans hr.1) s1
def fl_beC (h h' : fz_H) : Prop := (∀ k : Nat, k < 128 → h' 16 k = h 22 k ∧ h' 17 k = h 23 k) ∧ h' 15 4 = h 21 4
theorem fl_beC_in {h h1 h2 h3 : fz_H} {v : Int} (e1 : h1 = fz_cp h 22 0 16 0 128) (e2 : h2 = fz_cp h1 23 0 17 0 128) (e3 : h3 = fz_up h2 15 4 v) (hv : v = h 21 4) : fl_beC h h3 := by
  refine ⟨fun k hk => ⟨?_, ?_⟩, ?_⟩
  · rw [e3, fz_up_o (by decide), e2]
    unfold fz_cp
    rw [if_neg (by omega), e1]
    unfold fz_cp
    rw [if_pos ⟨rfl, by omega, by omega⟩]
    congr 1
    omega
  · rw [e3, fz_up_o (by decide), e2]
    unfold fz_cp
    rw [if_pos ⟨rfl, by omega, by omega⟩, e1]
    unfold fz_cp
    rw [if_neg (by omega)]
    congr 1
    omega
  · rw [e3, fz_up_e, hv]
def fl_laC (h h' : fz_H) (r : Int) : Prop := ((fl_tt (fl_gC h)).2.1 = true ∧ h 20 2 ≤ (fl_tt (fl_gC h)).1 ∧ r = 1 ∧ h' 15 4 = (fl_ct 0 (fl_tt (fl_gC h)).2.2).length ∧ fl_s2 (h' 16) (h' 17) 0 (fl_ct 0 (fl_tt (fl_gC h)).2.2)) ∨ (¬ ((fl_tt (fl_gC h)).2.1 = true ∧ h 20 2 ≤ (fl_tt (fl_gC h)).1) ∧ r = -100 - (fl_tt (fl_gC h)).1 ∧ h' 15 4 = h 15 4 ∧ h' 16 = h 16 ∧ h' 17 = h 17)
theorem fl_laC_1 {h H1 H2 H3 : fz_H} {y : Int} (t : fl_rtC h H1 y) (hy : y < 0) (e4 : H2 21 4 = H1 21 4) (e22 : H2 22 = H1 22) (e23 : H2 23 = H1 23) (b : fl_beC H2 H3) (hb : H1 21 4 ≤ 128) : fl_laC h H3 1 := by
  rcases t with ⟨t1, t2, t3, H0, t4, t5⟩ | t
  · left
    obtain ⟨d1, d2, d3⟩ := t5
    rw [t4] at d1 d3
    refine ⟨t1, t2, rfl, by rw [b.2, e4, d1]; omega, ?_⟩
    refine fl_s2_eq (f := H1 22) (g := H1 23) (fun k k1 k2 => ?_) d3
    have x := b.1 k (by omega)
    exact ⟨by rw [x.1, e22], by rw [x.2, e23]⟩
  · exfalso; omega
theorem fl_laC_0 {h H1 H2 : fz_H} {y r : Int} (t : fl_rtC h H1 y) (hy : 0 ≤ y) (hr : r = -100 - y) (e4 : H2 15 4 = h 15 4) (e16 : H2 16 = h 16) (e17 : H2 17 = h 17) : fl_laC h H2 r := by
  rcases t with ⟨t1, t2, t3, t4⟩ | ⟨t1, t2, t3⟩
  · exfalso; omega
  · exact Or.inr ⟨t1, by omega, e4, e16, e17⟩
