/-! ===== words: what an act answers, what it traces ===== -/
/-- one body more in the trace -/
def fz_t1 (f : Nat → Int) (n b : Int) : Nat → Int := if n < 24 then (fun j => if j = n.toNat then b else f j) else f
def fz_tr (f : Nat → Int) (n : Int) : List Int → (Nat → Int)
  | [] => f
  | b :: l => fz_tr (fz_t1 f n b) (n + 1) l
theorem fz_tr_app : ∀ (l1 : List Int) {l2 : List Int} {f : Nat → Int} {n : Int}, fz_tr f n (l1 ++ l2) = fz_tr (fz_tr f n l1) (n + l1.length) l2
  | [], l2, f, n => by simp [fz_tr]
  | b :: l1, l2, f, n => by
    show fz_tr (fz_t1 f n b) (n + 1) (l1 ++ l2) = fz_tr (fz_tr (fz_t1 f n b) (n + 1) l1) (n + (b :: l1).length) l2
    rw [fz_tr_app l1, List.length_cons, show n + 1 + (l1.length : Int) = n + ((l1.length + 1 : Nat) : Int) by omega]
theorem fz_t1_in {h H1 H2 : fz_H} {c d s : Nat} {n b x m : Int} (e1 : H1 = fz_up h c n.toNat b) (e2 : H2 = fz_up H1 d s x) (hc : c ≠ d) (hn : n = m ∧ m < 24) : H2 c = fz_t1 (h c) m b := by
  rw [e2, fz_up_ne hc, e1, hn.1]
  unfold fz_t1
  rw [if_pos hn.2]
  funext j
  unfold fz_up
  simp
theorem fz_t1_no {h H2 : fz_H} {c d s : Nat} {b x m : Int} (e2 : H2 = fz_up h d s x) (hc : c ≠ d) (hm : 24 ≤ m) : H2 c = fz_t1 (h c) m b := by
  rw [e2, fz_up_ne hc]
  unfold fz_t1
  rw [if_neg (by omega)]
theorem fz_tc0 {f g : Nat → Int} {n b : Int} (e : g = fz_t1 f n b) : g = fz_tr f n [b] := e
theorem fz_tc1 {f g1 g2 : Nat → Int} {n n1 b : Int} {S1 : List Int} (e1 : g1 = fz_t1 f n b) (e2 : g2 = fz_tr g1 n1 S1) (hn : n1 = n + 1) : g2 = fz_tr f n (b :: S1) := by
  subst hn e1
  exact e2
theorem fz_tc2 {f g1 g2 g3 : Nat → Int} {n n1 n2 b : Int} {S1 S2 : List Int} (e1 : g1 = fz_t1 f n b) (e2 : g2 = fz_tr g1 n1 S1) (e3 : g3 = fz_tr g2 n2 S2) (hn : n1 = n + 1) (hn2 : n2 = n1 + S1.length) : g3 = fz_tr f n (b :: (S1 ++ S2)) := by
  show g3 = fz_tr (fz_t1 f n b) (n + 1) (S1 ++ S2)
  rw [fz_tr_app, e3, e2, e1, hn2, hn]
/-- what stands at a place of the trace afterwards -/
theorem fz_tr_lo : ∀ (l : List Int) {f : Nat → Int} {n : Int} {j : Nat}, (j : Int) < n → fz_tr f n l j = f j
  | [], f, n, j, _ => rfl
  | b :: l, f, n, j, h => by
    show fz_tr (fz_t1 f n b) (n + 1) l j = f j
    rw [fz_tr_lo l (by omega)]
    unfold fz_t1
    split
    · show (if j = n.toNat then b else f j) = f j
      rw [if_neg (by omega)]
    · rfl
theorem fz_tr_at : ∀ (l : List Int) {f g : Nat → Int} {n : Int} {j : Nat}, 0 ≤ n → n ≤ j → (j : Int) < n + l.length → j < 24 → fz_tr f n l j = fz_tr g n l j
  | [], f, g, n, j, _, h1, h2, _ => by simp at h2; omega
  | b :: l, f, g, n, j, h0, h1, h2, h3 => by
    show fz_tr (fz_t1 f n b) (n + 1) l j = fz_tr (fz_t1 g n b) (n + 1) l j
    by_cases e : (j : Int) = n
    · rw [fz_tr_lo l (by omega), fz_tr_lo l (by omega)]
      unfold fz_t1
      rw [if_pos (by omega), if_pos (by omega), if_pos (by omega), if_pos (by omega)]
    · refine fz_tr_at l (by omega) (by omega) ?_ h3
      rw [List.length_cons] at h2
      omega
/-- each kind's own body of each act, and the kind above its owner -/
def fz_obl : List (Nat × Nat) := [(1, 0), (10, 0), (11, 0), (2, 0), (20, 0), (10, 0), (11, 0), (2, 0), (1, 0), (30, 0), (11, 0), (2, 0), (1, 0), (41, 2), (40, 2), (2, 0), (20, 0), (10, 0), (50, 1), (2, 0), (1, 0), (41, 2), (40, 2), (60, 3), (70, 0), (10, 0), (11, 0), (2, 0), (20, 0), (80, 4), (50, 1), (81, 4)]
def fz_vl : Nat → Nat → Nat → Nat → Int → Int → Int
  | 0, _, _, _, _, _ => 0
  | n + 1, k, f, a, x, w => match (fz_nth fz_obl (4 * f + a)).getD (0, 0) with
    | (1, _) => fz_w (x + w)
    | (2, _) => fz_w (fz_vl n k k 1 x w - fz_vl n k k 2 1 w)
    | (10, _) => fz_w (fz_vl n k k 0 x w * 2)
    | (11, _) => fz_xor x w
    | (20, u) => fz_w (fz_vl n k u 0 x w + 3)
    | (30, u) => fz_w (-fz_vl n k u 1 x w)
    | (40, u) => fz_w (fz_vl n k u 2 x w * 3)
    | (41, u) => fz_vl n k u 1 (fz_w (x + 1)) w
    | (50, u) => fz_w (fz_vl n k u 2 x w - fz_vl n k k 0 2 w)
    | (60, u) => fz_xor (fz_vl n k u 3 x w) 5
    | (70, u) => fz_w (fz_vl n k u 0 x w * 2)
    | (80, u) => fz_w (fz_vl n k u 1 x w + fz_vl n k k 2 2 w)
    | (81, u) => fz_w (fz_vl n k u 3 x w - 1)
    | _ => 0
def fz_atl : List (List Int) := [[1], [10, 1], [11], [2, 10, 1, 11], [20, 1], [10, 20, 1], [11], [2, 10, 20, 1, 11], [1], [30, 10, 1], [11], [2, 30, 10, 1, 11], [1], [41, 30, 10, 1], [40, 11], [2, 41, 30, 10, 1, 40, 11], [20, 1], [10, 20, 1], [50, 11, 20, 1], [2, 10, 20, 1, 50, 11, 20, 1], [1], [41, 30, 10, 1], [40, 11], [60, 2, 41, 30, 10, 1, 40, 11], [70, 1], [10, 70, 1], [11], [2, 10, 70, 1, 11], [20, 1], [80, 10, 20, 1, 50, 11, 20, 1], [50, 11, 20, 1], [81, 2, 80, 10, 20, 1, 50, 11, 20, 1, 50, 11, 20, 1]]
def fz_act (bo kd b ac x : Int) : Int := if 0 ≤ b ∧ b < bo ∧ 0 ≤ ac ∧ ac ≤ 3 then fz_vl 20 kd.toNat kd.toNat ac.toNat x b else 0
def fz_atr (bo kd b ac : Int) : List Int := if 0 ≤ b ∧ b < bo ∧ 0 ≤ ac ∧ ac ≤ 3 then (fz_nth fz_atl (4 * kd.toNat + ac.toNat)).getD [] else []
theorem fz_act_0 {bo kd b ac x : Int} (h : ¬ (0 ≤ b ∧ b < bo ∧ 0 ≤ ac ∧ ac ≤ 3)) : 0 = fz_act bo kd b ac x := by unfold fz_act; rw [if_neg h]
theorem fz_atr_0 {bo kd b ac : Int} (h : ¬ (0 ≤ b ∧ b < bo ∧ 0 ≤ ac ∧ ac ≤ 3)) : fz_atr bo kd b ac = [] := by unfold fz_atr; rw [if_neg h]
theorem fz_act_k {bo kd b ac x : Int} (k a : Nat) (h : 0 ≤ b ∧ b < bo ∧ 0 ≤ ac ∧ ac ≤ 3) (hk : kd = k) (ha : ac = a) : fz_act bo kd b ac x = fz_vl 20 k k a x b := by
  unfold fz_act
  rw [if_pos h, hk, ha]
  rfl
theorem fz_atr_k {bo kd b ac : Int} (k a : Nat) (h : 0 ≤ b ∧ b < bo ∧ 0 ≤ ac ∧ ac ≤ 3) (hk : kd = k) (ha : ac = a) : fz_atr bo kd b ac = (fz_nth fz_atl (4 * k + a)).getD [] := by
  unfold fz_atr
  rw [if_pos h, hk, ha]
  rfl
/-- the trace of an act: its length, the places -/
def fz_aT (h h' : fz_H) (c d s : Nat) (L : List Int) : Prop := h' d s = L.length ∧ h' c = fz_tr (h c) 0 L
theorem fz_aT_0 {h H1 : fz_H} {c d s : Nat} {L : List Int} (e1 : H1 = fz_up h d s 0) (hc : c ≠ d) (hL : L = []) : fz_aT h H1 c d s L := by
  subst hL
  refine ⟨by rw [e1, fz_up_e]; rfl, ?_⟩
  rw [e1, fz_up_ne hc]
  rfl
theorem fz_aT_in {h H3 H4 : fz_H} {c d s : Nat} {L S1 : List Int} {n : Int} (k3 : H3 c = h c) (n0 : H3 d s = 0) (t : H4 c = fz_tr (H3 c) n S1) (tn : H4 d s = n + S1.length) (hn : n = 0) (hL : L = S1) : fz_aT h H4 c d s L := by
  subst hL hn
  refine ⟨by rw [tn, Int.zero_add], ?_⟩
  rw [t, k3]
/-- class and model trace the same -/
def fz_RR (h : fz_H) : Prop := h 44 3 = h 53 46 ∧ ∀ j : Nat, (j : Int) < h 44 3 → j < 24 → h 46 j = h 82 j
theorem fz_RR_eq {h h' : fz_H} (e0 : h' 44 3 = h 44 3) (e1 : h' 53 46 = h 53 46) (e2 : h' 46 = h 46) (e3 : h' 82 = h 82) (hR : fz_RR h) : fz_RR h' := by
  unfold fz_RR
  rw [e0, e1, e2, e3]
  exact hR
theorem fz_RR_act {h h1 h2 : fz_H} {L L2 : List Int} (c : fz_aT h h1 46 44 3 L) (m : fz_aT h1 h2 82 53 46 L2) (hL : L2 = L) (f1 : h2 44 3 = h1 44 3) (f2 : h2 46 = h1 46) : fz_RR h2 := by
  subst hL
  obtain ⟨c1, c2⟩ := c
  obtain ⟨m1, m2⟩ := m
  refine ⟨by rw [f1, c1, m1], fun j hj h24 => ?_⟩
  rw [f1, c1] at hj
  rw [f2, c2, m2]
  exact fz_tr_at _ (by decide) (by omega) (by omega) h24
theorem fz_RR_i {h : fz_H} {x : Int} (hR : fz_RR h) (hx : 0 ≤ x ∧ x < h 44 3 ∧ x < 24) : h 46 x.toNat = h 82 x.toNat := hR.2 x.toNat (by omega) (by omega)
theorem fz_atr_eq {bo bo' kd kd' b ac : Int} (hb : bo = bo') (hk : kd = kd') : fz_atr bo kd b ac = fz_atr bo' kd' b ac := by rw [hb, hk]
theorem fz_act_eq {bo bo' kd kd' b ac x : Int} (hb : bo = bo') (hk : kd = kd') : fz_act bo kd b ac x = fz_act bo' kd' b ac x := by rw [hb, hk]
