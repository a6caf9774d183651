/-! the places at the next tick, by both -/
def WkC (m : Nat → Int → Int) (w : Int → Int) : Prop := Rwlk (m 45) (fun l => m (30 + 1 + l.toNat)) (fun l => m (35 + 1 + l.toNat)) (fun l => m (40 + 1 + l.toNat)) w
theorem WkC.cg {m m' : Nat → Int → Int} {w : Int → Int} (h : WkC m w) (e : ∀ b i, 29 ≤ b → b ≤ 45 → m' b i = m b i) : WkC m' w := by
  intro l l0 l1
  have z := h l l0 l1
  simp only at z ⊢
  rw [e 45 l (by omega) (by omega)]
  refine ⟨z.1, z.2.1, z.2.2.1, fun k k0 k1 => ?_⟩
  rw [e _ k (by omega) (by omega), e _ k (by omega) (by omega), e _ k (by omega) (by omega)]
  exact z.2.2.2 k k0 k1
/-- the moves of a lot, by the reference's numbers alone -/
def Kok (w : Int → Int) (l : Int) : Prop := 0 ≤ w (2 + l) ∧ w (2 + l) ≤ 60 ∧ ∀ k : Int, 0 ≤ k → k < w (2 + l) → (0 ≤ w (41 + 3 * (60 * l + k)) ∧ w (41 + 3 * (60 * l + k)) < w 0) ∧ (1 ≤ w (41 + 3 * (60 * l + k) + 1) ∧ w (41 + 3 * (60 * l + k) + 1) ≤ 400) ∧ (0 ≤ w (41 + 3 * (60 * l + k) + 2) ∧ w (41 + 3 * (60 * l + k) + 2) ≤ 15)
theorem WkC.kok {m : Nat → Int → Int} {w : Int → Int} {l : Int} (h : WkC m w) (l0 : 0 ≤ l) (l1 : l < 4) : Kok w l := by
  obtain ⟨h1, h2, h3, h4⟩ := h l l0 l1
  refine ⟨h2, h3, fun k k0 k1 => ?_⟩
  obtain ⟨⟨a, b, c⟩, d⟩ := h4 k k0 k1
  simp only at a b c d
  rw [a, b, c] at d
  omega
/-- the moves of one tick, in the order of their telling -/
def wkS (w : Int → Int) (l t p : Int) : Nat → Int → Int
  | 0, z => z
  | n + 1, z => if w (41 + 3 * (60 * l + n)) = p ∧ w (41 + 3 * (60 * l + n) + 1) = t then w (41 + 3 * (60 * l + n) + 2) else wkS w l t p n z
theorem plc_wk {w : Int → Int} {l t p : Int} (l0 : 0 ≤ l) : ∀ n : Nat, (0 ≤ plcF w l p t n ∧ w (plcF w l p t n + 1) = t ∧ ∀ z, wkS w l t p n z = w (plcF w l p t n + 2)) ∨ (plcF w l p t n = plcF w l p (t - 1) n ∧ (0 ≤ plcF w l p t n → w (plcF w l p t n + 1) ≤ t - 1) ∧ ∀ z, wkS w l t p n z = z)
  | 0 => Or.inr ⟨rfl, fun h => absurd h (by simp [plcF]), fun z => rfl⟩
  | n + 1 => by
    have ih := plc_wk (w := w) (t := t) (p := p) l0 n
    rw [plcF, plcF]
    simp only [wkS]
    by_cases c1 : w (41 + 3 * (60 * l + n)) = p
    · by_cases c2 : w (41 + 3 * (60 * l + n) + 1) = t
      · refine Or.inl ?_
        have : plcF w l p t n < 0 ∨ w (plcF w l p t n + 1) ≤ w (41 + 3 * (60 * l + n) + 1) := by
          rcases ih with ⟨a, b, -⟩ | ⟨a, b, -⟩
          · omega
          · by_cases d : plcF w l p t n < 0
            · exact Or.inl d
            · have := b (by omega)
              omega
        rw [if_pos ⟨c1, by omega, this⟩]
        exact ⟨by omega, c2, fun z => if_pos ⟨c1, c2⟩⟩
      · by_cases c3 : w (41 + 3 * (60 * l + n) + 1) ≤ t
        · rcases ih with ⟨a, b, c⟩ | ⟨a, b, c⟩
          · refine Or.inl ?_
            rw [if_neg (by omega)]
            exact ⟨a, b, fun z => (if_neg (fun e => c2 e.2)).trans (c z)⟩
          · refine Or.inr ?_
            rw [← a]
            by_cases d : plcF w l p t n < 0 ∨ w (plcF w l p t n + 1) ≤ w (41 + 3 * (60 * l + n) + 1)
            · rw [if_pos ⟨c1, c3, d⟩, if_pos ⟨c1, by omega, d⟩]
              exact ⟨rfl, fun _ => by omega, fun z => (if_neg (fun e => c2 e.2)).trans (c z)⟩
            · rw [if_neg (fun e => d e.2.2), if_neg (fun e => d e.2.2)]
              exact ⟨rfl, b, fun z => (if_neg (fun e => c2 e.2)).trans (c z)⟩
        · rw [if_neg (fun e => c3 e.2.1), if_neg (show ¬ (_ ∧ w (41 + 3 * (60 * l + n) + 1) ≤ t - 1 ∧ _) from fun e => by have := e.2.1; omega)]
          rcases ih with ⟨a, b, c⟩ | ⟨a, b, c⟩
          · exact Or.inl ⟨a, b, fun z => (if_neg (fun e => c2 e.2)).trans (c z)⟩
          · exact Or.inr ⟨a, b, fun z => (if_neg (fun e => c2 e.2)).trans (c z)⟩
    · rw [if_neg (fun e => c1 e.1), if_neg (fun e => c1 e.1)]
      rcases ih with ⟨a, b, c⟩ | ⟨a, b, c⟩
      · exact Or.inl ⟨a, b, fun z => (if_neg (fun e => c1 e.1)).trans (c z)⟩
      · exact Or.inr ⟨a, b, fun z => (if_neg (fun e => c1 e.1)).trans (c z)⟩
theorem plcA_wk {w : Int → Int} {l t p : Int} (l0 : 0 ≤ l) : wkS w l t p (w (2 + l)).toNat (plcA w l p (t - 1)) = plcA w l p t := by
  unfold plcA
  rcases plc_wk (w := w) (t := t) (p := p) l0 (w (2 + l)).toNat with ⟨a, b, c⟩ | ⟨a, b, c⟩
  · rw [c, if_neg (show ¬ plcF w l p t (w (2 + l)).toNat < 0 by omega)]
  · rw [c, a]
theorem plcF_in {w : Int → Int} {l p t : Int} : ∀ n : Nat, plcF w l p t n = -1 ∨ ∃ k : Nat, k < n ∧ plcF w l p t n = 41 + 3 * (60 * l + k)
  | 0 => Or.inl rfl
  | n + 1 => by
    rw [plcF]
    split
    · exact Or.inr ⟨n, by omega, rfl⟩
    · rcases plcF_in (w := w) (l := l) (p := p) (t := t) n with h | ⟨k, h1, h2⟩
      · exact Or.inl h
      · exact Or.inr ⟨k, by omega, h2⟩
theorem plcA_in {w : Int → Int} {l p t : Int} (K : Kok w l) (T : Rtol w) (p0 : 0 ≤ p) (p1 : p < w 0) : 0 ≤ plcA w l p t ∧ plcA w l p t ≤ 15 := by
  obtain ⟨k1, k2, k3⟩ := K
  have z := T.2.2 p p0 p1
  unfold plcA
  split
  · omega
  · rcases plcF_in (w := w) (l := l) (p := p) (t := t) (w (2 + l)).toNat with h | ⟨k, h1, h2⟩
    · omega
    · rw [h2]
      exact (k3 k (by omega) (by omega)).2.2
/-- the places set, and the tick -/
def plS (w : Int → Int) (l t : Int) (v : Int → Int) : Nat → Int → Int
  | 0 => v
  | n + 1 => ups (plS w l t v n) (1 + 5 * n + 0) (plcA w l n t)
theorem plS_at {w v : Int → Int} {l t p : Int} (p0 : 0 ≤ p) : ∀ n : Nat, p < n → plS w l t v n (1 + 5 * p + 0) = plcA w l p t
  | 0, h => absurd h (by omega)
  | n + 1, h => by
    rw [plS]
    by_cases c : p = n
    · rw [c, ups_at]
    · rw [ups_ne (by omega)]
      exact plS_at p0 n (by omega)
theorem plS_o {w v : Int → Int} {l t i : Int} (h : ∀ p : Int, 0 ≤ p → p < 10 → i ≠ 1 + 5 * p + 0) : ∀ n : Nat, n ≤ 10 → plS w l t v n i = v i
  | 0, _ => rfl
  | n + 1, hn => by
    rw [plS, ups_ne (h n (by omega) (by omega))]
    exact plS_o h n (by omega)
def pcS (w : Int → Int) (l : Int) (v : Int → Int) : Int → Int := plS w l (v 0 + 1) (ups v 0 (v 0 + 1)) (w 0).toNat
section WALK
variable {S : xH} {m m' m0 : Nat → Int → Int} {q q' : Nat → Int → Int64} {a r : Nat} {told l t p : Int} {w v v' g : Int → Int}
theorem pcS_0 (tw : w 0 ≤ 10) : pcS w l v 0 = v 0 + 1 := by
  unfold pcS
  rw [plS_o (fun p _ _ => by omega) _ (by omega), ups_at]
theorem pcS_p (p0 : 0 ≤ p) (p1 : p < w 0) : pcS w l v (1 + 5 * p + 0) = plcA w l p (v 0 + 1) := plS_at p0 _ (by omega)
theorem pcS_o {i : Int} (tw : w 0 ≤ 10) (h0 : i ≠ 0) (h : ∀ p : Int, 0 ≤ p → p < 10 → i ≠ 1 + 5 * p + 0) : pcS w l v i = v i := by
  unfold pcS
  rw [plS_o h _ (by omega), ups_ne h0]
theorem CX.plc (C : CX S m q a r told w v g) (K : Kok w l) (h4 : v 0 < 400) (e2 : ∀ p : Int, 0 ≤ p → p < w 0 → m' (a + 2) p = plcA w l p (v 0 + 1)) (e0 : m' a 2 = v 0 + 1) (F : ∀ b i, b ≠ a + 2 → ¬ (b = a ∧ i = 2) → m' b i = m b i) : CX S m' q a r told w (pcS w l v) g := by
  have W := C.2.1
  have tw := W.1.2
  have w1 := W.2.1
  have NC := C.2.2.2.1
  have z := NC.1
  have a46 := C.1.2.2.2.2
  have p0 : pcS w l v 0 = v 0 + 1 := pcS_0 tw.1
  refine C.net (fun b i h => F b i (by omega) (by omega)) (Rnet.stat NC ⟨W.1.1, tw.1⟩ w1.2 ⟨?_, ?_, ?_⟩ ?_ (fun o i i0 h => ?_) (fun o i i0 h => rfl) (fun i hi => ?_) (fun p a0 a1 => ?_) (fun p a0 a1 => ?_))
  · exact F _ _ (by omega) (by omega)
  · exact F _ _ (by omega) (by omega)
  · rw [p0]
    exact e0
  · rw [p0]
    omega
  · exact F _ _ (by omega) (by omega)
  · exact pcS_o tw.1 (by omega) (fun p _ _ => by omega)
  · have y := NC.2.1 p a0 a1
    have pl := plcA_in (t := v 0 + 1) K W.1 a0 a1
    rw [pcS_p a0 a1, pcS_o tw.1 (by omega) (fun p _ _ => by omega), pcS_o tw.1 (by omega) (fun p _ _ => by omega), pcS_o tw.1 (by omega) (fun p _ _ => by omega), pcS_o tw.1 (by omega) (fun p _ _ => by omega)]
    show (m' (a + 2) p = _ ∧ m' (a + 3) p = _ ∧ m' (a + 7) p = _ ∧ m' (a + 8) p = _ ∧ m' (a + 9) p = _) ∧ (0 ≤ m' (a + 2) p ∧ m' (a + 2) p ≤ _ ∧ 0 ≤ m' (a + 3) p ∧ m' (a + 3) p ≤ _)
    rw [e2 p a0 a1, F (a + 3) p (by omega) (by omega), F (a + 7) p (by omega) (by omega), F (a + 8) p (by omega) (by omega), F (a + 9) p (by omega) (by omega)]
    exact ⟨⟨rfl, y.1.2.1, y.1.2.2.2.2.1, y.1.2.2.2.2.2.1, y.1.2.2.2.2.2.2⟩, pl.1, pl.2, y.2.2.2⟩
  · exact ⟨F _ _ (by omega) (by omega), F _ _ (by omega) (by omega), F _ _ (by omega) (by omega)⟩
theorem VX.plc (X : VX told w v g) (K : Kok w l) (h4 : v 0 < 400) : VX told w (pcS w l v) g := by
  obtain ⟨S, m, q, a, r, C⟩ := X
  exact ⟨S, fun b i => if b = a + 2 then plcA w l i (v 0 + 1) else if b = a ∧ i = 2 then v 0 + 1 else m b i, q, a, r, C.plc K h4 (fun p _ _ => if_pos rfl) ((if_neg (by omega)).trans (if_pos ⟨rfl, rfl⟩)) (fun b i h1 h2 => (if_neg h1).trans (if_neg h2))⟩
theorem q_walk_l (hs : Sk S) (hn : NetS S a 16 r) (a46 : 46 ≤ a) (KC : WkC m0 w) (tw : w 0 ≤ 10) (l0 : 0 ≤ l) (l1 : l < 4) (t0 : 0 ≤ t) (t1 : t ≤ 400) : ∀ (k i : Nat) (m : Nat → Int → Int), (i : Int) + k = w (2 + l) → (∀ b z, b ≠ a + 2 → m b z = m0 b z) → (∀ p : Int, 0 ≤ p → p < 10 → m (a + 2) p = wkS w l t p i (m0 (a + 2) p)) → ∃ m', De (fun n => f_X8_walk n 3 [.ref 29, .int (J l), .int (J t), .ref (a + 2), .int (J i)] (hp S m q)) (.inl none) (hp S m' q) ∧ (∀ b z, b ≠ a + 2 → m' b z = m0 b z) ∧ ∀ p : Int, 0 ≤ p → p < 10 → m' (a + 2) p = wkS w l t p (w (2 + l)).toNat (m0 (a + 2) p) := by
  have z := KC l l0 l1
  have n1 : m0 45 l = w (2 + l) := z.1
  have K := KC.kok l0 l1
  obtain ⟨k1, k2, k3⟩ := id K
  intro k
  induction k with
  | zero =>
    intro i m hi F G
    refine ⟨m, ?_, F, fun p p0 p1 => by rw [show (w (2 + l)).toNat = i by omega]; exact G p p0 p1⟩
    have n2 : m 45 l = w (2 + l) := (F _ _ (by omega)).trans n1
    refine De.step ?_
    simp only [j_X8_walk_3]
    simp (disch := omega) only [b_X8_walk_3, x29_k hs, x29_r0 hs, x29_r1 hs, x29_r2 hs, x29_r3 hs, x45_g hs, x45_s hs, x45_l hs, n2, Option.bind_some, xI, xU, xUt, xIt, J_lit, J_add, J_sub, J_mul, J_neg, J_ltc, J_lec, J_eqc, lt_T, lt_F, le_T, le_F, eq_T, eq_F, ↓reduceIte, ite_not, not_true_eq_false, not_false_eq_true, true_or, or_true, false_or, or_false, true_and, and_true, false_and, and_false, up_get, Nat.reduceEqDiff, Int.reduceNeg, eqN_T, eqN_F]
    exact De.ret _ _
  | succ k IH =>
    intro i m hi F G
    have n2 : m 45 l = w (2 + l) := (F _ _ (by omega)).trans n1
    have zz := z.2.2.2 i (by omega) (by omega)
    have y1 : m (30 + 1 + l.toNat) i = w (41 + 3 * (60 * l + i)) := (F _ _ (by omega)).trans zz.1.1
    have y2 : m (35 + 1 + l.toNat) i = w (41 + 3 * (60 * l + i) + 1) := (F _ _ (by omega)).trans zz.1.2.1
    have y3 : m (40 + 1 + l.toNat) i = w (41 + 3 * (60 * l + i) + 2) := (F _ _ (by omega)).trans zz.1.2.2
    obtain ⟨b1, b2, b3⟩ := k3 i (by omega) (by omega)
    by_cases c : w (41 + 3 * (60 * l + i) + 1) = t
    · obtain ⟨m', D', F', G'⟩ := IH (i + 1) (up m (a + 2) (w (41 + 3 * (60 * l + i))) (w (41 + 3 * (60 * l + i) + 2))) (by omega) (fun b z h => (up_a h).trans (F b z h)) (fun p p0 p1 => by
        rw [wkS]
        by_cases d : w (41 + 3 * (60 * l + i)) = p
        · rw [if_pos ⟨d, c⟩, d, up_at]
        · rw [if_neg (fun e => d e.1), up_i (fun e => d e.symm)]
          exact G p p0 p1)
      refine ⟨m', ?_, F', G'⟩
      refine De.step ?_
      simp only [j_X8_walk_3]
      simp (disch := omega) only [b_X8_walk_3, x29_k hs, x29_r0 hs, x29_r1 hs, x29_r2 hs, x29_r3 hs, x45_g hs, x45_s hs, x45_l hs, x30_m hs, x35_m hs, x40_m hs, row30_g hs, row35_g hs, row40_g hs, Net2_l hn, Net2_s hn, n2, y1, y2, y3, c, Option.bind_some, xI, xU, xUt, xIt, J_lit, J_add, J_sub, J_mul, J_neg, J_ltc, J_lec, J_eqc, lt_T, lt_F, le_T, le_F, eq_T, eq_F, ↓reduceIte, ite_not, not_true_eq_false, not_false_eq_true, true_or, or_true, false_or, or_false, true_and, and_true, false_and, and_false, up_get, Nat.reduceEqDiff, Int.reduceNeg, eqN_T, eqN_F]
      exact D'
    · obtain ⟨m', D', F', G'⟩ := IH (i + 1) m (by omega) F (fun p p0 p1 => by
        rw [wkS, if_neg (fun e => c e.2)]
        exact G p p0 p1)
      refine ⟨m', ?_, F', G'⟩
      refine De.step ?_
      simp only [j_X8_walk_3]
      simp (disch := omega) only [b_X8_walk_3, x29_k hs, x29_r0 hs, x29_r1 hs, x29_r2 hs, x29_r3 hs, x45_g hs, x45_s hs, x45_l hs, x30_m hs, x35_m hs, x40_m hs, row30_g hs, row35_g hs, row40_g hs, n2, y1, y2, y3, Option.bind_some, xI, xU, xUt, xIt, J_lit, J_add, J_sub, J_mul, J_neg, J_ltc, J_lec, J_eqc, lt_T, lt_F, le_T, le_F, eq_T, eq_F, ↓reduceIte, ite_not, not_true_eq_false, not_false_eq_true, true_or, or_true, false_or, or_false, true_and, and_true, false_and, and_false, up_get, Nat.reduceEqDiff, Int.reduceNeg, eqN_T, eqN_F]
      exact D'
theorem q_walk (hs : Sk S) (hn : NetS S a 16 r) (a46 : 46 ≤ a) (KC : WkC m w) (tw : w 0 ≤ 10) (l0 : 0 ≤ l) (l1 : l < 4) (t0 : 0 ≤ t) (t1 : t ≤ 400) : ∃ m', De (fun n => f_X8_walk n 0 [.ref 29, .int (J l), .int (J t), .ref (a + 2)] (hp S m q)) (.inl none) (hp S m' q) ∧ (∀ b z, b ≠ a + 2 → m' b z = m b z) ∧ ∀ p : Int, 0 ≤ p → p < 10 → m' (a + 2) p = wkS w l t p (w (2 + l)).toNat (m (a + 2) p) := by
  have K := KC.kok l0 l1
  obtain ⟨k1, k2, k3⟩ := id K
  obtain ⟨m', D, F, G⟩ := q_walk_l (q := q) (t := t) hs hn a46 KC tw l0 l1 t0 t1 (w (2 + l)).toNat 0 m (by omega) (fun _ _ _ => rfl) (fun _ _ _ => rfl)
  refine ⟨m', ?_, F, G⟩
  refine De.step ?_
  simp only [j_X8_walk_0]
  simp (disch := omega) only [b_X8_walk_0, Option.bind_some, xI, xU, xUt, xIt, J_lit, J_add, J_sub, J_mul, J_neg, J_ltc, J_lec, J_eqc, lt_T, lt_F, le_T, le_F, eq_T, eq_F, ↓reduceIte, ite_not, not_true_eq_false, not_false_eq_true, true_or, or_true, false_or, or_false, true_and, and_true, false_and, and_false, up_get, Nat.reduceEqDiff, Int.reduceNeg, eqN_T, eqN_F]
  exact D
theorem q_placeAt (hs : Sk S) (K : Kok (m 139) l) (hl : m 136 7 = l) (l0 : 0 ≤ l) (l1 : l < 4) (p0 : 0 ≤ p) (p1 : p < 10) (t0 : 0 ≤ t) (t1 : t ≤ 400) (tw : m 139 0 ≤ 10) : ∀ k i : Nat, (i : Int) + k = m 139 (2 + l) → De (fun n => f_X11_placeAt n 5 [.ref 136, .int (J p), .int (J t), .int (J (plcF (m 139) l p t i)), .int (J i)] (hp S m q)) (.inl (some (.int (J (plcA (m 139) l p t))))) (hp S m q) := by
  obtain ⟨k1, k2, k3⟩ := id K
  intro k
  induction k with
  | zero =>
    intro i hi
    have e : (m 139 (2 + l)).toNat = i := by omega
    unfold plcA
    rw [e]
    rcases plcF_in (w := m 139) (l := l) (p := p) (t := t) i with h | ⟨j, h1, h2⟩
    · rw [if_pos (by omega), h]
      refine De.step ?_
      simp only [j_X11_placeAt_5]
      simp (disch := omega) only [b_X11_placeAt_5, x136_k hs, x136_i0 hs, x136_w0 hs, x136_r1 hs, x136_r2 hs, x136_r3 hs, x136_r4 hs, x136_i5 hs, x136_w5 hs, x136_i6 hs, x136_w6 hs, x136_i7 hs, x136_w7 hs, x136_r8 hs, x136_i9 hs, x136_w9 hs, x136_i10 hs, x136_w10 hs, x136_i11 hs, x136_w11 hs, x136_i12 hs, x136_w12 hs, x136_i13 hs, x136_w13 hs, x136_i14 hs, x136_w14 hs, x136_r15 hs, x136_i16 hs, x136_w16 hs, x136_r17 hs, x136_r18 hs, x136_r19 hs, x136_r20 hs, x136_r21 hs, x136_i22 hs, x136_w22 hs, x136_r23 hs, x136_r24 hs, x136_i25 hs, x136_w25 hs, x136_i26 hs, x136_w26 hs, x136_r27 hs, x136_r28 hs, x136_i29 hs, x136_w29 hs, x139_g hs, x139_s hs, x139_l hs, hl, Option.bind_some, xI, xU, xUt, xIt, J_lit, J_add, J_sub, J_mul, J_neg, J_ltc, J_lec, J_eqc, lt_T, lt_F, le_T, le_F, eq_T, eq_F, ↓reduceIte, ite_not, not_true_eq_false, not_false_eq_true, true_or, or_true, false_or, or_false, true_and, and_true, false_and, and_false, up_get, Nat.reduceEqDiff, Int.reduceNeg, eqN_T, eqN_F]
      refine De.call (d_toldOf hs p0 p1 (by decide) (by decide)) ?_
      simp (disch := omega) only [Option.bind_some, xI, xU, xUt, xIt, J_lit, J_add, J_sub, J_mul, J_neg, J_ltc, J_lec, J_eqc, lt_T, lt_F, le_T, le_F, eq_T, eq_F, ↓reduceIte, ite_not, not_true_eq_false, not_false_eq_true, true_or, or_true, false_or, or_false, true_and, and_true, false_and, and_false, up_get, Nat.reduceEqDiff, Int.reduceNeg, eqN_T, eqN_F]
      exact De.ret _ _
    · rw [if_neg (by omega), h2]
      refine De.step ?_
      simp only [j_X11_placeAt_5]
      simp (disch := omega) only [b_X11_placeAt_5, x136_k hs, x136_i0 hs, x136_w0 hs, x136_r1 hs, x136_r2 hs, x136_r3 hs, x136_r4 hs, x136_i5 hs, x136_w5 hs, x136_i6 hs, x136_w6 hs, x136_i7 hs, x136_w7 hs, x136_r8 hs, x136_i9 hs, x136_w9 hs, x136_i10 hs, x136_w10 hs, x136_i11 hs, x136_w11 hs, x136_i12 hs, x136_w12 hs, x136_i13 hs, x136_w13 hs, x136_i14 hs, x136_w14 hs, x136_r15 hs, x136_i16 hs, x136_w16 hs, x136_r17 hs, x136_r18 hs, x136_r19 hs, x136_r20 hs, x136_r21 hs, x136_i22 hs, x136_w22 hs, x136_r23 hs, x136_r24 hs, x136_i25 hs, x136_w25 hs, x136_i26 hs, x136_w26 hs, x136_r27 hs, x136_r28 hs, x136_i29 hs, x136_w29 hs, x139_g hs, x139_s hs, x139_l hs, hl, Option.bind_some, xI, xU, xUt, xIt, J_lit, J_add, J_sub, J_mul, J_neg, J_ltc, J_lec, J_eqc, lt_T, lt_F, le_T, le_F, eq_T, eq_F, ↓reduceIte, ite_not, not_true_eq_false, not_false_eq_true, true_or, or_true, false_or, or_false, true_and, and_true, false_and, and_false, up_get, Nat.reduceEqDiff, Int.reduceNeg, eqN_T, eqN_F]
      exact De.ret _ _
  | succ k IH =>
    intro i hi
    have ih := IH (i + 1) (by omega)
    obtain ⟨b1, b2, b3⟩ := k3 i (by omega) (by omega)
    rw [plcF] at ih
    by_cases c1 : m 139 (41 + 3 * (60 * l + i)) = p
    · by_cases c2 : m 139 (41 + 3 * (60 * l + i) + 1) ≤ t
      · rcases plcF_in (w := m 139) (l := l) (p := p) (t := t) i with h | ⟨j, h1, h2⟩
        · rw [if_pos ⟨c1, c2, Or.inl (by omega)⟩] at ih
          rw [h]
          refine De.step ?_
          simp only [j_X11_placeAt_5]
          simp (disch := omega) only [b_X11_placeAt_5, x136_k hs, x136_i0 hs, x136_w0 hs, x136_r1 hs, x136_r2 hs, x136_r3 hs, x136_r4 hs, x136_i5 hs, x136_w5 hs, x136_i6 hs, x136_w6 hs, x136_i7 hs, x136_w7 hs, x136_r8 hs, x136_i9 hs, x136_w9 hs, x136_i10 hs, x136_w10 hs, x136_i11 hs, x136_w11 hs, x136_i12 hs, x136_w12 hs, x136_i13 hs, x136_w13 hs, x136_i14 hs, x136_w14 hs, x136_r15 hs, x136_i16 hs, x136_w16 hs, x136_r17 hs, x136_r18 hs, x136_r19 hs, x136_r20 hs, x136_r21 hs, x136_i22 hs, x136_w22 hs, x136_r23 hs, x136_r24 hs, x136_i25 hs, x136_w25 hs, x136_i26 hs, x136_w26 hs, x136_r27 hs, x136_r28 hs, x136_i29 hs, x136_w29 hs, x139_g hs, x139_s hs, x139_l hs, hl, c1, Option.bind_some, xI, xU, xUt, xIt, J_lit, J_add, J_sub, J_mul, J_neg, J_ltc, J_lec, J_eqc, lt_T, lt_F, le_T, le_F, eq_T, eq_F, ↓reduceIte, ite_not, not_true_eq_false, not_false_eq_true, true_or, or_true, false_or, or_false, true_and, and_true, false_and, and_false, up_get, Nat.reduceEqDiff, Int.reduceNeg, eqN_T, eqN_F]
          exact ih
        · have bj := k3 j (by omega) (by omega)
          rw [h2] at ih ⊢
          by_cases d : m 139 (41 + 3 * (60 * l + j) + 1) ≤ m 139 (41 + 3 * (60 * l + i) + 1)
          · rw [if_pos ⟨c1, c2, Or.inr d⟩] at ih
            refine De.step ?_
            simp only [j_X11_placeAt_5]
            simp (disch := omega) only [b_X11_placeAt_5, x136_k hs, x136_i0 hs, x136_w0 hs, x136_r1 hs, x136_r2 hs, x136_r3 hs, x136_r4 hs, x136_i5 hs, x136_w5 hs, x136_i6 hs, x136_w6 hs, x136_i7 hs, x136_w7 hs, x136_r8 hs, x136_i9 hs, x136_w9 hs, x136_i10 hs, x136_w10 hs, x136_i11 hs, x136_w11 hs, x136_i12 hs, x136_w12 hs, x136_i13 hs, x136_w13 hs, x136_i14 hs, x136_w14 hs, x136_r15 hs, x136_i16 hs, x136_w16 hs, x136_r17 hs, x136_r18 hs, x136_r19 hs, x136_r20 hs, x136_r21 hs, x136_i22 hs, x136_w22 hs, x136_r23 hs, x136_r24 hs, x136_i25 hs, x136_w25 hs, x136_i26 hs, x136_w26 hs, x136_r27 hs, x136_r28 hs, x136_i29 hs, x136_w29 hs, x139_g hs, x139_s hs, x139_l hs, hl, c1, Option.bind_some, xI, xU, xUt, xIt, J_lit, J_add, J_sub, J_mul, J_neg, J_ltc, J_lec, J_eqc, lt_T, lt_F, le_T, le_F, eq_T, eq_F, ↓reduceIte, ite_not, not_true_eq_false, not_false_eq_true, true_or, or_true, false_or, or_false, true_and, and_true, false_and, and_false, up_get, Nat.reduceEqDiff, Int.reduceNeg, eqN_T, eqN_F]
            exact ih
          · rw [if_neg (by omega)] at ih
            refine De.step ?_
            simp only [j_X11_placeAt_5]
            simp (disch := omega) only [b_X11_placeAt_5, x136_k hs, x136_i0 hs, x136_w0 hs, x136_r1 hs, x136_r2 hs, x136_r3 hs, x136_r4 hs, x136_i5 hs, x136_w5 hs, x136_i6 hs, x136_w6 hs, x136_i7 hs, x136_w7 hs, x136_r8 hs, x136_i9 hs, x136_w9 hs, x136_i10 hs, x136_w10 hs, x136_i11 hs, x136_w11 hs, x136_i12 hs, x136_w12 hs, x136_i13 hs, x136_w13 hs, x136_i14 hs, x136_w14 hs, x136_r15 hs, x136_i16 hs, x136_w16 hs, x136_r17 hs, x136_r18 hs, x136_r19 hs, x136_r20 hs, x136_r21 hs, x136_i22 hs, x136_w22 hs, x136_r23 hs, x136_r24 hs, x136_i25 hs, x136_w25 hs, x136_i26 hs, x136_w26 hs, x136_r27 hs, x136_r28 hs, x136_i29 hs, x136_w29 hs, x139_g hs, x139_s hs, x139_l hs, hl, c1, Option.bind_some, xI, xU, xUt, xIt, J_lit, J_add, J_sub, J_mul, J_neg, J_ltc, J_lec, J_eqc, lt_T, lt_F, le_T, le_F, eq_T, eq_F, ↓reduceIte, ite_not, not_true_eq_false, not_false_eq_true, true_or, or_true, false_or, or_false, true_and, and_true, false_and, and_false, up_get, Nat.reduceEqDiff, Int.reduceNeg, eqN_T, eqN_F]
            exact ih
      · rw [if_neg (fun e => c2 e.2.1)] at ih
        refine De.step ?_
        simp only [j_X11_placeAt_5]
        simp (disch := omega) only [b_X11_placeAt_5, x136_k hs, x136_i0 hs, x136_w0 hs, x136_r1 hs, x136_r2 hs, x136_r3 hs, x136_r4 hs, x136_i5 hs, x136_w5 hs, x136_i6 hs, x136_w6 hs, x136_i7 hs, x136_w7 hs, x136_r8 hs, x136_i9 hs, x136_w9 hs, x136_i10 hs, x136_w10 hs, x136_i11 hs, x136_w11 hs, x136_i12 hs, x136_w12 hs, x136_i13 hs, x136_w13 hs, x136_i14 hs, x136_w14 hs, x136_r15 hs, x136_i16 hs, x136_w16 hs, x136_r17 hs, x136_r18 hs, x136_r19 hs, x136_r20 hs, x136_r21 hs, x136_i22 hs, x136_w22 hs, x136_r23 hs, x136_r24 hs, x136_i25 hs, x136_w25 hs, x136_i26 hs, x136_w26 hs, x136_r27 hs, x136_r28 hs, x136_i29 hs, x136_w29 hs, x139_g hs, x139_s hs, x139_l hs, hl, c1, Option.bind_some, xI, xU, xUt, xIt, J_lit, J_add, J_sub, J_mul, J_neg, J_ltc, J_lec, J_eqc, lt_T, lt_F, le_T, le_F, eq_T, eq_F, ↓reduceIte, ite_not, not_true_eq_false, not_false_eq_true, true_or, or_true, false_or, or_false, true_and, and_true, false_and, and_false, up_get, Nat.reduceEqDiff, Int.reduceNeg, eqN_T, eqN_F]
        exact ih
    · rw [if_neg (fun e => c1 e.1)] at ih
      refine De.step ?_
      simp only [j_X11_placeAt_5]
      simp (disch := omega) only [b_X11_placeAt_5, x136_k hs, x136_i0 hs, x136_w0 hs, x136_r1 hs, x136_r2 hs, x136_r3 hs, x136_r4 hs, x136_i5 hs, x136_w5 hs, x136_i6 hs, x136_w6 hs, x136_i7 hs, x136_w7 hs, x136_r8 hs, x136_i9 hs, x136_w9 hs, x136_i10 hs, x136_w10 hs, x136_i11 hs, x136_w11 hs, x136_i12 hs, x136_w12 hs, x136_i13 hs, x136_w13 hs, x136_i14 hs, x136_w14 hs, x136_r15 hs, x136_i16 hs, x136_w16 hs, x136_r17 hs, x136_r18 hs, x136_r19 hs, x136_r20 hs, x136_r21 hs, x136_i22 hs, x136_w22 hs, x136_r23 hs, x136_r24 hs, x136_i25 hs, x136_w25 hs, x136_i26 hs, x136_w26 hs, x136_r27 hs, x136_r28 hs, x136_i29 hs, x136_w29 hs, x139_g hs, x139_s hs, x139_l hs, hl, Option.bind_some, xI, xU, xUt, xIt, J_lit, J_add, J_sub, J_mul, J_neg, J_ltc, J_lec, J_eqc, lt_T, lt_F, le_T, le_F, eq_T, eq_F, ↓reduceIte, ite_not, not_true_eq_false, not_false_eq_true, true_or, or_true, false_or, or_false, true_and, and_true, false_and, and_false, up_get, Nat.reduceEqDiff, Int.reduceNeg, eqN_T, eqN_F]
      exact ih
theorem d_placeAt (hs : Sk S) (K : Kok (m 139) l) (hl : m 136 7 = l) (l0 : 0 ≤ l) (l1 : l < 4) (p0 : 0 ≤ p) (p1 : p < 10) (t0 : 0 ≤ t) (t1 : t ≤ 400) (tw : m 139 0 ≤ 10) : De (fun n => f_X11_placeAt n 0 [.ref 136, .int (J p), .int (J t)] (hp S m q)) (.inl (some (.int (J (plcA (m 139) l p t))))) (hp S m q) := by
  have D := q_placeAt (q := q) (t := t) hs K hl l0 l1 p0 p1 t0 t1 tw (m 139 (2 + l)).toNat 0 (by have := K.1; omega)
  refine De.step ?_
  simp only [j_X11_placeAt_0]
  simp (disch := omega) only [b_X11_placeAt_0, Option.bind_some, xI, xU, xUt, xIt, J_lit, J_add, J_sub, J_mul, J_neg, J_ltc, J_lec, J_eqc, lt_T, lt_F, le_T, le_F, eq_T, eq_F, ↓reduceIte, ite_not, not_true_eq_false, not_false_eq_true, true_or, or_true, false_or, or_false, true_and, and_true, false_and, and_false, up_get, Nat.reduceEqDiff, Int.reduceNeg, eqN_T, eqN_F]
  exact D
theorem q_goes12 (hs : Sk S) (K : Kok (m0 139) l) (hl : m0 136 7 = l) (l0 : 0 ≤ l) (l1 : l < 4) (t0 : 0 ≤ v 0) (t1 : v 0 < 400) (tw : 0 ≤ m0 139 0 ∧ m0 139 0 ≤ 10) : ∀ (k i : Nat) (m : Nat → Int → Int), (i : Int) + k = m0 139 0 → (∀ b z, b ≠ 137 → m b z = m0 b z) → m 137 = plS (m0 139) l (v 0 + 1) (ups v 0 (v 0 + 1)) i → ∃ m', m' 137 = pcS (m0 139) l v ∧ (∀ b z, b ≠ 137 → m' b z = m0 b z) ∧ ∀ {r' : xR} {P' : xH}, De (fun n => f_X11_goesOn n 47 [.ref 136, .int (J 0)] (hp S m' q)) r' P' → De (fun n => f_X11_goesOn n 12 [.ref 136, .int (J i)] (hp S m q)) r' P' := by
  intro k
  induction k with
  | zero =>
    intro i m hi F G
    have e9 : m 139 = m0 139 := funext fun z => F 139 z (by decide)
    refine ⟨m, ?_, F, fun D => ?_⟩
    · rw [G, pcS, show (m0 139 0).toNat = i by omega]
    · refine De.step ?_
      simp only [j_X11_goesOn_12]
      simp (disch := omega) only [b_X11_goesOn_12, x136_k hs, x136_i0 hs, x136_w0 hs, x136_r1 hs, x136_r2 hs, x136_r3 hs, x136_r4 hs, x136_i5 hs, x136_w5 hs, x136_i6 hs, x136_w6 hs, x136_i7 hs, x136_w7 hs, x136_r8 hs, x136_i9 hs, x136_w9 hs, x136_i10 hs, x136_w10 hs, x136_i11 hs, x136_w11 hs, x136_i12 hs, x136_w12 hs, x136_i13 hs, x136_w13 hs, x136_i14 hs, x136_w14 hs, x136_r15 hs, x136_i16 hs, x136_w16 hs, x136_r17 hs, x136_r18 hs, x136_r19 hs, x136_r20 hs, x136_r21 hs, x136_i22 hs, x136_w22 hs, x136_r23 hs, x136_r24 hs, x136_i25 hs, x136_w25 hs, x136_i26 hs, x136_w26 hs, x136_r27 hs, x136_r28 hs, x136_i29 hs, x136_w29 hs, Option.bind_some]
      refine De.call (d_phones hs) ?_
      simp (disch := omega) only [e9, Option.bind_some, xI, xU, xUt, xIt, J_lit, J_add, J_sub, J_mul, J_neg, J_ltc, J_lec, J_eqc, lt_T, lt_F, le_T, le_F, eq_T, eq_F, ↓reduceIte, ite_not, not_true_eq_false, not_false_eq_true, true_or, or_true, false_or, or_false, true_and, and_true, false_and, and_false, up_get, Nat.reduceEqDiff, Int.reduceNeg, eqN_T, eqN_F]
      exact D
  | succ k IH =>
    intro i m hi F G
    have e9 : m 139 = m0 139 := funext fun z => F 139 z (by decide)
    have g0 : m 137 0 = v 0 + 1 := by rw [G, plS_o (fun p _ _ => by omega) i (by omega), ups_at]
    obtain ⟨m', G', F', S'⟩ := IH (i + 1) (up m 137 (1 + 5 * i + 0) (plcA (m0 139) l i (v 0 + 1))) (by omega) (fun b z h => (up_a h).trans (F b z h)) (by rw [row_up, G]; rfl)
    have DP := d_placeAt (q := q) (m := m) (t := v 0 + 1) (p := (i : Int)) hs (by rw [e9]; exact K) ((F 136 7 (by decide)).trans hl) l0 l1 (by omega) (by omega) (by omega) (by omega) (by rw [e9]; exact tw.2)
    rw [e9] at DP
    refine ⟨m', G', F', fun D => ?_⟩
    have Q := S' D
    have DT := d_tick (q := q) (m := m) hs
    rw [g0] at DT
    refine De.step ?_
    simp only [j_X11_goesOn_12]
    simp (disch := omega) only [b_X11_goesOn_12, x136_k hs, x136_i0 hs, x136_w0 hs, x136_r1 hs, x136_r2 hs, x136_r3 hs, x136_r4 hs, x136_i5 hs, x136_w5 hs, x136_i6 hs, x136_w6 hs, x136_i7 hs, x136_w7 hs, x136_r8 hs, x136_i9 hs, x136_w9 hs, x136_i10 hs, x136_w10 hs, x136_i11 hs, x136_w11 hs, x136_i12 hs, x136_w12 hs, x136_i13 hs, x136_w13 hs, x136_i14 hs, x136_w14 hs, x136_r15 hs, x136_i16 hs, x136_w16 hs, x136_r17 hs, x136_r18 hs, x136_r19 hs, x136_r20 hs, x136_r21 hs, x136_i22 hs, x136_w22 hs, x136_r23 hs, x136_r24 hs, x136_i25 hs, x136_w25 hs, x136_i26 hs, x136_w26 hs, x136_r27 hs, x136_r28 hs, x136_i29 hs, x136_w29 hs, Option.bind_some]
    refine De.call (d_phones hs) ?_
    simp (disch := omega) only [e9, x136_k hs, x136_i0 hs, x136_w0 hs, x136_r1 hs, x136_r2 hs, x136_r3 hs, x136_r4 hs, x136_i5 hs, x136_w5 hs, x136_i6 hs, x136_w6 hs, x136_i7 hs, x136_w7 hs, x136_r8 hs, x136_i9 hs, x136_w9 hs, x136_i10 hs, x136_w10 hs, x136_i11 hs, x136_w11 hs, x136_i12 hs, x136_w12 hs, x136_i13 hs, x136_w13 hs, x136_i14 hs, x136_w14 hs, x136_r15 hs, x136_i16 hs, x136_w16 hs, x136_r17 hs, x136_r18 hs, x136_r19 hs, x136_r20 hs, x136_r21 hs, x136_i22 hs, x136_w22 hs, x136_r23 hs, x136_r24 hs, x136_i25 hs, x136_w25 hs, x136_i26 hs, x136_w26 hs, x136_r27 hs, x136_r28 hs, x136_i29 hs, x136_w29 hs, Option.bind_some, xI, xU, xUt, xIt, J_lit, J_add, J_sub, J_mul, J_neg, J_ltc, J_lec, J_eqc, lt_T, lt_F, le_T, le_F, eq_T, eq_F, ↓reduceIte, ite_not, not_true_eq_false, not_false_eq_true, true_or, or_true, false_or, or_false, true_and, and_true, false_and, and_false, up_get, Nat.reduceEqDiff, Int.reduceNeg, eqN_T, eqN_F]
    refine De.call (d_phoneAt i 0 _) ?_
    simp (disch := omega) only [x136_k hs, x136_i0 hs, x136_w0 hs, x136_r1 hs, x136_r2 hs, x136_r3 hs, x136_r4 hs, x136_i5 hs, x136_w5 hs, x136_i6 hs, x136_w6 hs, x136_i7 hs, x136_w7 hs, x136_r8 hs, x136_i9 hs, x136_w9 hs, x136_i10 hs, x136_w10 hs, x136_i11 hs, x136_w11 hs, x136_i12 hs, x136_w12 hs, x136_i13 hs, x136_w13 hs, x136_i14 hs, x136_w14 hs, x136_r15 hs, x136_i16 hs, x136_w16 hs, x136_r17 hs, x136_r18 hs, x136_r19 hs, x136_r20 hs, x136_r21 hs, x136_i22 hs, x136_w22 hs, x136_r23 hs, x136_r24 hs, x136_i25 hs, x136_w25 hs, x136_i26 hs, x136_w26 hs, x136_r27 hs, x136_r28 hs, x136_i29 hs, x136_w29 hs, Option.bind_some, xI, xU, xUt, xIt, J_lit, J_add, J_sub, J_mul, J_neg, J_ltc, J_lec, J_eqc, lt_T, lt_F, le_T, le_F, eq_T, eq_F, ↓reduceIte, ite_not, not_true_eq_false, not_false_eq_true, true_or, or_true, false_or, or_false, true_and, and_true, false_and, and_false, up_get, Nat.reduceEqDiff, Int.reduceNeg, eqN_T, eqN_F]
    refine De.call DT ?_
    simp (disch := omega) only [x136_k hs, x136_i0 hs, x136_w0 hs, x136_r1 hs, x136_r2 hs, x136_r3 hs, x136_r4 hs, x136_i5 hs, x136_w5 hs, x136_i6 hs, x136_w6 hs, x136_i7 hs, x136_w7 hs, x136_r8 hs, x136_i9 hs, x136_w9 hs, x136_i10 hs, x136_w10 hs, x136_i11 hs, x136_w11 hs, x136_i12 hs, x136_w12 hs, x136_i13 hs, x136_w13 hs, x136_i14 hs, x136_w14 hs, x136_r15 hs, x136_i16 hs, x136_w16 hs, x136_r17 hs, x136_r18 hs, x136_r19 hs, x136_r20 hs, x136_r21 hs, x136_i22 hs, x136_w22 hs, x136_r23 hs, x136_r24 hs, x136_i25 hs, x136_w25 hs, x136_i26 hs, x136_w26 hs, x136_r27 hs, x136_r28 hs, x136_i29 hs, x136_w29 hs, Option.bind_some, xI, xU, xUt, xIt, J_lit, J_add, J_sub, J_mul, J_neg, J_ltc, J_lec, J_eqc, lt_T, lt_F, le_T, le_F, eq_T, eq_F, ↓reduceIte, ite_not, not_true_eq_false, not_false_eq_true, true_or, or_true, false_or, or_false, true_and, and_true, false_and, and_false, up_get, Nat.reduceEqDiff, Int.reduceNeg, eqN_T, eqN_F]
    refine De.call DP ?_
    simp (disch := omega) only [x136_k hs, x136_i0 hs, x136_w0 hs, x136_r1 hs, x136_r2 hs, x136_r3 hs, x136_r4 hs, x136_i5 hs, x136_w5 hs, x136_i6 hs, x136_w6 hs, x136_i7 hs, x136_w7 hs, x136_r8 hs, x136_i9 hs, x136_w9 hs, x136_i10 hs, x136_w10 hs, x136_i11 hs, x136_w11 hs, x136_i12 hs, x136_w12 hs, x136_i13 hs, x136_w13 hs, x136_i14 hs, x136_w14 hs, x136_r15 hs, x136_i16 hs, x136_w16 hs, x136_r17 hs, x136_r18 hs, x136_r19 hs, x136_r20 hs, x136_r21 hs, x136_i22 hs, x136_w22 hs, x136_r23 hs, x136_r24 hs, x136_i25 hs, x136_w25 hs, x136_i26 hs, x136_w26 hs, x136_r27 hs, x136_r28 hs, x136_i29 hs, x136_w29 hs, x137_g hs, x137_s hs, x137_l hs, Option.bind_some, xI, xU, xUt, xIt, J_lit, J_add, J_sub, J_mul, J_neg, J_ltc, J_lec, J_eqc, lt_T, lt_F, le_T, le_F, eq_T, eq_F, ↓reduceIte, ite_not, not_true_eq_false, not_false_eq_true, true_or, or_true, false_or, or_false, true_and, and_true, false_and, and_false, up_get, Nat.reduceEqDiff, Int.reduceNeg, eqN_T, eqN_F]
    exact Q
end WALK
