/-! a line, by both -/
def PLn (g : Int → Int) (L s : Int) : Prop := (∀ j : Int, 0 ≤ j → j < L → (0 ≤ g (1 + 4 * j) ∧ g (1 + 4 * j) ≤ 3 ∧ 0 ≤ g (1 + 4 * j + 1) ∧ g (1 + 4 * j + 1) ≤ 9999 ∧ (g (1 + 4 * j) = 2 → g (1 + 4 * j + 1) ≤ 100)) ∧ (0 ≤ g (1 + 4 * j + 2) ∧ g (1 + 4 * j + 2) ≤ g (1 + 4 * j + 3) ∧ g (1 + 4 * j + 3) ≤ s) ∧ (g (1 + 4 * j + 2) < g (1 + 4 * j + 3) → wfS g (g (1 + 4 * j + 2)) (g (1 + 4 * j + 3) - g (1 + 4 * j + 2)).toNat 0 = some 1)) ∧ ∀ i : Int, 0 ≤ i → i < s → (0 ≤ g (41 + 2 * i + 1) ∧ g (41 + 2 * i + 1) ≤ 9999) ∧ (0 ≤ g (41 + 2 * i) ∧ g (41 + 2 * i) < 7 ∨ 100 ≤ g (41 + 2 * i) ∧ g (41 + 2 * i) < 105 ∨ 200 ≤ g (41 + 2 * i) ∧ g (41 + 2 * i) < 205 ∨ 300 ≤ g (41 + 2 * i) ∧ g (41 + 2 * i) ≤ 302)
def Lrw (m : Nat → Int → Int) (g : Int → Int) (L : Int) : Prop := m 5 0 = 0 ∧ ∀ j : Int, 0 ≤ j → j < L → m 3 j = g (1 + 4 * j) ∧ m 4 j = g (1 + 4 * j + 1) ∧ m 5 j = g (1 + 4 * j + 2) ∧ m 5 (j + 1) = g (1 + 4 * j + 3)
def CLs (m : Nat → Int → Int) (b : Int → Int) (n B s : Int) (g : Int → Int) (L : Int) : Prop := CPs m b n B s g L ∧ Lrw m g L
def RLs (m : Nat → Int → Int) (b : Int → Int) (n B s : Int) (g : Int → Int) : Prop := ∃ d, RPs m b n B s g d
def FrL (m m' : Nat → Int → Int) : Prop := ∀ c j, ¬ (c = 1 ∧ 3 ≤ j ∧ j ≤ 7) → ¬ (c = 2 ∧ (j = 3 ∨ j = 5)) → c ≠ 3 → c ≠ 4 → ¬ (c = 5 ∧ 1 ≤ j) → c ≠ 6 → m' c j = m c j
theorem FrL.tr {m m1 m2 : Nat → Int → Int} (h1 : FrL m m1) (h2 : FrL m1 m2) : FrL m m2 := fun c j a b d e f g => (h2 c j a b d e f g).trans (h1 c j a b d e f g)
theorem FrPa.l {m m1 : Nat → Int → Int} {L : Int} (h : FrPa L m m1) (L1 : 1 ≤ L) : FrL m m1 := fun c j a b d e f g => h c j g a (fun z => b ⟨z.1, Or.inr z.2⟩) (fun z => f ⟨z.1, by omega⟩)
theorem Fr1.l {m m1 : Nat → Int → Int} (h : Fr1 m m1) : FrL m m1 := fun c j a _ _ _ _ _ => h c j (by omega)
/-- the four numbers of a line -/
def HL (g g2 : Int → Int) (L t nb s e : Int) : Prop := (g2 (1 + 4 * L) = t ∧ g2 (1 + 4 * L + 1) = nb ∧ g2 (1 + 4 * L + 2) = s ∧ g2 (1 + 4 * L + 3) = e) ∧ ∀ i, (i < 1 + 4 * L ∨ 1 + 4 * L + 3 < i) → i < 41 + 2 * s → g2 i = g i
def ln4 (g : Int → Int) (L t nb s e : Int) : Int → Int := ups (ups (ups (ups g (1 + 4 * L) t) (1 + 4 * L + 1) nb) (1 + 4 * L + 2) s) (1 + 4 * L + 3) e
theorem ln4_HL (g : Int → Int) (L t nb s e : Int) : HL g (ln4 g L t nb s e) L t nb s e := by
  unfold ln4
  refine ⟨⟨?_, ?_, ?_, ups_at _ _ _⟩, fun i hi _ => ?_⟩
  · rw [ups_ne (by omega), ups_ne (by omega), ups_ne (by omega), ups_at]
  · rw [ups_ne (by omega), ups_ne (by omega), ups_at]
  · rw [ups_ne (by omega), ups_at]
  · rw [ups_ne (by omega), ups_ne (by omega), ups_ne (by omega), ups_ne (by omega)]
theorem HL.nb {g g2 : Int → Int} {L t nb s e : Int} (h : HL g g2 L t nb s e) (x : Int) : HL g (ups g2 (1 + 4 * L + 1) x) L t x s e := by
  obtain ⟨⟨h1, h2, h3, h4⟩, h5⟩ := h
  refine ⟨⟨?_, ups_at _ _ _, ?_, ?_⟩, fun i hi hj => ?_⟩
  · rw [ups_ne (by omega)]; exact h1
  · rw [ups_ne (by omega)]; exact h3
  · rw [ups_ne (by omega)]; exact h4
  · rw [ups_ne (by omega)]; exact h5 i hi hj
section LINE
variable {S : xH} {m m' m0 : Nat → Int → Int} {q : Nat → Int → Int64} {b g g' g2 : Int → Int} {n B s s' B' L d t nb e : Int}
theorem RPs.w (h : RPs m b n B s g d) {k j : Int} (hk : k = 5080 + j) (x : Int) : RPs (up m 139 k x) b n B s (ups g j x) d := by
  obtain ⟨⟨p, R, e⟩, h1, h2, h3⟩ := h
  refine ⟨⟨p, ⟨(up_a (by decide)).trans R.1, (up_a (by decide)).trans R.2.1, R.2.2.1, fun j j0 j1 => by rw [up_a (by decide)]; exact R.2.2.2 j j0 j1⟩, e⟩, (up_a (by decide)).trans h1, (up_a (by decide)).trans h2, fun i i0 i1 => ?_⟩
  by_cases c : i = j
  · rw [c, ups_at, ← hk, up_at]
  · rw [ups_ne c, up_i (by omega)]
    exact h3 i i0 i1
theorem FrRe.w9 {k x : Int} (hk : 5080 ≤ k) : FrRe m (up m 139 k x) := fun c j _ a => if_neg (fun z => a ⟨z.1, by omega⟩)
/-- lines keep under a change behind them -/
theorem PLn.cg (h : PLn g L s) (L10 : L ≤ 10) (e1 : ∀ i, i < 1 + 4 * L → g' i = g i) (e2 : ∀ i, 41 ≤ i → i < 41 + 2 * s → g' i = g i) (ss : s ≤ s') (hv : ∀ i : Int, s ≤ i → i < s' → (0 ≤ g' (41 + 2 * i + 1) ∧ g' (41 + 2 * i + 1) ≤ 9999) ∧ (0 ≤ g' (41 + 2 * i) ∧ g' (41 + 2 * i) < 7 ∨ 100 ≤ g' (41 + 2 * i) ∧ g' (41 + 2 * i) < 105 ∨ 200 ≤ g' (41 + 2 * i) ∧ g' (41 + 2 * i) < 205 ∨ 300 ≤ g' (41 + 2 * i) ∧ g' (41 + 2 * i) ≤ 302)) : PLn g' L s' := by
  refine ⟨fun j j0 j1 => ?_, fun i i0 i1 => ?_⟩
  · obtain ⟨a1, a2, a3⟩ := h.1 j j0 j1
    rw [e1 (1 + 4 * j) (by omega), e1 (1 + 4 * j + 1) (by omega), e1 (1 + 4 * j + 2) (by omega), e1 (1 + 4 * j + 3) (by omega)]
    refine ⟨a1, by omega, fun z => ?_⟩
    rw [wfS_congr _ _ _ (fun k k0 k1 => e2 _ (by omega) (by omega))]
    exact a3 z
  · by_cases c : i < s
    · rw [e2 _ (by omega) (by omega), e2 _ (by omega) (by omega)]
      exact h.2 i i0 c
    · exact hv i (by omega) i1
/-- one line more -/
theorem PLn.add (h : PLn g L s) (L0 : 0 ≤ L) (L10 : L < 10) (s0 : 0 ≤ s) (H : HL g g2 L t nb s e) (t0 : 0 ≤ t) (t1 : t ≤ 3) (n0 : 0 ≤ nb) (n1 : nb ≤ 9999) (n2 : t = 2 → nb ≤ 100) (ss : s ≤ e) (es : e ≤ s') (hs' : e = s') (hv : ∀ i : Int, s ≤ i → i < s' → (0 ≤ g2 (41 + 2 * i + 1) ∧ g2 (41 + 2 * i + 1) ≤ 9999) ∧ (0 ≤ g2 (41 + 2 * i) ∧ g2 (41 + 2 * i) < 7 ∨ 100 ≤ g2 (41 + 2 * i) ∧ g2 (41 + 2 * i) < 105 ∨ 200 ≤ g2 (41 + 2 * i) ∧ g2 (41 + 2 * i) < 205 ∨ 300 ≤ g2 (41 + 2 * i) ∧ g2 (41 + 2 * i) ≤ 302)) (hw : s < e → wfS g2 s (e - s).toNat 0 = some 1) : PLn g2 (L + 1) s' := by
  have base := h.cg (g' := g2) (s' := s') (by omega) (fun i hi => H.2 i (by omega) (by omega)) (fun i a c => H.2 i (by omega) (by omega)) (by omega) hv
  refine ⟨fun j j0 j1 => ?_, base.2⟩
  by_cases c : j = L
  · obtain ⟨k1, k2, k3, k4⟩ := H.1
    rw [c, k1, k2, k3, k4]
    exact ⟨⟨t0, t1, n0, n1, n2⟩, ⟨s0, ss, es⟩, hw⟩
  · exact base.1 j j0 (by omega)
theorem q_addL (hs : Sk S) {kd nm : Int} (h3 : m 2 3 = L) (L0 : 0 ≤ L) (L1 : L < 10) (h5 : m 2 5 = s) : De (fun n => f_X5_addLine n 0 [.ref 2, .int (J kd), .int (J nm)] (hp S m q)) (.inl none) (hp S (up (up (up (up m 3 L kd) 4 L nm) 2 3 (L + 1)) 5 (L + 1) s) q) := by
  refine De.step ?_
  simp only [j_X5_addLine_0]
  simp (disch := omega) only [b_X5_addLine_0, x2_k hs, x2_r0 hs, x2_r1 hs, x2_r2 hs, x2_i3 hs, x2_w3 hs, x2_r4 hs, x2_i5 hs, x2_w5 hs, x2_r6 hs, x2_i7 hs, x2_w7 hs, x3_g hs, x3_s hs, x3_l hs, x4_g hs, x4_s hs, x4_l hs, x5_g hs, x5_s hs, x5_l hs, h5, h3, Option.bind_some, xI, xU, xUt, xIt, J_lit, J_add, J_sub, J_mul, J_neg, J_ltc, J_lec, J_eqc, lt_T, lt_F, le_T, le_F, eq_T, eq_F, ↓reduceIte, ite_not, not_true_eq_false, not_false_eq_true, true_or, or_true, false_or, or_false, true_and, and_true, false_and, and_false, up_get, Nat.reduceEqDiff, Int.reduceNeg, eqN_T, eqN_F]
  exact De.ret _ _
/-- the class adds a line -/
theorem c_addL (hs : Sk S) (h : CLs m b n B s g L) (L1 : L < 10) (H : HL g g2 L t nb s s) : ∃ m', De (fun n => f_X5_addLine n 0 [.ref 2, .int (J t), .int (J nb)] (hp S m q)) (.inl none) (hp S m' q) ∧ CLs m' b n B s g2 (L + 1) ∧ FrL m m' ∧ m' 1 3 = m 1 3 := by
  obtain ⟨⟨h1, h2, h3, ⟨h4, h5⟩, ⟨h6, h7, h8⟩, h9⟩, hz, hr⟩ := h
  have D := q_addL (q := q) (kd := t) (nm := nb) hs h4 h5.1 L1 h6
  have f : ∀ c j, c ≠ 3 → c ≠ 4 → ¬ (c = 2 ∧ j = 3) → ¬ (c = 5 ∧ j = L + 1) → up (up (up (up m 3 L t) 4 L nb) 2 3 (L + 1)) 5 (L + 1) s c j = m c j := fun c j a b d e => by rw [up_get, if_neg e, up_get, if_neg d, up_a b, up_a a]
  obtain ⟨⟨k1, k2, k3, k4⟩, k5⟩ := H
  refine ⟨_, D, ⟨⟨(f 1 2 (by decide) (by decide) (by decide) (by omega)).trans h1, (funext fun j => f 8 j (by decide) (by decide) (by omega) (by omega)).trans h2, ⟨(f 1 4 (by decide) (by decide) (by decide) (by omega)).trans h3.1, (f 1 5 (by decide) (by decide) (by decide) (by omega)).trans h3.2.1, (f 1 6 (by decide) (by decide) (by decide) (by omega)).trans h3.2.2.1, fun z => (f 1 7 (by decide) (by decide) (by decide) (by omega)).trans (h3.2.2.2 z)⟩, ⟨by rw [up_a (by decide), up_at], by omega, by omega⟩, ⟨(f 2 5 (by decide) (by decide) (by decide) (by omega)).trans h6, up_at _ _ _ _, h8⟩, fun i i0 i1 => ?_⟩, (f 5 0 (by decide) (by decide) (by decide) (by omega)).trans hz, fun j j0 j1 => ?_⟩, fun c j a b d e x y => f c j d e (fun z => b ⟨z.1, Or.inl z.2⟩) (fun z => x ⟨z.1, by omega⟩), f 1 3 (by decide) (by decide) (by decide) (by omega)⟩
  · rw [f 6 i (by decide) (by decide) (by omega) (by omega), k5 _ (by omega) (by omega), k5 _ (by omega) (by omega)]
    exact h9 i i0 i1
  · by_cases c : j = L
    · rw [c, k1, k2, k3, k4]
      refine ⟨?_, ?_, (f 5 L (by decide) (by decide) (by omega) (by omega)).trans h7, up_at _ _ _ _⟩
      · rw [up_a (by decide), up_a (by decide), up_a (by decide), up_at]
      · rw [up_a (by decide), up_a (by decide), up_at]
    · obtain ⟨a1, a2, a3, a4⟩ := hr j j0 (by omega)
      rw [k5 _ (by omega) (by omega), k5 _ (by omega) (by omega), k5 _ (by omega) (by omega), k5 _ (by omega) (by omega)]
      refine ⟨?_, ?_, (f 5 j (by decide) (by decide) (by omega) (by omega)).trans a3, (f 5 (j + 1) (by decide) (by decide) (by omega) (by omega)).trans a4⟩
      · rw [up_a (by decide), up_a (by decide), up_a (by decide), up_i c]
        exact a1
      · rw [up_a (by decide), up_a (by decide), up_i c]
        exact a2
/-- the class's line behind its number -/
theorem c_l73 (hs : Sk S) (hB : Bok b n B) (h : CLs m b n B s g L) (L1 : L < 10) (H : HL g g2 L t nb s s) (t0 : 0 ≤ t) (t1 : t ≤ 3) (c : t = 2 ∨ tok b n B ≠ 4) : ∃ m', CLs m' b n B s g2 (L + 1) ∧ FrL m m' ∧ m' 1 3 = m 1 3 ∧ ∀ {R : xR} {P : xH}, De (fun k => f_X3_readLine k 109 [.ref 1, .int (J t), .int (J nb)] (hp S m' q)) R P → De (fun k => f_X3_readLine k 73 [.ref 1, .int (J t), .int (J nb)] (hp S m q)) R P := by
  obtain ⟨m', D, C, F, w⟩ := c_addL (q := q) hs h L1 H
  have tk := C.1.tk
  have tr := tok_rng hB
  refine ⟨m', C, F, w, fun E => ?_⟩
  refine De.step ?_
  simp only [j_X3_readLine_73]
  simp (disch := omega) only [b_X3_readLine_73, x1_k hs, x1_r0 hs, x1_r1 hs, x1_i2 hs, x1_w2 hs, x1_i3 hs, x1_w3 hs, x1_i4 hs, x1_w4 hs, x1_i5 hs, x1_w5 hs, x1_i6 hs, x1_w6 hs, x1_i7 hs, x1_w7 hs, x2_k hs, x2_r0 hs, x2_r1 hs, x2_r2 hs, x2_i3 hs, x2_w3 hs, x2_r4 hs, x2_i5 hs, x2_w5 hs, x2_r6 hs, x2_i7 hs, x2_w7 hs, Option.bind_some]
  refine De.call D ?_
  by_cases z : t = 2
  · simp (disch := omega) only [Option.bind_some, xI, xU, xUt, xIt, J_lit, J_add, J_sub, J_mul, J_neg, J_ltc, J_lec, J_eqc, lt_T, lt_F, le_T, le_F, eq_T, eq_F, ↓reduceIte, ite_not, not_true_eq_false, not_false_eq_true, true_or, or_true, false_or, or_false, true_and, and_true, false_and, and_false, up_get, Nat.reduceEqDiff, Int.reduceNeg, eqN_T, eqN_F]
    exact E
  · have c2 : tok b n B ≠ 4 := by omega
    simp (disch := omega) only [x1_k hs, x1_r0 hs, x1_r1 hs, x1_i2 hs, x1_w2 hs, x1_i3 hs, x1_w3 hs, x1_i4 hs, x1_w4 hs, x1_i5 hs, x1_w5 hs, x1_i6 hs, x1_w6 hs, x1_i7 hs, x1_w7 hs, tk.1, Option.bind_some, xI, xU, xUt, xIt, J_lit, J_add, J_sub, J_mul, J_neg, J_ltc, J_lec, J_eqc, lt_T, lt_F, le_T, le_F, eq_T, eq_F, ↓reduceIte, ite_not, not_true_eq_false, not_false_eq_true, true_or, or_true, false_or, or_false, true_and, and_true, false_and, and_false, up_get, Nat.reduceEqDiff, Int.reduceNeg, eqN_T, eqN_F]
    exact E
/-- with a condition -/
theorem c_l73i (hs : Sk S) (hB : Bok b n B) (h : CLs m b n B s g L) (L1 : L < 10) (H : HL g g2 L t nb s s) (t0 : 0 ≤ t) (t1 : t ≤ 3) (t2 : t ≠ 2) (c : tok b n B = 4) {ok : Bool} {B4 s4 : Int} {g4 : Int → Int} (y4 : ok = true → s < s4 ∧ ∀ i, i < 41 + 2 * s → g4 i = g2 i) (CL : ∀ (S : xH) (m : Nat → Int → Int) (q : Nat → Int → Int64) (L : Int), Sk S → CPs m b n (nxB b n B) s g2 L → ∃ m', De (fun k => F_X3_readEither k 30 0 [.ref 1, .int (J 0)] (hp S m q)) (.inl (some (.int (J (bI ok))))) (hp S m' q) ∧ CRes m m' b n L ok B4 s4 g4) : ∃ m', FrL m m' ∧ (ok = false → De (fun k => f_X3_readLine k 73 [.ref 1, .int (J t), .int (J nb)] (hp S m q)) (.inl (some (.int (J 0)))) (hp S m' q) ∧ m' 1 3 = B4) ∧ (ok = true → CLs m' b n B4 s4 (ups g4 (1 + 4 * L + 3) s4) (L + 1) ∧ m' 1 3 = m 1 3 ∧ ∀ {R : xR} {P : xH}, De (fun k => f_X3_readLine k 109 [.ref 1, .int (J t), .int (J nb)] (hp S m' q)) R P → De (fun k => f_X3_readLine k 73 [.ref 1, .int (J t), .int (J nb)] (hp S m q)) R P) := by
  obtain ⟨m1, D1, C1, F1, w1⟩ := c_addL (q := q) hs h L1 H
  have tk1 := C1.1.tk
  have lt := tok_lt (show tok b n B ≠ 21 by omega)
  have L0 := h.1.2.2.2.1.2.1
  obtain ⟨m2, D2, C2, F2⟩ := c_next (q := q) hs hB C1.1 lt
  obtain ⟨m3, D3, F3, t3, f3⟩ := CL S m2 q (L + 1) hs C2
  have FF : FrL m m3 := F1.tr (F2.l.tr (F3.l (by omega)))
  have D3' : De (fun k => f_X3_readEither k 0 [.ref 1, .int (J 0)] (hp S m2 q)) (.inl (some (.int (J (bI ok))))) (hp S m3 q) := D3
  refine ⟨m3, FF, fun z => ?_, fun z => ?_⟩
  · subst z
    refine ⟨?_, (f3 rfl).1⟩
    refine De.step ?_
    simp only [j_X3_readLine_73]
    simp (disch := omega) only [b_X3_readLine_73, x1_k hs, x1_r0 hs, x1_r1 hs, x1_i2 hs, x1_w2 hs, x1_i3 hs, x1_w3 hs, x1_i4 hs, x1_w4 hs, x1_i5 hs, x1_w5 hs, x1_i6 hs, x1_w6 hs, x1_i7 hs, x1_w7 hs, x2_k hs, x2_r0 hs, x2_r1 hs, x2_r2 hs, x2_i3 hs, x2_w3 hs, x2_r4 hs, x2_i5 hs, x2_w5 hs, x2_r6 hs, x2_i7 hs, x2_w7 hs, Option.bind_some]
    refine De.call D1 ?_
    simp (disch := omega) only [x1_k hs, x1_r0 hs, x1_r1 hs, x1_i2 hs, x1_w2 hs, x1_i3 hs, x1_w3 hs, x1_i4 hs, x1_w4 hs, x1_i5 hs, x1_w5 hs, x1_i6 hs, x1_w6 hs, x1_i7 hs, x1_w7 hs, tk1.1, c, Option.bind_some, xI, xU, xUt, xIt, J_lit, J_add, J_sub, J_mul, J_neg, J_ltc, J_lec, J_eqc, lt_T, lt_F, le_T, le_F, eq_T, eq_F, ↓reduceIte, ite_not, not_true_eq_false, not_false_eq_true, true_or, or_true, false_or, or_false, true_and, and_true, false_and, and_false, up_get, Nat.reduceEqDiff, Int.reduceNeg, eqN_T, eqN_F]
    refine De.call D2 ?_
    simp (disch := omega) only [x1_k hs, x1_r0 hs, x1_r1 hs, x1_i2 hs, x1_w2 hs, x1_i3 hs, x1_w3 hs, x1_i4 hs, x1_w4 hs, x1_i5 hs, x1_w5 hs, x1_i6 hs, x1_w6 hs, x1_i7 hs, x1_w7 hs, Option.bind_some, xI, xU, xUt, xIt, J_lit, J_add, J_sub, J_mul, J_neg, J_ltc, J_lec, J_eqc, lt_T, lt_F, le_T, le_F, eq_T, eq_F, ↓reduceIte, ite_not, not_true_eq_false, not_false_eq_true, true_or, or_true, false_or, or_false, true_and, and_true, false_and, and_false, up_get, Nat.reduceEqDiff, Int.reduceNeg, eqN_T, eqN_F]
    refine De.call D3' ?_
    simp (disch := omega) only [bI_f, Option.bind_some, xI, xU, xUt, xIt, J_lit, J_add, J_sub, J_mul, J_neg, J_ltc, J_lec, J_eqc, lt_T, lt_F, le_T, le_F, eq_T, eq_F, ↓reduceIte, ite_not, not_true_eq_false, not_false_eq_true, true_or, or_true, false_or, or_false, true_and, and_true, false_and, and_false, up_get, Nat.reduceEqDiff, Int.reduceNeg, eqN_T, eqN_F]
    exact De.ret _ _
  · subst z
    obtain ⟨C3, w3⟩ := t3 rfl
    obtain ⟨s4s, y5⟩ := y4 rfl
    obtain ⟨⟨k1, k2, k3, k4⟩, k5⟩ := H
    have s00 : 0 ≤ s := h.1.2.2.2.2.1.2.2.1
    have r3 : ∀ c j, (c = 3 ∨ c = 4 ∨ (c = 5 ∧ j ≠ L + 1)) → m3 c j = m1 c j := fun c j hc => (F3 c j (by omega) (by omega) (by omega) (by omega)).trans (F2 c j (by omega))
    refine ⟨⟨⟨C3.1, C3.2.1, C3.2.2.1, C3.2.2.2.1, C3.2.2.2.2.1, fun i i0 i1 => ?_⟩, (r3 5 0 (by omega)).trans C1.2.1, fun j j0 j1 => ?_⟩, w3.trans ((F2 1 3 (by omega)).trans w1), fun E => ?_⟩
    · rw [ups_ne (by omega), ups_ne (by omega)]
      exact C3.2.2.2.2.2 i i0 i1
    · obtain ⟨a1, a2, a3, a4⟩ := C1.2.2 j j0 j1
      rw [r3 3 j (by omega), r3 4 j (by omega), r3 5 j (by omega), a1, a2, a3, ups_ne (by omega), ups_ne (by omega), ups_ne (by omega), y5 _ (by omega), y5 _ (by omega), y5 _ (by omega)]
      refine ⟨rfl, rfl, rfl, ?_⟩
      by_cases z : j = L
      · rw [z, ups_at]
        exact C3.2.2.2.2.1.2.1
      · rw [ups_ne (by omega), y5 _ (by omega), r3 5 (j + 1) (by omega)]
        exact a4
    · refine De.step ?_
      simp only [j_X3_readLine_73]
      simp (disch := omega) only [b_X3_readLine_73, x1_k hs, x1_r0 hs, x1_r1 hs, x1_i2 hs, x1_w2 hs, x1_i3 hs, x1_w3 hs, x1_i4 hs, x1_w4 hs, x1_i5 hs, x1_w5 hs, x1_i6 hs, x1_w6 hs, x1_i7 hs, x1_w7 hs, x2_k hs, x2_r0 hs, x2_r1 hs, x2_r2 hs, x2_i3 hs, x2_w3 hs, x2_r4 hs, x2_i5 hs, x2_w5 hs, x2_r6 hs, x2_i7 hs, x2_w7 hs, Option.bind_some]
      refine De.call D1 ?_
      simp (disch := omega) only [x1_k hs, x1_r0 hs, x1_r1 hs, x1_i2 hs, x1_w2 hs, x1_i3 hs, x1_w3 hs, x1_i4 hs, x1_w4 hs, x1_i5 hs, x1_w5 hs, x1_i6 hs, x1_w6 hs, x1_i7 hs, x1_w7 hs, tk1.1, c, Option.bind_some, xI, xU, xUt, xIt, J_lit, J_add, J_sub, J_mul, J_neg, J_ltc, J_lec, J_eqc, lt_T, lt_F, le_T, le_F, eq_T, eq_F, ↓reduceIte, ite_not, not_true_eq_false, not_false_eq_true, true_or, or_true, false_or, or_false, true_and, and_true, false_and, and_false, up_get, Nat.reduceEqDiff, Int.reduceNeg, eqN_T, eqN_F]
      refine De.call D2 ?_
      simp (disch := omega) only [x1_k hs, x1_r0 hs, x1_r1 hs, x1_i2 hs, x1_w2 hs, x1_i3 hs, x1_w3 hs, x1_i4 hs, x1_w4 hs, x1_i5 hs, x1_w5 hs, x1_i6 hs, x1_w6 hs, x1_i7 hs, x1_w7 hs, Option.bind_some, xI, xU, xUt, xIt, J_lit, J_add, J_sub, J_mul, J_neg, J_ltc, J_lec, J_eqc, lt_T, lt_F, le_T, le_F, eq_T, eq_F, ↓reduceIte, ite_not, not_true_eq_false, not_false_eq_true, true_or, or_true, false_or, or_false, true_and, and_true, false_and, and_false, up_get, Nat.reduceEqDiff, Int.reduceNeg, eqN_T, eqN_F]
      refine De.call D3' ?_
      simp (disch := omega) only [bI_t, Option.bind_some, xI, xU, xUt, xIt, J_lit, J_add, J_sub, J_mul, J_neg, J_ltc, J_lec, J_eqc, lt_T, lt_F, le_T, le_F, eq_T, eq_F, ↓reduceIte, ite_not, not_true_eq_false, not_false_eq_true, true_or, or_true, false_or, or_false, true_and, and_true, false_and, and_false, up_get, Nat.reduceEqDiff, Int.reduceNeg, eqN_T, eqN_F]
      exact E
/-- the reference's line from its if on -/
theorem r_l165 (hs : Sk S) (hB : Bok b n B) (h : RPs m b n B s g d) (t0 : 0 ≤ t) (t1 : t ≤ 3) (c : t = 2 ∨ tok b n B ≠ 4) {a1 a2 : Int32} : ∃ m', De (fun k => f_X11_readLine k 165 [.ref 136, .int a1, .int a2, .int (J t)] (hp S m q)) (.inl (some (.int (J 1)))) (hp S m' q) ∧ RPs m' b n B s g d ∧ FrRe m m' := by
  by_cases z : t = 2
  · refine ⟨m, ?_, h, fun _ _ _ _ => rfl⟩
    refine De.step ?_
    simp only [j_X11_readLine_165]
    simp (disch := omega) only [b_X11_readLine_165, Option.bind_some, xI, xU, xUt, xIt, J_lit, J_add, J_sub, J_mul, J_neg, J_ltc, J_lec, J_eqc, lt_T, lt_F, le_T, le_F, eq_T, eq_F, ↓reduceIte, ite_not, not_true_eq_false, not_false_eq_true, true_or, or_true, false_or, or_false, true_and, and_true, false_and, and_false, up_get, Nat.reduceEqDiff, Int.reduceNeg, eqN_T, eqN_F]
    exact De.ret _ _
  · have c2 : tok b n B ≠ 4 := by omega
    obtain ⟨m1, D1, RP1, B1, F1⟩ := r_passes (q := q) (t := 10 + 1) hs hB h 4 (by decide) rfl
    rw [if_neg (show ¬ tok b n B = ((4 : Nat) : Int) by omega)] at D1 RP1
    refine ⟨m1, ?_, RP1, F1.r⟩
    refine De.step ?_
    simp only [j_X11_readLine_165]
    simp (disch := omega) only [b_X11_readLine_165, x136_k hs, x136_i0 hs, x136_w0 hs, x136_r1 hs, x136_r2 hs, x136_r3 hs, x136_r4 hs, x136_i5 hs, x136_w5 hs, x136_i6 hs, x136_w6 hs, x136_i7 hs, x136_w7 hs, x136_r8 hs, x136_i9 hs, x136_w9 hs, x136_i10 hs, x136_w10 hs, x136_i11 hs, x136_w11 hs, x136_i12 hs, x136_w12 hs, x136_i13 hs, x136_w13 hs, x136_i14 hs, x136_w14 hs, x136_r15 hs, x136_i16 hs, x136_w16 hs, x136_r17 hs, x136_r18 hs, x136_r19 hs, x136_r20 hs, x136_r21 hs, x136_i22 hs, x136_w22 hs, x136_r23 hs, x136_r24 hs, x136_i25 hs, x136_w25 hs, x136_i26 hs, x136_w26 hs, x136_r27 hs, x136_r28 hs, x136_i29 hs, x136_w29 hs, Option.bind_some, xI, xU, xUt, xIt, J_lit, J_add, J_sub, J_mul, J_neg, J_ltc, J_lec, J_eqc, lt_T, lt_F, le_T, le_F, eq_T, eq_F, ↓reduceIte, ite_not, not_true_eq_false, not_false_eq_true, true_or, or_true, false_or, or_false, true_and, and_true, false_and, and_false, up_get, Nat.reduceEqDiff, Int.reduceNeg, eqN_T, eqN_F]
    refine De.call D1 ?_
    simp (disch := omega) only [Option.bind_some, xI, xU, xUt, xIt, J_lit, J_add, J_sub, J_mul, J_neg, J_ltc, J_lec, J_eqc, lt_T, lt_F, le_T, le_F, eq_T, eq_F, ↓reduceIte, ite_not, not_true_eq_false, not_false_eq_true, true_or, or_true, false_or, or_false, true_and, and_true, false_and, and_false, up_get, Nat.reduceEqDiff, Int.reduceNeg, eqN_T, eqN_F]
    exact De.ret _ _
theorem r_l165i (hs : Sk S) (hB : Bok b n B) (h : RPs m b n B s g2 d) (t0 : 0 ≤ t) (t1 : t ≤ 3) (t2 : t ≠ 2) (c : tok b n B = 4) (L0 : 0 ≤ L) (L1 : L < 10) {ok : Bool} {B4 s4 : Int} {g4 : Int → Int} (RE : ∀ (S : xH) (m : Nat → Int → Int) (q : Nat → Int → Int64), Sk S → RPs m b n (nxB b n B) s g2 0 → ∃ m', De (fun k => F_X11_readCond k 30 0 [.ref 136] (hp S m q)) (.inl (some (.int (J (bI ok))))) (hp S m' q) ∧ RRes m m' b n 0 ok B4 s4 g4) {a1 : Int32} : ∃ m', De (fun k => f_X11_readLine k 165 [.ref 136, .int a1, .int (J (5080 + (1 + 4 * L))), .int (J t)] (hp S m q)) (.inl (some (.int (J (bI ok))))) (hp S m' q) ∧ FrRe m m' ∧ (ok = true → RPs m' b n B4 s4 (ups g4 (1 + 4 * L + 3) s4) 0) ∧ (ok = false → m' 136 12 = B4) := by
  obtain ⟨m1, D1, RP1, B1, F1⟩ := r_passes (q := q) (t := 10 + 1) hs hB h 4 (by decide) rfl
  rw [if_pos (show tok b n B = ((4 : Nat) : Int) by omega)] at D1 RP1
  obtain ⟨m2, D2, F2, t3, f3⟩ := RE S _ q hs (RP1.dp 0)
  have D2' : De (fun k => f_X11_readCond k 0 [.ref 136] (hp S (up m1 136 13 0) q)) (.inl (some (.int (J (bI ok))))) (hp S m2 q) := D2
  cases ok with
  | false =>
    refine ⟨m2, ?_, F1.r.tr (FrRe.u13.tr F2), fun z => absurd z (by decide), fun _ => f3 rfl⟩
    refine De.step ?_
    simp only [j_X11_readLine_165]
    simp (disch := omega) only [b_X11_readLine_165, x136_k hs, x136_i0 hs, x136_w0 hs, x136_r1 hs, x136_r2 hs, x136_r3 hs, x136_r4 hs, x136_i5 hs, x136_w5 hs, x136_i6 hs, x136_w6 hs, x136_i7 hs, x136_w7 hs, x136_r8 hs, x136_i9 hs, x136_w9 hs, x136_i10 hs, x136_w10 hs, x136_i11 hs, x136_w11 hs, x136_i12 hs, x136_w12 hs, x136_i13 hs, x136_w13 hs, x136_i14 hs, x136_w14 hs, x136_r15 hs, x136_i16 hs, x136_w16 hs, x136_r17 hs, x136_r18 hs, x136_r19 hs, x136_r20 hs, x136_r21 hs, x136_i22 hs, x136_w22 hs, x136_r23 hs, x136_r24 hs, x136_i25 hs, x136_w25 hs, x136_i26 hs, x136_w26 hs, x136_r27 hs, x136_r28 hs, x136_i29 hs, x136_w29 hs, Option.bind_some, xI, xU, xUt, xIt, J_lit, J_add, J_sub, J_mul, J_neg, J_ltc, J_lec, J_eqc, lt_T, lt_F, le_T, le_F, eq_T, eq_F, ↓reduceIte, ite_not, not_true_eq_false, not_false_eq_true, true_or, or_true, false_or, or_false, true_and, and_true, false_and, and_false, up_get, Nat.reduceEqDiff, Int.reduceNeg, eqN_T, eqN_F]
    refine De.call D1 ?_
    simp (disch := omega) only [x136_k hs, x136_i0 hs, x136_w0 hs, x136_r1 hs, x136_r2 hs, x136_r3 hs, x136_r4 hs, x136_i5 hs, x136_w5 hs, x136_i6 hs, x136_w6 hs, x136_i7 hs, x136_w7 hs, x136_r8 hs, x136_i9 hs, x136_w9 hs, x136_i10 hs, x136_w10 hs, x136_i11 hs, x136_w11 hs, x136_i12 hs, x136_w12 hs, x136_i13 hs, x136_w13 hs, x136_i14 hs, x136_w14 hs, x136_r15 hs, x136_i16 hs, x136_w16 hs, x136_r17 hs, x136_r18 hs, x136_r19 hs, x136_r20 hs, x136_r21 hs, x136_i22 hs, x136_w22 hs, x136_r23 hs, x136_r24 hs, x136_i25 hs, x136_w25 hs, x136_i26 hs, x136_w26 hs, x136_r27 hs, x136_r28 hs, x136_i29 hs, x136_w29 hs, Option.bind_some, xI, xU, xUt, xIt, J_lit, J_add, J_sub, J_mul, J_neg, J_ltc, J_lec, J_eqc, lt_T, lt_F, le_T, le_F, eq_T, eq_F, ↓reduceIte, ite_not, not_true_eq_false, not_false_eq_true, true_or, or_true, false_or, or_false, true_and, and_true, false_and, and_false, up_get, Nat.reduceEqDiff, Int.reduceNeg, eqN_T, eqN_F]
    refine De.call D2' ?_
    simp (disch := omega) only [bI_f, Option.bind_some, xI, xU, xUt, xIt, J_lit, J_add, J_sub, J_mul, J_neg, J_ltc, J_lec, J_eqc, lt_T, lt_F, le_T, le_F, eq_T, eq_F, ↓reduceIte, ite_not, not_true_eq_false, not_false_eq_true, true_or, or_true, false_or, or_false, true_and, and_true, false_and, and_false, up_get, Nat.reduceEqDiff, Int.reduceNeg, eqN_T, eqN_F]
    exact De.ret _ _
  | true =>
    have RP2 := t3 rfl
    have k16 : m2 136 16 = s4 := RP2.2.2.1
    refine ⟨up m2 139 (5080 + (1 + 4 * L) + 3) s4, ?_, F1.r.tr (FrRe.u13.tr (F2.tr (FrRe.w9 (by omega)))), fun _ => RP2.w (by omega) s4, fun z => absurd z (by decide)⟩
    refine De.step ?_
    simp only [j_X11_readLine_165]
    simp (disch := omega) only [b_X11_readLine_165, x136_k hs, x136_i0 hs, x136_w0 hs, x136_r1 hs, x136_r2 hs, x136_r3 hs, x136_r4 hs, x136_i5 hs, x136_w5 hs, x136_i6 hs, x136_w6 hs, x136_i7 hs, x136_w7 hs, x136_r8 hs, x136_i9 hs, x136_w9 hs, x136_i10 hs, x136_w10 hs, x136_i11 hs, x136_w11 hs, x136_i12 hs, x136_w12 hs, x136_i13 hs, x136_w13 hs, x136_i14 hs, x136_w14 hs, x136_r15 hs, x136_i16 hs, x136_w16 hs, x136_r17 hs, x136_r18 hs, x136_r19 hs, x136_r20 hs, x136_r21 hs, x136_i22 hs, x136_w22 hs, x136_r23 hs, x136_r24 hs, x136_i25 hs, x136_w25 hs, x136_i26 hs, x136_w26 hs, x136_r27 hs, x136_r28 hs, x136_i29 hs, x136_w29 hs, Option.bind_some, xI, xU, xUt, xIt, J_lit, J_add, J_sub, J_mul, J_neg, J_ltc, J_lec, J_eqc, lt_T, lt_F, le_T, le_F, eq_T, eq_F, ↓reduceIte, ite_not, not_true_eq_false, not_false_eq_true, true_or, or_true, false_or, or_false, true_and, and_true, false_and, and_false, up_get, Nat.reduceEqDiff, Int.reduceNeg, eqN_T, eqN_F]
    refine De.call D1 ?_
    simp (disch := omega) only [x136_k hs, x136_i0 hs, x136_w0 hs, x136_r1 hs, x136_r2 hs, x136_r3 hs, x136_r4 hs, x136_i5 hs, x136_w5 hs, x136_i6 hs, x136_w6 hs, x136_i7 hs, x136_w7 hs, x136_r8 hs, x136_i9 hs, x136_w9 hs, x136_i10 hs, x136_w10 hs, x136_i11 hs, x136_w11 hs, x136_i12 hs, x136_w12 hs, x136_i13 hs, x136_w13 hs, x136_i14 hs, x136_w14 hs, x136_r15 hs, x136_i16 hs, x136_w16 hs, x136_r17 hs, x136_r18 hs, x136_r19 hs, x136_r20 hs, x136_r21 hs, x136_i22 hs, x136_w22 hs, x136_r23 hs, x136_r24 hs, x136_i25 hs, x136_w25 hs, x136_i26 hs, x136_w26 hs, x136_r27 hs, x136_r28 hs, x136_i29 hs, x136_w29 hs, Option.bind_some, xI, xU, xUt, xIt, J_lit, J_add, J_sub, J_mul, J_neg, J_ltc, J_lec, J_eqc, lt_T, lt_F, le_T, le_F, eq_T, eq_F, ↓reduceIte, ite_not, not_true_eq_false, not_false_eq_true, true_or, or_true, false_or, or_false, true_and, and_true, false_and, and_false, up_get, Nat.reduceEqDiff, Int.reduceNeg, eqN_T, eqN_F]
    refine De.call D2' ?_
    simp (disch := omega) only [bI_t, x136_k hs, x136_i0 hs, x136_w0 hs, x136_r1 hs, x136_r2 hs, x136_r3 hs, x136_r4 hs, x136_i5 hs, x136_w5 hs, x136_i6 hs, x136_w6 hs, x136_i7 hs, x136_w7 hs, x136_r8 hs, x136_i9 hs, x136_w9 hs, x136_i10 hs, x136_w10 hs, x136_i11 hs, x136_w11 hs, x136_i12 hs, x136_w12 hs, x136_i13 hs, x136_w13 hs, x136_i14 hs, x136_w14 hs, x136_r15 hs, x136_i16 hs, x136_w16 hs, x136_r17 hs, x136_r18 hs, x136_r19 hs, x136_r20 hs, x136_r21 hs, x136_i22 hs, x136_w22 hs, x136_r23 hs, x136_r24 hs, x136_i25 hs, x136_w25 hs, x136_i26 hs, x136_w26 hs, x136_r27 hs, x136_r28 hs, x136_i29 hs, x136_w29 hs, x139_g hs, x139_s hs, x139_l hs, k16, Option.bind_some, xI, xU, xUt, xIt, J_lit, J_add, J_sub, J_mul, J_neg, J_ltc, J_lec, J_eqc, lt_T, lt_F, le_T, le_F, eq_T, eq_F, ↓reduceIte, ite_not, not_true_eq_false, not_false_eq_true, true_or, or_true, false_or, or_false, true_and, and_true, false_and, and_false, up_get, Nat.reduceEqDiff, Int.reduceNeg, eqN_T, eqN_F]
    exact De.ret _ _
/-- the reference's line up to the kind -/
theorem r_l0 (hs : Sk S) (hB : Bok b n B) (h : RPs m b n B s g d) (L0 : 0 ≤ L) (L1 : L < 10) : ∃ m1, Rp m1 b n (rn b n 97 122 B) ∧ m1 136 12 = B ∧ Fr2 m m1 ∧ ∀ {R : xR} {P : xH}, De (fun k => f_X11_readLine k 71 [.ref 136, .int (J L), .int (J (5080 + (1 + 4 * L))), .int (J (if tok b n B ≤ 3 then tok b n B else -1))] (hp S m1 q)) R P → De (fun k => f_X11_readLine k 0 [.ref 136, .int (J L)] (hp S m q)) R P := by
  have tr := tok_rng hB
  obtain ⟨m1, D1, R1, B1, F1⟩ := r_letters (q := q) hs hB h
  have DL := d_lineAt 1 L (hp S m1 q)
  rw [show 4239 + 841 * 1 + 1 + 4 * L = 5080 + (1 + 4 * L) by omega] at DL
  refine ⟨m1, R1, B1, F1, fun D => ?_⟩
  refine De.step ?_
  simp only [j_X11_readLine_0]
  simp (disch := omega) only [b_X11_readLine_0, x136_k hs, x136_i0 hs, x136_w0 hs, x136_r1 hs, x136_r2 hs, x136_r3 hs, x136_r4 hs, x136_i5 hs, x136_w5 hs, x136_i6 hs, x136_w6 hs, x136_i7 hs, x136_w7 hs, x136_r8 hs, x136_i9 hs, x136_w9 hs, x136_i10 hs, x136_w10 hs, x136_i11 hs, x136_w11 hs, x136_i12 hs, x136_w12 hs, x136_i13 hs, x136_w13 hs, x136_i14 hs, x136_w14 hs, x136_r15 hs, x136_i16 hs, x136_w16 hs, x136_r17 hs, x136_r18 hs, x136_r19 hs, x136_r20 hs, x136_r21 hs, x136_i22 hs, x136_w22 hs, x136_r23 hs, x136_r24 hs, x136_i25 hs, x136_w25 hs, x136_i26 hs, x136_w26 hs, x136_r27 hs, x136_r28 hs, x136_i29 hs, x136_w29 hs, Option.bind_some]
  refine De.call D1 ?_
  simp (disch := omega) only [x136_k hs, x136_i0 hs, x136_w0 hs, x136_r1 hs, x136_r2 hs, x136_r3 hs, x136_r4 hs, x136_i5 hs, x136_w5 hs, x136_i6 hs, x136_w6 hs, x136_i7 hs, x136_w7 hs, x136_r8 hs, x136_i9 hs, x136_w9 hs, x136_i10 hs, x136_w10 hs, x136_i11 hs, x136_w11 hs, x136_i12 hs, x136_w12 hs, x136_i13 hs, x136_w13 hs, x136_i14 hs, x136_w14 hs, x136_r15 hs, x136_i16 hs, x136_w16 hs, x136_r17 hs, x136_r18 hs, x136_r19 hs, x136_r20 hs, x136_r21 hs, x136_i22 hs, x136_w22 hs, x136_r23 hs, x136_r24 hs, x136_i25 hs, x136_w25 hs, x136_i26 hs, x136_w26 hs, x136_r27 hs, x136_r28 hs, x136_i29 hs, x136_w29 hs, Option.bind_some, xI, xU, xUt, xIt, J_lit, J_add, J_sub, J_mul, J_neg, J_ltc, J_lec, J_eqc, lt_T, lt_F, le_T, le_F, eq_T, eq_F, ↓reduceIte, ite_not, not_true_eq_false, not_false_eq_true, true_or, or_true, false_or, or_false, true_and, and_true, false_and, and_false, up_get, Nat.reduceEqDiff, Int.reduceNeg, eqN_T, eqN_F]
  refine De.call DL ?_
  simp (disch := omega) only [x136_k hs, x136_i0 hs, x136_w0 hs, x136_r1 hs, x136_r2 hs, x136_r3 hs, x136_r4 hs, x136_i5 hs, x136_w5 hs, x136_i6 hs, x136_w6 hs, x136_i7 hs, x136_w7 hs, x136_r8 hs, x136_i9 hs, x136_w9 hs, x136_i10 hs, x136_w10 hs, x136_i11 hs, x136_w11 hs, x136_i12 hs, x136_w12 hs, x136_i13 hs, x136_w13 hs, x136_i14 hs, x136_w14 hs, x136_r15 hs, x136_i16 hs, x136_w16 hs, x136_r17 hs, x136_r18 hs, x136_r19 hs, x136_r20 hs, x136_r21 hs, x136_i22 hs, x136_w22 hs, x136_r23 hs, x136_r24 hs, x136_i25 hs, x136_w25 hs, x136_i26 hs, x136_w26 hs, x136_r27 hs, x136_r28 hs, x136_i29 hs, x136_w29 hs, Option.bind_some, xI, xU, xUt, xIt, J_lit, J_add, J_sub, J_mul, J_neg, J_ltc, J_lec, J_eqc, lt_T, lt_F, le_T, le_F, eq_T, eq_F, ↓reduceIte, ite_not, not_true_eq_false, not_false_eq_true, true_or, or_true, false_or, or_false, true_and, and_true, false_and, and_false, up_get, Nat.reduceEqDiff, Int.reduceNeg, eqN_T, eqN_F]
  by_cases c0 : tok b n B = 0
  · rw [if_pos (by omega), c0] at D
    refine De.call (r_isY hs hB R1 B1 0 (by decide) (by omega) rfl) ?_
    simp (disch := omega) only [Option.bind_some, xI, xU, xUt, xIt, J_lit, J_add, J_sub, J_mul, J_neg, J_ltc, J_lec, J_eqc, lt_T, lt_F, le_T, le_F, eq_T, eq_F, ↓reduceIte, ite_not, not_true_eq_false, not_false_eq_true, true_or, or_true, false_or, or_false, true_and, and_true, false_and, and_false, up_get, Nat.reduceEqDiff, Int.reduceNeg, eqN_T, eqN_F]
    exact D
  · by_cases c1 : tok b n B = 1
    · rw [if_pos (by omega), c1] at D
      refine De.call (r_isN hs hB R1 B1 0 (by decide) (by omega) rfl) ?_
      simp (disch := omega) only [x136_k hs, x136_i0 hs, x136_w0 hs, x136_r1 hs, x136_r2 hs, x136_r3 hs, x136_r4 hs, x136_i5 hs, x136_w5 hs, x136_i6 hs, x136_w6 hs, x136_i7 hs, x136_w7 hs, x136_r8 hs, x136_i9 hs, x136_w9 hs, x136_i10 hs, x136_w10 hs, x136_i11 hs, x136_w11 hs, x136_i12 hs, x136_w12 hs, x136_i13 hs, x136_w13 hs, x136_i14 hs, x136_w14 hs, x136_r15 hs, x136_i16 hs, x136_w16 hs, x136_r17 hs, x136_r18 hs, x136_r19 hs, x136_r20 hs, x136_r21 hs, x136_i22 hs, x136_w22 hs, x136_r23 hs, x136_r24 hs, x136_i25 hs, x136_w25 hs, x136_i26 hs, x136_w26 hs, x136_r27 hs, x136_r28 hs, x136_i29 hs, x136_w29 hs, Option.bind_some, xI, xU, xUt, xIt, J_lit, J_add, J_sub, J_mul, J_neg, J_ltc, J_lec, J_eqc, lt_T, lt_F, le_T, le_F, eq_T, eq_F, ↓reduceIte, ite_not, not_true_eq_false, not_false_eq_true, true_or, or_true, false_or, or_false, true_and, and_true, false_and, and_false, up_get, Nat.reduceEqDiff, Int.reduceNeg, eqN_T, eqN_F]
      refine De.call (r_isY hs hB R1 B1 1 (by decide) (by omega) rfl) ?_
      simp (disch := omega) only [Option.bind_some, xI, xU, xUt, xIt, J_lit, J_add, J_sub, J_mul, J_neg, J_ltc, J_lec, J_eqc, lt_T, lt_F, le_T, le_F, eq_T, eq_F, ↓reduceIte, ite_not, not_true_eq_false, not_false_eq_true, true_or, or_true, false_or, or_false, true_and, and_true, false_and, and_false, up_get, Nat.reduceEqDiff, Int.reduceNeg, eqN_T, eqN_F]
      exact D
    · by_cases c2 : tok b n B = 2
      · rw [if_pos (by omega), c2] at D
        refine De.call (r_isN hs hB R1 B1 0 (by decide) (by omega) rfl) ?_
        simp (disch := omega) only [x136_k hs, x136_i0 hs, x136_w0 hs, x136_r1 hs, x136_r2 hs, x136_r3 hs, x136_r4 hs, x136_i5 hs, x136_w5 hs, x136_i6 hs, x136_w6 hs, x136_i7 hs, x136_w7 hs, x136_r8 hs, x136_i9 hs, x136_w9 hs, x136_i10 hs, x136_w10 hs, x136_i11 hs, x136_w11 hs, x136_i12 hs, x136_w12 hs, x136_i13 hs, x136_w13 hs, x136_i14 hs, x136_w14 hs, x136_r15 hs, x136_i16 hs, x136_w16 hs, x136_r17 hs, x136_r18 hs, x136_r19 hs, x136_r20 hs, x136_r21 hs, x136_i22 hs, x136_w22 hs, x136_r23 hs, x136_r24 hs, x136_i25 hs, x136_w25 hs, x136_i26 hs, x136_w26 hs, x136_r27 hs, x136_r28 hs, x136_i29 hs, x136_w29 hs, Option.bind_some, xI, xU, xUt, xIt, J_lit, J_add, J_sub, J_mul, J_neg, J_ltc, J_lec, J_eqc, lt_T, lt_F, le_T, le_F, eq_T, eq_F, ↓reduceIte, ite_not, not_true_eq_false, not_false_eq_true, true_or, or_true, false_or, or_false, true_and, and_true, false_and, and_false, up_get, Nat.reduceEqDiff, Int.reduceNeg, eqN_T, eqN_F]
        refine De.call (r_isN hs hB R1 B1 1 (by decide) (by omega) rfl) ?_
        simp (disch := omega) only [x136_k hs, x136_i0 hs, x136_w0 hs, x136_r1 hs, x136_r2 hs, x136_r3 hs, x136_r4 hs, x136_i5 hs, x136_w5 hs, x136_i6 hs, x136_w6 hs, x136_i7 hs, x136_w7 hs, x136_r8 hs, x136_i9 hs, x136_w9 hs, x136_i10 hs, x136_w10 hs, x136_i11 hs, x136_w11 hs, x136_i12 hs, x136_w12 hs, x136_i13 hs, x136_w13 hs, x136_i14 hs, x136_w14 hs, x136_r15 hs, x136_i16 hs, x136_w16 hs, x136_r17 hs, x136_r18 hs, x136_r19 hs, x136_r20 hs, x136_r21 hs, x136_i22 hs, x136_w22 hs, x136_r23 hs, x136_r24 hs, x136_i25 hs, x136_w25 hs, x136_i26 hs, x136_w26 hs, x136_r27 hs, x136_r28 hs, x136_i29 hs, x136_w29 hs, Option.bind_some, xI, xU, xUt, xIt, J_lit, J_add, J_sub, J_mul, J_neg, J_ltc, J_lec, J_eqc, lt_T, lt_F, le_T, le_F, eq_T, eq_F, ↓reduceIte, ite_not, not_true_eq_false, not_false_eq_true, true_or, or_true, false_or, or_false, true_and, and_true, false_and, and_false, up_get, Nat.reduceEqDiff, Int.reduceNeg, eqN_T, eqN_F]
        refine De.call (r_isY hs hB R1 B1 2 (by decide) (by omega) rfl) ?_
        simp (disch := omega) only [Option.bind_some, xI, xU, xUt, xIt, J_lit, J_add, J_sub, J_mul, J_neg, J_ltc, J_lec, J_eqc, lt_T, lt_F, le_T, le_F, eq_T, eq_F, ↓reduceIte, ite_not, not_true_eq_false, not_false_eq_true, true_or, or_true, false_or, or_false, true_and, and_true, false_and, and_false, up_get, Nat.reduceEqDiff, Int.reduceNeg, eqN_T, eqN_F]
        exact D
      · by_cases c3 : tok b n B = 3
        · rw [if_pos (by omega), c3] at D
          refine De.call (r_isN hs hB R1 B1 0 (by decide) (by omega) rfl) ?_
          simp (disch := omega) only [x136_k hs, x136_i0 hs, x136_w0 hs, x136_r1 hs, x136_r2 hs, x136_r3 hs, x136_r4 hs, x136_i5 hs, x136_w5 hs, x136_i6 hs, x136_w6 hs, x136_i7 hs, x136_w7 hs, x136_r8 hs, x136_i9 hs, x136_w9 hs, x136_i10 hs, x136_w10 hs, x136_i11 hs, x136_w11 hs, x136_i12 hs, x136_w12 hs, x136_i13 hs, x136_w13 hs, x136_i14 hs, x136_w14 hs, x136_r15 hs, x136_i16 hs, x136_w16 hs, x136_r17 hs, x136_r18 hs, x136_r19 hs, x136_r20 hs, x136_r21 hs, x136_i22 hs, x136_w22 hs, x136_r23 hs, x136_r24 hs, x136_i25 hs, x136_w25 hs, x136_i26 hs, x136_w26 hs, x136_r27 hs, x136_r28 hs, x136_i29 hs, x136_w29 hs, Option.bind_some, xI, xU, xUt, xIt, J_lit, J_add, J_sub, J_mul, J_neg, J_ltc, J_lec, J_eqc, lt_T, lt_F, le_T, le_F, eq_T, eq_F, ↓reduceIte, ite_not, not_true_eq_false, not_false_eq_true, true_or, or_true, false_or, or_false, true_and, and_true, false_and, and_false, up_get, Nat.reduceEqDiff, Int.reduceNeg, eqN_T, eqN_F]
          refine De.call (r_isN hs hB R1 B1 1 (by decide) (by omega) rfl) ?_
          simp (disch := omega) only [x136_k hs, x136_i0 hs, x136_w0 hs, x136_r1 hs, x136_r2 hs, x136_r3 hs, x136_r4 hs, x136_i5 hs, x136_w5 hs, x136_i6 hs, x136_w6 hs, x136_i7 hs, x136_w7 hs, x136_r8 hs, x136_i9 hs, x136_w9 hs, x136_i10 hs, x136_w10 hs, x136_i11 hs, x136_w11 hs, x136_i12 hs, x136_w12 hs, x136_i13 hs, x136_w13 hs, x136_i14 hs, x136_w14 hs, x136_r15 hs, x136_i16 hs, x136_w16 hs, x136_r17 hs, x136_r18 hs, x136_r19 hs, x136_r20 hs, x136_r21 hs, x136_i22 hs, x136_w22 hs, x136_r23 hs, x136_r24 hs, x136_i25 hs, x136_w25 hs, x136_i26 hs, x136_w26 hs, x136_r27 hs, x136_r28 hs, x136_i29 hs, x136_w29 hs, Option.bind_some, xI, xU, xUt, xIt, J_lit, J_add, J_sub, J_mul, J_neg, J_ltc, J_lec, J_eqc, lt_T, lt_F, le_T, le_F, eq_T, eq_F, ↓reduceIte, ite_not, not_true_eq_false, not_false_eq_true, true_or, or_true, false_or, or_false, true_and, and_true, false_and, and_false, up_get, Nat.reduceEqDiff, Int.reduceNeg, eqN_T, eqN_F]
          refine De.call (r_isN hs hB R1 B1 2 (by decide) (by omega) rfl) ?_
          simp (disch := omega) only [x136_k hs, x136_i0 hs, x136_w0 hs, x136_r1 hs, x136_r2 hs, x136_r3 hs, x136_r4 hs, x136_i5 hs, x136_w5 hs, x136_i6 hs, x136_w6 hs, x136_i7 hs, x136_w7 hs, x136_r8 hs, x136_i9 hs, x136_w9 hs, x136_i10 hs, x136_w10 hs, x136_i11 hs, x136_w11 hs, x136_i12 hs, x136_w12 hs, x136_i13 hs, x136_w13 hs, x136_i14 hs, x136_w14 hs, x136_r15 hs, x136_i16 hs, x136_w16 hs, x136_r17 hs, x136_r18 hs, x136_r19 hs, x136_r20 hs, x136_r21 hs, x136_i22 hs, x136_w22 hs, x136_r23 hs, x136_r24 hs, x136_i25 hs, x136_w25 hs, x136_i26 hs, x136_w26 hs, x136_r27 hs, x136_r28 hs, x136_i29 hs, x136_w29 hs, Option.bind_some, xI, xU, xUt, xIt, J_lit, J_add, J_sub, J_mul, J_neg, J_ltc, J_lec, J_eqc, lt_T, lt_F, le_T, le_F, eq_T, eq_F, ↓reduceIte, ite_not, not_true_eq_false, not_false_eq_true, true_or, or_true, false_or, or_false, true_and, and_true, false_and, and_false, up_get, Nat.reduceEqDiff, Int.reduceNeg, eqN_T, eqN_F]
          refine De.call (r_isY hs hB R1 B1 3 (by decide) (by omega) rfl) ?_
          simp (disch := omega) only [Option.bind_some, xI, xU, xUt, xIt, J_lit, J_add, J_sub, J_mul, J_neg, J_ltc, J_lec, J_eqc, lt_T, lt_F, le_T, le_F, eq_T, eq_F, ↓reduceIte, ite_not, not_true_eq_false, not_false_eq_true, true_or, or_true, false_or, or_false, true_and, and_true, false_and, and_false, up_get, Nat.reduceEqDiff, Int.reduceNeg, eqN_T, eqN_F]
          exact D
        · rw [if_neg (by omega)] at D
          refine De.call (r_isN hs hB R1 B1 0 (by decide) c0 rfl) ?_
          simp (disch := omega) only [x136_k hs, x136_i0 hs, x136_w0 hs, x136_r1 hs, x136_r2 hs, x136_r3 hs, x136_r4 hs, x136_i5 hs, x136_w5 hs, x136_i6 hs, x136_w6 hs, x136_i7 hs, x136_w7 hs, x136_r8 hs, x136_i9 hs, x136_w9 hs, x136_i10 hs, x136_w10 hs, x136_i11 hs, x136_w11 hs, x136_i12 hs, x136_w12 hs, x136_i13 hs, x136_w13 hs, x136_i14 hs, x136_w14 hs, x136_r15 hs, x136_i16 hs, x136_w16 hs, x136_r17 hs, x136_r18 hs, x136_r19 hs, x136_r20 hs, x136_r21 hs, x136_i22 hs, x136_w22 hs, x136_r23 hs, x136_r24 hs, x136_i25 hs, x136_w25 hs, x136_i26 hs, x136_w26 hs, x136_r27 hs, x136_r28 hs, x136_i29 hs, x136_w29 hs, Option.bind_some, xI, xU, xUt, xIt, J_lit, J_add, J_sub, J_mul, J_neg, J_ltc, J_lec, J_eqc, lt_T, lt_F, le_T, le_F, eq_T, eq_F, ↓reduceIte, ite_not, not_true_eq_false, not_false_eq_true, true_or, or_true, false_or, or_false, true_and, and_true, false_and, and_false, up_get, Nat.reduceEqDiff, Int.reduceNeg, eqN_T, eqN_F]
          refine De.call (r_isN hs hB R1 B1 1 (by decide) c1 rfl) ?_
          simp (disch := omega) only [x136_k hs, x136_i0 hs, x136_w0 hs, x136_r1 hs, x136_r2 hs, x136_r3 hs, x136_r4 hs, x136_i5 hs, x136_w5 hs, x136_i6 hs, x136_w6 hs, x136_i7 hs, x136_w7 hs, x136_r8 hs, x136_i9 hs, x136_w9 hs, x136_i10 hs, x136_w10 hs, x136_i11 hs, x136_w11 hs, x136_i12 hs, x136_w12 hs, x136_i13 hs, x136_w13 hs, x136_i14 hs, x136_w14 hs, x136_r15 hs, x136_i16 hs, x136_w16 hs, x136_r17 hs, x136_r18 hs, x136_r19 hs, x136_r20 hs, x136_r21 hs, x136_i22 hs, x136_w22 hs, x136_r23 hs, x136_r24 hs, x136_i25 hs, x136_w25 hs, x136_i26 hs, x136_w26 hs, x136_r27 hs, x136_r28 hs, x136_i29 hs, x136_w29 hs, Option.bind_some, xI, xU, xUt, xIt, J_lit, J_add, J_sub, J_mul, J_neg, J_ltc, J_lec, J_eqc, lt_T, lt_F, le_T, le_F, eq_T, eq_F, ↓reduceIte, ite_not, not_true_eq_false, not_false_eq_true, true_or, or_true, false_or, or_false, true_and, and_true, false_and, and_false, up_get, Nat.reduceEqDiff, Int.reduceNeg, eqN_T, eqN_F]
          refine De.call (r_isN hs hB R1 B1 2 (by decide) c2 rfl) ?_
          simp (disch := omega) only [x136_k hs, x136_i0 hs, x136_w0 hs, x136_r1 hs, x136_r2 hs, x136_r3 hs, x136_r4 hs, x136_i5 hs, x136_w5 hs, x136_i6 hs, x136_w6 hs, x136_i7 hs, x136_w7 hs, x136_r8 hs, x136_i9 hs, x136_w9 hs, x136_i10 hs, x136_w10 hs, x136_i11 hs, x136_w11 hs, x136_i12 hs, x136_w12 hs, x136_i13 hs, x136_w13 hs, x136_i14 hs, x136_w14 hs, x136_r15 hs, x136_i16 hs, x136_w16 hs, x136_r17 hs, x136_r18 hs, x136_r19 hs, x136_r20 hs, x136_r21 hs, x136_i22 hs, x136_w22 hs, x136_r23 hs, x136_r24 hs, x136_i25 hs, x136_w25 hs, x136_i26 hs, x136_w26 hs, x136_r27 hs, x136_r28 hs, x136_i29 hs, x136_w29 hs, Option.bind_some, xI, xU, xUt, xIt, J_lit, J_add, J_sub, J_mul, J_neg, J_ltc, J_lec, J_eqc, lt_T, lt_F, le_T, le_F, eq_T, eq_F, ↓reduceIte, ite_not, not_true_eq_false, not_false_eq_true, true_or, or_true, false_or, or_false, true_and, and_true, false_and, and_false, up_get, Nat.reduceEqDiff, Int.reduceNeg, eqN_T, eqN_F]
          refine De.call (r_isN hs hB R1 B1 3 (by decide) c3 rfl) ?_
          simp (disch := omega) only [Option.bind_some, xI, xU, xUt, xIt, J_lit, J_add, J_sub, J_mul, J_neg, J_ltc, J_lec, J_eqc, lt_T, lt_F, le_T, le_F, eq_T, eq_F, ↓reduceIte, ite_not, not_true_eq_false, not_false_eq_true, true_or, or_true, false_or, or_false, true_and, and_true, false_and, and_false, up_get, Nat.reduceEqDiff, Int.reduceNeg, eqN_T, eqN_F]
          exact D
/-- the four numbers written -/
theorem r_l71 (hs : Sk S) (h : RPs m b n B s g d) (L0 : 0 ≤ L) (L1 : L < 10) (t0 : 0 ≤ t) (t1 : t ≤ 3) : ∃ m1, RPs m1 b n B s (ln4 g L t 0 s s) d ∧ FrRe m m1 ∧ m1 136 12 = m 136 12 ∧ ∀ {R : xR} {P : xH}, (t = 0 ∨ t = 2 → De (fun k => f_X11_readLine k 127 [.ref 136, .int (J L), .int (J (5080 + (1 + 4 * L))), .int (J t)] (hp S m1 q)) R P) → (t = 1 ∨ t = 3 → De (fun k => f_X11_readLine k 165 [.ref 136, .int (J L), .int (J (5080 + (1 + 4 * L))), .int (J t)] (hp S m1 q)) R P) → De (fun k => f_X11_readLine k 71 [.ref 136, .int (J L), .int (J (5080 + (1 + 4 * L))), .int (J t)] (hp S m q)) R P := by
  have k16 : m 136 16 = s := h.2.2.1
  refine ⟨up (up (up (up m 139 (5080 + (1 + 4 * L)) t) 139 (5080 + (1 + 4 * L) + 1) 0) 139 (5080 + (1 + 4 * L) + 2) s) 139 (5080 + (1 + 4 * L) + 3) s, (((h.w (by omega) t).w (by omega) 0).w (by omega) s).w (by omega) s, (((FrRe.w9 (by omega)).tr (FrRe.w9 (by omega))).tr (FrRe.w9 (by omega))).tr (FrRe.w9 (by omega)), by rw [up_a (by decide), up_a (by decide), up_a (by decide), up_a (by decide)], fun D1 D2 => ?_⟩
  rcases (show t = 0 ∨ t = 1 ∨ t = 2 ∨ t = 3 by omega) with z | z | z | z
  · have E := D1 (Or.inl z)
    subst z
    refine De.step ?_
    simp only [j_X11_readLine_71]
    simp (disch := omega) only [b_X11_readLine_71, x136_k hs, x136_i0 hs, x136_w0 hs, x136_r1 hs, x136_r2 hs, x136_r3 hs, x136_r4 hs, x136_i5 hs, x136_w5 hs, x136_i6 hs, x136_w6 hs, x136_i7 hs, x136_w7 hs, x136_r8 hs, x136_i9 hs, x136_w9 hs, x136_i10 hs, x136_w10 hs, x136_i11 hs, x136_w11 hs, x136_i12 hs, x136_w12 hs, x136_i13 hs, x136_w13 hs, x136_i14 hs, x136_w14 hs, x136_r15 hs, x136_i16 hs, x136_w16 hs, x136_r17 hs, x136_r18 hs, x136_r19 hs, x136_r20 hs, x136_r21 hs, x136_i22 hs, x136_w22 hs, x136_r23 hs, x136_r24 hs, x136_i25 hs, x136_w25 hs, x136_i26 hs, x136_w26 hs, x136_r27 hs, x136_r28 hs, x136_i29 hs, x136_w29 hs, x139_g hs, x139_s hs, x139_l hs, k16, Option.bind_some, xI, xU, xUt, xIt, J_lit, J_add, J_sub, J_mul, J_neg, J_ltc, J_lec, J_eqc, lt_T, lt_F, le_T, le_F, eq_T, eq_F, ↓reduceIte, ite_not, not_true_eq_false, not_false_eq_true, true_or, or_true, false_or, or_false, true_and, and_true, false_and, and_false, up_get, Nat.reduceEqDiff, Int.reduceNeg, eqN_T, eqN_F]
    exact E
  · have E := D2 (Or.inl z)
    subst z
    refine De.step ?_
    simp only [j_X11_readLine_71]
    simp (disch := omega) only [b_X11_readLine_71, x136_k hs, x136_i0 hs, x136_w0 hs, x136_r1 hs, x136_r2 hs, x136_r3 hs, x136_r4 hs, x136_i5 hs, x136_w5 hs, x136_i6 hs, x136_w6 hs, x136_i7 hs, x136_w7 hs, x136_r8 hs, x136_i9 hs, x136_w9 hs, x136_i10 hs, x136_w10 hs, x136_i11 hs, x136_w11 hs, x136_i12 hs, x136_w12 hs, x136_i13 hs, x136_w13 hs, x136_i14 hs, x136_w14 hs, x136_r15 hs, x136_i16 hs, x136_w16 hs, x136_r17 hs, x136_r18 hs, x136_r19 hs, x136_r20 hs, x136_r21 hs, x136_i22 hs, x136_w22 hs, x136_r23 hs, x136_r24 hs, x136_i25 hs, x136_w25 hs, x136_i26 hs, x136_w26 hs, x136_r27 hs, x136_r28 hs, x136_i29 hs, x136_w29 hs, x139_g hs, x139_s hs, x139_l hs, k16, Option.bind_some, xI, xU, xUt, xIt, J_lit, J_add, J_sub, J_mul, J_neg, J_ltc, J_lec, J_eqc, lt_T, lt_F, le_T, le_F, eq_T, eq_F, ↓reduceIte, ite_not, not_true_eq_false, not_false_eq_true, true_or, or_true, false_or, or_false, true_and, and_true, false_and, and_false, up_get, Nat.reduceEqDiff, Int.reduceNeg, eqN_T, eqN_F]
    exact E
  · have E := D1 (Or.inr z)
    subst z
    refine De.step ?_
    simp only [j_X11_readLine_71]
    simp (disch := omega) only [b_X11_readLine_71, x136_k hs, x136_i0 hs, x136_w0 hs, x136_r1 hs, x136_r2 hs, x136_r3 hs, x136_r4 hs, x136_i5 hs, x136_w5 hs, x136_i6 hs, x136_w6 hs, x136_i7 hs, x136_w7 hs, x136_r8 hs, x136_i9 hs, x136_w9 hs, x136_i10 hs, x136_w10 hs, x136_i11 hs, x136_w11 hs, x136_i12 hs, x136_w12 hs, x136_i13 hs, x136_w13 hs, x136_i14 hs, x136_w14 hs, x136_r15 hs, x136_i16 hs, x136_w16 hs, x136_r17 hs, x136_r18 hs, x136_r19 hs, x136_r20 hs, x136_r21 hs, x136_i22 hs, x136_w22 hs, x136_r23 hs, x136_r24 hs, x136_i25 hs, x136_w25 hs, x136_i26 hs, x136_w26 hs, x136_r27 hs, x136_r28 hs, x136_i29 hs, x136_w29 hs, x139_g hs, x139_s hs, x139_l hs, k16, Option.bind_some, xI, xU, xUt, xIt, J_lit, J_add, J_sub, J_mul, J_neg, J_ltc, J_lec, J_eqc, lt_T, lt_F, le_T, le_F, eq_T, eq_F, ↓reduceIte, ite_not, not_true_eq_false, not_false_eq_true, true_or, or_true, false_or, or_false, true_and, and_true, false_and, and_false, up_get, Nat.reduceEqDiff, Int.reduceNeg, eqN_T, eqN_F]
    exact E
  · have E := D2 (Or.inr z)
    subst z
    refine De.step ?_
    simp only [j_X11_readLine_71]
    simp (disch := omega) only [b_X11_readLine_71, x136_k hs, x136_i0 hs, x136_w0 hs, x136_r1 hs, x136_r2 hs, x136_r3 hs, x136_r4 hs, x136_i5 hs, x136_w5 hs, x136_i6 hs, x136_w6 hs, x136_i7 hs, x136_w7 hs, x136_r8 hs, x136_i9 hs, x136_w9 hs, x136_i10 hs, x136_w10 hs, x136_i11 hs, x136_w11 hs, x136_i12 hs, x136_w12 hs, x136_i13 hs, x136_w13 hs, x136_i14 hs, x136_w14 hs, x136_r15 hs, x136_i16 hs, x136_w16 hs, x136_r17 hs, x136_r18 hs, x136_r19 hs, x136_r20 hs, x136_r21 hs, x136_i22 hs, x136_w22 hs, x136_r23 hs, x136_r24 hs, x136_i25 hs, x136_w25 hs, x136_i26 hs, x136_w26 hs, x136_r27 hs, x136_r28 hs, x136_i29 hs, x136_w29 hs, x139_g hs, x139_s hs, x139_l hs, k16, Option.bind_some, xI, xU, xUt, xIt, J_lit, J_add, J_sub, J_mul, J_neg, J_ltc, J_lec, J_eqc, lt_T, lt_F, le_T, le_F, eq_T, eq_F, ↓reduceIte, ite_not, not_true_eq_false, not_false_eq_true, true_or, or_true, false_or, or_false, true_and, and_true, false_and, and_false, up_get, Nat.reduceEqDiff, Int.reduceNeg, eqN_T, eqN_F]
    exact E
end LINE
