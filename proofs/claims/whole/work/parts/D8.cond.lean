/-! a condition, by both -/
def gO (ow : Bool) (g : Int → Int) (s : Int) : Int → Int := if ow = true then em g s 302 0 else g
section COND
variable {S : xH} {m m' m0 : Nat → Int → Int} {q : Nat → Int → Int64} {b g g' : Int → Int} {n B s s' B' L d A i : Int} {ok ow : Bool} {dp : Nat}
theorem bI_in (ow : Bool) : 0 ≤ bI ow ∧ bI ow ≤ 1 := by cases ow <;> decide
theorem gO_o {j : Int} (h : j < 41 + 2 * s) : gO ow g s j = g j := by
  cases ow
  · rfl
  · exact em_o h
theorem J_or01 (ow : Bool) : J (bI ow) ||| J 0 = J (bI ow) := by cases ow <;> decide +kernel
theorem J_or11 (ow : Bool) : J (bI ow) ||| J 1 = J 1 := by cases ow <;> decide +kernel
/-- an or that waits is written -/
theorem c_or (hs : Sk S) (h : CPs m b n B s g L) (s1 : s + bI ow ≤ 200) : ow = true → ∃ m', De (fun k => f_X5_addStep k 0 [.ref 2, .int (J 5), .int (J 0), .int (J 0)] (hp S m q)) (.inl none) (hp S m' q) ∧ CPs m' b n B (s + bI ow) (gO ow g s) L ∧ FrPa L m m' ∧ m' 1 3 = m 1 3 := by
  intro e
  subst e
  exact c_add (q := q) (op := 5) (wh := 0) (th := 0) (st := 302) (nn := 0) hs h (by have : s + 1 ≤ 200 := s1; omega) (by decide) (by decide) (by decide) (by decide) (by decide) (by decide) (by decide)
theorem c_end (hs : Sk S) (h : CPs m b n B s g L) (s1 : s + bI ow ≤ 200) : ∃ m', (∀ (u : Nat → Nat) (x : Int32), De (fun k => g_X3_readEither (F_X3_readEither (u k) dp) k 120 [.ref 1, .int (J d), .int (J (bI ow)), .int (J 1), .int x] (hp S m q)) (.inl (some (.int (J 1)))) (hp S m' q)) ∧ CPs m' b n B (s + bI ow) (gO ow g s) L ∧ FrPa L m m' ∧ m' 1 3 = m 1 3 := by
  cases ow with
  | false =>
    refine ⟨m, fun u x => ?_, by rw [bI_f, Int.add_zero]; exact h, fun _ _ _ _ _ _ => rfl, rfl⟩
    refine De.step ?_
    simp only [j_X3_readEither_120]
    simp (disch := omega) only [b_X3_readEither_120, bI_f, Option.bind_some, xI, xU, xUt, xIt, J_lit, J_add, J_sub, J_mul, J_neg, J_ltc, J_lec, J_eqc, lt_T, lt_F, le_T, le_F, eq_T, eq_F, ↓reduceIte, ite_not, not_true_eq_false, not_false_eq_true, true_or, or_true, false_or, or_false, true_and, and_true, false_and, and_false, up_get, Nat.reduceEqDiff, Int.reduceNeg, eqN_T, eqN_F]
    exact De.ret _ _
  | true =>
    obtain ⟨m', D, C, F, w⟩ := c_or (q := q) (ow := true) hs h s1 rfl
    refine ⟨m', fun u x => ?_, C, F, w⟩
    refine De.step ?_
    simp only [j_X3_readEither_120]
    simp (disch := omega) only [b_X3_readEither_120, x1_k hs, x1_r0 hs, x1_r1 hs, x1_i2 hs, x1_w2 hs, x1_i3 hs, x1_w3 hs, x1_i4 hs, x1_w4 hs, x1_i5 hs, x1_w5 hs, x1_i6 hs, x1_w6 hs, x1_i7 hs, x1_w7 hs, x2_k hs, x2_r0 hs, x2_r1 hs, x2_r2 hs, x2_i3 hs, x2_w3 hs, x2_r4 hs, x2_i5 hs, x2_w5 hs, x2_r6 hs, x2_i7 hs, x2_w7 hs, bI_t, Option.bind_some, xI, xU, xUt, xIt, J_lit, J_add, J_sub, J_mul, J_neg, J_ltc, J_lec, J_eqc, lt_T, lt_F, le_T, le_F, eq_T, eq_F, ↓reduceIte, ite_not, not_true_eq_false, not_false_eq_true, true_or, or_true, false_or, or_false, true_and, and_true, false_and, and_false, up_get, Nat.reduceEqDiff, Int.reduceNeg, eqN_T, eqN_F]
    refine De.call D ?_
    simp (disch := omega) only [Option.bind_some, xI, xU, xUt, xIt, J_lit, J_add, J_sub, J_mul, J_neg, J_ltc, J_lec, J_eqc, lt_T, lt_F, le_T, le_F, eq_T, eq_F, ↓reduceIte, ite_not, not_true_eq_false, not_false_eq_true, true_or, or_true, false_or, or_false, true_and, and_true, false_and, and_false, up_get, Nat.reduceEqDiff, Int.reduceNeg, eqN_T, eqN_F]
    exact De.ret _ _
/-- behind a fault -/
theorem c_endF (hs : Sk S) (h2 : m 1 2 = n) (n0 : 0 ≤ n) (n4 : n ≤ 400) (h3 : m 2 3 = L) (L0 : 0 ≤ L) (L1 : L ≤ 10) (h5 : 0 ≤ m 2 5 ∧ m 2 5 ≤ 200) (i0 : 0 ≤ i) (i1 : i ≤ 1000) : ∃ m', (∀ (u : Nat → Nat), De (fun k => g_X3_readEither (F_X3_readEither (u k) dp) k 11 [.ref 1, .int (J d), .int (J (bI ow)), .int (J 0), .int (J i)] (hp S m q)) (.inl (some (.int (J 0)))) (hp S m' q)) ∧ FrPa L m m' ∧ (0 ≤ m' 2 5 ∧ m' 2 5 ≤ 200) ∧ ∀ j, m' 1 j = m 1 j := by
  have Z : ∀ {R : xR} {P : xH}, (∀ u : Nat → Nat, De (fun k => g_X3_readEither (F_X3_readEither (u k) dp) k 120 [.ref 1, .int (J d), .int (J (bI ow)), .int (J 0), .int (J i)] (hp S m q)) R P) → ∀ u : Nat → Nat, De (fun k => g_X3_readEither (F_X3_readEither (u k) dp) k 11 [.ref 1, .int (J d), .int (J (bI ow)), .int (J 0), .int (J i)] (hp S m q)) R P := by
    intro R P D u
    by_cases c : n ≤ i
    · refine De.step ?_
      simp only [j_X3_readEither_11]
      simp (disch := omega) only [b_X3_readEither_11, x1_k hs, x1_r0 hs, x1_r1 hs, x1_i2 hs, x1_w2 hs, x1_i3 hs, x1_w3 hs, x1_i4 hs, x1_w4 hs, x1_i5 hs, x1_w5 hs, x1_i6 hs, x1_w6 hs, x1_i7 hs, x1_w7 hs, h2, Option.bind_some, xI, xU, xUt, xIt, J_lit, J_add, J_sub, J_mul, J_neg, J_ltc, J_lec, J_eqc, lt_T, lt_F, le_T, le_F, eq_T, eq_F, ↓reduceIte, ite_not, not_true_eq_false, not_false_eq_true, true_or, or_true, false_or, or_false, true_and, and_true, false_and, and_false, up_get, Nat.reduceEqDiff, Int.reduceNeg, eqN_T, eqN_F]
      exact D (fun k => u (k + 1))
    · refine De.step ?_
      simp only [j_X3_readEither_11]
      simp (disch := omega) only [b_X3_readEither_11, x1_k hs, x1_r0 hs, x1_r1 hs, x1_i2 hs, x1_w2 hs, x1_i3 hs, x1_w3 hs, x1_i4 hs, x1_w4 hs, x1_i5 hs, x1_w5 hs, x1_i6 hs, x1_w6 hs, x1_i7 hs, x1_w7 hs, h2, Option.bind_some, xI, xU, xUt, xIt, J_lit, J_add, J_sub, J_mul, J_neg, J_ltc, J_lec, J_eqc, lt_T, lt_F, le_T, le_F, eq_T, eq_F, ↓reduceIte, ite_not, not_true_eq_false, not_false_eq_true, true_or, or_true, false_or, or_false, true_and, and_true, false_and, and_false, up_get, Nat.reduceEqDiff, Int.reduceNeg, eqN_T, eqN_F]
      exact D (fun k => u (k + 1))
  cases ow with
  | false =>
    refine ⟨m, Z (fun u => ?_), fun _ _ _ _ _ _ => rfl, h5, fun _ => rfl⟩
    refine De.step ?_
    simp only [j_X3_readEither_120]
    simp (disch := omega) only [b_X3_readEither_120, bI_f, Option.bind_some, xI, xU, xUt, xIt, J_lit, J_add, J_sub, J_mul, J_neg, J_ltc, J_lec, J_eqc, lt_T, lt_F, le_T, le_F, eq_T, eq_F, ↓reduceIte, ite_not, not_true_eq_false, not_false_eq_true, true_or, or_true, false_or, or_false, true_and, and_true, false_and, and_false, up_get, Nat.reduceEqDiff, Int.reduceNeg, eqN_T, eqN_F]
    exact De.ret _ _
  | true =>
    obtain ⟨m', D, F, v, w⟩ := c_any (q := q) (op := 5) hs h3 L0 L1 h5 (by decide) (by decide)
    refine ⟨m', Z (fun u => ?_), F, v, w⟩
    refine De.step ?_
    simp only [j_X3_readEither_120]
    simp (disch := omega) only [b_X3_readEither_120, x1_k hs, x1_r0 hs, x1_r1 hs, x1_i2 hs, x1_w2 hs, x1_i3 hs, x1_w3 hs, x1_i4 hs, x1_w4 hs, x1_i5 hs, x1_w5 hs, x1_i6 hs, x1_w6 hs, x1_i7 hs, x1_w7 hs, x2_k hs, x2_r0 hs, x2_r1 hs, x2_r2 hs, x2_i3 hs, x2_w3 hs, x2_r4 hs, x2_i5 hs, x2_w5 hs, x2_r6 hs, x2_i7 hs, x2_w7 hs, bI_t, Option.bind_some, xI, xU, xUt, xIt, J_lit, J_add, J_sub, J_mul, J_neg, J_ltc, J_lec, J_eqc, lt_T, lt_F, le_T, le_F, eq_T, eq_F, ↓reduceIte, ite_not, not_true_eq_false, not_false_eq_true, true_or, or_true, false_or, or_false, true_and, and_true, false_and, and_false, up_get, Nat.reduceEqDiff, Int.reduceNeg, eqN_T, eqN_F]
    refine De.call D ?_
    simp (disch := omega) only [Option.bind_some, xI, xU, xUt, xIt, J_lit, J_add, J_sub, J_mul, J_neg, J_ltc, J_lec, J_eqc, lt_T, lt_F, le_T, le_F, eq_T, eq_F, ↓reduceIte, ite_not, not_true_eq_false, not_false_eq_true, true_or, or_true, false_or, or_false, true_and, and_true, false_and, and_false, up_get, Nat.reduceEqDiff, Int.reduceNeg, eqN_T, eqN_F]
    exact De.ret _ _
/-- what is wanted of the steps of a condition, as far as they go -/
def Wfp (g : Int → Int) (S0 s A : Int) (ow : Bool) : Prop := (∀ i : Int, S0 ≤ i → i < s → (0 ≤ g (41 + 2 * i + 1) ∧ g (41 + 2 * i + 1) ≤ 9999) ∧ (0 ≤ g (41 + 2 * i) ∧ g (41 + 2 * i) < 7 ∨ 100 ≤ g (41 + 2 * i) ∧ g (41 + 2 * i) < 105 ∨ 200 ≤ g (41 + 2 * i) ∧ g (41 + 2 * i) < 205 ∨ 300 ≤ g (41 + 2 * i) ∧ g (41 + 2 * i) ≤ 302)) ∧ ∀ h : Int, 0 ≤ h → h + (A + 2) ≤ 60 → wfS g S0 (s - S0).toNat h = some (h + 1 + bI ow)
theorem Wfp.bin {S0 : Int} {st : Int} {x y : Bool} (h : ∀ h : Int, 0 ≤ h → h + (A + 2) ≤ 60 → wfS g S0 (s - S0).toNat h = some (h + 2 + bI x)) (hv : ∀ i : Int, S0 ≤ i → i < s → (0 ≤ g (41 + 2 * i + 1) ∧ g (41 + 2 * i + 1) ≤ 9999) ∧ (0 ≤ g (41 + 2 * i) ∧ g (41 + 2 * i) < 7 ∨ 100 ≤ g (41 + 2 * i) ∧ g (41 + 2 * i) < 105 ∨ 200 ≤ g (41 + 2 * i) ∧ g (41 + 2 * i) < 205 ∨ 300 ≤ g (41 + 2 * i) ∧ g (41 + 2 * i) ≤ 302)) (ss : S0 ≤ s) (c : st = 301 ∨ st = 302) : Wfp (em g s st 0) S0 (s + 1) A x := by
  have xb := bI_in x
  refine ⟨fun i i0 i1 => ?_, fun h0 a e => ?_⟩
  · by_cases z : i = s
    · rw [z, em_0, em_1]
      omega
    · rw [em_o (by omega), em_o (by omega)]
      exact hv i i0 (by omega)
  · refine wfS_two ss (by omega) ((wfS_cg (fun i hi => em_o hi)).trans (h h0 a e)) ?_
    rw [wfS_bin (by omega) (by rw [em_0]; omega)]
    congr 1
    omega
theorem Wfp.fin {S0 : Int} (h : Wfp g S0 s A ow) (ss : S0 ≤ s) : Seg (gO ow g s) S0 (s + bI ow) (A + 2) := by
  cases ow with
  | false =>
    rw [bI_f, Int.add_zero]
    exact ⟨h.1, fun h0 a e => by have := h.2 h0 a e; rw [bI_f, Int.add_zero] at this; exact this⟩
  | true =>
    have w := Wfp.bin (g := g) (st := 302) (x := false) (y := false) (fun h0 a e => by
      have := h.2 h0 a e
      rw [bI_t] at this
      rw [this, bI_f]
      congr 1
      omega) h.1 ss (Or.inr rfl)
    exact ⟨w.1, fun h0 a e => by have := w.2 h0 a e; rw [bI_f, Int.add_zero] at this; exact this⟩
/-- an atom more -/
theorem Wfp.atom {S0 : Int} (h : Wfp g S0 s A ow) (ss : S0 ≤ s) (e : ∀ i, i < 41 + 2 * s → g' i = g i) (ss2 : s ≤ s') (sg : Seg g' s s' A) : (∀ h : Int, 0 ≤ h → h + (A + 2) ≤ 60 → wfS g' S0 (s' - S0).toNat h = some (h + 2 + bI ow)) ∧ ∀ i : Int, S0 ≤ i → i < s' → (0 ≤ g' (41 + 2 * i + 1) ∧ g' (41 + 2 * i + 1) ≤ 9999) ∧ (0 ≤ g' (41 + 2 * i) ∧ g' (41 + 2 * i) < 7 ∨ 100 ≤ g' (41 + 2 * i) ∧ g' (41 + 2 * i) < 105 ∨ 200 ≤ g' (41 + 2 * i) ∧ g' (41 + 2 * i) < 205 ∨ 300 ≤ g' (41 + 2 * i) ∧ g' (41 + 2 * i) ≤ 302) := by
  have xb := bI_in ow
  refine ⟨fun h0 a z => ?_, fun i i0 i1 => ?_⟩
  · have w1 := (wfS_cg (s := S0) (h0 := h0) e).trans (h.2 h0 a z)
    have w2 := sg.2 (h0 + 1 + bI ow) (by omega) (by omega)
    rw [wfS_two ss ss2 w1 w2]
    congr 1
    omega
  · by_cases c : i < s
    · rw [e _ (by omega), e _ (by omega)]
      exact h.1 i i0 c
    · exact sg.1 i (by omega) i1
theorem co_loop (PA : PAt b n d A) (A0 : 0 ≤ A) (d6 : d ≤ 6) : ∀ (k : Nat) (B s : Int) (g : Int → Int) (ow : Bool) (S0 : Int), n - B < k → Bok b n B → 0 ≤ S0 → S0 ≤ s → 2 * (s + bI ow) ≤ B → Wfp g S0 s A ow →
  ∃ (ok : Bool) (B' s' : Int) (g' : Int → Int) (ok1 : Bool) (B1 s1 : Int) (g1 : Int → Int), ((ok = true → Bok b n B' ∧ B ≤ B' ∧ s ≤ s' ∧ 2 * s' ≤ 2 * s + 2 * bI ow + (B' - B) ∧ (∀ i, i < 41 + 2 * s → g' i = g i) ∧ Seg g' S0 s' (A + 2)) ∧ (ok = false → 0 ≤ B' ∧ B' ≤ n)) ∧ ((ok1 = false → ok = false ∧ B1 = B') ∧ (ok1 = true → Bok b n B1 ∧ 0 ≤ s1 ∧ s1 + bI ow ≤ 200)) ∧
  (∀ (dp : Nat), 2 * (6 - d) + 1 ≤ dp → ∀ (u : Nat → Nat), (∀ k, k ≤ u k) → ∀ (S : xH) (m : Nat → Int → Int) (q : Nat → Int → Int64) (L i : Int), Sk S → 0 ≤ i → i ≤ B → CPs m b n B s g L → ∃ m', De (fun k => g_X3_readEither (F_X3_readEither (u k) dp) k 11 [.ref 1, .int (J d), .int (J (bI ow)), .int (J 1), .int (J i)] (hp S m q)) (.inl (some (.int (J (bI ok))))) (hp S m' q) ∧ CRes m m' b n L ok B' s' g') ∧ (∀ (dp : Nat), 3 * (6 - d) + 1 ≤ dp → ∀ (u : Nat → Nat), (∀ k, k ≤ u k) → ∀ (S : xH) (m : Nat → Int → Int) (q : Nat → Int → Int64), Sk S → RPs m b n B s g d → ∃ m', De (fun k => g_X11_readAllOf (F_X11_readCond (u k) dp) k 9 [.ref 136] (hp S m q)) (.inl (some (.int (J (bI ok1))))) (hp S m' q) ∧ RRes m m' b n d ok1 B1 s1 g1) ∧ (ok1 = true → (∀ (dp : Nat), 3 * (6 - d) + 2 ≤ dp → ∀ (u : Nat → Nat), (∀ k, k ≤ u k) → ∀ (S : xH) (m : Nat → Int → Int) (q : Nat → Int → Int64), Sk S → RPs m b n B1 (s1 + bI ow) (gO ow g1 s1) d → ∃ m', De (fun k => g_X11_readCond (F_X11_readCond (u k) dp) k 9 [.ref 136] (hp S m q)) (.inl (some (.int (J (bI ok))))) (hp S m' q) ∧ RRes m m' b n d ok B' s' g')) := by
  intro k
  induction k with
  | zero =>
    intro B s g ow S0 hk hB
    have := hB.1
    omega
  | succ k IH =>
    intro B s g ow S0 hk hB S00 ss s2 hW
    have h1 := hB.1
    have tr := tok_rng hB
    have ob := bI_in ow
    by_cases cA : tok b n B = 6
    · have lt := tok_lt (show tok b n B ≠ 21 by omega)
      have tw := ten_wd (k := 6) h1.2.1 (by decide) cA
      obtain ⟨hB1, x1, x2⟩ := hB.nx lt
      obtain ⟨ok, B2, s3, g3, FC, CL, RE⟩ := PA (nxB b n B) s g hB1 (by omega) (by omega)
      -- the class up to the atom
      have CC : ∀ (dp : Nat), 2 * (6 - d) + 1 ≤ dp → ∀ (S : xH) (m : Nat → Int → Int) (q : Nat → Int → Int64) (L i : Int), Sk S → 0 ≤ i → i ≤ B → CPs m b n B s g L → ∃ m2, CRes m m2 b n L ok B2 s3 g3 ∧ ∀ {R : xR} {P : xH} (u : Nat → Nat), (∀ k, k ≤ u k) → De (fun k => Option.bind (f_X5_addStep k 0 [.ref 2, .int (J 4), .int (J 0), .int (J 0)] (hp S m2 q)) fun r13 => xU r13 fun P12 => g_X3_readEither (F_X3_readEither (u (k + 1 + 1 + 1 + 1 + 1)) dp) k 11 [.ref 1, .int (J d), .int (J (bI ow)), .int (J (bI ok)), .int (J (i + 1))] P12) R P → De (fun k => g_X3_readEither (F_X3_readEither (u k) dp) k 11 [.ref 1, .int (J d), .int (J (bI ow)), .int (J 1), .int (J i)] (hp S m q)) R P := by
        intro dp hd S m q L i hs i0 i1 h
        have tk := h.tk
        have h2 : m 1 2 = n := h.1
        obtain ⟨m1, D1, C1, F1⟩ := c_next (q := q) hs hB h lt
        obtain ⟨m2, D2, F2, t2, f2⟩ := CL dp hd S m1 q L hs C1
        refine ⟨m2, ⟨F1.p.tr F2, fun z => ⟨(t2 z).1, (t2 z).2.trans (F1 1 3 (by omega))⟩, f2⟩, fun u hu E => ?_⟩
        refine De.step ?_
        simp only [j_X3_readEither_11]
        simp (disch := omega) only [b_X3_readEither_11, x1_k hs, x1_r0 hs, x1_r1 hs, x1_i2 hs, x1_w2 hs, x1_i3 hs, x1_w3 hs, x1_i4 hs, x1_w4 hs, x1_i5 hs, x1_w5 hs, x1_i6 hs, x1_w6 hs, x1_i7 hs, x1_w7 hs, tk.1, h2, cA, Option.bind_some, xI, xU, xUt, xIt, J_lit, J_add, J_sub, J_mul, J_neg, J_ltc, J_lec, J_eqc, lt_T, lt_F, le_T, le_F, eq_T, eq_F, ↓reduceIte, ite_not, not_true_eq_false, not_false_eq_true, true_or, or_true, false_or, or_false, true_and, and_true, false_and, and_false, up_get, Nat.reduceEqDiff, Int.reduceNeg, eqN_T, eqN_F]
        refine De.step ?_
        simp only [j_X3_readEither_41]
        simp (disch := omega) only [b_X3_readEither_41, x1_k hs, x1_r0 hs, x1_r1 hs, x1_i2 hs, x1_w2 hs, x1_i3 hs, x1_w3 hs, x1_i4 hs, x1_w4 hs, x1_i5 hs, x1_w5 hs, x1_i6 hs, x1_w6 hs, x1_i7 hs, x1_w7 hs, tk.1, cA, Option.bind_some, xI, xU, xUt, xIt, J_lit, J_add, J_sub, J_mul, J_neg, J_ltc, J_lec, J_eqc, lt_T, lt_F, le_T, le_F, eq_T, eq_F, ↓reduceIte, ite_not, not_true_eq_false, not_false_eq_true, true_or, or_true, false_or, or_false, true_and, and_true, false_and, and_false, up_get, Nat.reduceEqDiff, Int.reduceNeg, eqN_T, eqN_F]
        refine De.step ?_
        simp only [j_X3_readEither_55]
        simp (disch := omega) only [b_X3_readEither_55, Option.bind_some, xI, xU, xUt, xIt, J_lit, J_add, J_sub, J_mul, J_neg, J_ltc, J_lec, J_eqc, lt_T, lt_F, le_T, le_F, eq_T, eq_F, ↓reduceIte, ite_not, not_true_eq_false, not_false_eq_true, true_or, or_true, false_or, or_false, true_and, and_true, false_and, and_false, up_get, Nat.reduceEqDiff, Int.reduceNeg, eqN_T, eqN_F]
        refine De.step ?_
        simp only [j_X3_readEither_76]
        simp (disch := omega) only [b_X3_readEither_76, Option.bind_some, xI, xU, xUt, xIt, J_lit, J_add, J_sub, J_mul, J_neg, J_ltc, J_lec, J_eqc, lt_T, lt_F, le_T, le_F, eq_T, eq_F, ↓reduceIte, ite_not, not_true_eq_false, not_false_eq_true, true_or, or_true, false_or, or_false, true_and, and_true, false_and, and_false, up_get, Nat.reduceEqDiff, Int.reduceNeg, eqN_T, eqN_F]
        refine De.step ?_
        simp only [j_X3_readEither_87]
        simp (disch := omega) only [b_X3_readEither_87, x1_k hs, x1_r0 hs, x1_r1 hs, x1_i2 hs, x1_w2 hs, x1_i3 hs, x1_w3 hs, x1_i4 hs, x1_w4 hs, x1_i5 hs, x1_w5 hs, x1_i6 hs, x1_w6 hs, x1_i7 hs, x1_w7 hs, Option.bind_some, xI, xU, xUt, xIt, J_lit, J_add, J_sub, J_mul, J_neg, J_ltc, J_lec, J_eqc, lt_T, lt_F, le_T, le_F, eq_T, eq_F, ↓reduceIte, ite_not, not_true_eq_false, not_false_eq_true, true_or, or_true, false_or, or_false, true_and, and_true, false_and, and_false, up_get, Nat.reduceEqDiff, Int.reduceNeg, eqN_T, eqN_F]
        refine De.call D1 ?_
        simp (disch := omega) only [x1_k hs, x1_r0 hs, x1_r1 hs, x1_i2 hs, x1_w2 hs, x1_i3 hs, x1_w3 hs, x1_i4 hs, x1_w4 hs, x1_i5 hs, x1_w5 hs, x1_i6 hs, x1_w6 hs, x1_i7 hs, x1_w7 hs, Option.bind_some, xI, xU, xUt, xIt, J_lit, J_add, J_sub, J_mul, J_neg, J_ltc, J_lec, J_eqc, lt_T, lt_F, le_T, le_F, eq_T, eq_F, ↓reduceIte, ite_not, not_true_eq_false, not_false_eq_true, true_or, or_true, false_or, or_false, true_and, and_true, false_and, and_false, up_get, Nat.reduceEqDiff, Int.reduceNeg, eqN_T, eqN_F]
        refine De.call (De.at (fun k => u (k + 1 + 1 + 1 + 1 + 1)) (fun k => by have := hu (k + 1 + 1 + 1 + 1 + 1); omega) D2) ?_
        simp (disch := omega) only [x1_k hs, x1_r0 hs, x1_r1 hs, x1_i2 hs, x1_w2 hs, x1_i3 hs, x1_w3 hs, x1_i4 hs, x1_w4 hs, x1_i5 hs, x1_w5 hs, x1_i6 hs, x1_w6 hs, x1_i7 hs, x1_w7 hs, x2_k hs, x2_r0 hs, x2_r1 hs, x2_r2 hs, x2_i3 hs, x2_w3 hs, x2_r4 hs, x2_i5 hs, x2_w5 hs, x2_r6 hs, x2_i7 hs, x2_w7 hs, J_or01, Option.bind_some, xI, xU, xUt, xIt, J_lit, J_add, J_sub, J_mul, J_neg, J_ltc, J_lec, J_eqc, lt_T, lt_F, le_T, le_F, eq_T, eq_F, ↓reduceIte, ite_not, not_true_eq_false, not_false_eq_true, true_or, or_true, false_or, or_false, true_and, and_true, false_and, and_false, up_get, Nat.reduceEqDiff, Int.reduceNeg, eqN_T, eqN_F]
        exact E
      have RR : ∀ (dp : Nat), 3 * (6 - d) + 1 ≤ dp → ∀ (S : xH) (m : Nat → Int → Int) (q : Nat → Int → Int64), Sk S → RPs m b n B s g d → ∃ m1 m2, De (fun k => f_X11_passes k 0 [.ref 136, .retAddr (24 + 1)] (hp S m q)) (.inl (some (.int (J 1)))) (hp S m1 q) ∧ De (fun k => F_X11_readCond k dp 2 [.ref 136] (hp S m1 q)) (.inl (some (.int (J (bI ok))))) (hp S m2 q) ∧ RRes m m2 b n d ok B2 s3 g3 := by
        intro dp hd S m q hs h
        obtain ⟨m1, D1, RP1, B1, F1⟩ := r_passes (q := q) (t := 24 + 1) hs hB h 6 (by decide) rfl
        rw [if_pos (show tok b n B = ((6 : Nat) : Int) by omega)] at D1 RP1
        obtain ⟨m2, D2, F2, t2, f2⟩ := RE dp hd S m1 q hs RP1
        exact ⟨m1, m2, D1, D2, F1.r.tr F2, t2, f2⟩
      cases ok with
      | false =>
        refine ⟨false, B2, s3, g3, false, B2, s3, g3, ⟨fun z => absurd z (by decide), FC.2⟩, ⟨fun _ => ⟨rfl, rfl⟩, fun z => absurd z (by decide)⟩, fun dp hd u hu S m q L i hs i0 i1 h => ?_, fun dp hd u hu S m q hs h => ?_, fun z => absurd z (by decide)⟩
        · obtain ⟨m2, R2, Z⟩ := CC dp hd S m q L i hs i0 i1 h
          have fl := R2.2.2 rfl
          have L3 : m2 2 3 = L := (R2.1 2 3 (by decide) (by decide) (by decide) (by omega)).trans h.2.2.2.1.1
          have n2 : m2 1 2 = n := (R2.1 1 2 (by decide) (by decide) (by decide) (by omega)).trans h.1
          obtain ⟨m3, D3, F3, v3, w3⟩ := c_any (q := q) (op := 4) hs L3 h.2.2.2.1.2.1 h.2.2.2.1.2.2 fl.2 (by decide) (by decide)
          obtain ⟨m4, D4, F4, v4, w4⟩ := c_endF (q := q) (ow := ow) (d := d) (dp := dp) (i := i + 1) hs ((w3 2).trans n2) (by omega) h1.2.2 ((F3 2 3 (by decide) (by decide) (by decide) (by omega)).trans L3) h.2.2.2.1.2.1 h.2.2.2.1.2.2 v3 (by omega) (by omega)
          refine ⟨m4, Z u hu ?_, R2.1.tr (F3.tr F4), fun z => absurd z (by decide), fun _ => ⟨(w4 3).trans ((w3 3).trans fl.1), v4⟩⟩
          refine De.call D3 ?_
          simp (disch := omega) only [bI_f, Option.bind_some, xI, xU, xUt, xIt, J_lit, J_add, J_sub, J_mul, J_neg, J_ltc, J_lec, J_eqc, lt_T, lt_F, le_T, le_F, eq_T, eq_F, ↓reduceIte, ite_not, not_true_eq_false, not_false_eq_true, true_or, or_true, false_or, or_false, true_and, and_true, false_and, and_false, up_get, Nat.reduceEqDiff, Int.reduceNeg, eqN_T, eqN_F]
          exact D4 (fun k => u (k + 1 + 1 + 1 + 1 + 1))
        · obtain ⟨m1, m2, D1, D2, R2⟩ := RR dp hd S m q hs h
          refine ⟨m2, ?_, R2⟩
          refine De.step ?_
          simp only [j_X11_readAllOf_9]
          simp (disch := omega) only [b_X11_readAllOf_9, x136_k hs, x136_i0 hs, x136_w0 hs, x136_r1 hs, x136_r2 hs, x136_r3 hs, x136_r4 hs, x136_i5 hs, x136_w5 hs, x136_i6 hs, x136_w6 hs, x136_i7 hs, x136_w7 hs, x136_r8 hs, x136_i9 hs, x136_w9 hs, x136_i10 hs, x136_w10 hs, x136_i11 hs, x136_w11 hs, x136_i12 hs, x136_w12 hs, x136_i13 hs, x136_w13 hs, x136_i14 hs, x136_w14 hs, x136_r15 hs, x136_i16 hs, x136_w16 hs, x136_r17 hs, x136_r18 hs, x136_r19 hs, x136_r20 hs, x136_r21 hs, x136_i22 hs, x136_w22 hs, x136_r23 hs, x136_r24 hs, x136_i25 hs, x136_w25 hs, x136_i26 hs, x136_w26 hs, x136_r27 hs, x136_r28 hs, x136_i29 hs, x136_w29 hs, Option.bind_some]
          refine De.call D1 ?_
          simp (disch := omega) only [x136_k hs, x136_i0 hs, x136_w0 hs, x136_r1 hs, x136_r2 hs, x136_r3 hs, x136_r4 hs, x136_i5 hs, x136_w5 hs, x136_i6 hs, x136_w6 hs, x136_i7 hs, x136_w7 hs, x136_r8 hs, x136_i9 hs, x136_w9 hs, x136_i10 hs, x136_w10 hs, x136_i11 hs, x136_w11 hs, x136_i12 hs, x136_w12 hs, x136_i13 hs, x136_w13 hs, x136_i14 hs, x136_w14 hs, x136_r15 hs, x136_i16 hs, x136_w16 hs, x136_r17 hs, x136_r18 hs, x136_r19 hs, x136_r20 hs, x136_r21 hs, x136_i22 hs, x136_w22 hs, x136_r23 hs, x136_r24 hs, x136_i25 hs, x136_w25 hs, x136_i26 hs, x136_w26 hs, x136_r27 hs, x136_r28 hs, x136_i29 hs, x136_w29 hs, Option.bind_some, xI, xU, xUt, xIt, J_lit, J_add, J_sub, J_mul, J_neg, J_ltc, J_lec, J_eqc, lt_T, lt_F, le_T, le_F, eq_T, eq_F, ↓reduceIte, ite_not, not_true_eq_false, not_false_eq_true, true_or, or_true, false_or, or_false, true_and, and_true, false_and, and_false, up_get, Nat.reduceEqDiff, Int.reduceNeg, eqN_T, eqN_F]
          refine De.call (De.at (fun k => u (k + 1)) (fun k => by have := hu (k + 1); omega) D2) ?_
          simp (disch := omega) only [bI_f, Option.bind_some, xI, xU, xUt, xIt, J_lit, J_add, J_sub, J_mul, J_neg, J_ltc, J_lec, J_eqc, lt_T, lt_F, le_T, le_F, eq_T, eq_F, ↓reduceIte, ite_not, not_true_eq_false, not_false_eq_true, true_or, or_true, false_or, or_false, true_and, and_true, false_and, and_false, up_get, Nat.reduceEqDiff, Int.reduceNeg, eqN_T, eqN_F]
          exact De.ret _ _
      | true =>
        obtain ⟨hB2, y1, y2, y3, y4, y5⟩ := FC.1 rfl
        have b2 := hB2.1
        obtain ⟨wa, wb⟩ := hW.atom ss y4 (by omega) y5
        obtain ⟨ok, B', s', g', ok1, B1, s1, g1, ⟨f1, f2⟩, f3, CL2, RA2, RC2⟩ := IH B2 (s3 + 1) (em g3 s3 301 0) ow S0 (by omega) hB2 S00 (by omega) (by omega) (Wfp.bin (y := ow) wa wb (by omega) (Or.inl rfl))
        refine ⟨ok, B', s', g', ok1, B1, s1, g1, ⟨fun z => ?_, f2⟩, f3, fun dp hd u hu S m q L i hs i0 i1 h => ?_, fun dp hd u hu S m q hs h => ?_, RC2⟩
        · obtain ⟨e1, e2, e3, e4, e5, e6⟩ := f1 z
          exact ⟨e1, by omega, by omega, by omega, fun i hi => (e5 i (by omega)).trans ((em_o (by omega)).trans (y4 i hi)), e6⟩
        · obtain ⟨m2, R2, Z⟩ := CC dp hd S m q L i hs i0 i1 h
          obtain ⟨C2, w2⟩ := R2.2.1 rfl
          obtain ⟨m3, D3, C3, F3, w3⟩ := c_add (q := q) (op := 4) (wh := 0) (th := 0) (st := 301) (nn := 0) hs C2 (by omega) (by decide) (by decide) (by decide) (by decide) (by decide) (by decide) (by decide)
          obtain ⟨m4, D4, F4, t4, f4⟩ := CL2 dp hd (fun k => u (k + 1 + 1 + 1 + 1 + 1)) (fun k => by have := hu (k + 1 + 1 + 1 + 1 + 1); omega) S m3 q L (i + 1) hs (by omega) (by omega) C3
          refine ⟨m4, Z u hu ?_, R2.1.tr (F3.tr F4), fun z => ⟨(t4 z).1, (t4 z).2.trans (w3.trans w2)⟩, f4⟩
          refine De.call D3 ?_
          simp (disch := omega) only [bI_t, Option.bind_some, xI, xU, xUt, xIt, J_lit, J_add, J_sub, J_mul, J_neg, J_ltc, J_lec, J_eqc, lt_T, lt_F, le_T, le_F, eq_T, eq_F, ↓reduceIte, ite_not, not_true_eq_false, not_false_eq_true, true_or, or_true, false_or, or_false, true_and, and_true, false_and, and_false, up_get, Nat.reduceEqDiff, Int.reduceNeg, eqN_T, eqN_F]
          exact D4
        · obtain ⟨m1, m2, D1, D2, R2⟩ := RR dp hd S m q hs h
          have RP2 := R2.2.1 rfl
          obtain ⟨m3, D3, RP3, F3, -⟩ := r_emits (q := q) hs RP2 (by omega) (by omega) 301 0
          obtain ⟨m4, D4, R4⟩ := RA2 dp hd (fun k => u (k + 1)) (fun k => by have := hu (k + 1); omega) S m3 q hs RP3
          refine ⟨m4, ?_, R2.1.tr (F3.tr R4.1), R4.2⟩
          refine De.step ?_
          simp only [j_X11_readAllOf_9]
          simp (disch := omega) only [b_X11_readAllOf_9, x136_k hs, x136_i0 hs, x136_w0 hs, x136_r1 hs, x136_r2 hs, x136_r3 hs, x136_r4 hs, x136_i5 hs, x136_w5 hs, x136_i6 hs, x136_w6 hs, x136_i7 hs, x136_w7 hs, x136_r8 hs, x136_i9 hs, x136_w9 hs, x136_i10 hs, x136_w10 hs, x136_i11 hs, x136_w11 hs, x136_i12 hs, x136_w12 hs, x136_i13 hs, x136_w13 hs, x136_i14 hs, x136_w14 hs, x136_r15 hs, x136_i16 hs, x136_w16 hs, x136_r17 hs, x136_r18 hs, x136_r19 hs, x136_r20 hs, x136_r21 hs, x136_i22 hs, x136_w22 hs, x136_r23 hs, x136_r24 hs, x136_i25 hs, x136_w25 hs, x136_i26 hs, x136_w26 hs, x136_r27 hs, x136_r28 hs, x136_i29 hs, x136_w29 hs, Option.bind_some]
          refine De.call D1 ?_
          simp (disch := omega) only [x136_k hs, x136_i0 hs, x136_w0 hs, x136_r1 hs, x136_r2 hs, x136_r3 hs, x136_r4 hs, x136_i5 hs, x136_w5 hs, x136_i6 hs, x136_w6 hs, x136_i7 hs, x136_w7 hs, x136_r8 hs, x136_i9 hs, x136_w9 hs, x136_i10 hs, x136_w10 hs, x136_i11 hs, x136_w11 hs, x136_i12 hs, x136_w12 hs, x136_i13 hs, x136_w13 hs, x136_i14 hs, x136_w14 hs, x136_r15 hs, x136_i16 hs, x136_w16 hs, x136_r17 hs, x136_r18 hs, x136_r19 hs, x136_r20 hs, x136_r21 hs, x136_i22 hs, x136_w22 hs, x136_r23 hs, x136_r24 hs, x136_i25 hs, x136_w25 hs, x136_i26 hs, x136_w26 hs, x136_r27 hs, x136_r28 hs, x136_i29 hs, x136_w29 hs, Option.bind_some, xI, xU, xUt, xIt, J_lit, J_add, J_sub, J_mul, J_neg, J_ltc, J_lec, J_eqc, lt_T, lt_F, le_T, le_F, eq_T, eq_F, ↓reduceIte, ite_not, not_true_eq_false, not_false_eq_true, true_or, or_true, false_or, or_false, true_and, and_true, false_and, and_false, up_get, Nat.reduceEqDiff, Int.reduceNeg, eqN_T, eqN_F]
          refine De.call (De.at (fun k => u (k + 1)) (fun k => by have := hu (k + 1); omega) D2) ?_
          simp (disch := omega) only [bI_t, x136_k hs, x136_i0 hs, x136_w0 hs, x136_r1 hs, x136_r2 hs, x136_r3 hs, x136_r4 hs, x136_i5 hs, x136_w5 hs, x136_i6 hs, x136_w6 hs, x136_i7 hs, x136_w7 hs, x136_r8 hs, x136_i9 hs, x136_w9 hs, x136_i10 hs, x136_w10 hs, x136_i11 hs, x136_w11 hs, x136_i12 hs, x136_w12 hs, x136_i13 hs, x136_w13 hs, x136_i14 hs, x136_w14 hs, x136_r15 hs, x136_i16 hs, x136_w16 hs, x136_r17 hs, x136_r18 hs, x136_r19 hs, x136_r20 hs, x136_r21 hs, x136_i22 hs, x136_w22 hs, x136_r23 hs, x136_r24 hs, x136_i25 hs, x136_w25 hs, x136_i26 hs, x136_w26 hs, x136_r27 hs, x136_r28 hs, x136_i29 hs, x136_w29 hs, Option.bind_some, xI, xU, xUt, xIt, J_lit, J_add, J_sub, J_mul, J_neg, J_ltc, J_lec, J_eqc, lt_T, lt_F, le_T, le_F, eq_T, eq_F, ↓reduceIte, ite_not, not_true_eq_false, not_false_eq_true, true_or, or_true, false_or, or_false, true_and, and_true, false_and, and_false, up_get, Nat.reduceEqDiff, Int.reduceNeg, eqN_T, eqN_F]
          refine De.call D3 ?_
          simp (disch := omega) only [Option.bind_some, xI, xU, xUt, xIt, J_lit, J_add, J_sub, J_mul, J_neg, J_ltc, J_lec, J_eqc, lt_T, lt_F, le_T, le_F, eq_T, eq_F, ↓reduceIte, ite_not, not_true_eq_false, not_false_eq_true, true_or, or_true, false_or, or_false, true_and, and_true, false_and, and_false, up_get, Nat.reduceEqDiff, Int.reduceNeg, eqN_T, eqN_F]
          exact D4
    · have RAN : ∀ (dp : Nat) (u : Nat → Nat) (S : xH) (m : Nat → Int → Int) (q : Nat → Int → Int64), Sk S → RPs m b n B s g d → ∃ m', De (fun k => g_X11_readAllOf (F_X11_readCond (u k) dp) k 9 [.ref 136] (hp S m q)) (.inl (some (.int (J (bI true))))) (hp S m' q) ∧ RRes m m' b n d true B s g := by
        intro dp u S m q hs h
        obtain ⟨m1, D1, RP1, B1, F1⟩ := r_passes (q := q) (t := 24 + 1) hs hB h 6 (by decide) rfl
        rw [if_neg (show ¬ tok b n B = ((6 : Nat) : Int) by omega)] at D1 RP1
        refine ⟨m1, ?_, F1.r, fun _ => RP1, fun z => absurd z (by decide)⟩
        refine De.step ?_
        simp only [j_X11_readAllOf_9]
        simp (disch := omega) only [b_X11_readAllOf_9, x136_k hs, x136_i0 hs, x136_w0 hs, x136_r1 hs, x136_r2 hs, x136_r3 hs, x136_r4 hs, x136_i5 hs, x136_w5 hs, x136_i6 hs, x136_w6 hs, x136_i7 hs, x136_w7 hs, x136_r8 hs, x136_i9 hs, x136_w9 hs, x136_i10 hs, x136_w10 hs, x136_i11 hs, x136_w11 hs, x136_i12 hs, x136_w12 hs, x136_i13 hs, x136_w13 hs, x136_i14 hs, x136_w14 hs, x136_r15 hs, x136_i16 hs, x136_w16 hs, x136_r17 hs, x136_r18 hs, x136_r19 hs, x136_r20 hs, x136_r21 hs, x136_i22 hs, x136_w22 hs, x136_r23 hs, x136_r24 hs, x136_i25 hs, x136_w25 hs, x136_i26 hs, x136_w26 hs, x136_r27 hs, x136_r28 hs, x136_i29 hs, x136_w29 hs, Option.bind_some]
        refine De.call D1 ?_
        simp (disch := omega) only [bI_t, Option.bind_some, xI, xU, xUt, xIt, J_lit, J_add, J_sub, J_mul, J_neg, J_ltc, J_lec, J_eqc, lt_T, lt_F, le_T, le_F, eq_T, eq_F, ↓reduceIte, ite_not, not_true_eq_false, not_false_eq_true, true_or, or_true, false_or, or_false, true_and, and_true, false_and, and_false, up_get, Nat.reduceEqDiff, Int.reduceNeg, eqN_T, eqN_F]
        exact De.ret _ _
      have wF := hW.fin ss
      by_cases cO : tok b n B = 5
      · have lt := tok_lt (show tok b n B ≠ 21 by omega)
        have tw := ten_wd (k := 5) h1.2.1 (by decide) cO
        obtain ⟨hB1, x1, x2⟩ := hB.nx lt
        obtain ⟨ok, B2, s3, g3, FC, CL, RE⟩ := PA (nxB b n B) (s + bI ow) (gO ow g s) hB1 (by omega) (by omega)
        have CC : ∀ (dp : Nat), 2 * (6 - d) + 1 ≤ dp → ∀ (S : xH) (m : Nat → Int → Int) (q : Nat → Int → Int64) (L i : Int), Sk S → 0 ≤ i → i ≤ B → CPs m b n B s g L → ∃ m2, CRes m m2 b n L ok B2 s3 g3 ∧ ∀ {R : xR} {P : xH} (u : Nat → Nat), (∀ k, k ≤ u k) → De (fun k => g_X3_readEither (F_X3_readEither (u (k + 1 + 1 + 1 + 1 + 1)) dp) k 11 [.ref 1, .int (J d), .int (J (bI true)), .int (J (bI ok)), .int (J (i + 1))] (hp S m2 q)) R P → De (fun k => g_X3_readEither (F_X3_readEither (u k) dp) k 11 [.ref 1, .int (J d), .int (J (bI ow)), .int (J 1), .int (J i)] (hp S m q)) R P := by
          intro dp hd S m q L i hs i0 i1 h
          have tk := h.tk
          have h2 : m 1 2 = n := h.1
          obtain ⟨ma, Ca, Fa, wa, Za⟩ : ∃ ma, CPs ma b n B (s + bI ow) (gO ow g s) L ∧ FrPa L m ma ∧ ma 1 3 = m 1 3 ∧ ∀ {R : xR} {P : xH} (u : Nat → Nat), De (fun k => g_X3_readEither (F_X3_readEither (u (k + 1)) dp) k 76 [.ref 1, .int (J d), .int (J (bI ow)), .int (J 1), .int (J i), .int (J 0)] (hp S ma q)) R P → De (fun k => g_X3_readEither (F_X3_readEither (u k) dp) k 55 [.ref 1, .int (J d), .int (J (bI ow)), .int (J 1), .int (J i), .int (J 0)] (hp S m q)) R P := by
            cases ow with
            | false =>
              refine ⟨m, by rw [bI_f, Int.add_zero]; exact h, fun _ _ _ _ _ _ => rfl, rfl, fun u D => ?_⟩
              rw [bI_f] at D ⊢
              refine De.step ?_
              simp only [j_X3_readEither_55]
              simp (disch := omega) only [b_X3_readEither_55, Option.bind_some, xI, xU, xUt, xIt, J_lit, J_add, J_sub, J_mul, J_neg, J_ltc, J_lec, J_eqc, lt_T, lt_F, le_T, le_F, eq_T, eq_F, ↓reduceIte, ite_not, not_true_eq_false, not_false_eq_true, true_or, or_true, false_or, or_false, true_and, and_true, false_and, and_false, up_get, Nat.reduceEqDiff, Int.reduceNeg, eqN_T, eqN_F]
              exact D
            | true =>
              obtain ⟨ma, Da, Ca, Fa, wa⟩ := c_or (q := q) (ow := true) hs h (by omega) rfl
              refine ⟨ma, Ca, Fa, wa, fun u D => ?_⟩
              rw [bI_t] at D ⊢
              refine De.step ?_
              simp only [j_X3_readEither_55]
              simp (disch := omega) only [b_X3_readEither_55, x1_k hs, x1_r0 hs, x1_r1 hs, x1_i2 hs, x1_w2 hs, x1_i3 hs, x1_w3 hs, x1_i4 hs, x1_w4 hs, x1_i5 hs, x1_w5 hs, x1_i6 hs, x1_w6 hs, x1_i7 hs, x1_w7 hs, x2_k hs, x2_r0 hs, x2_r1 hs, x2_r2 hs, x2_i3 hs, x2_w3 hs, x2_r4 hs, x2_i5 hs, x2_w5 hs, x2_r6 hs, x2_i7 hs, x2_w7 hs, Option.bind_some, xI, xU, xUt, xIt, J_lit, J_add, J_sub, J_mul, J_neg, J_ltc, J_lec, J_eqc, lt_T, lt_F, le_T, le_F, eq_T, eq_F, ↓reduceIte, ite_not, not_true_eq_false, not_false_eq_true, true_or, or_true, false_or, or_false, true_and, and_true, false_and, and_false, up_get, Nat.reduceEqDiff, Int.reduceNeg, eqN_T, eqN_F]
              refine De.call Da ?_
              simp (disch := omega) only [Option.bind_some, xI, xU, xUt, xIt, J_lit, J_add, J_sub, J_mul, J_neg, J_ltc, J_lec, J_eqc, lt_T, lt_F, le_T, le_F, eq_T, eq_F, ↓reduceIte, ite_not, not_true_eq_false, not_false_eq_true, true_or, or_true, false_or, or_false, true_and, and_true, false_and, and_false, up_get, Nat.reduceEqDiff, Int.reduceNeg, eqN_T, eqN_F]
              exact D
          obtain ⟨m1, D1, C1, F1⟩ := c_next (q := q) hs hB Ca lt
          obtain ⟨m2, D2, F2, t2, f2⟩ := CL dp hd S m1 q L hs C1
          refine ⟨m2, ⟨Fa.tr (F1.p.tr F2), fun z => ⟨(t2 z).1, (t2 z).2.trans ((F1 1 3 (by omega)).trans wa)⟩, f2⟩, fun u hu E => ?_⟩
          refine De.step ?_
          simp only [j_X3_readEither_11]
          simp (disch := omega) only [b_X3_readEither_11, x1_k hs, x1_r0 hs, x1_r1 hs, x1_i2 hs, x1_w2 hs, x1_i3 hs, x1_w3 hs, x1_i4 hs, x1_w4 hs, x1_i5 hs, x1_w5 hs, x1_i6 hs, x1_w6 hs, x1_i7 hs, x1_w7 hs, tk.1, h2, cO, Option.bind_some, xI, xU, xUt, xIt, J_lit, J_add, J_sub, J_mul, J_neg, J_ltc, J_lec, J_eqc, lt_T, lt_F, le_T, le_F, eq_T, eq_F, ↓reduceIte, ite_not, not_true_eq_false, not_false_eq_true, true_or, or_true, false_or, or_false, true_and, and_true, false_and, and_false, up_get, Nat.reduceEqDiff, Int.reduceNeg, eqN_T, eqN_F]
          refine De.step ?_
          simp only [j_X3_readEither_41]
          simp (disch := omega) only [b_X3_readEither_41, x1_k hs, x1_r0 hs, x1_r1 hs, x1_i2 hs, x1_w2 hs, x1_i3 hs, x1_w3 hs, x1_i4 hs, x1_w4 hs, x1_i5 hs, x1_w5 hs, x1_i6 hs, x1_w6 hs, x1_i7 hs, x1_w7 hs, tk.1, cO, Option.bind_some, xI, xU, xUt, xIt, J_lit, J_add, J_sub, J_mul, J_neg, J_ltc, J_lec, J_eqc, lt_T, lt_F, le_T, le_F, eq_T, eq_F, ↓reduceIte, ite_not, not_true_eq_false, not_false_eq_true, true_or, or_true, false_or, or_false, true_and, and_true, false_and, and_false, up_get, Nat.reduceEqDiff, Int.reduceNeg, eqN_T, eqN_F]
          refine Za (fun k => u (k + 1 + 1)) ?_
          refine De.step ?_
          simp only [j_X3_readEither_76]
          simp (disch := omega) only [b_X3_readEither_76, Option.bind_some, xI, xU, xUt, xIt, J_lit, J_add, J_sub, J_mul, J_neg, J_ltc, J_lec, J_eqc, lt_T, lt_F, le_T, le_F, eq_T, eq_F, ↓reduceIte, ite_not, not_true_eq_false, not_false_eq_true, true_or, or_true, false_or, or_false, true_and, and_true, false_and, and_false, up_get, Nat.reduceEqDiff, Int.reduceNeg, eqN_T, eqN_F]
          refine De.step ?_
          simp only [j_X3_readEither_87]
          simp (disch := omega) only [b_X3_readEither_87, x1_k hs, x1_r0 hs, x1_r1 hs, x1_i2 hs, x1_w2 hs, x1_i3 hs, x1_w3 hs, x1_i4 hs, x1_w4 hs, x1_i5 hs, x1_w5 hs, x1_i6 hs, x1_w6 hs, x1_i7 hs, x1_w7 hs, Option.bind_some, xI, xU, xUt, xIt, J_lit, J_add, J_sub, J_mul, J_neg, J_ltc, J_lec, J_eqc, lt_T, lt_F, le_T, le_F, eq_T, eq_F, ↓reduceIte, ite_not, not_true_eq_false, not_false_eq_true, true_or, or_true, false_or, or_false, true_and, and_true, false_and, and_false, up_get, Nat.reduceEqDiff, Int.reduceNeg, eqN_T, eqN_F]
          refine De.call D1 ?_
          simp (disch := omega) only [x1_k hs, x1_r0 hs, x1_r1 hs, x1_i2 hs, x1_w2 hs, x1_i3 hs, x1_w3 hs, x1_i4 hs, x1_w4 hs, x1_i5 hs, x1_w5 hs, x1_i6 hs, x1_w6 hs, x1_i7 hs, x1_w7 hs, Option.bind_some, xI, xU, xUt, xIt, J_lit, J_add, J_sub, J_mul, J_neg, J_ltc, J_lec, J_eqc, lt_T, lt_F, le_T, le_F, eq_T, eq_F, ↓reduceIte, ite_not, not_true_eq_false, not_false_eq_true, true_or, or_true, false_or, or_false, true_and, and_true, false_and, and_false, up_get, Nat.reduceEqDiff, Int.reduceNeg, eqN_T, eqN_F]
          refine De.call (De.at (fun k => u (k + 1 + 1 + 1 + 1 + 1)) (fun k => by have := hu (k + 1 + 1 + 1 + 1 + 1); omega) D2) ?_
          simp (disch := omega) only [J_or11, Option.bind_some, xI, xU, xUt, xIt, J_lit, J_add, J_sub, J_mul, J_neg, J_ltc, J_lec, J_eqc, lt_T, lt_F, le_T, le_F, eq_T, eq_F, ↓reduceIte, ite_not, not_true_eq_false, not_false_eq_true, true_or, or_true, false_or, or_false, true_and, and_true, false_and, and_false, up_get, Nat.reduceEqDiff, Int.reduceNeg, eqN_T, eqN_F]
          exact E
        have RR : ∀ (dp : Nat), 3 * (6 - d) + 1 ≤ dp → ∀ (S : xH) (m : Nat → Int → Int) (q : Nat → Int → Int64), Sk S → RPs m b n B (s + bI ow) (gO ow g s) d → ∃ m1 m2, De (fun k => f_X11_passes k 0 [.ref 136, .retAddr (25 + 1)] (hp S m q)) (.inl (some (.int (J 1)))) (hp S m1 q) ∧ De (fun k => F_X11_readCond k dp 2 [.ref 136] (hp S m1 q)) (.inl (some (.int (J (bI ok))))) (hp S m2 q) ∧ RRes m m2 b n d ok B2 s3 g3 := by
          intro dp hd S m q hs h
          obtain ⟨m1, D1, RP1, B1, F1⟩ := r_passes (q := q) (t := 25 + 1) hs hB h 5 (by decide) rfl
          rw [if_pos (show tok b n B = ((5 : Nat) : Int) by omega)] at D1 RP1
          obtain ⟨m2, D2, F2, t2, f2⟩ := RE dp hd S m1 q hs RP1
          exact ⟨m1, m2, D1, D2, F1.r.tr F2, t2, f2⟩
        cases ok with
        | false =>
          refine ⟨false, B2, s3, g3, true, B, s, g, ⟨fun z => absurd z (by decide), FC.2⟩, ⟨fun z => absurd z (by decide), fun _ => ⟨hB, by omega, by omega⟩⟩, fun dp hd u hu S m q L i hs i0 i1 h => ?_, fun dp hd u hu S m q hs h => RAN dp u S m q hs h, fun _ dp hd u hu S m q hs h => ?_⟩
          · obtain ⟨m2, R2, Z⟩ := CC dp hd S m q L i hs i0 i1 h
            have fl := R2.2.2 rfl
            have L3 : m2 2 3 = L := (R2.1 2 3 (by decide) (by decide) (by decide) (by omega)).trans h.2.2.2.1.1
            have n2 : m2 1 2 = n := (R2.1 1 2 (by decide) (by decide) (by decide) (by omega)).trans h.1
            obtain ⟨m4, D4, F4, v4, w4⟩ := c_endF (q := q) (ow := true) (d := d) (dp := dp) (i := i + 1) hs n2 (by omega) h1.2.2 L3 h.2.2.2.1.2.1 h.2.2.2.1.2.2 fl.2 (by omega) (by omega)
            exact ⟨m4, Z u hu (D4 (fun k => u (k + 1 + 1 + 1 + 1 + 1))), R2.1.tr F4, fun z => absurd z (by decide), fun _ => ⟨(w4 3).trans fl.1, v4⟩⟩
          · obtain ⟨dp, rfl⟩ : ∃ e, dp = e + 1 := ⟨dp - 1, by omega⟩
            obtain ⟨m1, m2, D1, D2, R2⟩ := RR dp (by omega) S m q hs h
            refine ⟨m2, ?_, R2⟩
            have DL : De (fun k => F_X11_readCond k (dp + 1) 1 [.ref 136] (hp S m1 q)) (.inl (some (.int (J 0)))) (hp S m2 q) := by
              simp only [FqML]
              refine De.step ?_
              simp only [j_X11_readAllOf_0]
              simp (disch := omega) only [b_X11_readAllOf_0, x136_k hs, x136_i0 hs, x136_w0 hs, x136_r1 hs, x136_r2 hs, x136_r3 hs, x136_r4 hs, x136_i5 hs, x136_w5 hs, x136_i6 hs, x136_w6 hs, x136_i7 hs, x136_w7 hs, x136_r8 hs, x136_i9 hs, x136_w9 hs, x136_i10 hs, x136_w10 hs, x136_i11 hs, x136_w11 hs, x136_i12 hs, x136_w12 hs, x136_i13 hs, x136_w13 hs, x136_i14 hs, x136_w14 hs, x136_r15 hs, x136_i16 hs, x136_w16 hs, x136_r17 hs, x136_r18 hs, x136_r19 hs, x136_r20 hs, x136_r21 hs, x136_i22 hs, x136_w22 hs, x136_r23 hs, x136_r24 hs, x136_i25 hs, x136_w25 hs, x136_i26 hs, x136_w26 hs, x136_r27 hs, x136_r28 hs, x136_i29 hs, x136_w29 hs, Option.bind_some]
              refine De.call (De.at (fun k => k + 1) (fun k => by omega) D2) ?_
              simp (disch := omega) only [bI_f, Option.bind_some, xI, xU, xUt, xIt, J_lit, J_add, J_sub, J_mul, J_neg, J_ltc, J_lec, J_eqc, lt_T, lt_F, le_T, le_F, eq_T, eq_F, ↓reduceIte, ite_not, not_true_eq_false, not_false_eq_true, true_or, or_true, false_or, or_false, true_and, and_true, false_and, and_false, up_get, Nat.reduceEqDiff, Int.reduceNeg, eqN_T, eqN_F]
              exact De.ret _ _
            refine De.step ?_
            simp only [j_X11_readCond_9]
            simp (disch := omega) only [b_X11_readCond_9, x136_k hs, x136_i0 hs, x136_w0 hs, x136_r1 hs, x136_r2 hs, x136_r3 hs, x136_r4 hs, x136_i5 hs, x136_w5 hs, x136_i6 hs, x136_w6 hs, x136_i7 hs, x136_w7 hs, x136_r8 hs, x136_i9 hs, x136_w9 hs, x136_i10 hs, x136_w10 hs, x136_i11 hs, x136_w11 hs, x136_i12 hs, x136_w12 hs, x136_i13 hs, x136_w13 hs, x136_i14 hs, x136_w14 hs, x136_r15 hs, x136_i16 hs, x136_w16 hs, x136_r17 hs, x136_r18 hs, x136_r19 hs, x136_r20 hs, x136_r21 hs, x136_i22 hs, x136_w22 hs, x136_r23 hs, x136_r24 hs, x136_i25 hs, x136_w25 hs, x136_i26 hs, x136_w26 hs, x136_r27 hs, x136_r28 hs, x136_i29 hs, x136_w29 hs, Option.bind_some]
            refine De.call D1 ?_
            simp (disch := omega) only [x136_k hs, x136_i0 hs, x136_w0 hs, x136_r1 hs, x136_r2 hs, x136_r3 hs, x136_r4 hs, x136_i5 hs, x136_w5 hs, x136_i6 hs, x136_w6 hs, x136_i7 hs, x136_w7 hs, x136_r8 hs, x136_i9 hs, x136_w9 hs, x136_i10 hs, x136_w10 hs, x136_i11 hs, x136_w11 hs, x136_i12 hs, x136_w12 hs, x136_i13 hs, x136_w13 hs, x136_i14 hs, x136_w14 hs, x136_r15 hs, x136_i16 hs, x136_w16 hs, x136_r17 hs, x136_r18 hs, x136_r19 hs, x136_r20 hs, x136_r21 hs, x136_i22 hs, x136_w22 hs, x136_r23 hs, x136_r24 hs, x136_i25 hs, x136_w25 hs, x136_i26 hs, x136_w26 hs, x136_r27 hs, x136_r28 hs, x136_i29 hs, x136_w29 hs, Option.bind_some, xI, xU, xUt, xIt, J_lit, J_add, J_sub, J_mul, J_neg, J_ltc, J_lec, J_eqc, lt_T, lt_F, le_T, le_F, eq_T, eq_F, ↓reduceIte, ite_not, not_true_eq_false, not_false_eq_true, true_or, or_true, false_or, or_false, true_and, and_true, false_and, and_false, up_get, Nat.reduceEqDiff, Int.reduceNeg, eqN_T, eqN_F]
            refine De.call (De.at (fun k => u (k + 1)) (fun k => by have := hu (k + 1); omega) DL) ?_
            simp (disch := omega) only [bI_f, Option.bind_some, xI, xU, xUt, xIt, J_lit, J_add, J_sub, J_mul, J_neg, J_ltc, J_lec, J_eqc, lt_T, lt_F, le_T, le_F, eq_T, eq_F, ↓reduceIte, ite_not, not_true_eq_false, not_false_eq_true, true_or, or_true, false_or, or_false, true_and, and_true, false_and, and_false, up_get, Nat.reduceEqDiff, Int.reduceNeg, eqN_T, eqN_F]
            exact De.ret _ _
        | true =>
          obtain ⟨hB2, y1, y2, y3, y4, y5⟩ := FC.1 rfl
          have b2 := hB2.1
          have wG : Wfp (gO ow g s) S0 (s + bI ow) A false := ⟨wF.1, fun h0 a e => by rw [bI_f, Int.add_zero]; exact wF.2 h0 a e⟩
          obtain ⟨wa, wb⟩ := wG.atom (by omega) y4 (by omega) y5
          obtain ⟨ok, B', s', g', ok1, B1, s1, g1, ⟨f1, f2⟩, ⟨f3, f4⟩, CL2, RA2, RC2⟩ := IH B2 s3 g3 true S0 (by omega) hB2 S00 (by omega) (by rw [bI_t]; omega) ⟨wb, fun h0 a e => by rw [wa h0 a e, bI_f, bI_t]; congr 1; omega⟩
          refine ⟨ok, B', s', g', true, B, s, g, ⟨fun z => ?_, f2⟩, ⟨fun z => absurd z (by decide), fun _ => ⟨hB, by omega, by omega⟩⟩, fun dp hd u hu S m q L i hs i0 i1 h => ?_, fun dp hd u hu S m q hs h => RAN dp u S m q hs h, fun _ dp hd u hu S m q hs h => ?_⟩
          · obtain ⟨e1, e2, e3, e4, e5, e6⟩ := f1 z
            rw [bI_t] at e4
            exact ⟨e1, by omega, by omega, by omega, fun i hi => (e5 i (by omega)).trans ((y4 i (by omega)).trans (gO_o hi)), e6⟩
          · obtain ⟨m2, R2, Z⟩ := CC dp hd S m q L i hs i0 i1 h
            obtain ⟨C2, w2⟩ := R2.2.1 rfl
            obtain ⟨m4, D4, F4, t4, f4⟩ := CL2 dp hd (fun k => u (k + 1 + 1 + 1 + 1 + 1)) (fun k => by have := hu (k + 1 + 1 + 1 + 1 + 1); omega) S m2 q L (i + 1) hs (by omega) (by omega) C2
            exact ⟨m4, Z u hu D4, R2.1.tr F4, fun z => ⟨(t4 z).1, (t4 z).2.trans w2⟩, f4⟩
          · obtain ⟨dp, rfl⟩ : ∃ e, dp = e + 1 := ⟨dp - 1, by omega⟩
            obtain ⟨m1, m2, D1, D2, R2⟩ := RR dp (by omega) S m q hs h
            have RP2 := R2.2.1 rfl
            obtain ⟨m3, D3, R3⟩ := RA2 dp (by omega) (fun k => k + 1) (fun k => by omega) S m2 q hs RP2
            have DL : De (fun k => F_X11_readCond k (dp + 1) 1 [.ref 136] (hp S m1 q)) (.inl (some (.int (J (bI ok1))))) (hp S m3 q) := by
              simp only [FqML]
              refine De.step ?_
              simp only [j_X11_readAllOf_0]
              simp (disch := omega) only [b_X11_readAllOf_0, x136_k hs, x136_i0 hs, x136_w0 hs, x136_r1 hs, x136_r2 hs, x136_r3 hs, x136_r4 hs, x136_i5 hs, x136_w5 hs, x136_i6 hs, x136_w6 hs, x136_i7 hs, x136_w7 hs, x136_r8 hs, x136_i9 hs, x136_w9 hs, x136_i10 hs, x136_w10 hs, x136_i11 hs, x136_w11 hs, x136_i12 hs, x136_w12 hs, x136_i13 hs, x136_w13 hs, x136_i14 hs, x136_w14 hs, x136_r15 hs, x136_i16 hs, x136_w16 hs, x136_r17 hs, x136_r18 hs, x136_r19 hs, x136_r20 hs, x136_r21 hs, x136_i22 hs, x136_w22 hs, x136_r23 hs, x136_r24 hs, x136_i25 hs, x136_w25 hs, x136_i26 hs, x136_w26 hs, x136_r27 hs, x136_r28 hs, x136_i29 hs, x136_w29 hs, Option.bind_some]
              refine De.call (De.at (fun k => k + 1) (fun k => by omega) D2) ?_
              simp (disch := omega) only [bI_t, Option.bind_some, xI, xU, xUt, xIt, J_lit, J_add, J_sub, J_mul, J_neg, J_ltc, J_lec, J_eqc, lt_T, lt_F, le_T, le_F, eq_T, eq_F, ↓reduceIte, ite_not, not_true_eq_false, not_false_eq_true, true_or, or_true, false_or, or_false, true_and, and_true, false_and, and_false, up_get, Nat.reduceEqDiff, Int.reduceNeg, eqN_T, eqN_F]
              exact D3
            cases ok1 with
            | false =>
              obtain ⟨e1, e2⟩ := f3 rfl
              subst e1
              refine ⟨m3, ?_, R2.1.tr R3.1, fun z => absurd z (by decide), fun z => (R3.2.2 rfl).trans e2⟩
              refine De.step ?_
              simp only [j_X11_readCond_9]
              simp (disch := omega) only [b_X11_readCond_9, x136_k hs, x136_i0 hs, x136_w0 hs, x136_r1 hs, x136_r2 hs, x136_r3 hs, x136_r4 hs, x136_i5 hs, x136_w5 hs, x136_i6 hs, x136_w6 hs, x136_i7 hs, x136_w7 hs, x136_r8 hs, x136_i9 hs, x136_w9 hs, x136_i10 hs, x136_w10 hs, x136_i11 hs, x136_w11 hs, x136_i12 hs, x136_w12 hs, x136_i13 hs, x136_w13 hs, x136_i14 hs, x136_w14 hs, x136_r15 hs, x136_i16 hs, x136_w16 hs, x136_r17 hs, x136_r18 hs, x136_r19 hs, x136_r20 hs, x136_r21 hs, x136_i22 hs, x136_w22 hs, x136_r23 hs, x136_r24 hs, x136_i25 hs, x136_w25 hs, x136_i26 hs, x136_w26 hs, x136_r27 hs, x136_r28 hs, x136_i29 hs, x136_w29 hs, Option.bind_some]
              refine De.call D1 ?_
              simp (disch := omega) only [x136_k hs, x136_i0 hs, x136_w0 hs, x136_r1 hs, x136_r2 hs, x136_r3 hs, x136_r4 hs, x136_i5 hs, x136_w5 hs, x136_i6 hs, x136_w6 hs, x136_i7 hs, x136_w7 hs, x136_r8 hs, x136_i9 hs, x136_w9 hs, x136_i10 hs, x136_w10 hs, x136_i11 hs, x136_w11 hs, x136_i12 hs, x136_w12 hs, x136_i13 hs, x136_w13 hs, x136_i14 hs, x136_w14 hs, x136_r15 hs, x136_i16 hs, x136_w16 hs, x136_r17 hs, x136_r18 hs, x136_r19 hs, x136_r20 hs, x136_r21 hs, x136_i22 hs, x136_w22 hs, x136_r23 hs, x136_r24 hs, x136_i25 hs, x136_w25 hs, x136_i26 hs, x136_w26 hs, x136_r27 hs, x136_r28 hs, x136_i29 hs, x136_w29 hs, Option.bind_some, xI, xU, xUt, xIt, J_lit, J_add, J_sub, J_mul, J_neg, J_ltc, J_lec, J_eqc, lt_T, lt_F, le_T, le_F, eq_T, eq_F, ↓reduceIte, ite_not, not_true_eq_false, not_false_eq_true, true_or, or_true, false_or, or_false, true_and, and_true, false_and, and_false, up_get, Nat.reduceEqDiff, Int.reduceNeg, eqN_T, eqN_F]
              refine De.call (De.at (fun k => u (k + 1)) (fun k => by have := hu (k + 1); omega) DL) ?_
              simp (disch := omega) only [bI_f, Option.bind_some, xI, xU, xUt, xIt, J_lit, J_add, J_sub, J_mul, J_neg, J_ltc, J_lec, J_eqc, lt_T, lt_F, le_T, le_F, eq_T, eq_F, ↓reduceIte, ite_not, not_true_eq_false, not_false_eq_true, true_or, or_true, false_or, or_false, true_and, and_true, false_and, and_false, up_get, Nat.reduceEqDiff, Int.reduceNeg, eqN_T, eqN_F]
              exact De.ret _ _
            | true =>
              obtain ⟨hB3, q1, q2⟩ := f4 rfl
              rw [bI_t] at q2
              have RP3 := R3.2.1 rfl
              obtain ⟨m4, D4, RP4, F4, -⟩ := r_emits (q := q) hs RP3 q1 (by omega) 302 0
              obtain ⟨m5, D5, R5⟩ := RC2 rfl (dp + 1) hd (fun k => u (k + 1)) (fun k => by have := hu (k + 1); omega) S m4 q hs RP4
              refine ⟨m5, ?_, R2.1.tr (R3.1.tr (F4.tr R5.1)), R5.2⟩
              refine De.step ?_
              simp only [j_X11_readCond_9]
              simp (disch := omega) only [b_X11_readCond_9, x136_k hs, x136_i0 hs, x136_w0 hs, x136_r1 hs, x136_r2 hs, x136_r3 hs, x136_r4 hs, x136_i5 hs, x136_w5 hs, x136_i6 hs, x136_w6 hs, x136_i7 hs, x136_w7 hs, x136_r8 hs, x136_i9 hs, x136_w9 hs, x136_i10 hs, x136_w10 hs, x136_i11 hs, x136_w11 hs, x136_i12 hs, x136_w12 hs, x136_i13 hs, x136_w13 hs, x136_i14 hs, x136_w14 hs, x136_r15 hs, x136_i16 hs, x136_w16 hs, x136_r17 hs, x136_r18 hs, x136_r19 hs, x136_r20 hs, x136_r21 hs, x136_i22 hs, x136_w22 hs, x136_r23 hs, x136_r24 hs, x136_i25 hs, x136_w25 hs, x136_i26 hs, x136_w26 hs, x136_r27 hs, x136_r28 hs, x136_i29 hs, x136_w29 hs, Option.bind_some]
              refine De.call D1 ?_
              simp (disch := omega) only [x136_k hs, x136_i0 hs, x136_w0 hs, x136_r1 hs, x136_r2 hs, x136_r3 hs, x136_r4 hs, x136_i5 hs, x136_w5 hs, x136_i6 hs, x136_w6 hs, x136_i7 hs, x136_w7 hs, x136_r8 hs, x136_i9 hs, x136_w9 hs, x136_i10 hs, x136_w10 hs, x136_i11 hs, x136_w11 hs, x136_i12 hs, x136_w12 hs, x136_i13 hs, x136_w13 hs, x136_i14 hs, x136_w14 hs, x136_r15 hs, x136_i16 hs, x136_w16 hs, x136_r17 hs, x136_r18 hs, x136_r19 hs, x136_r20 hs, x136_r21 hs, x136_i22 hs, x136_w22 hs, x136_r23 hs, x136_r24 hs, x136_i25 hs, x136_w25 hs, x136_i26 hs, x136_w26 hs, x136_r27 hs, x136_r28 hs, x136_i29 hs, x136_w29 hs, Option.bind_some, xI, xU, xUt, xIt, J_lit, J_add, J_sub, J_mul, J_neg, J_ltc, J_lec, J_eqc, lt_T, lt_F, le_T, le_F, eq_T, eq_F, ↓reduceIte, ite_not, not_true_eq_false, not_false_eq_true, true_or, or_true, false_or, or_false, true_and, and_true, false_and, and_false, up_get, Nat.reduceEqDiff, Int.reduceNeg, eqN_T, eqN_F]
              refine De.call (De.at (fun k => u (k + 1)) (fun k => by have := hu (k + 1); omega) DL) ?_
              simp (disch := omega) only [bI_t, x136_k hs, x136_i0 hs, x136_w0 hs, x136_r1 hs, x136_r2 hs, x136_r3 hs, x136_r4 hs, x136_i5 hs, x136_w5 hs, x136_i6 hs, x136_w6 hs, x136_i7 hs, x136_w7 hs, x136_r8 hs, x136_i9 hs, x136_w9 hs, x136_i10 hs, x136_w10 hs, x136_i11 hs, x136_w11 hs, x136_i12 hs, x136_w12 hs, x136_i13 hs, x136_w13 hs, x136_i14 hs, x136_w14 hs, x136_r15 hs, x136_i16 hs, x136_w16 hs, x136_r17 hs, x136_r18 hs, x136_r19 hs, x136_r20 hs, x136_r21 hs, x136_i22 hs, x136_w22 hs, x136_r23 hs, x136_r24 hs, x136_i25 hs, x136_w25 hs, x136_i26 hs, x136_w26 hs, x136_r27 hs, x136_r28 hs, x136_i29 hs, x136_w29 hs, Option.bind_some, xI, xU, xUt, xIt, J_lit, J_add, J_sub, J_mul, J_neg, J_ltc, J_lec, J_eqc, lt_T, lt_F, le_T, le_F, eq_T, eq_F, ↓reduceIte, ite_not, not_true_eq_false, not_false_eq_true, true_or, or_true, false_or, or_false, true_and, and_true, false_and, and_false, up_get, Nat.reduceEqDiff, Int.reduceNeg, eqN_T, eqN_F]
              refine De.call D4 ?_
              simp (disch := omega) only [Option.bind_some, xI, xU, xUt, xIt, J_lit, J_add, J_sub, J_mul, J_neg, J_ltc, J_lec, J_eqc, lt_T, lt_F, le_T, le_F, eq_T, eq_F, ↓reduceIte, ite_not, not_true_eq_false, not_false_eq_true, true_or, or_true, false_or, or_false, true_and, and_true, false_and, and_false, up_get, Nat.reduceEqDiff, Int.reduceNeg, eqN_T, eqN_F]
              exact D5
      · refine ⟨true, B, s + bI ow, gO ow g s, true, B, s, g, ⟨fun _ => ⟨hB, by omega, by omega, by omega, fun i hi => gO_o hi, wF⟩, fun z => absurd z (by decide)⟩, ⟨fun z => absurd z (by decide), fun _ => ⟨hB, by omega, by omega⟩⟩, fun dp hd u hu S m q L i hs i0 i1 h => ?_, fun dp hd u hu S m q hs h => RAN dp u S m q hs h, fun _ dp hd u hu S m q hs h => ?_⟩
        · have tk := h.tk
          have h2 : m 1 2 = n := h.1
          obtain ⟨m', D, C, F, w⟩ := c_end (q := q) (ow := ow) (d := d) (dp := dp) hs h (by omega)
          refine ⟨m', ?_, F, fun _ => ⟨C, w⟩, fun z => absurd z (by decide)⟩
          rw [bI_t]
          by_cases c : n ≤ i
          · refine De.step ?_
            simp only [j_X3_readEither_11]
            simp (disch := omega) only [b_X3_readEither_11, x1_k hs, x1_r0 hs, x1_r1 hs, x1_i2 hs, x1_w2 hs, x1_i3 hs, x1_w3 hs, x1_i4 hs, x1_w4 hs, x1_i5 hs, x1_w5 hs, x1_i6 hs, x1_w6 hs, x1_i7 hs, x1_w7 hs, h2, Option.bind_some, xI, xU, xUt, xIt, J_lit, J_add, J_sub, J_mul, J_neg, J_ltc, J_lec, J_eqc, lt_T, lt_F, le_T, le_F, eq_T, eq_F, ↓reduceIte, ite_not, not_true_eq_false, not_false_eq_true, true_or, or_true, false_or, or_false, true_and, and_true, false_and, and_false, up_get, Nat.reduceEqDiff, Int.reduceNeg, eqN_T, eqN_F]
            exact D (fun k => u (k + 1)) _
          · refine De.step ?_
            simp only [j_X3_readEither_11]
            simp (disch := omega) only [b_X3_readEither_11, x1_k hs, x1_r0 hs, x1_r1 hs, x1_i2 hs, x1_w2 hs, x1_i3 hs, x1_w3 hs, x1_i4 hs, x1_w4 hs, x1_i5 hs, x1_w5 hs, x1_i6 hs, x1_w6 hs, x1_i7 hs, x1_w7 hs, h2, tk.1, Option.bind_some, xI, xU, xUt, xIt, J_lit, J_add, J_sub, J_mul, J_neg, J_ltc, J_lec, J_eqc, lt_T, lt_F, le_T, le_F, eq_T, eq_F, ↓reduceIte, ite_not, not_true_eq_false, not_false_eq_true, true_or, or_true, false_or, or_false, true_and, and_true, false_and, and_false, up_get, Nat.reduceEqDiff, Int.reduceNeg, eqN_T, eqN_F]
            exact D (fun k => u (k + 1)) _
        · obtain ⟨m1, D1, RP1, B1, F1⟩ := r_passes (q := q) (t := 25 + 1) hs hB h 5 (by decide) rfl
          rw [if_neg (show ¬ tok b n B = ((5 : Nat) : Int) by omega)] at D1 RP1
          refine ⟨m1, ?_, F1.r, fun _ => RP1, fun z => absurd z (by decide)⟩
          refine De.step ?_
          simp only [j_X11_readCond_9]
          simp (disch := omega) only [b_X11_readCond_9, x136_k hs, x136_i0 hs, x136_w0 hs, x136_r1 hs, x136_r2 hs, x136_r3 hs, x136_r4 hs, x136_i5 hs, x136_w5 hs, x136_i6 hs, x136_w6 hs, x136_i7 hs, x136_w7 hs, x136_r8 hs, x136_i9 hs, x136_w9 hs, x136_i10 hs, x136_w10 hs, x136_i11 hs, x136_w11 hs, x136_i12 hs, x136_w12 hs, x136_i13 hs, x136_w13 hs, x136_i14 hs, x136_w14 hs, x136_r15 hs, x136_i16 hs, x136_w16 hs, x136_r17 hs, x136_r18 hs, x136_r19 hs, x136_r20 hs, x136_r21 hs, x136_i22 hs, x136_w22 hs, x136_r23 hs, x136_r24 hs, x136_i25 hs, x136_w25 hs, x136_i26 hs, x136_w26 hs, x136_r27 hs, x136_r28 hs, x136_i29 hs, x136_w29 hs, Option.bind_some]
          refine De.call D1 ?_
          simp (disch := omega) only [bI_t, Option.bind_some, xI, xU, xUt, xIt, J_lit, J_add, J_sub, J_mul, J_neg, J_ltc, J_lec, J_eqc, lt_T, lt_F, le_T, le_F, eq_T, eq_F, ↓reduceIte, ite_not, not_true_eq_false, not_false_eq_true, true_or, or_true, false_or, or_false, true_and, and_true, false_and, and_false, up_get, Nat.reduceEqDiff, Int.reduceNeg, eqN_T, eqN_F]
          exact De.ret _ _
/-- the whole condition -/
theorem co_all (PA : PAt b n d A) (A0 : 0 ≤ A) (d6 : d ≤ 6) : PEi b n d (A + 2) := by
  intro B s g hB s0 s2
  have h1 := hB.1
  obtain ⟨ok, B2, s3, g3, FC, CL, RE⟩ := PA B s g hB s0 s2
  cases ok with
  | false =>
    refine ⟨false, B2, s3, g3, ⟨fun z => absurd z (by decide), FC.2⟩, fun dp hd S m q L hs h => ?_, fun dp hd S m q hs h => ?_⟩
    · obtain ⟨dp, rfl⟩ : ∃ e, dp = e + 1 := ⟨dp - 1, by omega⟩
      obtain ⟨m2, D2, R2⟩ := CL dp (by omega) S m q L hs h
      have fl := R2.2.2 rfl
      have L3 : m2 2 3 = L := (R2.1 2 3 (by decide) (by decide) (by decide) (by omega)).trans h.2.2.2.1.1
      have n2 : m2 1 2 = n := (R2.1 1 2 (by decide) (by decide) (by decide) (by omega)).trans h.1
      obtain ⟨m4, D4, F4, v4, w4⟩ := c_endF (q := q) (ow := false) (d := d) (dp := dp) (i := 0) hs n2 (by omega) h1.2.2 L3 h.2.2.2.1.2.1 h.2.2.2.1.2.2 fl.2 (by decide) (by decide)
      refine ⟨m4, ?_, R2.1.tr F4, fun z => absurd z (by decide), fun _ => ⟨(w4 3).trans fl.1, v4⟩⟩
      simp only [FqE]
      refine De.step ?_
      simp only [j_X3_readEither_0]
      simp (disch := omega) only [b_X3_readEither_0, x1_k hs, x1_r0 hs, x1_r1 hs, x1_i2 hs, x1_w2 hs, x1_i3 hs, x1_w3 hs, x1_i4 hs, x1_w4 hs, x1_i5 hs, x1_w5 hs, x1_i6 hs, x1_w6 hs, x1_i7 hs, x1_w7 hs, Option.bind_some]
      refine De.call (De.at (fun k => k + 1) (fun k => by omega) D2) ?_
      simp (disch := omega) only [bI_f, Option.bind_some, xI, xU, xUt, xIt, J_lit, J_add, J_sub, J_mul, J_neg, J_ltc, J_lec, J_eqc, lt_T, lt_F, le_T, le_F, eq_T, eq_F, ↓reduceIte, ite_not, not_true_eq_false, not_false_eq_true, true_or, or_true, false_or, or_false, true_and, and_true, false_and, and_false, up_get, Nat.reduceEqDiff, Int.reduceNeg, eqN_T, eqN_F]
      exact D4 (fun k => k + 1)
    · obtain ⟨dp, rfl⟩ : ∃ e, dp = e + 1 + 1 := ⟨dp - 2, by omega⟩
      obtain ⟨m2, D2, R2⟩ := RE dp (by omega) S m q hs h
      have DL : De (fun k => F_X11_readCond k (dp + 1) 1 [.ref 136] (hp S m q)) (.inl (some (.int (J 0)))) (hp S m2 q) := by
        simp only [FqML]
        refine De.step ?_
        simp only [j_X11_readAllOf_0]
        simp (disch := omega) only [b_X11_readAllOf_0, x136_k hs, x136_i0 hs, x136_w0 hs, x136_r1 hs, x136_r2 hs, x136_r3 hs, x136_r4 hs, x136_i5 hs, x136_w5 hs, x136_i6 hs, x136_w6 hs, x136_i7 hs, x136_w7 hs, x136_r8 hs, x136_i9 hs, x136_w9 hs, x136_i10 hs, x136_w10 hs, x136_i11 hs, x136_w11 hs, x136_i12 hs, x136_w12 hs, x136_i13 hs, x136_w13 hs, x136_i14 hs, x136_w14 hs, x136_r15 hs, x136_i16 hs, x136_w16 hs, x136_r17 hs, x136_r18 hs, x136_r19 hs, x136_r20 hs, x136_r21 hs, x136_i22 hs, x136_w22 hs, x136_r23 hs, x136_r24 hs, x136_i25 hs, x136_w25 hs, x136_i26 hs, x136_w26 hs, x136_r27 hs, x136_r28 hs, x136_i29 hs, x136_w29 hs, Option.bind_some]
        refine De.call (De.at (fun k => k + 1) (fun k => by omega) D2) ?_
        simp (disch := omega) only [bI_f, Option.bind_some, xI, xU, xUt, xIt, J_lit, J_add, J_sub, J_mul, J_neg, J_ltc, J_lec, J_eqc, lt_T, lt_F, le_T, le_F, eq_T, eq_F, ↓reduceIte, ite_not, not_true_eq_false, not_false_eq_true, true_or, or_true, false_or, or_false, true_and, and_true, false_and, and_false, up_get, Nat.reduceEqDiff, Int.reduceNeg, eqN_T, eqN_F]
        exact De.ret _ _
      refine ⟨m2, ?_, R2⟩
      simp only [FqMC]
      refine De.step ?_
      simp only [j_X11_readCond_0]
      simp (disch := omega) only [b_X11_readCond_0, x136_k hs, x136_i0 hs, x136_w0 hs, x136_r1 hs, x136_r2 hs, x136_r3 hs, x136_r4 hs, x136_i5 hs, x136_w5 hs, x136_i6 hs, x136_w6 hs, x136_i7 hs, x136_w7 hs, x136_r8 hs, x136_i9 hs, x136_w9 hs, x136_i10 hs, x136_w10 hs, x136_i11 hs, x136_w11 hs, x136_i12 hs, x136_w12 hs, x136_i13 hs, x136_w13 hs, x136_i14 hs, x136_w14 hs, x136_r15 hs, x136_i16 hs, x136_w16 hs, x136_r17 hs, x136_r18 hs, x136_r19 hs, x136_r20 hs, x136_r21 hs, x136_i22 hs, x136_w22 hs, x136_r23 hs, x136_r24 hs, x136_i25 hs, x136_w25 hs, x136_i26 hs, x136_w26 hs, x136_r27 hs, x136_r28 hs, x136_i29 hs, x136_w29 hs, Option.bind_some]
      refine De.call (De.at (fun k => k + 1) (fun k => by omega) DL) ?_
      simp (disch := omega) only [bI_f, Option.bind_some, xI, xU, xUt, xIt, J_lit, J_add, J_sub, J_mul, J_neg, J_ltc, J_lec, J_eqc, lt_T, lt_F, le_T, le_F, eq_T, eq_F, ↓reduceIte, ite_not, not_true_eq_false, not_false_eq_true, true_or, or_true, false_or, or_false, true_and, and_true, false_and, and_false, up_get, Nat.reduceEqDiff, Int.reduceNeg, eqN_T, eqN_F]
      exact De.ret _ _
  | true =>
    obtain ⟨hB2, y1, y2, y3, y4, y5⟩ := FC.1 rfl
    have b2 := hB2.1
    obtain ⟨ok, B', s', g', ok1, B1, s1, g1, ⟨f1, f2⟩, ⟨f3, f4⟩, CL2, RA2, RC2⟩ := co_loop PA A0 d6 (n - B2 + 1).toNat B2 s3 g3 false s (by omega) hB2 s0 (by omega) (by rw [bI_f]; omega) ⟨y5.1, fun h0 a e => by rw [y5.2 h0 a (by omega), bI_f, Int.add_zero]⟩
    refine ⟨ok, B', s', g', ⟨fun z => ?_, f2⟩, fun dp hd S m q L hs h => ?_, fun dp hd S m q hs h => ?_⟩
    · obtain ⟨e1, e2, e3, e4, e5, e6⟩ := f1 z
      rw [bI_f] at e4
      exact ⟨e1, by omega, by omega, by omega, fun i hi => (e5 i (by omega)).trans (y4 i hi), e6⟩
    · obtain ⟨dp, rfl⟩ : ∃ e, dp = e + 1 := ⟨dp - 1, by omega⟩
      obtain ⟨m2, D2, R2⟩ := CL dp (by omega) S m q L hs h
      obtain ⟨C2, w2⟩ := R2.2.1 rfl
      obtain ⟨m4, D4, F4, t4, f4⟩ := CL2 dp (by omega) (fun k => k + 1) (fun k => by omega) S m2 q L 0 hs (by omega) (by omega) C2
      refine ⟨m4, ?_, R2.1.tr F4, fun z => ⟨(t4 z).1, (t4 z).2.trans w2⟩, f4⟩
      simp only [FqE]
      refine De.step ?_
      simp only [j_X3_readEither_0]
      simp (disch := omega) only [b_X3_readEither_0, x1_k hs, x1_r0 hs, x1_r1 hs, x1_i2 hs, x1_w2 hs, x1_i3 hs, x1_w3 hs, x1_i4 hs, x1_w4 hs, x1_i5 hs, x1_w5 hs, x1_i6 hs, x1_w6 hs, x1_i7 hs, x1_w7 hs, Option.bind_some]
      refine De.call (De.at (fun k => k + 1) (fun k => by omega) D2) ?_
      simp (disch := omega) only [bI_t, Option.bind_some, xI, xU, xUt, xIt, J_lit, J_add, J_sub, J_mul, J_neg, J_ltc, J_lec, J_eqc, lt_T, lt_F, le_T, le_F, eq_T, eq_F, ↓reduceIte, ite_not, not_true_eq_false, not_false_eq_true, true_or, or_true, false_or, or_false, true_and, and_true, false_and, and_false, up_get, Nat.reduceEqDiff, Int.reduceNeg, eqN_T, eqN_F]
      rw [bI_f] at D4
      exact D4
    · obtain ⟨dp, rfl⟩ : ∃ e, dp = e + 1 + 1 := ⟨dp - 2, by omega⟩
      obtain ⟨m2, D2, R2⟩ := RE dp (by omega) S m q hs h
      have RP2 := R2.2.1 rfl
      obtain ⟨m3, D3, R3⟩ := RA2 dp (by omega) (fun k => k + 1) (fun k => by omega) S m2 q hs RP2
      have DL : De (fun k => F_X11_readCond k (dp + 1) 1 [.ref 136] (hp S m q)) (.inl (some (.int (J (bI ok1))))) (hp S m3 q) := by
        simp only [FqML]
        refine De.step ?_
        simp only [j_X11_readAllOf_0]
        simp (disch := omega) only [b_X11_readAllOf_0, x136_k hs, x136_i0 hs, x136_w0 hs, x136_r1 hs, x136_r2 hs, x136_r3 hs, x136_r4 hs, x136_i5 hs, x136_w5 hs, x136_i6 hs, x136_w6 hs, x136_i7 hs, x136_w7 hs, x136_r8 hs, x136_i9 hs, x136_w9 hs, x136_i10 hs, x136_w10 hs, x136_i11 hs, x136_w11 hs, x136_i12 hs, x136_w12 hs, x136_i13 hs, x136_w13 hs, x136_i14 hs, x136_w14 hs, x136_r15 hs, x136_i16 hs, x136_w16 hs, x136_r17 hs, x136_r18 hs, x136_r19 hs, x136_r20 hs, x136_r21 hs, x136_i22 hs, x136_w22 hs, x136_r23 hs, x136_r24 hs, x136_i25 hs, x136_w25 hs, x136_i26 hs, x136_w26 hs, x136_r27 hs, x136_r28 hs, x136_i29 hs, x136_w29 hs, Option.bind_some]
        refine De.call (De.at (fun k => k + 1) (fun k => by omega) D2) ?_
        simp (disch := omega) only [bI_t, Option.bind_some, xI, xU, xUt, xIt, J_lit, J_add, J_sub, J_mul, J_neg, J_ltc, J_lec, J_eqc, lt_T, lt_F, le_T, le_F, eq_T, eq_F, ↓reduceIte, ite_not, not_true_eq_false, not_false_eq_true, true_or, or_true, false_or, or_false, true_and, and_true, false_and, and_false, up_get, Nat.reduceEqDiff, Int.reduceNeg, eqN_T, eqN_F]
        exact D3
      cases ok1 with
      | false =>
        obtain ⟨e1, e2⟩ := f3 rfl
        subst e1
        refine ⟨m3, ?_, R2.1.tr R3.1, fun z => absurd z (by decide), fun z => (R3.2.2 rfl).trans e2⟩
        simp only [FqMC]
        refine De.step ?_
        simp only [j_X11_readCond_0]
        simp (disch := omega) only [b_X11_readCond_0, x136_k hs, x136_i0 hs, x136_w0 hs, x136_r1 hs, x136_r2 hs, x136_r3 hs, x136_r4 hs, x136_i5 hs, x136_w5 hs, x136_i6 hs, x136_w6 hs, x136_i7 hs, x136_w7 hs, x136_r8 hs, x136_i9 hs, x136_w9 hs, x136_i10 hs, x136_w10 hs, x136_i11 hs, x136_w11 hs, x136_i12 hs, x136_w12 hs, x136_i13 hs, x136_w13 hs, x136_i14 hs, x136_w14 hs, x136_r15 hs, x136_i16 hs, x136_w16 hs, x136_r17 hs, x136_r18 hs, x136_r19 hs, x136_r20 hs, x136_r21 hs, x136_i22 hs, x136_w22 hs, x136_r23 hs, x136_r24 hs, x136_i25 hs, x136_w25 hs, x136_i26 hs, x136_w26 hs, x136_r27 hs, x136_r28 hs, x136_i29 hs, x136_w29 hs, Option.bind_some]
        refine De.call (De.at (fun k => k + 1) (fun k => by omega) DL) ?_
        simp (disch := omega) only [bI_f, Option.bind_some, xI, xU, xUt, xIt, J_lit, J_add, J_sub, J_mul, J_neg, J_ltc, J_lec, J_eqc, lt_T, lt_F, le_T, le_F, eq_T, eq_F, ↓reduceIte, ite_not, not_true_eq_false, not_false_eq_true, true_or, or_true, false_or, or_false, true_and, and_true, false_and, and_false, up_get, Nat.reduceEqDiff, Int.reduceNeg, eqN_T, eqN_F]
        exact De.ret _ _
      | true =>
        have RP3 : RPs m3 b n B1 (s1 + bI false) (gO false g1 s1) d := by rw [bI_f, Int.add_zero]; exact R3.2.1 rfl
        obtain ⟨m5, D5, R5⟩ := RC2 rfl (dp + 1) (by omega) (fun k => k + 1) (fun k => by omega) S m3 q hs RP3
        refine ⟨m5, ?_, R2.1.tr (R3.1.tr R5.1), R5.2⟩
        simp only [FqMC]
        refine De.step ?_
        simp only [j_X11_readCond_0]
        simp (disch := omega) only [b_X11_readCond_0, x136_k hs, x136_i0 hs, x136_w0 hs, x136_r1 hs, x136_r2 hs, x136_r3 hs, x136_r4 hs, x136_i5 hs, x136_w5 hs, x136_i6 hs, x136_w6 hs, x136_i7 hs, x136_w7 hs, x136_r8 hs, x136_i9 hs, x136_w9 hs, x136_i10 hs, x136_w10 hs, x136_i11 hs, x136_w11 hs, x136_i12 hs, x136_w12 hs, x136_i13 hs, x136_w13 hs, x136_i14 hs, x136_w14 hs, x136_r15 hs, x136_i16 hs, x136_w16 hs, x136_r17 hs, x136_r18 hs, x136_r19 hs, x136_r20 hs, x136_r21 hs, x136_i22 hs, x136_w22 hs, x136_r23 hs, x136_r24 hs, x136_i25 hs, x136_w25 hs, x136_i26 hs, x136_w26 hs, x136_r27 hs, x136_r28 hs, x136_i29 hs, x136_w29 hs, Option.bind_some]
        refine De.call (De.at (fun k => k + 1) (fun k => by omega) DL) ?_
        simp (disch := omega) only [bI_t, Option.bind_some, xI, xU, xUt, xIt, J_lit, J_add, J_sub, J_mul, J_neg, J_ltc, J_lec, J_eqc, lt_T, lt_F, le_T, le_F, eq_T, eq_F, ↓reduceIte, ite_not, not_true_eq_false, not_false_eq_true, true_or, or_true, false_or, or_false, true_and, and_true, false_and, and_false, up_get, Nat.reduceEqDiff, Int.reduceNeg, eqN_T, eqN_F]
        exact D5
/-- at every depth -/
theorem co_deep (b : Int → Int) (n : Int) : ∀ k : Nat, k ≤ 6 → PAt b n (6 - k) (1 + 2 * k) ∧ PEi b n (6 - k) (1 + 2 * k + 2)
  | 0, _ => by
    have PA : PAt b n (6 - ((0 : Nat) : Int)) (1 + 2 * ((0 : Nat) : Int)) := at_all (E := 0) (by omega) (by omega) (by omega) (by omega) (fun z => by omega)
    exact ⟨PA, co_all PA (by omega) (by omega)⟩
  | k + 1, hk => by
    obtain ⟨h1, h2⟩ := co_deep b n k (by omega)
    have e : (6 - ((k + 1 : Nat) : Int)) + 1 = 6 - (k : Int) := by omega
    have PA : PAt b n (6 - ((k + 1 : Nat) : Int)) (1 + 2 * ((k + 1 : Nat) : Int)) := at_all (E := 1 + 2 * k + 2) (by omega) (by omega) (by omega) (by omega) (fun z => by
      rw [e]
      refine ⟨h2, fun B s g a c f => ?_⟩
      obtain ⟨ok, B', s', g', f1, f2, f3⟩ := h1 B s g a c f
      exact ⟨ok, B', s', g', ⟨fun y => ⟨(f1.1 y).1, (f1.1 y).2.1, (f1.1 y).2.2.1, (f1.1 y).2.2.2.1, (f1.1 y).2.2.2.2.1, (f1.1 y).2.2.2.2.2.mono (by omega)⟩, f1.2⟩, f2, f3⟩)
    exact ⟨PA, co_all PA (by omega) (by omega)⟩
end COND
