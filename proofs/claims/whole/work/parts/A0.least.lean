/-! the least on a phone -/
theorem mrk_in {w v g : Int → Int} {ln sp : Int} {kd nm bg so : Int → Int} (R : Rrul ln sp kd nm bg so g) (p x : Int) : 0 ≤ mrk w v g p x ∧ mrk w v g p x ≤ 99990 := by
  have r2 := R.2.2.1
  have r3 := R.2.1
  have := mkS_in (T := tgN w x) (fc := fcV w v p x) R (g 0).toNat (by omega)
  unfold mrk
  omega
def lsO (w v g : Int → Int) (p : Int) : Nat → Int × Int
  | 0 => (-1, 0)
  | n + 1 => if v (51 + 7 * (30 * p + n) + 0) = 1 then (if (lsO w v g p n).1 = -1 ∨ mrk w v g p n ≤ (lsO w v g p n).2 then ((n : Int), mrk w v g p n) else lsO w v g p n) else lsO w v g p n
def dsO (w v g : Int → Int) (p : Int) : Nat → Int × Int → Int × Int
  | 0, s => s
  | n + 1, s => dsO w v g p n (if v (51 + 7 * (30 * p + n) + 0) = 1 then (if s.1 < 0 ∨ mrk w v g p n < s.2 then ((n : Int), mrk w v g p n) else s) else s)
def cbO (s t : Int × Int) : Int × Int := if t.1 = -1 then s else if s.1 < 0 ∨ t.2 < s.2 then t else s
theorem dsO_cb {w v g : Int → Int} {p : Int} : ∀ (n : Nat) (s : Int × Int), dsO w v g p n s = cbO s (lsO w v g p n)
  | 0, s => by simp [dsO, lsO, cbO]
  | n + 1, s => by
    rw [dsO, dsO_cb n, lsO]
    generalize lsO w v g p n = t
    generalize mrk w v g p n = k
    obtain ⟨t1, t2⟩ := t
    obtain ⟨s1, s2⟩ := s
    unfold cbO
    have n1 : ¬ ((n : Int) = -1) := by omega
    have n2 : ¬ ((n : Int) < 0) := by omega
    by_cases h : v (51 + 7 * (30 * p + n) + 0) = 1
    · rw [if_pos h, if_pos h]
      dsimp only
      by_cases c : s1 < 0 ∨ k < s2 <;> by_cases d : t1 = -1 ∨ k ≤ t2 <;> simp only [c, d, if_true, if_false] <;> (repeat' split) <;> first | rfl | (exfalso; omega)
    · simp only [h, if_false]
theorem lsO_in {w v g : Int → Int} {p ln sp : Int} {kd nm bg so : Int → Int} (R : Rrul ln sp kd nm bg so g) : ∀ n : Nat, -1 ≤ (lsO w v g p n).1 ∧ (lsO w v g p n).1 < n ∧ 0 ≤ (lsO w v g p n).2 ∧ (lsO w v g p n).2 ≤ 99990 ∧ (0 ≤ (lsO w v g p n).1 → v (51 + 7 * (30 * p + (lsO w v g p n).1) + 0) = 1)
  | 0 => ⟨by simp [lsO], by simp [lsO], by simp [lsO], by simp [lsO], fun h => absurd h (by simp [lsO])⟩
  | n + 1 => by
    obtain ⟨i1, i2, i3, i4, i5⟩ := lsO_in (w := w) (v := v) (p := p) R n
    have k := mrk_in (w := w) (v := v) R p n
    rw [lsO]
    by_cases h : v (51 + 7 * (30 * p + n) + 0) = 1
    · rw [if_pos h]
      split
      · exact ⟨by show -1 ≤ (n : Int); omega, by show (n : Int) < _; omega, k.1, k.2, fun _ => h⟩
      · exact ⟨i1, by omega, i3, i4, i5⟩
    · rw [if_neg h]
      exact ⟨i1, by omega, i3, i4, i5⟩
theorem lsO_ex {w v g : Int → Int} {p : Int} : ∀ n : Nat, 0 < cntw v p n → 0 ≤ (lsO w v g p n).1
  | 0, h => absurd h (by simp [cntw])
  | n + 1, h => by
    have ih := lsO_ex (w := w) (v := v) (g := g) (p := p) n
    rw [cntw] at h
    rw [lsO]
    by_cases c : v (51 + 7 * (30 * p + n) + 0) = 1
    · rw [if_pos c]
      split
      · show 0 ≤ (n : Int)
        omega
      · rename_i z
        by_cases d : 0 < cntw v p n
        · exact ih d
        · exfalso
          have z1 : ∀ k : Nat, cntw v p k = 0 → (lsO w v g p k).1 = -1 := by
            intro k
            induction k with
            | zero => intro _; rfl
            | succ k IH =>
              intro e
              rw [cntw] at e
              have := (cntw_in v p k).1
              by_cases f : v (51 + 7 * (30 * p + k) + 0) = 1
              · rw [if_pos f] at e
                omega
              · rw [if_neg f] at e
                rw [lsO, if_neg f]
                exact IH (by omega)
          have := (cntw_in v p n).1
          exact z (Or.inl (z1 n (by omega)))
    · rw [if_neg c] at h ⊢
      exact ih (by omega)
theorem lsO_stop {w v g : Int → Int} {p : Int} (n : Nat) : ∀ k : Nat, (∀ x : Int, n ≤ x → x < n + k → v (51 + 7 * (30 * p + x) + 0) ≠ 1) → lsO w v g p (n + k) = lsO w v g p n
  | 0, _ => rfl
  | k + 1, h => by
    rw [← Nat.add_assoc, lsO, if_neg (h _ (by omega) (by omega))]
    exact lsO_stop n k (fun x a b => h x a (by omega))
theorem lsO_30 {w v g : Int → Int} {p told t : Int} (V : Vok told w v) (w1 : w 1 ≤ 30) (p0 : 0 ≤ p) (p1 : p < 10) (t0 : told ≤ t) (t1 : t ≤ 30) : lsO w v g p t.toNat = lsO w v g p 30 := by
  have tt := V.1
  have := lsO_stop (w := w) (v := v) (g := g) (p := p) t.toNat (30 - t.toNat) (fun x a b z => by
    have := ((V.2.2 p x p0 p1 (by omega) (by omega)).2 z).1
    omega)
  rw [show t.toNat + (30 - t.toNat) = 30 by omega] at this
  exact this.symm
/-- nothing but the facts that the rules look at has changed -/
def FrF (r : Nat) (m m' : Nat → Int → Int) : Prop := ∀ b i, b ≠ r + 5 → ¬ (b = r ∧ i = 7) → m' b i = m b i
theorem FrF.rfl' (r : Nat) (m : Nat → Int → Int) : FrF r m m := fun _ _ _ _ => rfl
theorem FrF.tr {r : Nat} {m m1 m2 : Nat → Int → Int} (h1 : FrF r m m1) (h2 : FrF r m1 m2) : FrF r m m2 := fun b i a c => (h2 b i a c).trans (h1 b i a c)
/-- a net of the class beside the reference's numbers w, v, g -/
def CX (S : xH) (m : Nat → Int → Int) (q : Nat → Int → Int64) (a r : Nat) (told : Int) (w v g : Int → Int) : Prop := (Sk S ∧ NetS S a 16 r ∧ RulS S r ∧ r + 6 ≤ 16 ∧ 46 ≤ a) ∧ Wok w ∧ WrdC m w ∧ NetC m q a told w v ∧ RulC m r g
section LEAST
variable {S : xH} {m m' m0 : Nat → Int → Int} {q q' : Nat → Int → Int64} {a r : Nat} {told p x y ln sp : Int} {w v v' g kd nm bg so : Int → Int}
theorem CX.fr (C : CX S m q a r told w v g) (F : FrF r m m') : CX S m' q a r told w v g := by
  obtain ⟨⟨hs, hn, hr, r16, a46⟩, W, WC, NC, R⟩ := C
  have e : (fun o => m' (a + o)) = fun o => m (a + o) := funext fun o => funext fun i => F _ _ (by omega) (by omega)
  refine ⟨⟨hs, hn, hr, r16, a46⟩, W, WC.cg (fun b i b0 b1 => F b i (by omega) (by omega)), ?_, R.cg (F _ _ (by omega) (by omega)) (F _ _ (by omega) (by omega)) (fun b i b0 b1 => F b i (by omega) (by omega))⟩
  show Rnet (fun o => m' (a + o)) _ _ _ _
  rw [e]
  exact NC
/-- the class's net has become another -/
theorem CX.net (C : CX S m q a r told w v g) (F : ∀ b i, (b < a ∨ a + 22 ≤ b) → m' b i = m b i) (N : NetC m' q' a told w v') : CX S m' q' a r told w v' g := by
  obtain ⟨⟨hs, hn, hr, r16, a46⟩, W, WC, NC, R⟩ := C
  exact ⟨⟨hs, hn, hr, r16, a46⟩, W, WC.cg (fun b i b0 b1 => F b i (by omega)), N, R.cg (F _ _ (by omega)) (F _ _ (by omega)) (fun b i b0 b1 => F b i (by omega))⟩
theorem d_car (hn : NetS S a 16 r) (NC : NetC m q a told w v) (p0 : 0 ≤ p) (p1 : p < 10) (x0 : 0 ≤ x) (x1 : x < 30) : De (fun n => f_X1_carries n 0 [.ref a, .int (J p), .int (J x)] (hp S m q)) (.inl (some (.int (J (if v (51 + 7 * (30 * p + x) + 0) = 1 then 1 else 0))))) (hp S m q) := De.eq 1 (fun n => e_car hn NC p0 p1 x0 x1 n)
theorem d_has (hs : Sk S) (p0 : 0 ≤ p) (p1 : p < 10) (x0 : 0 ≤ x) (x1 : x < 30) (v0 : 0 ≤ m 137 (51 + 7 * (30 * p + x) + 0)) (v1 : m 137 (51 + 7 * (30 * p + x) + 0) ≤ 1) : De (fun n => f_X11_has n 0 [.ref 136, .int (J p), .int (J x)] (hp S m q)) (.inl (some (.int (J (if m 137 (51 + 7 * (30 * p + x) + 0) = 1 then 1 else 0))))) (hp S m q) := De.eq 2 (fun n => e_has hs p0 p1 x0 x1 v0 v1 n)
theorem d_words (hs : Sk S) : De (fun n => f_X11_words n 0 [.ref 136] (hp S m q)) (.inl (some (.int (J (m 139 1))))) (hp S m q) := De.eq 1 (fun n => e_words hs n)
theorem q_leastC_l (C0 : CX S m0 q a r told w v g) (p0 : 0 ≤ p) (p1 : p < w 0) : ∀ (k i : Nat) (m : Nat → Int → Int), (i : Int) + k = told → FrF r m0 m → ∃ m', De (fun n => f_X1_leastOn n 7 [.ref a, .int (J p), .int (J (lsO w v g p i).1), .int (J (lsO w v g p i).2), .int (J i)] (hp S m q)) (.inl (some (.int (J (lsO w v g p told.toNat).1)))) (hp S m' q) ∧ FrF r m0 m' := by
  intro k
  induction k with
  | zero =>
    intro i m hi F
    obtain ⟨⟨hs, hn, hr, r16, a46⟩, W, WC, NC, R⟩ := C0.fr F
    have tl : m a 4 = told := NC.1.2.2.1
    have t1 := NC.1.2.2.2.2
    have w1 := W.2.1
    refine ⟨m, ?_, F⟩
    rw [show told.toNat = i by omega]
    refine De.step ?_
    simp only [j_X1_leastOn_7]
    simp (disch := omega) only [b_X1_leastOn_7, Net0_i4 hn, tl, Option.bind_some, xI, xU, xUt, xIt, J_lit, J_add, J_sub, J_mul, J_neg, J_ltc, J_lec, J_eqc, lt_T, lt_F, le_T, le_F, eq_T, eq_F, ↓reduceIte, ite_not, not_true_eq_false, not_false_eq_true, true_or, or_true, false_or, or_false, true_and, and_true, false_and, and_false, up_get, Nat.reduceEqDiff, Int.reduceNeg, eqN_T, eqN_F]
    exact De.ret _ _
  | succ k IH =>
    intro i m hi F
    obtain ⟨⟨hs, hn, hr, r16, a46⟩, W, WC, NC, R⟩ := C0.fr F
    have tl : m a 4 = told := NC.1.2.2.1
    have t1 := NC.1.2.2.2.2
    have w1 := W.2.1
    have tw := W.1.2.1
    have L := lsO_in (w := w) (v := v) (p := p) R i
    have M := mrk_in (w := w) (v := v) R p i
    have DC := d_car (x := (i : Int)) hn NC p0 (by omega) (by omega) (by omega)
    by_cases h : v (51 + 7 * (30 * p + i) + 0) = 1
    · rw [if_pos h] at DC
      obtain ⟨E1, E2, -⟩ := q_mrkC (x := (i : Int)) hs hn hr r16 a46 W WC NC R p0 p1 (by omega) (by omega) h
      obtain ⟨m', D, F'⟩ := IH (i + 1) (ldF m a r p i) (by omega) (F.tr (fun b z h1 h2 => ldF_out h1 h2))
      refine ⟨m', ?_, F'⟩
      rw [lsO, if_pos h] at D
      refine De.step ?_
      simp only [j_X1_leastOn_7]
      simp (disch := omega) only [b_X1_leastOn_7, Net0_i4 hn, Net0_k hn, tl, Option.bind_some, xI, xU, xUt, xIt, J_lit, J_add, J_sub, J_mul, J_neg, J_ltc, J_lec, J_eqc, lt_T, lt_F, le_T, le_F, eq_T, eq_F, ↓reduceIte, ite_not, not_true_eq_false, not_false_eq_true, true_or, or_true, false_or, or_false, true_and, and_true, false_and, and_false, up_get, Nat.reduceEqDiff, Int.reduceNeg, eqN_T, eqN_F]
      refine De.call DC ?_
      simp (disch := omega) only [Net0_k hn, Option.bind_some, xI, xU, xUt, xIt, J_lit, J_add, J_sub, J_mul, J_neg, J_ltc, J_lec, J_eqc, lt_T, lt_F, le_T, le_F, eq_T, eq_F, ↓reduceIte, ite_not, not_true_eq_false, not_false_eq_true, true_or, or_true, false_or, or_false, true_and, and_true, false_and, and_false, up_get, Nat.reduceEqDiff, Int.reduceNeg, eqN_T, eqN_F]
      refine De.call (De.eq 2 E1) ?_
      simp (disch := omega) only [xU, Net0_r1 hn, Rul0_k hr, Option.bind_some, xI, xU, xUt, xIt, J_lit, J_add, J_sub, J_mul, J_neg, J_ltc, J_lec, J_eqc, lt_T, lt_F, le_T, le_F, eq_T, eq_F, ↓reduceIte, ite_not, not_true_eq_false, not_false_eq_true, true_or, or_true, false_or, or_false, true_and, and_true, false_and, and_false, up_get, Nat.reduceEqDiff, Int.reduceNeg, eqN_T, eqN_F]
      refine De.call E2 ?_
      by_cases c1 : (lsO w v g p i).1 = -1
      · rw [if_pos (Or.inl c1)] at D
        simp (disch := omega) only [c1, Option.bind_some, xI, xU, xUt, xIt, J_lit, J_add, J_sub, J_mul, J_neg, J_ltc, J_lec, J_eqc, lt_T, lt_F, le_T, le_F, eq_T, eq_F, ↓reduceIte, ite_not, not_true_eq_false, not_false_eq_true, true_or, or_true, false_or, or_false, true_and, and_true, false_and, and_false, up_get, Nat.reduceEqDiff, Int.reduceNeg, eqN_T, eqN_F]
        exact D
      · by_cases c2 : mrk w v g p i ≤ (lsO w v g p i).2
        · rw [if_pos (Or.inr c2)] at D
          simp (disch := omega) only [Option.bind_some, xI, xU, xUt, xIt, J_lit, J_add, J_sub, J_mul, J_neg, J_ltc, J_lec, J_eqc, lt_T, lt_F, le_T, le_F, eq_T, eq_F, ↓reduceIte, ite_not, not_true_eq_false, not_false_eq_true, true_or, or_true, false_or, or_false, true_and, and_true, false_and, and_false, up_get, Nat.reduceEqDiff, Int.reduceNeg, eqN_T, eqN_F]
          exact D
        · rw [if_neg (by omega)] at D
          simp (disch := omega) only [Option.bind_some, xI, xU, xUt, xIt, J_lit, J_add, J_sub, J_mul, J_neg, J_ltc, J_lec, J_eqc, lt_T, lt_F, le_T, le_F, eq_T, eq_F, ↓reduceIte, ite_not, not_true_eq_false, not_false_eq_true, true_or, or_true, false_or, or_false, true_and, and_true, false_and, and_false, up_get, Nat.reduceEqDiff, Int.reduceNeg, eqN_T, eqN_F]
          exact D
    · rw [if_neg h] at DC
      obtain ⟨m', D, F'⟩ := IH (i + 1) m (by omega) F
      refine ⟨m', ?_, F'⟩
      rw [lsO, if_neg h] at D
      refine De.step ?_
      simp only [j_X1_leastOn_7]
      simp (disch := omega) only [b_X1_leastOn_7, Net0_i4 hn, Net0_k hn, tl, Option.bind_some, xI, xU, xUt, xIt, J_lit, J_add, J_sub, J_mul, J_neg, J_ltc, J_lec, J_eqc, lt_T, lt_F, le_T, le_F, eq_T, eq_F, ↓reduceIte, ite_not, not_true_eq_false, not_false_eq_true, true_or, or_true, false_or, or_false, true_and, and_true, false_and, and_false, up_get, Nat.reduceEqDiff, Int.reduceNeg, eqN_T, eqN_F]
      refine De.call DC ?_
      simp (disch := omega) only [Option.bind_some, xI, xU, xUt, xIt, J_lit, J_add, J_sub, J_mul, J_neg, J_ltc, J_lec, J_eqc, lt_T, lt_F, le_T, le_F, eq_T, eq_F, ↓reduceIte, ite_not, not_true_eq_false, not_false_eq_true, true_or, or_true, false_or, or_false, true_and, and_true, false_and, and_false, up_get, Nat.reduceEqDiff, Int.reduceNeg, eqN_T, eqN_F]
      exact D
theorem q_leastC (C : CX S m q a r told w v g) (p0 : 0 ≤ p) (p1 : p < w 0) : ∃ m', De (fun n => f_X1_leastOn n 0 [.ref a, .int (J p)] (hp S m q)) (.inl (some (.int (J (lsO w v g p 30).1)))) (hp S m' q) ∧ FrF r m m' := by
  have t1 := C.2.2.2.1.1.2.2.2.2
  have w1 := C.2.1.2.1
  have tw := C.2.1.1.2.1
  obtain ⟨m', D, F⟩ := q_leastC_l C p0 p1 told.toNat 0 m (by omega) (FrF.rfl' r m)
  rw [lsO_30 C.2.2.2.1.vok w1.2 p0 (by omega) (Int.le_refl _) (by omega)] at D
  refine ⟨m', ?_, F⟩
  refine De.step ?_
  simp only [j_X1_leastOn_0, b_X1_leastOn_0, J_lit, J_neg]
  exact D
theorem Fr3.tr {m m1 m2 : Nat → Int → Int} (h1 : Fr3 m m1) (h2 : Fr3 m1 m2) : Fr3 m m2 := fun b i a c d => (h2 b i a c d).trans (h1 b i a c d)
theorem Fr3.row {m m1 : Nat → Int → Int} (h : Fr3 m m1) {b : Nat} (h1 : b ≠ 143) (h2 : b ≠ 144) (h3 : b ≠ 145) : m1 b = m b := funext fun i => h b i h1 h2 h3
theorem q_leastM_l (hs : Sk S) (W : Wok (m0 139)) (V : Vok told (m0 139) (m0 137)) (M0 : RulM m0 y g) (R : Rrul ln sp kd nm bg so g) (p0 : 0 ≤ p) (p1 : p < m0 139 0) : ∀ (k : Nat) (s : Int × Int) (m : Nat → Int → Int), (k : Int) ≤ m0 139 1 → -1 ≤ s.1 ∧ s.1 < 30 ∧ 0 ≤ s.2 ∧ s.2 ≤ 99990 → Fr3 m0 m → ∃ m', De (fun n => f_X11_leastOn n 12 [.ref 136, .int (J p), .int (J s.1), .int (J s.2), .int (J (k - 1))] (hp S m q)) (.inl (some (.int (J (dsO (m0 139) (m0 137) g p k s).1)))) (hp S m' q) ∧ Fr3 m0 m' := by
  have w1 := W.2.1
  have tw := W.1.2.1
  intro k
  induction k with
  | zero =>
    intro s m hk hS F
    refine ⟨m, ?_, F⟩
    refine De.step ?_
    simp only [j_X11_leastOn_12]
    simp (disch := omega) only [b_X11_leastOn_12, dsO, Option.bind_some, xI, xU, xUt, xIt, J_lit, J_add, J_sub, J_mul, J_neg, J_ltc, J_lec, J_eqc, lt_T, lt_F, le_T, le_F, eq_T, eq_F, ↓reduceIte, ite_not, not_true_eq_false, not_false_eq_true, true_or, or_true, false_or, or_false, true_and, and_true, false_and, and_false, up_get, Nat.reduceEqDiff, Int.reduceNeg, eqN_T, eqN_F]
    exact De.ret _ _
  | succ k IH =>
    intro s m hk hS F
    have e9 : m 139 = m0 139 := F.row (by decide) (by decide) (by decide)
    have e7 : m 137 = m0 137 := F.row (by decide) (by decide) (by decide)
    have M := M0.cg (m' := m) (F 136 6 (by decide) (by decide) (by decide)) (fun i => congrFun e9 i)
    have vv := (V.2.2 p k p0 (by omega) (by omega) (by omega)).1
    have KM := mrk_in (w := m0 139) (v := m0 137) R p k
    have DH := d_has (q := q) (m := m) (x := (k : Int)) hs p0 (by omega) (by omega) (by omega) (by rw [e7]; exact vv.1) (by rw [e7]; exact vv.2)
    rw [e7] at DH
    by_cases h : m0 137 (51 + 7 * (30 * p + k) + 0) = 1
    · obtain ⟨m1, D1, F1⟩ := q_markM (q := q) (m := m) (x := (k : Int)) hs (by rw [e9]; exact W) (by rw [e9, e7]; exact V) M R p0 (by rw [e9]; exact p1) (by omega) (by rw [e9]; omega) (by rw [e7]; exact h)
      rw [e9, e7] at D1
      have hB : -1 ≤ (if s.1 < 0 ∨ mrk (m0 139) (m0 137) g p k < s.2 then ((k : Int), mrk (m0 139) (m0 137) g p k) else s).1 ∧ (if s.1 < 0 ∨ mrk (m0 139) (m0 137) g p k < s.2 then ((k : Int), mrk (m0 139) (m0 137) g p k) else s).1 < 30 ∧ 0 ≤ (if s.1 < 0 ∨ mrk (m0 139) (m0 137) g p k < s.2 then ((k : Int), mrk (m0 139) (m0 137) g p k) else s).2 ∧ (if s.1 < 0 ∨ mrk (m0 139) (m0 137) g p k < s.2 then ((k : Int), mrk (m0 139) (m0 137) g p k) else s).2 ≤ 99990 := by
        split
        · exact ⟨show (-1 : Int) ≤ k by omega, show (k : Int) < 30 by omega, KM.1, KM.2⟩
        · exact hS
      obtain ⟨m', D, F'⟩ := IH (if s.1 < 0 ∨ mrk (m0 139) (m0 137) g p k < s.2 then ((k : Int), mrk (m0 139) (m0 137) g p k) else s) m1 (by omega) hB (F.tr F1)
      refine ⟨m', ?_, F'⟩
      rw [dsO, if_pos h, show ((k + 1 : Nat) : Int) - 1 = k by omega]
      refine De.step ?_
      simp only [j_X11_leastOn_12]
      simp (disch := omega) only [b_X11_leastOn_12, x136_k hs, x136_i0 hs, x136_w0 hs, x136_r1 hs, x136_r2 hs, x136_r3 hs, x136_r4 hs, x136_i5 hs, x136_w5 hs, x136_i6 hs, x136_w6 hs, x136_i7 hs, x136_w7 hs, x136_r8 hs, x136_i9 hs, x136_w9 hs, x136_i10 hs, x136_w10 hs, x136_i11 hs, x136_w11 hs, x136_i12 hs, x136_w12 hs, x136_i13 hs, x136_w13 hs, x136_i14 hs, x136_w14 hs, x136_r15 hs, x136_i16 hs, x136_w16 hs, x136_r17 hs, x136_r18 hs, x136_r19 hs, x136_r20 hs, x136_r21 hs, x136_i22 hs, x136_w22 hs, x136_r23 hs, x136_r24 hs, x136_i25 hs, x136_w25 hs, x136_i26 hs, x136_w26 hs, x136_r27 hs, x136_r28 hs, x136_i29 hs, x136_w29 hs, Option.bind_some, xI, xU, xUt, xIt, J_lit, J_add, J_sub, J_mul, J_neg, J_ltc, J_lec, J_eqc, lt_T, lt_F, le_T, le_F, eq_T, eq_F, ↓reduceIte, ite_not, not_true_eq_false, not_false_eq_true, true_or, or_true, false_or, or_false, true_and, and_true, false_and, and_false, up_get, Nat.reduceEqDiff, Int.reduceNeg, eqN_T, eqN_F]
      refine De.call DH ?_
      simp (disch := omega) only [h, x136_k hs, x136_i0 hs, x136_w0 hs, x136_r1 hs, x136_r2 hs, x136_r3 hs, x136_r4 hs, x136_i5 hs, x136_w5 hs, x136_i6 hs, x136_w6 hs, x136_i7 hs, x136_w7 hs, x136_r8 hs, x136_i9 hs, x136_w9 hs, x136_i10 hs, x136_w10 hs, x136_i11 hs, x136_w11 hs, x136_i12 hs, x136_w12 hs, x136_i13 hs, x136_w13 hs, x136_i14 hs, x136_w14 hs, x136_r15 hs, x136_i16 hs, x136_w16 hs, x136_r17 hs, x136_r18 hs, x136_r19 hs, x136_r20 hs, x136_r21 hs, x136_i22 hs, x136_w22 hs, x136_r23 hs, x136_r24 hs, x136_i25 hs, x136_w25 hs, x136_i26 hs, x136_w26 hs, x136_r27 hs, x136_r28 hs, x136_i29 hs, x136_w29 hs, Option.bind_some, xI, xU, xUt, xIt, J_lit, J_add, J_sub, J_mul, J_neg, J_ltc, J_lec, J_eqc, lt_T, lt_F, le_T, le_F, eq_T, eq_F, ↓reduceIte, ite_not, not_true_eq_false, not_false_eq_true, true_or, or_true, false_or, or_false, true_and, and_true, false_and, and_false, up_get, Nat.reduceEqDiff, Int.reduceNeg, eqN_T, eqN_F]
      refine De.call D1 ?_
      by_cases c1 : s.1 < 0
      · rw [if_pos (Or.inl c1)] at D ⊢
        simp (disch := omega) only [Option.bind_some, xI, xU, xUt, xIt, J_lit, J_add, J_sub, J_mul, J_neg, J_ltc, J_lec, J_eqc, lt_T, lt_F, le_T, le_F, eq_T, eq_F, ↓reduceIte, ite_not, not_true_eq_false, not_false_eq_true, true_or, or_true, false_or, or_false, true_and, and_true, false_and, and_false, up_get, Nat.reduceEqDiff, Int.reduceNeg, eqN_T, eqN_F]
        exact D
      · by_cases c2 : mrk (m0 139) (m0 137) g p k < s.2
        · rw [if_pos (Or.inr c2)] at D ⊢
          simp (disch := omega) only [Option.bind_some, xI, xU, xUt, xIt, J_lit, J_add, J_sub, J_mul, J_neg, J_ltc, J_lec, J_eqc, lt_T, lt_F, le_T, le_F, eq_T, eq_F, ↓reduceIte, ite_not, not_true_eq_false, not_false_eq_true, true_or, or_true, false_or, or_false, true_and, and_true, false_and, and_false, up_get, Nat.reduceEqDiff, Int.reduceNeg, eqN_T, eqN_F]
          exact D
        · rw [if_neg (by omega)] at D ⊢
          simp (disch := omega) only [Option.bind_some, xI, xU, xUt, xIt, J_lit, J_add, J_sub, J_mul, J_neg, J_ltc, J_lec, J_eqc, lt_T, lt_F, le_T, le_F, eq_T, eq_F, ↓reduceIte, ite_not, not_true_eq_false, not_false_eq_true, true_or, or_true, false_or, or_false, true_and, and_true, false_and, and_false, up_get, Nat.reduceEqDiff, Int.reduceNeg, eqN_T, eqN_F]
          exact D
    · obtain ⟨m', D, F'⟩ := IH s m (by omega) hS F
      refine ⟨m', ?_, F'⟩
      rw [dsO, if_neg h, show ((k + 1 : Nat) : Int) - 1 = k by omega]
      refine De.step ?_
      simp only [j_X11_leastOn_12]
      simp (disch := omega) only [b_X11_leastOn_12, x136_k hs, x136_i0 hs, x136_w0 hs, x136_r1 hs, x136_r2 hs, x136_r3 hs, x136_r4 hs, x136_i5 hs, x136_w5 hs, x136_i6 hs, x136_w6 hs, x136_i7 hs, x136_w7 hs, x136_r8 hs, x136_i9 hs, x136_w9 hs, x136_i10 hs, x136_w10 hs, x136_i11 hs, x136_w11 hs, x136_i12 hs, x136_w12 hs, x136_i13 hs, x136_w13 hs, x136_i14 hs, x136_w14 hs, x136_r15 hs, x136_i16 hs, x136_w16 hs, x136_r17 hs, x136_r18 hs, x136_r19 hs, x136_r20 hs, x136_r21 hs, x136_i22 hs, x136_w22 hs, x136_r23 hs, x136_r24 hs, x136_i25 hs, x136_w25 hs, x136_i26 hs, x136_w26 hs, x136_r27 hs, x136_r28 hs, x136_i29 hs, x136_w29 hs, Option.bind_some, xI, xU, xUt, xIt, J_lit, J_add, J_sub, J_mul, J_neg, J_ltc, J_lec, J_eqc, lt_T, lt_F, le_T, le_F, eq_T, eq_F, ↓reduceIte, ite_not, not_true_eq_false, not_false_eq_true, true_or, or_true, false_or, or_false, true_and, and_true, false_and, and_false, up_get, Nat.reduceEqDiff, Int.reduceNeg, eqN_T, eqN_F]
      refine De.call DH ?_
      simp (disch := omega) only [h, Option.bind_some, xI, xU, xUt, xIt, J_lit, J_add, J_sub, J_mul, J_neg, J_ltc, J_lec, J_eqc, lt_T, lt_F, le_T, le_F, eq_T, eq_F, ↓reduceIte, ite_not, not_true_eq_false, not_false_eq_true, true_or, or_true, false_or, or_false, true_and, and_true, false_and, and_false, up_get, Nat.reduceEqDiff, Int.reduceNeg, eqN_T, eqN_F]
      exact D
theorem q_leastM (hs : Sk S) (W : Wok (m 139)) (V : Vok told (m 139) (m 137)) (M : RulM m y g) (R : Rrul ln sp kd nm bg so g) (p0 : 0 ≤ p) (p1 : p < m 139 0) : ∃ m', De (fun n => f_X11_leastOn n 0 [.ref 136, .int (J p)] (hp S m q)) (.inl (some (.int (J (lsO (m 139) (m 137) g p 30).1)))) (hp S m' q) ∧ Fr3 m m' := by
  have w1 := W.2.1
  have tw := W.1.2.1
  have t1 := V.1
  obtain ⟨m', D, F⟩ := q_leastM_l (q := q) hs W V M R p0 p1 (m 139 1).toNat (-1, 0) m (by omega) ⟨by decide, by decide, by decide, by decide⟩ (fun _ _ _ _ _ => rfl)
  have e : (dsO (m 139) (m 137) g p (m 139 1).toNat (-1, 0)).1 = (lsO (m 139) (m 137) g p 30).1 := by
    rw [dsO_cb, lsO_30 V w1.2 p0 (by omega) t1.2.2.2 w1.2]
    unfold cbO
    by_cases c : (lsO (m 139) (m 137) g p 30).1 = -1
    · rw [if_pos c, c]
    · rw [if_neg c, if_pos (Or.inl (by decide))]
  rw [e] at D
  refine ⟨m', ?_, F⟩
  refine De.step ?_
  simp only [j_X11_leastOn_0]
  simp (disch := omega) only [b_X11_leastOn_0, x136_k hs, x136_i0 hs, x136_w0 hs, x136_r1 hs, x136_r2 hs, x136_r3 hs, x136_r4 hs, x136_i5 hs, x136_w5 hs, x136_i6 hs, x136_w6 hs, x136_i7 hs, x136_w7 hs, x136_r8 hs, x136_i9 hs, x136_w9 hs, x136_i10 hs, x136_w10 hs, x136_i11 hs, x136_w11 hs, x136_i12 hs, x136_w12 hs, x136_i13 hs, x136_w13 hs, x136_i14 hs, x136_w14 hs, x136_r15 hs, x136_i16 hs, x136_w16 hs, x136_r17 hs, x136_r18 hs, x136_r19 hs, x136_r20 hs, x136_r21 hs, x136_i22 hs, x136_w22 hs, x136_r23 hs, x136_r24 hs, x136_i25 hs, x136_w25 hs, x136_i26 hs, x136_w26 hs, x136_r27 hs, x136_r28 hs, x136_i29 hs, x136_w29 hs, Option.bind_some, xI, xU, xUt, xIt, J_lit, J_add, J_sub, J_mul, J_neg, J_ltc, J_lec, J_eqc, lt_T, lt_F, le_T, le_F, eq_T, eq_F, ↓reduceIte, ite_not, not_true_eq_false, not_false_eq_true, true_or, or_true, false_or, or_false, true_and, and_true, false_and, and_false, up_get, Nat.reduceEqDiff, Int.reduceNeg, eqN_T, eqN_F]
  refine De.call (d_words hs) ?_
  simp (disch := omega) only [Option.bind_some, xI, xU, xUt, xIt, J_lit, J_add, J_sub, J_mul, J_neg, J_ltc, J_lec, J_eqc, lt_T, lt_F, le_T, le_F, eq_T, eq_F, ↓reduceIte, ite_not, not_true_eq_false, not_false_eq_true, true_or, or_true, false_or, or_false, true_and, and_true, false_and, and_false, up_get, Nat.reduceEqDiff, Int.reduceNeg, eqN_T, eqN_F]
  rw [show ((m 139 1).toNat : Int) = m 139 1 by omega] at D
  exact D
end LEAST
