/-! the rows, and a tick of the town, by the class -/
def shf (m : Nat → Int → Int) (a : Nat) : Nat → Int → Int := fun c i => if c = a ∧ 0 ≤ i ∧ i < 7 then m a (1 + i) else m c i
section ROWS
variable {S : xH} {m m' m0 : Nat → Int → Int} {q q' : Nat → Int → Int64} {a : Nat} {s z : Int} {w w' v v' g : Int → Int}
theorem cpI_shf (h1 : S.2.2 a = aSh .int 8) : cpI (hp S m q) a (J 1) a (J 0) (J 7) = some (hp S (shf m a) q) := by
  unfold cpI
  rw [hp_cell, h1]
  refine (if_neg ?_).trans ?_
  · decide +kernel
  refine congrArg some ?_
  unfold xput hp
  refine congrArg (Prod.mk _) (congrArg (Prod.mk _) (funext fun j => ?_))
  by_cases e : j = a
  · subst e
    show (if j = j then _ else _) = _
    rw [if_pos rfl, h1]
    show Sum.inl (FieldType.int, 8, Sum.inl (va_cpy (fun i : Nat => J (m j i)) (fun i : Nat => J (m j i)) (J 1).toNatClampNeg (J 0).toNatClampNeg (J 7).toNatClampNeg)) = Sum.inl (FieldType.int, 8, Sum.inl (fun i : Nat => J (shf m j j i)))
    have e1 : (J 1).toNatClampNeg = 1 := by decide +kernel
    have e0 : (J 0).toNatClampNeg = 0 := by decide +kernel
    have e7 : (J 7).toNatClampNeg = 7 := by decide +kernel
    rw [e1, e0, e7]
    refine congrArg (fun z => Sum.inl (FieldType.int, 8, Sum.inl z)) (funext fun i => ?_)
    unfold va_cpy shf
    by_cases c : i < 7
    · rw [if_pos (by omega), if_pos ⟨rfl, by omega, by omega⟩]
      exact congrArg (fun z => J (m j z)) (show ((1 + (i - 0) : Nat) : Int) = 1 + (i : Int) by omega)
    · rw [if_neg (by omega), if_neg (by omega)]
  · show (if j = a then _ else _) = _
    rw [if_neg e]
    have : shf m a j = m j := funext fun i => if_neg (fun z => e z.1)
    rw [this]
theorem q_rowAdd (hs : Sk S) (h2 : m 90 2 = s) (s0 : 0 ≤ s) (s1 : s ≤ 8) : ∃ m', De (fun n => f_X4_add n 0 [.ref 90, .int (J z)] (hp S m q)) (.inl none) (hp S m' q) ∧ (∀ b i, b ≠ 90 → b ≠ 91 → b ≠ 92 → m' b i = m b i) ∧ m' 90 2 = min (s + 1) 8 ∧ ∀ i : Int, 0 ≤ i → i < 8 → (m' 91 i = if i = min s 7 then z else if s < 8 then m 91 i else m 91 (1 + i)) ∧ m' 92 i = if i = min s 7 then z else if s < 8 then m 92 i else m 92 (1 + i) := by
  by_cases c : s < 8
  · refine ⟨up (up (up m 91 s z) 92 s z) 90 2 (s + 1), ?_, fun b i h1 h2 h3 => by rw [up_a h1, up_a h3, up_a h2], by rw [up_at]; omega, fun i i0 i1 => ?_⟩
    · refine De.step ?_
      simp only [j_X4_add_0]
      simp (disch := omega) only [b_X4_add_0, x90_k hs, x90_r0 hs, x90_r1 hs, x90_i2 hs, x90_w2 hs, h2, Option.bind_some, xI, xU, xUt, xIt, J_lit, J_add, J_sub, J_mul, J_neg, J_ltc, J_lec, J_eqc, lt_T, lt_F, le_T, le_F, eq_T, eq_F, ↓reduceIte, ite_not, not_true_eq_false, not_false_eq_true, true_or, or_true, false_or, or_false, true_and, and_true, false_and, and_false, up_get, Nat.reduceEqDiff, Int.reduceNeg, eqN_T, eqN_F]
      refine De.step ?_
      simp only [j_X4_add_45]
      simp (disch := omega) only [b_X4_add_45, x90_k hs, x90_r0 hs, x90_r1 hs, x90_i2 hs, x90_w2 hs, x91_g hs, x91_s hs, x91_l hs, x92_g hs, x92_s hs, x92_l hs, h2, up_a, ne_eq, Option.bind_some, xI, xU, xUt, xIt, J_lit, J_add, J_sub, J_mul, J_neg, J_ltc, J_lec, J_eqc, lt_T, lt_F, le_T, le_F, eq_T, eq_F, ↓reduceIte, ite_not, not_true_eq_false, not_false_eq_true, true_or, or_true, false_or, or_false, true_and, and_true, false_and, and_false, up_get, Nat.reduceEqDiff, Int.reduceNeg, eqN_T, eqN_F]
      exact De.ret _ _
    · rw [if_pos c, if_pos c, show min s 7 = s by omega]
      by_cases d : i = s
      · rw [if_pos d, if_pos d, d]
        exact ⟨(up_a (by decide)).trans ((up_a (by decide)).trans (up_at _ _ _ _)), (up_a (by decide)).trans (up_at _ _ _ _)⟩
      · rw [if_neg d, if_neg d]
        exact ⟨(up_a (by decide)).trans ((up_a (by decide)).trans (up_i d)), (up_a (by decide)).trans ((up_i d).trans (up_a (by decide)))⟩
  · have e8 : s = 8 := by omega
    refine ⟨up (up (up (up (shf (shf m 91) 92) 90 2 7) 91 7 z) 92 7 z) 90 2 (7 + 1), ?_, fun b i h1 h2 h3 => by rw [up_a h1, up_a h3, up_a h2, up_a h1, shf, if_neg (fun z => h3 z.1), shf, if_neg (fun z => h2 z.1)], by rw [up_at]; omega, fun i i0 i1 => ?_⟩
    · have k2 : shf (shf m 91) 92 90 2 = 8 := by
        rw [shf, if_neg (by decide), shf, if_neg (by decide), h2, e8]
      refine De.step ?_
      simp only [j_X4_add_0]
      simp (disch := omega) only [b_X4_add_0, x90_k hs, x90_r0 hs, x90_r1 hs, x90_i2 hs, x90_w2 hs, cpI_shf (hs.at 91), cpI_shf (hs.at 92), h2, e8, Option.bind_some, xI, xU, xUt, xIt, J_lit, J_add, J_sub, J_mul, J_neg, J_ltc, J_lec, J_eqc, lt_T, lt_F, le_T, le_F, eq_T, eq_F, ↓reduceIte, ite_not, not_true_eq_false, not_false_eq_true, true_or, or_true, false_or, or_false, true_and, and_true, false_and, and_false, up_get, Nat.reduceEqDiff, Int.reduceNeg, eqN_T, eqN_F]
      refine De.step ?_
      simp only [j_X4_add_45]
      simp (disch := omega) only [b_X4_add_45, x90_k hs, x90_r0 hs, x90_r1 hs, x90_i2 hs, x90_w2 hs, x91_g hs, x91_s hs, x91_l hs, x92_g hs, x92_s hs, x92_l hs, up_a, up_at, ne_eq, Option.bind_some, xI, xU, xUt, xIt, J_lit, J_add, J_sub, J_mul, J_neg, J_ltc, J_lec, J_eqc, lt_T, lt_F, le_T, le_F, eq_T, eq_F, ↓reduceIte, ite_not, not_true_eq_false, not_false_eq_true, true_or, or_true, false_or, or_false, true_and, and_true, false_and, and_false, up_get, Nat.reduceEqDiff, Int.reduceNeg, eqN_T, eqN_F]
      exact De.ret _ _
    · rw [if_neg c, if_neg c, show min s 7 = 7 by omega]
      by_cases d : i = 7
      · rw [if_pos d, if_pos d, d]
        exact ⟨(up_a (by decide)).trans ((up_a (by decide)).trans (up_at _ _ _ _)), (up_a (by decide)).trans (up_at _ _ _ _)⟩
      · rw [if_neg d, if_neg d]
        refine ⟨(up_a (by decide)).trans ((up_a (by decide)).trans ((up_i d).trans ((up_a (by decide)).trans ?_))), (up_a (by decide)).trans ((up_i d).trans ((up_a (by decide)).trans ((up_a (by decide)).trans ?_)))⟩
        · exact (if_neg (fun z => absurd z.1 (by decide))).trans (if_pos ⟨rfl, i0, by omega⟩)
        · exact (if_pos ⟨rfl, i0, by omega⟩).trans (if_neg (fun z => absurd z.1 (by decide)))
theorem Rrow.add (h : Rrow (m 90 2) (m 91) (m 92) w v) (v0 : 0 ≤ v 0) (v4 : v 0 < 400) (e0 : v' 0 = v 0 + 1) (z0 : 0 ≤ z) (z1 : z ≤ 300) (e1 : w' (1136 + 2 * (v 0 + 1)) = z) (e2 : w' (1136 + 2 * (v 0 + 1) + 1) = z) (ew : ∀ i, 1136 ≤ i → i < 1938 → i ≠ 1136 + 2 * (v 0 + 1) → i ≠ 1136 + 2 * (v 0 + 1) + 1 → w' i = w i) (h2 : m' 90 2 = min (m 90 2 + 1) 8) (hr : ∀ i : Int, 0 ≤ i → i < 8 → (m' 91 i = if i = min (m 90 2) 7 then z else if m 90 2 < 8 then m 91 i else m 91 (1 + i)) ∧ m' 92 i = if i = min (m 90 2) 7 then z else if m 90 2 < 8 then m 92 i else m 92 (1 + i)) : Rrow (m' 90 2) (m' 91) (m' 92) w' v' := by
  obtain ⟨r1, r2⟩ := h
  refine ⟨by rw [h2, e0]; omega, fun i i0 i1 => ?_⟩
  rw [e0] at i1 ⊢
  obtain ⟨k1, k2⟩ := hr i i0 (by omega)
  rw [k1, k2, r1]
  by_cases d : i = min (min 8 (v 0)) 7
  · rw [if_pos d, if_pos d, show 1136 + 2 * (v 0 + 1 - min 8 (v 0 + 1) + 1 + i) = 1136 + 2 * (v 0 + 1) by omega, e1, e2]
    exact ⟨⟨rfl, rfl⟩, by omega, by omega, z0, z1⟩
  · rw [if_neg d, if_neg d]
    by_cases c : min 8 (v 0) < 8
    · rw [if_pos c, if_pos c, ew _ (by omega) (by omega) (by omega) (by omega), ew _ (by omega) (by omega) (by omega) (by omega), show v 0 + 1 - min 8 (v 0 + 1) + 1 + i = v 0 - min 8 (v 0) + 1 + i by omega]
      exact r2 i i0 (by omega)
    · rw [if_neg c, if_neg c, ew _ (by omega) (by omega) (by omega) (by omega), ew _ (by omega) (by omega) (by omega) (by omega), show v 0 + 1 - min 8 (v 0 + 1) + 1 + i = v 0 - min 8 (v 0) + 1 + (1 + i) by omega]
      exact r2 (1 + i) (by omega) (by omega)
end ROWS
/-! other numbers of the world that a net doesn't look at -/
section WORLD
variable {S : xH} {m m' m0 : Nat → Int → Int} {q q' : Nat → Int → Int64} {a r : Nat} {told l : Int} {w w' v v' g : Int → Int}
theorem Wok.wd (W : Wok w) (e : ∀ i, i < 1136 → w' i = w i) : Wok w' := by
  obtain ⟨t, w1, h⟩ := W
  refine ⟨t.w (e 0 (by decide)) (fun i _ _ => e i (by omega)), by rw [e 1 (by decide)]; exact w1, fun x x0 x1 => ?_⟩
  rw [e 1 (by decide)] at x1
  rw [e (761 + 10 * x + 0) (by omega), e (761 + 10 * x + 1) (by omega), e (761 + 10 * x + 2) (by omega), e (761 + 10 * x + 3) (by omega), e (761 + 10 * x + 7) (by omega), e (761 + 10 * x + 8) (by omega), e 0 (by decide)]
  exact h x x0 x1
theorem WrdC.wd (h : WrdC m w) (h30 : w 1 ≤ 30) (e : ∀ i, i < 1136 → w' i = w i) : WrdC m w' := by
  obtain ⟨h1, h2, h3⟩ := h
  refine ⟨by rw [e 1 (by decide)]; exact h1, fun x x0 x1 => ?_, fun x x0 x1 => ⟨(h3 x x0 x1).1, (h3 x x0 x1).2.1, fun u u0 u1 => ?_⟩⟩
  · rw [e 1 (by decide)] at x1
    rw [e (761 + 10 * x + 0) (by omega), e (761 + 10 * x + 1) (by omega), e (761 + 10 * x + 2) (by omega), e (761 + 10 * x + 3) (by omega), e (761 + 10 * x + 7) (by omega), e (761 + 10 * x + 8) (by omega)]
    exact h2 x x0 x1
  · rw [e 1 (by decide), e (761 + 10 * u + 8) (by omega)]
    exact (h3 x x0 x1).2.2 u u0 u1
theorem CX.wd (C : CX S m q a r told w v g) (e : ∀ i, i < 1136 → w' i = w i) : CX S m q a r told w' v g := by
  obtain ⟨h0, W, WC, NC, R⟩ := C
  have w1 := W.2.1
  have n1 := NC.1
  refine ⟨h0, W.wd e, WC.wd w1.2 e, Rnet.congr NC W.1.2.1 (fun i _ _ => rfl) (fun o _ _ => rfl) (fun o _ _ => rfl) (e 0 (by decide)) (by rw [e 1 (by decide)]; omega) (fun i _ _ => e i (by omega)) (fun i _ _ => rfl) (by omega), R⟩
theorem WkC.wd (h : WkC m w) (e : ∀ i, i < 1136 → w' i = w i) : WkC m w' := Rwlk.w h rfl (fun _ _ _ => rfl) (fun _ _ _ => rfl) (fun _ _ _ => rfl) (e 0 (by decide)) (fun i _ _ => e i (by omega)) (fun i _ _ => e i (by omega))
end WORLD
