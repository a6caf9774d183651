/-! who can take what -/
def uxS (w v : Int → Int) (ta x : Int) : Nat → Bool
  | 0 => false
  | n + 1 => uxS w v ta x n || decide (v (51 + 7 * (30 * ta + n) + 0) = 1 ∧ w (761 + 10 * n + 8) = x)
def fuS (w v g : Int → Int) (gi ta x : Int) : Bool := decide (cntw v ta 30 < w (11 + 3 * ta + 1)) || decide (mrk w v g ta (lsO w v g ta 30).1 < mrk w v g gi x)
def ctS (w v g : Int → Int) (gi ta : Int) (d : Nat) (x : Int) : Bool := decide (v (51 + 7 * (30 * gi + x) + 0) = 1) && (decide (v (51 + 7 * (30 * ta + x) + 0) = 0) && (!d.testBit x.toNat && (lts w v g gi x && (!uxS w v ta x 30 && fuS w v g gi ta x))))
theorem uxS_stop {w v : Int → Int} {ta x : Int} (n : Nat) : ∀ k : Nat, (∀ u : Int, n ≤ u → u < n + k → v (51 + 7 * (30 * ta + u) + 0) ≠ 1) → uxS w v ta x (n + k) = uxS w v ta x n
  | 0, _ => rfl
  | k + 1, h => by
    have h0 := h ((n + k : Nat) : Int) (by omega) (by omega)
    rw [← Nat.add_assoc, uxS, uxS_stop n k (fun u a b => h u a (by omega)), decide_eq_false (fun z => h0 z.1), Bool.or_false]
theorem uxS_mono {w v : Int → Int} {ta x : Int} (n : Nat) (h : uxS w v ta x n = true) : ∀ k : Nat, uxS w v ta x (n + k) = true
  | 0 => h
  | k + 1 => by rw [← Nat.add_assoc, uxS, uxS_mono n h k, Bool.true_or]
section CANM
variable {S : xH} {m m' m0 : Nat → Int → Int} {q q' : Nat → Int → Int64} {told gi ta x y sd ln sp : Int} {w v g kd nm bg so : Int → Int}
theorem uxS_30 {t : Int} (V : Vok told w v) (w1 : w 1 ≤ 30) (t0 : 0 ≤ ta) (t1 : ta < 10) (h0 : told ≤ t) (h1 : t ≤ 30) : uxS w v ta x t.toNat = uxS w v ta x 30 := by
  have tt := V.1
  have := uxS_stop (w := w) (v := v) (ta := ta) (x := x) t.toNat (30 - t.toNat) (fun u a b z => by
    have := ((V.2.2 ta u t0 t1 (by omega) (by omega)).2 z).1
    omega)
  rw [show t.toNat + (30 - t.toNat) = 30 by omega] at this
  exact this.symm
theorem q_can50 (hs : Sk S) (W : Wok (m0 139)) (V : Vok told (m0 139) (m0 137)) (M0 : RulM m0 y g) (R : Rrul ln sp kd nm bg so g) (g0 : 0 ≤ gi) (g1 : gi < m0 139 0) (t0 : 0 ≤ ta) (t1 : ta < m0 139 0) (x0 : 0 ≤ x) (x1 : x < m0 139 1) (hg : m0 137 (51 + 7 * (30 * gi + x) + 0) = 1) (z : Int32) : ∀ (k i : Nat) (m : Nat → Int → Int), (i : Int) + k = m0 139 1 → Fr3 m0 m → uxS (m0 139) (m0 137) ta x i = false → ∃ m', De (fun n => f_X11_canTake n 50 [.ref 136, .int (J gi), .int (J ta), .int z, .int (J x), .int (J i)] (hp S m q)) (.inl (some (.int (J (if (!uxS (m0 139) (m0 137) ta x 30 && fuS (m0 139) (m0 137) g gi ta x) = true then 1 else 0))))) (hp S m' q) ∧ Fr3 m0 m' := by
  have tw := W.1.2.1
  have w1 := W.2.1
  have v1 := V.1
  intro k
  induction k with
  | zero =>
    intro i m hi F hu
    have e9 : m 139 = m0 139 := F.row (by decide) (by decide) (by decide)
    have e7 : m 137 = m0 137 := F.row (by decide) (by decide) (by decide)
    have hu' : uxS (m0 139) (m0 137) ta x 30 = false := by
      rw [← uxS_30 V w1.2 t0 (by omega) v1.2.2.2 w1.2, show (m0 139 1).toNat = i by omega]
      exact hu
    rw [hu', Bool.not_false, Bool.true_and]
    have M := M0.cg (m' := m) (F 136 6 (by decide) (by decide) (by decide)) (fun i => congrFun e9 i)
    have DC := d_copies (q := q) (m := m) (p := ta) hs (by rw [e9]; exact W) (by rw [e9, e7]; exact V) t0 (by omega)
    have DT := d_toldOf (q := q) (m := m) (p := ta) (k := 1) hs t0 (by omega) (by decide) (by decide)
    rw [e7] at DC
    rw [e9] at DT
    have cb := cntw_in (m0 137) ta 30
    have rm := W.1.2.2 ta t0 t1
    unfold fuS
    by_cases f : cntw (m0 137) ta 30 < m0 139 (11 + 3 * ta + 1)
    · refine ⟨m, ?_, F⟩
      rw [decide_eq_true f, Bool.true_or, if_pos rfl]
      refine De.step ?_
      simp only [j_X11_canTake_50]
      simp (disch := omega) only [b_X11_canTake_50, x136_k hs, x136_i0 hs, x136_w0 hs, x136_r1 hs, x136_r2 hs, x136_r3 hs, x136_r4 hs, x136_i5 hs, x136_w5 hs, x136_i6 hs, x136_w6 hs, x136_i7 hs, x136_w7 hs, x136_r8 hs, x136_i9 hs, x136_w9 hs, x136_i10 hs, x136_w10 hs, x136_i11 hs, x136_w11 hs, x136_i12 hs, x136_w12 hs, x136_i13 hs, x136_w13 hs, x136_i14 hs, x136_w14 hs, x136_r15 hs, x136_i16 hs, x136_w16 hs, x136_r17 hs, x136_r18 hs, x136_r19 hs, x136_r20 hs, x136_r21 hs, x136_i22 hs, x136_w22 hs, x136_r23 hs, x136_r24 hs, x136_i25 hs, x136_w25 hs, x136_i26 hs, x136_w26 hs, x136_r27 hs, x136_r28 hs, x136_i29 hs, x136_w29 hs, J_lit, Option.bind_some]
      refine De.call (d_words hs) ?_
      simp (disch := omega) only [e9, x136_k hs, x136_i0 hs, x136_w0 hs, x136_r1 hs, x136_r2 hs, x136_r3 hs, x136_r4 hs, x136_i5 hs, x136_w5 hs, x136_i6 hs, x136_w6 hs, x136_i7 hs, x136_w7 hs, x136_r8 hs, x136_i9 hs, x136_w9 hs, x136_i10 hs, x136_w10 hs, x136_i11 hs, x136_w11 hs, x136_i12 hs, x136_w12 hs, x136_i13 hs, x136_w13 hs, x136_i14 hs, x136_w14 hs, x136_r15 hs, x136_i16 hs, x136_w16 hs, x136_r17 hs, x136_r18 hs, x136_r19 hs, x136_r20 hs, x136_r21 hs, x136_i22 hs, x136_w22 hs, x136_r23 hs, x136_r24 hs, x136_i25 hs, x136_w25 hs, x136_i26 hs, x136_w26 hs, x136_r27 hs, x136_r28 hs, x136_i29 hs, x136_w29 hs, Option.bind_some, xI, xU, xUt, xIt, J_lit, J_add, J_sub, J_mul, J_neg, J_ltc, J_lec, J_eqc, lt_T, lt_F, le_T, le_F, eq_T, eq_F, ↓reduceIte, ite_not, not_true_eq_false, not_false_eq_true, true_or, or_true, false_or, or_false, true_and, and_true, false_and, and_false, up_get, Nat.reduceEqDiff, Int.reduceNeg, eqN_T, eqN_F]
      refine De.call DC ?_
      simp (disch := omega) only [x136_k hs, x136_i0 hs, x136_w0 hs, x136_r1 hs, x136_r2 hs, x136_r3 hs, x136_r4 hs, x136_i5 hs, x136_w5 hs, x136_i6 hs, x136_w6 hs, x136_i7 hs, x136_w7 hs, x136_r8 hs, x136_i9 hs, x136_w9 hs, x136_i10 hs, x136_w10 hs, x136_i11 hs, x136_w11 hs, x136_i12 hs, x136_w12 hs, x136_i13 hs, x136_w13 hs, x136_i14 hs, x136_w14 hs, x136_r15 hs, x136_i16 hs, x136_w16 hs, x136_r17 hs, x136_r18 hs, x136_r19 hs, x136_r20 hs, x136_r21 hs, x136_i22 hs, x136_w22 hs, x136_r23 hs, x136_r24 hs, x136_i25 hs, x136_w25 hs, x136_i26 hs, x136_w26 hs, x136_r27 hs, x136_r28 hs, x136_i29 hs, x136_w29 hs, Option.bind_some, xI, xU, xUt, xIt, J_lit, J_add, J_sub, J_mul, J_neg, J_ltc, J_lec, J_eqc, lt_T, lt_F, le_T, le_F, eq_T, eq_F, ↓reduceIte, ite_not, not_true_eq_false, not_false_eq_true, true_or, or_true, false_or, or_false, true_and, and_true, false_and, and_false, up_get, Nat.reduceEqDiff, Int.reduceNeg, eqN_T, eqN_F]
      refine De.call DT ?_
      simp (disch := omega) only [Option.bind_some, xI, xU, xUt, xIt, J_lit, J_add, J_sub, J_mul, J_neg, J_ltc, J_lec, J_eqc, lt_T, lt_F, le_T, le_F, eq_T, eq_F, ↓reduceIte, ite_not, not_true_eq_false, not_false_eq_true, true_or, or_true, false_or, or_false, true_and, and_true, false_and, and_false, up_get, Nat.reduceEqDiff, Int.reduceNeg, eqN_T, eqN_F]
      exact De.ret _ _
    · obtain ⟨ma, Da, Fa⟩ := q_leastM (q := q) (m := m) (p := ta) hs (by rw [e9]; exact W) (by rw [e9, e7]; exact V) M R t0 (by rw [e9]; exact t1)
      rw [e9, e7] at Da
      have L := lsO_in (w := m0 139) (v := m0 137) (p := ta) R 30
      have ex := lsO_ex (w := m0 139) (v := m0 137) (g := g) (p := ta) 30 (by omega)
      have hl := L.2.2.2.2 ex
      have lt := ((V.2.2 ta _ t0 (by omega) ex L.2.1).2 hl).1.2
      have Fa0 := F.tr Fa
      have a9 : ma 139 = m0 139 := Fa0.row (by decide) (by decide) (by decide)
      have a7 : ma 137 = m0 137 := Fa0.row (by decide) (by decide) (by decide)
      obtain ⟨mb, Db, Fb⟩ := q_markM (q := q) (m := ma) (p := ta) (x := (lsO (m0 139) (m0 137) g ta 30).1) hs (by rw [a9]; exact W) (by rw [a9, a7]; exact V) (M0.cg (m' := ma) (Fa0 136 6 (by decide) (by decide) (by decide)) (fun i => congrFun a9 i)) R t0 (by rw [a9]; exact t1) ex (by rw [a9]; omega) (by rw [a7]; exact hl)
      rw [a9, a7] at Db
      have Fb0 := Fa0.tr Fb
      have b9 : mb 139 = m0 139 := Fb0.row (by decide) (by decide) (by decide)
      have b7 : mb 137 = m0 137 := Fb0.row (by decide) (by decide) (by decide)
      obtain ⟨mc, Dc, Fc⟩ := q_markM (q := q) (m := mb) (p := gi) (x := x) hs (by rw [b9]; exact W) (by rw [b9, b7]; exact V) (M0.cg (m' := mb) (Fb0 136 6 (by decide) (by decide) (by decide)) (fun i => congrFun b9 i)) R g0 (by rw [b9]; exact g1) x0 (by rw [b9]; exact x1) (by rw [b7]; exact hg)
      rw [b9, b7] at Dc
      have k1 := mrk_in (w := m0 139) (v := m0 137) R ta (lsO (m0 139) (m0 137) g ta 30).1
      have k2 := mrk_in (w := m0 139) (v := m0 137) R gi x
      refine ⟨mc, ?_, Fb0.tr Fc⟩
      rw [decide_eq_false f, Bool.false_or]
      refine De.step ?_
      simp only [j_X11_canTake_50]
      simp (disch := omega) only [b_X11_canTake_50, x136_k hs, x136_i0 hs, x136_w0 hs, x136_r1 hs, x136_r2 hs, x136_r3 hs, x136_r4 hs, x136_i5 hs, x136_w5 hs, x136_i6 hs, x136_w6 hs, x136_i7 hs, x136_w7 hs, x136_r8 hs, x136_i9 hs, x136_w9 hs, x136_i10 hs, x136_w10 hs, x136_i11 hs, x136_w11 hs, x136_i12 hs, x136_w12 hs, x136_i13 hs, x136_w13 hs, x136_i14 hs, x136_w14 hs, x136_r15 hs, x136_i16 hs, x136_w16 hs, x136_r17 hs, x136_r18 hs, x136_r19 hs, x136_r20 hs, x136_r21 hs, x136_i22 hs, x136_w22 hs, x136_r23 hs, x136_r24 hs, x136_i25 hs, x136_w25 hs, x136_i26 hs, x136_w26 hs, x136_r27 hs, x136_r28 hs, x136_i29 hs, x136_w29 hs, J_lit, Option.bind_some]
      refine De.call (d_words hs) ?_
      simp (disch := omega) only [e9, x136_k hs, x136_i0 hs, x136_w0 hs, x136_r1 hs, x136_r2 hs, x136_r3 hs, x136_r4 hs, x136_i5 hs, x136_w5 hs, x136_i6 hs, x136_w6 hs, x136_i7 hs, x136_w7 hs, x136_r8 hs, x136_i9 hs, x136_w9 hs, x136_i10 hs, x136_w10 hs, x136_i11 hs, x136_w11 hs, x136_i12 hs, x136_w12 hs, x136_i13 hs, x136_w13 hs, x136_i14 hs, x136_w14 hs, x136_r15 hs, x136_i16 hs, x136_w16 hs, x136_r17 hs, x136_r18 hs, x136_r19 hs, x136_r20 hs, x136_r21 hs, x136_i22 hs, x136_w22 hs, x136_r23 hs, x136_r24 hs, x136_i25 hs, x136_w25 hs, x136_i26 hs, x136_w26 hs, x136_r27 hs, x136_r28 hs, x136_i29 hs, x136_w29 hs, Option.bind_some, xI, xU, xUt, xIt, J_lit, J_add, J_sub, J_mul, J_neg, J_ltc, J_lec, J_eqc, lt_T, lt_F, le_T, le_F, eq_T, eq_F, ↓reduceIte, ite_not, not_true_eq_false, not_false_eq_true, true_or, or_true, false_or, or_false, true_and, and_true, false_and, and_false, up_get, Nat.reduceEqDiff, Int.reduceNeg, eqN_T, eqN_F]
      refine De.call DC ?_
      simp (disch := omega) only [x136_k hs, x136_i0 hs, x136_w0 hs, x136_r1 hs, x136_r2 hs, x136_r3 hs, x136_r4 hs, x136_i5 hs, x136_w5 hs, x136_i6 hs, x136_w6 hs, x136_i7 hs, x136_w7 hs, x136_r8 hs, x136_i9 hs, x136_w9 hs, x136_i10 hs, x136_w10 hs, x136_i11 hs, x136_w11 hs, x136_i12 hs, x136_w12 hs, x136_i13 hs, x136_w13 hs, x136_i14 hs, x136_w14 hs, x136_r15 hs, x136_i16 hs, x136_w16 hs, x136_r17 hs, x136_r18 hs, x136_r19 hs, x136_r20 hs, x136_r21 hs, x136_i22 hs, x136_w22 hs, x136_r23 hs, x136_r24 hs, x136_i25 hs, x136_w25 hs, x136_i26 hs, x136_w26 hs, x136_r27 hs, x136_r28 hs, x136_i29 hs, x136_w29 hs, Option.bind_some, xI, xU, xUt, xIt, J_lit, J_add, J_sub, J_mul, J_neg, J_ltc, J_lec, J_eqc, lt_T, lt_F, le_T, le_F, eq_T, eq_F, ↓reduceIte, ite_not, not_true_eq_false, not_false_eq_true, true_or, or_true, false_or, or_false, true_and, and_true, false_and, and_false, up_get, Nat.reduceEqDiff, Int.reduceNeg, eqN_T, eqN_F]
      refine De.call DT ?_
      simp (disch := omega) only [x136_k hs, x136_i0 hs, x136_w0 hs, x136_r1 hs, x136_r2 hs, x136_r3 hs, x136_r4 hs, x136_i5 hs, x136_w5 hs, x136_i6 hs, x136_w6 hs, x136_i7 hs, x136_w7 hs, x136_r8 hs, x136_i9 hs, x136_w9 hs, x136_i10 hs, x136_w10 hs, x136_i11 hs, x136_w11 hs, x136_i12 hs, x136_w12 hs, x136_i13 hs, x136_w13 hs, x136_i14 hs, x136_w14 hs, x136_r15 hs, x136_i16 hs, x136_w16 hs, x136_r17 hs, x136_r18 hs, x136_r19 hs, x136_r20 hs, x136_r21 hs, x136_i22 hs, x136_w22 hs, x136_r23 hs, x136_r24 hs, x136_i25 hs, x136_w25 hs, x136_i26 hs, x136_w26 hs, x136_r27 hs, x136_r28 hs, x136_i29 hs, x136_w29 hs, Option.bind_some, xI, xU, xUt, xIt, J_lit, J_add, J_sub, J_mul, J_neg, J_ltc, J_lec, J_eqc, lt_T, lt_F, le_T, le_F, eq_T, eq_F, ↓reduceIte, ite_not, not_true_eq_false, not_false_eq_true, true_or, or_true, false_or, or_false, true_and, and_true, false_and, and_false, up_get, Nat.reduceEqDiff, Int.reduceNeg, eqN_T, eqN_F]
      refine De.call Da ?_
      simp (disch := omega) only [x136_k hs, x136_i0 hs, x136_w0 hs, x136_r1 hs, x136_r2 hs, x136_r3 hs, x136_r4 hs, x136_i5 hs, x136_w5 hs, x136_i6 hs, x136_w6 hs, x136_i7 hs, x136_w7 hs, x136_r8 hs, x136_i9 hs, x136_w9 hs, x136_i10 hs, x136_w10 hs, x136_i11 hs, x136_w11 hs, x136_i12 hs, x136_w12 hs, x136_i13 hs, x136_w13 hs, x136_i14 hs, x136_w14 hs, x136_r15 hs, x136_i16 hs, x136_w16 hs, x136_r17 hs, x136_r18 hs, x136_r19 hs, x136_r20 hs, x136_r21 hs, x136_i22 hs, x136_w22 hs, x136_r23 hs, x136_r24 hs, x136_i25 hs, x136_w25 hs, x136_i26 hs, x136_w26 hs, x136_r27 hs, x136_r28 hs, x136_i29 hs, x136_w29 hs, Option.bind_some, xI, xU, xUt, xIt, J_lit, J_add, J_sub, J_mul, J_neg, J_ltc, J_lec, J_eqc, lt_T, lt_F, le_T, le_F, eq_T, eq_F, ↓reduceIte, ite_not, not_true_eq_false, not_false_eq_true, true_or, or_true, false_or, or_false, true_and, and_true, false_and, and_false, up_get, Nat.reduceEqDiff, Int.reduceNeg, eqN_T, eqN_F]
      refine De.call Db ?_
      simp (disch := omega) only [x136_k hs, x136_i0 hs, x136_w0 hs, x136_r1 hs, x136_r2 hs, x136_r3 hs, x136_r4 hs, x136_i5 hs, x136_w5 hs, x136_i6 hs, x136_w6 hs, x136_i7 hs, x136_w7 hs, x136_r8 hs, x136_i9 hs, x136_w9 hs, x136_i10 hs, x136_w10 hs, x136_i11 hs, x136_w11 hs, x136_i12 hs, x136_w12 hs, x136_i13 hs, x136_w13 hs, x136_i14 hs, x136_w14 hs, x136_r15 hs, x136_i16 hs, x136_w16 hs, x136_r17 hs, x136_r18 hs, x136_r19 hs, x136_r20 hs, x136_r21 hs, x136_i22 hs, x136_w22 hs, x136_r23 hs, x136_r24 hs, x136_i25 hs, x136_w25 hs, x136_i26 hs, x136_w26 hs, x136_r27 hs, x136_r28 hs, x136_i29 hs, x136_w29 hs, Option.bind_some, xI, xU, xUt, xIt, J_lit, J_add, J_sub, J_mul, J_neg, J_ltc, J_lec, J_eqc, lt_T, lt_F, le_T, le_F, eq_T, eq_F, ↓reduceIte, ite_not, not_true_eq_false, not_false_eq_true, true_or, or_true, false_or, or_false, true_and, and_true, false_and, and_false, up_get, Nat.reduceEqDiff, Int.reduceNeg, eqN_T, eqN_F]
      refine De.call Dc ?_
      by_cases c : mrk (m0 139) (m0 137) g ta (lsO (m0 139) (m0 137) g ta 30).1 < mrk (m0 139) (m0 137) g gi x
      · rw [decide_eq_true c, if_pos rfl]
        simp (disch := omega) only [Option.bind_some, xI, xU, xUt, xIt, J_lit, J_add, J_sub, J_mul, J_neg, J_ltc, J_lec, J_eqc, lt_T, lt_F, le_T, le_F, eq_T, eq_F, ↓reduceIte, ite_not, not_true_eq_false, not_false_eq_true, true_or, or_true, false_or, or_false, true_and, and_true, false_and, and_false, up_get, Nat.reduceEqDiff, Int.reduceNeg, eqN_T, eqN_F]
        exact De.ret _ _
      · rw [decide_eq_false c, if_neg (by decide)]
        simp (disch := omega) only [Option.bind_some, xI, xU, xUt, xIt, J_lit, J_add, J_sub, J_mul, J_neg, J_ltc, J_lec, J_eqc, lt_T, lt_F, le_T, le_F, eq_T, eq_F, ↓reduceIte, ite_not, not_true_eq_false, not_false_eq_true, true_or, or_true, false_or, or_false, true_and, and_true, false_and, and_false, up_get, Nat.reduceEqDiff, Int.reduceNeg, eqN_T, eqN_F]
        exact De.ret _ _
  | succ k IH =>
    intro i m hi F hu
    have e9 : m 139 = m0 139 := F.row (by decide) (by decide) (by decide)
    have e7 : m 137 = m0 137 := F.row (by decide) (by decide) (by decide)
    have vv := (V.2.2 ta i t0 (by omega) (by omega) (by omega)).1
    have wi := (W.2.2 i (by omega) (by omega)).2.2
    have DH := d_has (q := q) (m := m) (p := ta) (x := (i : Int)) hs t0 (by omega) (by omega) (by omega) (by rw [e7]; exact vv.1) (by rw [e7]; exact vv.2)
    rw [e7] at DH
    have DO := d_of (q := q) (m := m) (x := (i : Int)) (k := 8) hs (by omega) (by omega) (by decide) (by decide)
    rw [e9] at DO
    by_cases h : m0 137 (51 + 7 * (30 * ta + i) + 0) = 1
    · by_cases c : m0 139 (761 + 10 * i + 8) = x
      · refine ⟨m, ?_, F⟩
        have un : uxS (m0 139) (m0 137) ta x (i + 1) = true := by rw [uxS, decide_eq_true ⟨h, c⟩, Bool.or_true]
        have u30 := uxS_mono (i + 1) un (30 - (i + 1))
        rw [show i + 1 + (30 - (i + 1)) = 30 by omega] at u30
        rw [u30, Bool.not_true, Bool.false_and, if_neg (by decide)]
        refine De.step ?_
        simp only [j_X11_canTake_50]
        simp (disch := omega) only [b_X11_canTake_50, x136_k hs, x136_i0 hs, x136_w0 hs, x136_r1 hs, x136_r2 hs, x136_r3 hs, x136_r4 hs, x136_i5 hs, x136_w5 hs, x136_i6 hs, x136_w6 hs, x136_i7 hs, x136_w7 hs, x136_r8 hs, x136_i9 hs, x136_w9 hs, x136_i10 hs, x136_w10 hs, x136_i11 hs, x136_w11 hs, x136_i12 hs, x136_w12 hs, x136_i13 hs, x136_w13 hs, x136_i14 hs, x136_w14 hs, x136_r15 hs, x136_i16 hs, x136_w16 hs, x136_r17 hs, x136_r18 hs, x136_r19 hs, x136_r20 hs, x136_r21 hs, x136_i22 hs, x136_w22 hs, x136_r23 hs, x136_r24 hs, x136_i25 hs, x136_w25 hs, x136_i26 hs, x136_w26 hs, x136_r27 hs, x136_r28 hs, x136_i29 hs, x136_w29 hs, J_lit, Option.bind_some]
        refine De.call (d_words hs) ?_
        simp (disch := omega) only [e9, x136_k hs, x136_i0 hs, x136_w0 hs, x136_r1 hs, x136_r2 hs, x136_r3 hs, x136_r4 hs, x136_i5 hs, x136_w5 hs, x136_i6 hs, x136_w6 hs, x136_i7 hs, x136_w7 hs, x136_r8 hs, x136_i9 hs, x136_w9 hs, x136_i10 hs, x136_w10 hs, x136_i11 hs, x136_w11 hs, x136_i12 hs, x136_w12 hs, x136_i13 hs, x136_w13 hs, x136_i14 hs, x136_w14 hs, x136_r15 hs, x136_i16 hs, x136_w16 hs, x136_r17 hs, x136_r18 hs, x136_r19 hs, x136_r20 hs, x136_r21 hs, x136_i22 hs, x136_w22 hs, x136_r23 hs, x136_r24 hs, x136_i25 hs, x136_w25 hs, x136_i26 hs, x136_w26 hs, x136_r27 hs, x136_r28 hs, x136_i29 hs, x136_w29 hs, Option.bind_some, xI, xU, xUt, xIt, J_lit, J_add, J_sub, J_mul, J_neg, J_ltc, J_lec, J_eqc, lt_T, lt_F, le_T, le_F, eq_T, eq_F, ↓reduceIte, ite_not, not_true_eq_false, not_false_eq_true, true_or, or_true, false_or, or_false, true_and, and_true, false_and, and_false, up_get, Nat.reduceEqDiff, Int.reduceNeg, eqN_T, eqN_F]
        refine De.call DH ?_
        simp (disch := omega) only [h, x136_k hs, x136_i0 hs, x136_w0 hs, x136_r1 hs, x136_r2 hs, x136_r3 hs, x136_r4 hs, x136_i5 hs, x136_w5 hs, x136_i6 hs, x136_w6 hs, x136_i7 hs, x136_w7 hs, x136_r8 hs, x136_i9 hs, x136_w9 hs, x136_i10 hs, x136_w10 hs, x136_i11 hs, x136_w11 hs, x136_i12 hs, x136_w12 hs, x136_i13 hs, x136_w13 hs, x136_i14 hs, x136_w14 hs, x136_r15 hs, x136_i16 hs, x136_w16 hs, x136_r17 hs, x136_r18 hs, x136_r19 hs, x136_r20 hs, x136_r21 hs, x136_i22 hs, x136_w22 hs, x136_r23 hs, x136_r24 hs, x136_i25 hs, x136_w25 hs, x136_i26 hs, x136_w26 hs, x136_r27 hs, x136_r28 hs, x136_i29 hs, x136_w29 hs, Option.bind_some, xI, xU, xUt, xIt, J_lit, J_add, J_sub, J_mul, J_neg, J_ltc, J_lec, J_eqc, lt_T, lt_F, le_T, le_F, eq_T, eq_F, ↓reduceIte, ite_not, not_true_eq_false, not_false_eq_true, true_or, or_true, false_or, or_false, true_and, and_true, false_and, and_false, up_get, Nat.reduceEqDiff, Int.reduceNeg, eqN_T, eqN_F]
        refine De.call DO ?_
        simp (disch := omega) only [c, Option.bind_some, xI, xU, xUt, xIt, J_lit, J_add, J_sub, J_mul, J_neg, J_ltc, J_lec, J_eqc, lt_T, lt_F, le_T, le_F, eq_T, eq_F, ↓reduceIte, ite_not, not_true_eq_false, not_false_eq_true, true_or, or_true, false_or, or_false, true_and, and_true, false_and, and_false, up_get, Nat.reduceEqDiff, Int.reduceNeg, eqN_T, eqN_F]
        exact De.ret _ _
      · obtain ⟨m', D, F'⟩ := IH (i + 1) m (by omega) F (by rw [uxS, hu, decide_eq_false (fun z => c z.2)]; rfl)
        refine ⟨m', ?_, F'⟩
        refine De.step ?_
        simp only [j_X11_canTake_50]
        simp (disch := omega) only [b_X11_canTake_50, x136_k hs, x136_i0 hs, x136_w0 hs, x136_r1 hs, x136_r2 hs, x136_r3 hs, x136_r4 hs, x136_i5 hs, x136_w5 hs, x136_i6 hs, x136_w6 hs, x136_i7 hs, x136_w7 hs, x136_r8 hs, x136_i9 hs, x136_w9 hs, x136_i10 hs, x136_w10 hs, x136_i11 hs, x136_w11 hs, x136_i12 hs, x136_w12 hs, x136_i13 hs, x136_w13 hs, x136_i14 hs, x136_w14 hs, x136_r15 hs, x136_i16 hs, x136_w16 hs, x136_r17 hs, x136_r18 hs, x136_r19 hs, x136_r20 hs, x136_r21 hs, x136_i22 hs, x136_w22 hs, x136_r23 hs, x136_r24 hs, x136_i25 hs, x136_w25 hs, x136_i26 hs, x136_w26 hs, x136_r27 hs, x136_r28 hs, x136_i29 hs, x136_w29 hs, J_lit, Option.bind_some]
        refine De.call (d_words hs) ?_
        simp (disch := omega) only [e9, x136_k hs, x136_i0 hs, x136_w0 hs, x136_r1 hs, x136_r2 hs, x136_r3 hs, x136_r4 hs, x136_i5 hs, x136_w5 hs, x136_i6 hs, x136_w6 hs, x136_i7 hs, x136_w7 hs, x136_r8 hs, x136_i9 hs, x136_w9 hs, x136_i10 hs, x136_w10 hs, x136_i11 hs, x136_w11 hs, x136_i12 hs, x136_w12 hs, x136_i13 hs, x136_w13 hs, x136_i14 hs, x136_w14 hs, x136_r15 hs, x136_i16 hs, x136_w16 hs, x136_r17 hs, x136_r18 hs, x136_r19 hs, x136_r20 hs, x136_r21 hs, x136_i22 hs, x136_w22 hs, x136_r23 hs, x136_r24 hs, x136_i25 hs, x136_w25 hs, x136_i26 hs, x136_w26 hs, x136_r27 hs, x136_r28 hs, x136_i29 hs, x136_w29 hs, Option.bind_some, xI, xU, xUt, xIt, J_lit, J_add, J_sub, J_mul, J_neg, J_ltc, J_lec, J_eqc, lt_T, lt_F, le_T, le_F, eq_T, eq_F, ↓reduceIte, ite_not, not_true_eq_false, not_false_eq_true, true_or, or_true, false_or, or_false, true_and, and_true, false_and, and_false, up_get, Nat.reduceEqDiff, Int.reduceNeg, eqN_T, eqN_F]
        refine De.call DH ?_
        simp (disch := omega) only [h, x136_k hs, x136_i0 hs, x136_w0 hs, x136_r1 hs, x136_r2 hs, x136_r3 hs, x136_r4 hs, x136_i5 hs, x136_w5 hs, x136_i6 hs, x136_w6 hs, x136_i7 hs, x136_w7 hs, x136_r8 hs, x136_i9 hs, x136_w9 hs, x136_i10 hs, x136_w10 hs, x136_i11 hs, x136_w11 hs, x136_i12 hs, x136_w12 hs, x136_i13 hs, x136_w13 hs, x136_i14 hs, x136_w14 hs, x136_r15 hs, x136_i16 hs, x136_w16 hs, x136_r17 hs, x136_r18 hs, x136_r19 hs, x136_r20 hs, x136_r21 hs, x136_i22 hs, x136_w22 hs, x136_r23 hs, x136_r24 hs, x136_i25 hs, x136_w25 hs, x136_i26 hs, x136_w26 hs, x136_r27 hs, x136_r28 hs, x136_i29 hs, x136_w29 hs, Option.bind_some, xI, xU, xUt, xIt, J_lit, J_add, J_sub, J_mul, J_neg, J_ltc, J_lec, J_eqc, lt_T, lt_F, le_T, le_F, eq_T, eq_F, ↓reduceIte, ite_not, not_true_eq_false, not_false_eq_true, true_or, or_true, false_or, or_false, true_and, and_true, false_and, and_false, up_get, Nat.reduceEqDiff, Int.reduceNeg, eqN_T, eqN_F]
        refine De.call DO ?_
        simp (disch := omega) only [Option.bind_some, xI, xU, xUt, xIt, J_lit, J_add, J_sub, J_mul, J_neg, J_ltc, J_lec, J_eqc, lt_T, lt_F, le_T, le_F, eq_T, eq_F, ↓reduceIte, ite_not, not_true_eq_false, not_false_eq_true, true_or, or_true, false_or, or_false, true_and, and_true, false_and, and_false, up_get, Nat.reduceEqDiff, Int.reduceNeg, eqN_T, eqN_F]
        exact D
    · obtain ⟨m', D, F'⟩ := IH (i + 1) m (by omega) F (by rw [uxS, hu, decide_eq_false (fun z => h z.1)]; rfl)
      refine ⟨m', ?_, F'⟩
      refine De.step ?_
      simp only [j_X11_canTake_50]
      simp (disch := omega) only [b_X11_canTake_50, x136_k hs, x136_i0 hs, x136_w0 hs, x136_r1 hs, x136_r2 hs, x136_r3 hs, x136_r4 hs, x136_i5 hs, x136_w5 hs, x136_i6 hs, x136_w6 hs, x136_i7 hs, x136_w7 hs, x136_r8 hs, x136_i9 hs, x136_w9 hs, x136_i10 hs, x136_w10 hs, x136_i11 hs, x136_w11 hs, x136_i12 hs, x136_w12 hs, x136_i13 hs, x136_w13 hs, x136_i14 hs, x136_w14 hs, x136_r15 hs, x136_i16 hs, x136_w16 hs, x136_r17 hs, x136_r18 hs, x136_r19 hs, x136_r20 hs, x136_r21 hs, x136_i22 hs, x136_w22 hs, x136_r23 hs, x136_r24 hs, x136_i25 hs, x136_w25 hs, x136_i26 hs, x136_w26 hs, x136_r27 hs, x136_r28 hs, x136_i29 hs, x136_w29 hs, J_lit, Option.bind_some]
      refine De.call (d_words hs) ?_
      simp (disch := omega) only [e9, x136_k hs, x136_i0 hs, x136_w0 hs, x136_r1 hs, x136_r2 hs, x136_r3 hs, x136_r4 hs, x136_i5 hs, x136_w5 hs, x136_i6 hs, x136_w6 hs, x136_i7 hs, x136_w7 hs, x136_r8 hs, x136_i9 hs, x136_w9 hs, x136_i10 hs, x136_w10 hs, x136_i11 hs, x136_w11 hs, x136_i12 hs, x136_w12 hs, x136_i13 hs, x136_w13 hs, x136_i14 hs, x136_w14 hs, x136_r15 hs, x136_i16 hs, x136_w16 hs, x136_r17 hs, x136_r18 hs, x136_r19 hs, x136_r20 hs, x136_r21 hs, x136_i22 hs, x136_w22 hs, x136_r23 hs, x136_r24 hs, x136_i25 hs, x136_w25 hs, x136_i26 hs, x136_w26 hs, x136_r27 hs, x136_r28 hs, x136_i29 hs, x136_w29 hs, Option.bind_some, xI, xU, xUt, xIt, J_lit, J_add, J_sub, J_mul, J_neg, J_ltc, J_lec, J_eqc, lt_T, lt_F, le_T, le_F, eq_T, eq_F, ↓reduceIte, ite_not, not_true_eq_false, not_false_eq_true, true_or, or_true, false_or, or_false, true_and, and_true, false_and, and_false, up_get, Nat.reduceEqDiff, Int.reduceNeg, eqN_T, eqN_F]
      refine De.call DH ?_
      simp (disch := omega) only [h, Option.bind_some, xI, xU, xUt, xIt, J_lit, J_add, J_sub, J_mul, J_neg, J_ltc, J_lec, J_eqc, lt_T, lt_F, le_T, le_F, eq_T, eq_F, ↓reduceIte, ite_not, not_true_eq_false, not_false_eq_true, true_or, or_true, false_or, or_false, true_and, and_true, false_and, and_false, up_get, Nat.reduceEqDiff, Int.reduceNeg, eqN_T, eqN_F]
      exact D
/-- the reference's row of what was given away -/
def GvM (m : Nat → Int → Int) (sd : Int) (d : Nat) : Prop := ∀ x : Int, 0 ≤ x → x < 30 → m 146 (30 * sd + x) = if d.testBit x.toNat = true then 1 else 0
theorem q_canM (hs : Sk S) (W : Wok (m 139)) (V : Vok told (m 139) (m 137)) (M : RulM m y g) (R : Rrul ln sp kd nm bg so g) (g0 : 0 ≤ gi) (g1 : gi < m 139 0) (t0 : 0 ≤ ta) (t1 : ta < m 139 0) (x0 : 0 ≤ x) (x1 : x < m 139 1) (s0 : 0 ≤ sd) (s1 : sd ≤ 1) {d : Nat} (G : GvM m sd d) : ∃ m', De (fun n => f_X11_canTake n 0 [.ref 136, .int (J gi), .int (J ta), .int (J sd), .int (J x)] (hp S m q)) (.inl (some (.int (J (if ctS (m 139) (m 137) g gi ta d x = true then 1 else 0))))) (hp S m' q) ∧ Fr3 m m' := by
  have tw := W.1.2.1
  have w1 := W.2.1
  have vg := (V.2.2 gi x g0 (by omega) x0 (by omega)).1
  have vt := (V.2.2 ta x t0 (by omega) x0 (by omega)).1
  have D1 := d_has (q := q) (m := m) (p := gi) (x := x) hs g0 (by omega) x0 (by omega) vg.1 vg.2
  have D2 := d_has (q := q) (m := m) (p := ta) (x := x) hs t0 (by omega) x0 (by omega) vt.1 vt.2
  have gx := G x x0 (by omega)
  unfold ctS
  by_cases h1 : m 137 (51 + 7 * (30 * gi + x) + 0) = 1
  · rw [if_pos h1] at D1
    rw [decide_eq_true h1, Bool.true_and]
    by_cases h2 : m 137 (51 + 7 * (30 * ta + x) + 0) = 1
    · rw [if_pos h2] at D2
      rw [decide_eq_false (by omega), Bool.false_and, if_neg (by decide)]
      refine ⟨m, ?_, fun _ _ _ _ _ => rfl⟩
      refine De.step ?_
      simp only [j_X11_canTake_0]
      simp (disch := omega) only [b_X11_canTake_0, x136_k hs, x136_i0 hs, x136_w0 hs, x136_r1 hs, x136_r2 hs, x136_r3 hs, x136_r4 hs, x136_i5 hs, x136_w5 hs, x136_i6 hs, x136_w6 hs, x136_i7 hs, x136_w7 hs, x136_r8 hs, x136_i9 hs, x136_w9 hs, x136_i10 hs, x136_w10 hs, x136_i11 hs, x136_w11 hs, x136_i12 hs, x136_w12 hs, x136_i13 hs, x136_w13 hs, x136_i14 hs, x136_w14 hs, x136_r15 hs, x136_i16 hs, x136_w16 hs, x136_r17 hs, x136_r18 hs, x136_r19 hs, x136_r20 hs, x136_r21 hs, x136_i22 hs, x136_w22 hs, x136_r23 hs, x136_r24 hs, x136_i25 hs, x136_w25 hs, x136_i26 hs, x136_w26 hs, x136_r27 hs, x136_r28 hs, x136_i29 hs, x136_w29 hs, J_lit, Option.bind_some]
      refine De.call D1 ?_
      simp (disch := omega) only [x136_k hs, x136_i0 hs, x136_w0 hs, x136_r1 hs, x136_r2 hs, x136_r3 hs, x136_r4 hs, x136_i5 hs, x136_w5 hs, x136_i6 hs, x136_w6 hs, x136_i7 hs, x136_w7 hs, x136_r8 hs, x136_i9 hs, x136_w9 hs, x136_i10 hs, x136_w10 hs, x136_i11 hs, x136_w11 hs, x136_i12 hs, x136_w12 hs, x136_i13 hs, x136_w13 hs, x136_i14 hs, x136_w14 hs, x136_r15 hs, x136_i16 hs, x136_w16 hs, x136_r17 hs, x136_r18 hs, x136_r19 hs, x136_r20 hs, x136_r21 hs, x136_i22 hs, x136_w22 hs, x136_r23 hs, x136_r24 hs, x136_i25 hs, x136_w25 hs, x136_i26 hs, x136_w26 hs, x136_r27 hs, x136_r28 hs, x136_i29 hs, x136_w29 hs, Option.bind_some, xI, xU, xUt, xIt, J_lit, J_add, J_sub, J_mul, J_neg, J_ltc, J_lec, J_eqc, lt_T, lt_F, le_T, le_F, eq_T, eq_F, ↓reduceIte, ite_not, not_true_eq_false, not_false_eq_true, true_or, or_true, false_or, or_false, true_and, and_true, false_and, and_false, up_get, Nat.reduceEqDiff, Int.reduceNeg, eqN_T, eqN_F]
      refine De.call D2 ?_
      simp (disch := omega) only [Option.bind_some, xI, xU, xUt, xIt, J_lit, J_add, J_sub, J_mul, J_neg, J_ltc, J_lec, J_eqc, lt_T, lt_F, le_T, le_F, eq_T, eq_F, ↓reduceIte, ite_not, not_true_eq_false, not_false_eq_true, true_or, or_true, false_or, or_false, true_and, and_true, false_and, and_false, up_get, Nat.reduceEqDiff, Int.reduceNeg, eqN_T, eqN_F]
      exact De.ret _ _
    · rw [if_neg h2] at D2
      rw [decide_eq_true (by omega), Bool.true_and]
      by_cases h3 : d.testBit x.toNat = true
      · rw [if_pos h3] at gx
        rw [h3, Bool.not_true, Bool.false_and, if_neg (by decide)]
        refine ⟨m, ?_, fun _ _ _ _ _ => rfl⟩
        refine De.step ?_
        simp only [j_X11_canTake_0]
        simp (disch := omega) only [b_X11_canTake_0, x136_k hs, x136_i0 hs, x136_w0 hs, x136_r1 hs, x136_r2 hs, x136_r3 hs, x136_r4 hs, x136_i5 hs, x136_w5 hs, x136_i6 hs, x136_w6 hs, x136_i7 hs, x136_w7 hs, x136_r8 hs, x136_i9 hs, x136_w9 hs, x136_i10 hs, x136_w10 hs, x136_i11 hs, x136_w11 hs, x136_i12 hs, x136_w12 hs, x136_i13 hs, x136_w13 hs, x136_i14 hs, x136_w14 hs, x136_r15 hs, x136_i16 hs, x136_w16 hs, x136_r17 hs, x136_r18 hs, x136_r19 hs, x136_r20 hs, x136_r21 hs, x136_i22 hs, x136_w22 hs, x136_r23 hs, x136_r24 hs, x136_i25 hs, x136_w25 hs, x136_i26 hs, x136_w26 hs, x136_r27 hs, x136_r28 hs, x136_i29 hs, x136_w29 hs, J_lit, Option.bind_some]
        refine De.call D1 ?_
        simp (disch := omega) only [x136_k hs, x136_i0 hs, x136_w0 hs, x136_r1 hs, x136_r2 hs, x136_r3 hs, x136_r4 hs, x136_i5 hs, x136_w5 hs, x136_i6 hs, x136_w6 hs, x136_i7 hs, x136_w7 hs, x136_r8 hs, x136_i9 hs, x136_w9 hs, x136_i10 hs, x136_w10 hs, x136_i11 hs, x136_w11 hs, x136_i12 hs, x136_w12 hs, x136_i13 hs, x136_w13 hs, x136_i14 hs, x136_w14 hs, x136_r15 hs, x136_i16 hs, x136_w16 hs, x136_r17 hs, x136_r18 hs, x136_r19 hs, x136_r20 hs, x136_r21 hs, x136_i22 hs, x136_w22 hs, x136_r23 hs, x136_r24 hs, x136_i25 hs, x136_w25 hs, x136_i26 hs, x136_w26 hs, x136_r27 hs, x136_r28 hs, x136_i29 hs, x136_w29 hs, Option.bind_some, xI, xU, xUt, xIt, J_lit, J_add, J_sub, J_mul, J_neg, J_ltc, J_lec, J_eqc, lt_T, lt_F, le_T, le_F, eq_T, eq_F, ↓reduceIte, ite_not, not_true_eq_false, not_false_eq_true, true_or, or_true, false_or, or_false, true_and, and_true, false_and, and_false, up_get, Nat.reduceEqDiff, Int.reduceNeg, eqN_T, eqN_F]
        refine De.call D2 ?_
        simp (disch := omega) only [x136_k hs, x136_i0 hs, x136_w0 hs, x136_r1 hs, x136_r2 hs, x136_r3 hs, x136_r4 hs, x136_i5 hs, x136_w5 hs, x136_i6 hs, x136_w6 hs, x136_i7 hs, x136_w7 hs, x136_r8 hs, x136_i9 hs, x136_w9 hs, x136_i10 hs, x136_w10 hs, x136_i11 hs, x136_w11 hs, x136_i12 hs, x136_w12 hs, x136_i13 hs, x136_w13 hs, x136_i14 hs, x136_w14 hs, x136_r15 hs, x136_i16 hs, x136_w16 hs, x136_r17 hs, x136_r18 hs, x136_r19 hs, x136_r20 hs, x136_r21 hs, x136_i22 hs, x136_w22 hs, x136_r23 hs, x136_r24 hs, x136_i25 hs, x136_w25 hs, x136_i26 hs, x136_w26 hs, x136_r27 hs, x136_r28 hs, x136_i29 hs, x136_w29 hs, x146_g hs, x146_s hs, gx, Option.bind_some, xI, xU, xUt, xIt, J_lit, J_add, J_sub, J_mul, J_neg, J_ltc, J_lec, J_eqc, lt_T, lt_F, le_T, le_F, eq_T, eq_F, ↓reduceIte, ite_not, not_true_eq_false, not_false_eq_true, true_or, or_true, false_or, or_false, true_and, and_true, false_and, and_false, up_get, Nat.reduceEqDiff, Int.reduceNeg, eqN_T, eqN_F]
        exact De.ret _ _
      · rw [if_neg h3] at gx
        rw [Bool.eq_false_iff.mpr h3, Bool.not_false, Bool.true_and]
        obtain ⟨m1, D3, F3⟩ := q_passM (q := q) hs W V M R g0 g1 x0 x1 h1
        by_cases h4 : lts (m 139) (m 137) g gi x = true
        · rw [if_pos h4] at D3
          rw [h4, Bool.true_and]
          obtain ⟨m', D4, F4⟩ := q_can50 (q := q) (m0 := m) hs W V M R g0 g1 t0 t1 x0 x1 h1 (J sd) (m 139 1).toNat 0 m1 (by omega) F3 rfl
          refine ⟨m', ?_, F4⟩
          refine De.step ?_
          simp only [j_X11_canTake_0]
          simp (disch := omega) only [b_X11_canTake_0, x136_k hs, x136_i0 hs, x136_w0 hs, x136_r1 hs, x136_r2 hs, x136_r3 hs, x136_r4 hs, x136_i5 hs, x136_w5 hs, x136_i6 hs, x136_w6 hs, x136_i7 hs, x136_w7 hs, x136_r8 hs, x136_i9 hs, x136_w9 hs, x136_i10 hs, x136_w10 hs, x136_i11 hs, x136_w11 hs, x136_i12 hs, x136_w12 hs, x136_i13 hs, x136_w13 hs, x136_i14 hs, x136_w14 hs, x136_r15 hs, x136_i16 hs, x136_w16 hs, x136_r17 hs, x136_r18 hs, x136_r19 hs, x136_r20 hs, x136_r21 hs, x136_i22 hs, x136_w22 hs, x136_r23 hs, x136_r24 hs, x136_i25 hs, x136_w25 hs, x136_i26 hs, x136_w26 hs, x136_r27 hs, x136_r28 hs, x136_i29 hs, x136_w29 hs, J_lit, Option.bind_some]
          refine De.call D1 ?_
          simp (disch := omega) only [x136_k hs, x136_i0 hs, x136_w0 hs, x136_r1 hs, x136_r2 hs, x136_r3 hs, x136_r4 hs, x136_i5 hs, x136_w5 hs, x136_i6 hs, x136_w6 hs, x136_i7 hs, x136_w7 hs, x136_r8 hs, x136_i9 hs, x136_w9 hs, x136_i10 hs, x136_w10 hs, x136_i11 hs, x136_w11 hs, x136_i12 hs, x136_w12 hs, x136_i13 hs, x136_w13 hs, x136_i14 hs, x136_w14 hs, x136_r15 hs, x136_i16 hs, x136_w16 hs, x136_r17 hs, x136_r18 hs, x136_r19 hs, x136_r20 hs, x136_r21 hs, x136_i22 hs, x136_w22 hs, x136_r23 hs, x136_r24 hs, x136_i25 hs, x136_w25 hs, x136_i26 hs, x136_w26 hs, x136_r27 hs, x136_r28 hs, x136_i29 hs, x136_w29 hs, Option.bind_some, xI, xU, xUt, xIt, J_lit, J_add, J_sub, J_mul, J_neg, J_ltc, J_lec, J_eqc, lt_T, lt_F, le_T, le_F, eq_T, eq_F, ↓reduceIte, ite_not, not_true_eq_false, not_false_eq_true, true_or, or_true, false_or, or_false, true_and, and_true, false_and, and_false, up_get, Nat.reduceEqDiff, Int.reduceNeg, eqN_T, eqN_F]
          refine De.call D2 ?_
          simp (disch := omega) only [x136_k hs, x136_i0 hs, x136_w0 hs, x136_r1 hs, x136_r2 hs, x136_r3 hs, x136_r4 hs, x136_i5 hs, x136_w5 hs, x136_i6 hs, x136_w6 hs, x136_i7 hs, x136_w7 hs, x136_r8 hs, x136_i9 hs, x136_w9 hs, x136_i10 hs, x136_w10 hs, x136_i11 hs, x136_w11 hs, x136_i12 hs, x136_w12 hs, x136_i13 hs, x136_w13 hs, x136_i14 hs, x136_w14 hs, x136_r15 hs, x136_i16 hs, x136_w16 hs, x136_r17 hs, x136_r18 hs, x136_r19 hs, x136_r20 hs, x136_r21 hs, x136_i22 hs, x136_w22 hs, x136_r23 hs, x136_r24 hs, x136_i25 hs, x136_w25 hs, x136_i26 hs, x136_w26 hs, x136_r27 hs, x136_r28 hs, x136_i29 hs, x136_w29 hs, x146_g hs, x146_s hs, gx, Option.bind_some, xI, xU, xUt, xIt, J_lit, J_add, J_sub, J_mul, J_neg, J_ltc, J_lec, J_eqc, lt_T, lt_F, le_T, le_F, eq_T, eq_F, ↓reduceIte, ite_not, not_true_eq_false, not_false_eq_true, true_or, or_true, false_or, or_false, true_and, and_true, false_and, and_false, up_get, Nat.reduceEqDiff, Int.reduceNeg, eqN_T, eqN_F]
          refine De.call D3 ?_
          simp (disch := omega) only [Option.bind_some, xI, xU, xUt, xIt, J_lit, J_add, J_sub, J_mul, J_neg, J_ltc, J_lec, J_eqc, lt_T, lt_F, le_T, le_F, eq_T, eq_F, ↓reduceIte, ite_not, not_true_eq_false, not_false_eq_true, true_or, or_true, false_or, or_false, true_and, and_true, false_and, and_false, up_get, Nat.reduceEqDiff, Int.reduceNeg, eqN_T, eqN_F]
          exact D4
        · rw [if_neg h4] at D3
          rw [Bool.eq_false_iff.mpr h4, Bool.false_and, if_neg (by decide)]
          refine ⟨m1, ?_, F3⟩
          refine De.step ?_
          simp only [j_X11_canTake_0]
          simp (disch := omega) only [b_X11_canTake_0, x136_k hs, x136_i0 hs, x136_w0 hs, x136_r1 hs, x136_r2 hs, x136_r3 hs, x136_r4 hs, x136_i5 hs, x136_w5 hs, x136_i6 hs, x136_w6 hs, x136_i7 hs, x136_w7 hs, x136_r8 hs, x136_i9 hs, x136_w9 hs, x136_i10 hs, x136_w10 hs, x136_i11 hs, x136_w11 hs, x136_i12 hs, x136_w12 hs, x136_i13 hs, x136_w13 hs, x136_i14 hs, x136_w14 hs, x136_r15 hs, x136_i16 hs, x136_w16 hs, x136_r17 hs, x136_r18 hs, x136_r19 hs, x136_r20 hs, x136_r21 hs, x136_i22 hs, x136_w22 hs, x136_r23 hs, x136_r24 hs, x136_i25 hs, x136_w25 hs, x136_i26 hs, x136_w26 hs, x136_r27 hs, x136_r28 hs, x136_i29 hs, x136_w29 hs, J_lit, Option.bind_some]
          refine De.call D1 ?_
          simp (disch := omega) only [x136_k hs, x136_i0 hs, x136_w0 hs, x136_r1 hs, x136_r2 hs, x136_r3 hs, x136_r4 hs, x136_i5 hs, x136_w5 hs, x136_i6 hs, x136_w6 hs, x136_i7 hs, x136_w7 hs, x136_r8 hs, x136_i9 hs, x136_w9 hs, x136_i10 hs, x136_w10 hs, x136_i11 hs, x136_w11 hs, x136_i12 hs, x136_w12 hs, x136_i13 hs, x136_w13 hs, x136_i14 hs, x136_w14 hs, x136_r15 hs, x136_i16 hs, x136_w16 hs, x136_r17 hs, x136_r18 hs, x136_r19 hs, x136_r20 hs, x136_r21 hs, x136_i22 hs, x136_w22 hs, x136_r23 hs, x136_r24 hs, x136_i25 hs, x136_w25 hs, x136_i26 hs, x136_w26 hs, x136_r27 hs, x136_r28 hs, x136_i29 hs, x136_w29 hs, Option.bind_some, xI, xU, xUt, xIt, J_lit, J_add, J_sub, J_mul, J_neg, J_ltc, J_lec, J_eqc, lt_T, lt_F, le_T, le_F, eq_T, eq_F, ↓reduceIte, ite_not, not_true_eq_false, not_false_eq_true, true_or, or_true, false_or, or_false, true_and, and_true, false_and, and_false, up_get, Nat.reduceEqDiff, Int.reduceNeg, eqN_T, eqN_F]
          refine De.call D2 ?_
          simp (disch := omega) only [x136_k hs, x136_i0 hs, x136_w0 hs, x136_r1 hs, x136_r2 hs, x136_r3 hs, x136_r4 hs, x136_i5 hs, x136_w5 hs, x136_i6 hs, x136_w6 hs, x136_i7 hs, x136_w7 hs, x136_r8 hs, x136_i9 hs, x136_w9 hs, x136_i10 hs, x136_w10 hs, x136_i11 hs, x136_w11 hs, x136_i12 hs, x136_w12 hs, x136_i13 hs, x136_w13 hs, x136_i14 hs, x136_w14 hs, x136_r15 hs, x136_i16 hs, x136_w16 hs, x136_r17 hs, x136_r18 hs, x136_r19 hs, x136_r20 hs, x136_r21 hs, x136_i22 hs, x136_w22 hs, x136_r23 hs, x136_r24 hs, x136_i25 hs, x136_w25 hs, x136_i26 hs, x136_w26 hs, x136_r27 hs, x136_r28 hs, x136_i29 hs, x136_w29 hs, x146_g hs, x146_s hs, gx, Option.bind_some, xI, xU, xUt, xIt, J_lit, J_add, J_sub, J_mul, J_neg, J_ltc, J_lec, J_eqc, lt_T, lt_F, le_T, le_F, eq_T, eq_F, ↓reduceIte, ite_not, not_true_eq_false, not_false_eq_true, true_or, or_true, false_or, or_false, true_and, and_true, false_and, and_false, up_get, Nat.reduceEqDiff, Int.reduceNeg, eqN_T, eqN_F]
          refine De.call D3 ?_
          simp (disch := omega) only [Option.bind_some, xI, xU, xUt, xIt, J_lit, J_add, J_sub, J_mul, J_neg, J_ltc, J_lec, J_eqc, lt_T, lt_F, le_T, le_F, eq_T, eq_F, ↓reduceIte, ite_not, not_true_eq_false, not_false_eq_true, true_or, or_true, false_or, or_false, true_and, and_true, false_and, and_false, up_get, Nat.reduceEqDiff, Int.reduceNeg, eqN_T, eqN_F]
          exact De.ret _ _
  · rw [if_neg h1] at D1
    rw [decide_eq_false h1, Bool.false_and, if_neg (by decide)]
    refine ⟨m, ?_, fun _ _ _ _ _ => rfl⟩
    refine De.step ?_
    simp only [j_X11_canTake_0]
    simp (disch := omega) only [b_X11_canTake_0, x136_k hs, x136_i0 hs, x136_w0 hs, x136_r1 hs, x136_r2 hs, x136_r3 hs, x136_r4 hs, x136_i5 hs, x136_w5 hs, x136_i6 hs, x136_w6 hs, x136_i7 hs, x136_w7 hs, x136_r8 hs, x136_i9 hs, x136_w9 hs, x136_i10 hs, x136_w10 hs, x136_i11 hs, x136_w11 hs, x136_i12 hs, x136_w12 hs, x136_i13 hs, x136_w13 hs, x136_i14 hs, x136_w14 hs, x136_r15 hs, x136_i16 hs, x136_w16 hs, x136_r17 hs, x136_r18 hs, x136_r19 hs, x136_r20 hs, x136_r21 hs, x136_i22 hs, x136_w22 hs, x136_r23 hs, x136_r24 hs, x136_i25 hs, x136_w25 hs, x136_i26 hs, x136_w26 hs, x136_r27 hs, x136_r28 hs, x136_i29 hs, x136_w29 hs, J_lit, Option.bind_some]
    refine De.call D1 ?_
    simp (disch := omega) only [Option.bind_some, xI, xU, xUt, xIt, J_lit, J_add, J_sub, J_mul, J_neg, J_ltc, J_lec, J_eqc, lt_T, lt_F, le_T, le_F, eq_T, eq_F, ↓reduceIte, ite_not, not_true_eq_false, not_false_eq_true, true_or, or_true, false_or, or_false, true_and, and_true, false_and, and_false, up_get, Nat.reduceEqDiff, Int.reduceNeg, eqN_T, eqN_F]
    exact De.ret _ _
/-- the whole handing -/
theorem q_handsM (hs : Sk S) (W : Wok (m 139)) (V : Vok told (m 139) (m 137)) (M : RulM m y g) (R : Rrul ln sp kd nm bg so g) (g0 : 0 ≤ gi) (g1 : gi < m 139 0) (t0 : 0 ≤ ta) (t1 : ta < m 139 0) (ne : gi ≠ ta) (x0 : 0 ≤ x) (x1 : x < m 139 1) (hg : m 137 (51 + 7 * (30 * gi + x) + 0) = 1) (hh : -1 ≤ m 137 (2151 + 5 * x + 0) ∧ m 137 (2151 + 5 * x + 0) ≤ 400) {L : Int64} (P : Rpth L (m 137 (51 + 7 * (30 * gi + x) + 5)) (m 137 (51 + 7 * (30 * gi + x) + 6)) (m 137 (51 + 7 * (30 * gi + x) + 2)) (m 139 0)) (h12 : m 137 (51 + 7 * (30 * gi + x) + 2) < 12) (s0 : 0 ≤ sd) (s1 : sd ≤ 1) {d : Nat} (G : GvM m sd d) : ∃ m', De (fun n => f_X11_hands n 0 [.ref 136, .int (J gi), .int (J ta), .int (J sd), .int (J x)] (hp S m q)) (.inl none) (hp S m' q) ∧ m' 137 = haS (m 139) (m 137) g gi ta x ∧ GvM m' sd (drS (m 139) (m 137) g ta d) ∧ (∀ i, (i < 30 * sd ∨ 30 * sd + 30 ≤ i) → m' 146 i = m 146 i) ∧ ∀ b i, b ≠ 137 → b ≠ 143 → b ≠ 144 → b ≠ 145 → b ≠ 146 → m' b i = m b i := by
  have tw := W.1.2.1
  have w1 := W.2.1
  have DC := d_copies (q := q) (m := m) (p := ta) hs W V t0 (by omega)
  have DT := d_toldOf (q := q) (m := m) (p := ta) (k := 1) hs t0 (by omega) (by decide) (by decide)
  have cb := cntw_in (m 137) ta 30
  have rm := W.1.2.2 ta t0 t1
  unfold haS drS
  by_cases f : m 139 (11 + 3 * ta + 1) ≤ cntw (m 137) ta 30
  · have eA : gvS (m 137) ta (lsO (m 139) (m 137) g ta 30).1 = haA (m 139) (m 137) g ta := (if_pos f).symm
    obtain ⟨ma, Da, Fa⟩ := q_leastM (q := q) (p := ta) hs W V M R t0 t1
    have LL := lsO_in (w := m 139) (v := m 137) (p := ta) R 30
    have ex := lsO_ex (w := m 139) (v := m 137) (g := g) (p := ta) 30 (by omega)
    have l30 := LL.2.1
    have a9 : ma 139 = m 139 := Fa.row (by decide) (by decide) (by decide)
    have a7 : ma 137 = m 137 := Fa.row (by decide) (by decide) (by decide)
    obtain ⟨mb, Db, Ab, Fb⟩ := q_givesM (q := q) (m := up ma 146 (30 * sd + (lsO (m 139) (m 137) g ta 30).1) 1) (p := ta) (x := (lsO (m 139) (m 137) g ta 30).1) hs t0 (by omega) ex l30
    have b7 : mb 137 = haA (m 139) (m 137) g ta := by
      rw [Ab, show up ma 146 (30 * sd + (lsO (m 139) (m 137) g ta 30).1) 1 137 = ma 137 from funext fun i => up_a (by decide), a7, eA]
    have b9 : mb 139 = m 139 := funext fun i => (Fb 139 i (by decide)).trans ((up_a (by decide)).trans (congrFun a9 i))
    have V1 : Vok told (m 139) (haA (m 139) (m 137) g ta) := by
      rw [← eA]
      exact V.gv tw t0 (by omega) ex l30
    have eg : ∀ k : Int, 0 ≤ k → k < 7 → haA (m 139) (m 137) g ta (51 + 7 * (30 * gi + x) + k) = m 137 (51 + 7 * (30 * gi + x) + k) := fun k k0 k1 => by
      rw [← eA]
      exact gvS_o t0 (by omega) ex l30 g0 (by omega) x0 (by omega) k0 k1 (by omega)
    have eh : haA (m 139) (m 137) g ta (2151 + 5 * x + 0) = m 137 (2151 + 5 * x + 0) := by
      rw [← eA]
      unfold gvS loS
      rw [ups_ne (by omega), ups_ne (by omega)]
    have M1 : RulM mb y g := M.cg ((Fb 136 6 (by decide)).trans ((up_a (by decide)).trans (Fa 136 6 (by decide) (by decide) (by decide)))) (fun i => congrFun b9 i)
    obtain ⟨m', D, A, F⟩ := q_hands41 (q := q) (m := mb) (gi := gi) (ta := ta) (x := x) (L := L) hs (by rw [b9]; exact W) (by rw [b9, b7]; exact V1) M1 R g0 (by rw [b9]; exact g1) t0 (by rw [b9]; exact t1) ne x0 (by rw [b9]; exact x1) (by rw [b7, eg 0 (by decide) (by decide)]; exact hg) (by rw [b7, eh]; exact hh) (by rw [b9, b7, eg 5 (by decide) (by decide), eg 6 (by decide) (by decide), eg 2 (by decide) (by decide)]; exact P) (by rw [b7, eg 2 (by decide) (by decide)]; exact h12) (J sd)
    rw [b9, b7] at A
    have c6 : ∀ i, m' 146 i = up ma 146 (30 * sd + (lsO (m 139) (m 137) g ta 30).1) 1 146 i := fun i => (F 146 i (by decide)).trans (Fb 146 i (by decide))
    refine ⟨m', ?_, A, fun z z0 z1 => ?_, fun i hi => ?_, fun b i b1 b2 b3 b4 b5 => (F b i b1).trans ((Fb b i b1).trans ((up_a b5).trans (Fa b i b2 b3 b4)))⟩
    · refine De.step ?_
      simp only [j_X11_hands_0]
      simp (disch := omega) only [b_X11_hands_0, x136_k hs, x136_i0 hs, x136_w0 hs, x136_r1 hs, x136_r2 hs, x136_r3 hs, x136_r4 hs, x136_i5 hs, x136_w5 hs, x136_i6 hs, x136_w6 hs, x136_i7 hs, x136_w7 hs, x136_r8 hs, x136_i9 hs, x136_w9 hs, x136_i10 hs, x136_w10 hs, x136_i11 hs, x136_w11 hs, x136_i12 hs, x136_w12 hs, x136_i13 hs, x136_w13 hs, x136_i14 hs, x136_w14 hs, x136_r15 hs, x136_i16 hs, x136_w16 hs, x136_r17 hs, x136_r18 hs, x136_r19 hs, x136_r20 hs, x136_r21 hs, x136_i22 hs, x136_w22 hs, x136_r23 hs, x136_r24 hs, x136_i25 hs, x136_w25 hs, x136_i26 hs, x136_w26 hs, x136_r27 hs, x136_r28 hs, x136_i29 hs, x136_w29 hs, J_lit, Option.bind_some]
      refine De.call DC ?_
      simp (disch := omega) only [x136_k hs, x136_i0 hs, x136_w0 hs, x136_r1 hs, x136_r2 hs, x136_r3 hs, x136_r4 hs, x136_i5 hs, x136_w5 hs, x136_i6 hs, x136_w6 hs, x136_i7 hs, x136_w7 hs, x136_r8 hs, x136_i9 hs, x136_w9 hs, x136_i10 hs, x136_w10 hs, x136_i11 hs, x136_w11 hs, x136_i12 hs, x136_w12 hs, x136_i13 hs, x136_w13 hs, x136_i14 hs, x136_w14 hs, x136_r15 hs, x136_i16 hs, x136_w16 hs, x136_r17 hs, x136_r18 hs, x136_r19 hs, x136_r20 hs, x136_r21 hs, x136_i22 hs, x136_w22 hs, x136_r23 hs, x136_r24 hs, x136_i25 hs, x136_w25 hs, x136_i26 hs, x136_w26 hs, x136_r27 hs, x136_r28 hs, x136_i29 hs, x136_w29 hs, Option.bind_some, xI, xU, xUt, xIt, J_lit, J_add, J_sub, J_mul, J_neg, J_ltc, J_lec, J_eqc, lt_T, lt_F, le_T, le_F, eq_T, eq_F, ↓reduceIte, ite_not, not_true_eq_false, not_false_eq_true, true_or, or_true, false_or, or_false, true_and, and_true, false_and, and_false, up_get, Nat.reduceEqDiff, Int.reduceNeg, eqN_T, eqN_F]
      refine De.call DT ?_
      simp (disch := omega) only [x136_k hs, x136_i0 hs, x136_w0 hs, x136_r1 hs, x136_r2 hs, x136_r3 hs, x136_r4 hs, x136_i5 hs, x136_w5 hs, x136_i6 hs, x136_w6 hs, x136_i7 hs, x136_w7 hs, x136_r8 hs, x136_i9 hs, x136_w9 hs, x136_i10 hs, x136_w10 hs, x136_i11 hs, x136_w11 hs, x136_i12 hs, x136_w12 hs, x136_i13 hs, x136_w13 hs, x136_i14 hs, x136_w14 hs, x136_r15 hs, x136_i16 hs, x136_w16 hs, x136_r17 hs, x136_r18 hs, x136_r19 hs, x136_r20 hs, x136_r21 hs, x136_i22 hs, x136_w22 hs, x136_r23 hs, x136_r24 hs, x136_i25 hs, x136_w25 hs, x136_i26 hs, x136_w26 hs, x136_r27 hs, x136_r28 hs, x136_i29 hs, x136_w29 hs, Option.bind_some, xI, xU, xUt, xIt, J_lit, J_add, J_sub, J_mul, J_neg, J_ltc, J_lec, J_eqc, lt_T, lt_F, le_T, le_F, eq_T, eq_F, ↓reduceIte, ite_not, not_true_eq_false, not_false_eq_true, true_or, or_true, false_or, or_false, true_and, and_true, false_and, and_false, up_get, Nat.reduceEqDiff, Int.reduceNeg, eqN_T, eqN_F]
      refine De.call Da ?_
      simp (disch := omega) only [x136_k hs, x136_i0 hs, x136_w0 hs, x136_r1 hs, x136_r2 hs, x136_r3 hs, x136_r4 hs, x136_i5 hs, x136_w5 hs, x136_i6 hs, x136_w6 hs, x136_i7 hs, x136_w7 hs, x136_r8 hs, x136_i9 hs, x136_w9 hs, x136_i10 hs, x136_w10 hs, x136_i11 hs, x136_w11 hs, x136_i12 hs, x136_w12 hs, x136_i13 hs, x136_w13 hs, x136_i14 hs, x136_w14 hs, x136_r15 hs, x136_i16 hs, x136_w16 hs, x136_r17 hs, x136_r18 hs, x136_r19 hs, x136_r20 hs, x136_r21 hs, x136_i22 hs, x136_w22 hs, x136_r23 hs, x136_r24 hs, x136_i25 hs, x136_w25 hs, x136_i26 hs, x136_w26 hs, x136_r27 hs, x136_r28 hs, x136_i29 hs, x136_w29 hs, x146_g hs, x146_s hs, Option.bind_some, xI, xU, xUt, xIt, J_lit, J_add, J_sub, J_mul, J_neg, J_ltc, J_lec, J_eqc, lt_T, lt_F, le_T, le_F, eq_T, eq_F, ↓reduceIte, ite_not, not_true_eq_false, not_false_eq_true, true_or, or_true, false_or, or_false, true_and, and_true, false_and, and_false, up_get, Nat.reduceEqDiff, Int.reduceNeg, eqN_T, eqN_F]
      refine De.call Db ?_
      simp only [xU]
      exact D
    · rw [c6, if_pos f, tb_or]
      by_cases c : z = (lsO (m 139) (m 137) g ta 30).1
      · rw [c, up_at, if_pos rfl, if_pos rfl]
      · rw [up_i (by omega), if_neg (show ¬ z.toNat = (lsO (m 139) (m 137) g ta 30).1.toNat by omega), Fa 146 _ (by decide) (by decide) (by decide)]
        exact G z z0 z1
    · rw [c6, up_i (by omega), Fa 146 _ (by decide) (by decide) (by decide)]
  · have eA : m 137 = haA (m 139) (m 137) g ta := (if_neg f).symm
    obtain ⟨m', D, A, F⟩ := q_hands41 (q := q) (m := m) (gi := gi) (ta := ta) (x := x) (L := L) hs W V M R g0 g1 t0 t1 ne x0 x1 hg hh P h12 (J sd)
    refine ⟨m', ?_, by rw [← eA]; exact A, fun z z0 z1 => ?_, fun i hi => F 146 i (by decide), fun b i b1 b2 b3 b4 b5 => F b i b1⟩
    · refine De.step ?_
      simp only [j_X11_hands_0]
      simp (disch := omega) only [b_X11_hands_0, x136_k hs, x136_i0 hs, x136_w0 hs, x136_r1 hs, x136_r2 hs, x136_r3 hs, x136_r4 hs, x136_i5 hs, x136_w5 hs, x136_i6 hs, x136_w6 hs, x136_i7 hs, x136_w7 hs, x136_r8 hs, x136_i9 hs, x136_w9 hs, x136_i10 hs, x136_w10 hs, x136_i11 hs, x136_w11 hs, x136_i12 hs, x136_w12 hs, x136_i13 hs, x136_w13 hs, x136_i14 hs, x136_w14 hs, x136_r15 hs, x136_i16 hs, x136_w16 hs, x136_r17 hs, x136_r18 hs, x136_r19 hs, x136_r20 hs, x136_r21 hs, x136_i22 hs, x136_w22 hs, x136_r23 hs, x136_r24 hs, x136_i25 hs, x136_w25 hs, x136_i26 hs, x136_w26 hs, x136_r27 hs, x136_r28 hs, x136_i29 hs, x136_w29 hs, J_lit, Option.bind_some]
      refine De.call DC ?_
      simp (disch := omega) only [x136_k hs, x136_i0 hs, x136_w0 hs, x136_r1 hs, x136_r2 hs, x136_r3 hs, x136_r4 hs, x136_i5 hs, x136_w5 hs, x136_i6 hs, x136_w6 hs, x136_i7 hs, x136_w7 hs, x136_r8 hs, x136_i9 hs, x136_w9 hs, x136_i10 hs, x136_w10 hs, x136_i11 hs, x136_w11 hs, x136_i12 hs, x136_w12 hs, x136_i13 hs, x136_w13 hs, x136_i14 hs, x136_w14 hs, x136_r15 hs, x136_i16 hs, x136_w16 hs, x136_r17 hs, x136_r18 hs, x136_r19 hs, x136_r20 hs, x136_r21 hs, x136_i22 hs, x136_w22 hs, x136_r23 hs, x136_r24 hs, x136_i25 hs, x136_w25 hs, x136_i26 hs, x136_w26 hs, x136_r27 hs, x136_r28 hs, x136_i29 hs, x136_w29 hs, Option.bind_some, xI, xU, xUt, xIt, J_lit, J_add, J_sub, J_mul, J_neg, J_ltc, J_lec, J_eqc, lt_T, lt_F, le_T, le_F, eq_T, eq_F, ↓reduceIte, ite_not, not_true_eq_false, not_false_eq_true, true_or, or_true, false_or, or_false, true_and, and_true, false_and, and_false, up_get, Nat.reduceEqDiff, Int.reduceNeg, eqN_T, eqN_F]
      refine De.call DT ?_
      simp (disch := omega) only [Option.bind_some, xI, xU, xUt, xIt, J_lit, J_add, J_sub, J_mul, J_neg, J_ltc, J_lec, J_eqc, lt_T, lt_F, le_T, le_F, eq_T, eq_F, ↓reduceIte, ite_not, not_true_eq_false, not_false_eq_true, true_or, or_true, false_or, or_false, true_and, and_true, false_and, and_false, up_get, Nat.reduceEqDiff, Int.reduceNeg, eqN_T, eqN_F]
      exact D
    · rw [F 146 _ (by decide), if_neg f]
      exact G z z0 z1
end CANM
