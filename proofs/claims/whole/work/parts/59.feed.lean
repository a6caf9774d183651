/-! feed -/
theorem sx8 (x : Int32) {i : Nat} (h : i < 8) : (Int32.toInt8 x).toBitVec.getLsbD i = bt x i := by
  unfold bt
  rw [Int32.toBitVec_toInt8, BitVec.getLsbD_signExtend]
  simp [h, show i < 32 by omega]
theorem byte_eq (x : Int32) (n : Nat) (hn : n ≤ 24) : Int32.toInt8 ((x.toUInt32 >>> ((nI n).toUInt32 &&& Int32.toUInt32 31)).toInt32) = Int32.toInt8 (x >>> (nI n &&& 31)) := by
  apply Int8.toBitVec_inj.mp
  apply BitVec.eq_of_getLsbD_eq
  intro i hi
  rw [sx8 _ hi, sx8 _ hi, b_ushr n (by omega), b_sshr n (by omega) x (by omega), if_pos (by omega)]
/-- the byte of a number, s bits up -/
def byS (a s : Int) : Int := (Int8.toInt32 (Int32.toInt8 (J a >>> (J s &&& J 31)))).toInt
theorem byS_in (a s : Int) : -128 ≤ byS a s ∧ byS a s < 128 := by
  unfold byS
  rw [Int8.toInt_toInt32]
  generalize Int32.toInt8 (J a >>> (J s &&& J 31)) = z
  have h1 := z.minValue_le_toInt
  have h2 := z.toInt_le
  have e1 : Int8.minValue.toInt = -128 := rfl
  have e2 : Int8.maxValue.toInt = 127 := rfl
  omega
theorem byS_J (a s : Int) : Int8.toInt32 (Int32.toInt8 (J a >>> (J s &&& J 31))) = J (byS a s) := (J_toInt _).symm
theorem byU_J (a : Int) {s : Int} (s0 : 0 ≤ s) (s1 : s ≤ 24) : Int8.toInt32 (Int32.toInt8 ((Int32.toUInt32 (J a) >>> (Int32.toUInt32 (J s) &&& Int32.toUInt32 (J 31))).toInt32)) = J (byS a s) := by
  rw [← byS_J, J_nn s0, ← J_lit 31, byte_eq _ _ (by omega)]
theorem b8_byS (a s : Int) : b8 (byS a s) = byS a s := by
  have := byS_in a s
  unfold b8
  exact Int.bmod_eq_of_le (by omega) (by omega)
section FEED
variable {S : xH} {m : Nat → Int → Int} {q : Nat → Int → Int64}
def put4 (m : Nat → Int → Int) (a : Int) : Nat → Int → Int := fun b i => if b = 8 ∧ m 1 2 ≤ i ∧ i < m 1 2 + 4 then byS a (24 - 8 * (i - m 1 2)) else if b = 1 ∧ i = 2 then m 1 2 + 4 else m b i
theorem e_put (hs : Sk S) (h0 : 0 ≤ m 1 2) (h1 : m 1 2 ≤ 396) (a : Int) (n : Nat) : f_X3_put (n + 6) 0 [.ref 1, .int (J a)] (hp S m q) = some (.inl none, hp S (put4 m a) q) := by
  simp only [j_X3_put_0, b_X3_put_0]
  rw [j_X3_put_3]
  simp (disch := omega) only [b_X3_put_3, x1_k hs, x1_r0 hs, x1_r1 hs, x1_i2 hs, x1_w2 hs, x1_i3 hs, x1_w3 hs, x1_i4 hs, x1_w4 hs, x1_i5 hs, x1_w5 hs, x1_i6 hs, x1_w6 hs, x1_i7 hs, x1_w7 hs, x8_g hs, x8_s hs, x8_l hs, byU_J, b8_byS, Option.bind_some, xI, xU, xUt, xIt, J_lit, J_add, J_sub, J_mul, J_neg, J_ltc, J_lec, J_eqc, lt_T, lt_F, le_T, le_F, eq_T, eq_F, ↓reduceIte, ite_not, not_true_eq_false, not_false_eq_true, true_or, or_true, false_or, or_false, true_and, and_true, false_and, and_false, up_get, Nat.reduceEqDiff, Int.reduceNeg, eqN_T, eqN_F]
  rw [j_X3_put_3]
  simp (disch := omega) only [b_X3_put_3, x1_k hs, x1_r0 hs, x1_r1 hs, x1_i2 hs, x1_w2 hs, x1_i3 hs, x1_w3 hs, x1_i4 hs, x1_w4 hs, x1_i5 hs, x1_w5 hs, x1_i6 hs, x1_w6 hs, x1_i7 hs, x1_w7 hs, x8_g hs, x8_s hs, x8_l hs, byU_J, b8_byS, Option.bind_some, xI, xU, xUt, xIt, J_lit, J_add, J_sub, J_mul, J_neg, J_ltc, J_lec, J_eqc, lt_T, lt_F, le_T, le_F, eq_T, eq_F, ↓reduceIte, ite_not, not_true_eq_false, not_false_eq_true, true_or, or_true, false_or, or_false, true_and, and_true, false_and, and_false, up_get, Nat.reduceEqDiff, Int.reduceNeg, eqN_T, eqN_F]
  rw [j_X3_put_3]
  simp (disch := omega) only [b_X3_put_3, x1_k hs, x1_r0 hs, x1_r1 hs, x1_i2 hs, x1_w2 hs, x1_i3 hs, x1_w3 hs, x1_i4 hs, x1_w4 hs, x1_i5 hs, x1_w5 hs, x1_i6 hs, x1_w6 hs, x1_i7 hs, x1_w7 hs, x8_g hs, x8_s hs, x8_l hs, byU_J, b8_byS, Option.bind_some, xI, xU, xUt, xIt, J_lit, J_add, J_sub, J_mul, J_neg, J_ltc, J_lec, J_eqc, lt_T, lt_F, le_T, le_F, eq_T, eq_F, ↓reduceIte, ite_not, not_true_eq_false, not_false_eq_true, true_or, or_true, false_or, or_false, true_and, and_true, false_and, and_false, up_get, Nat.reduceEqDiff, Int.reduceNeg, eqN_T, eqN_F]
  rw [j_X3_put_3]
  simp (disch := omega) only [b_X3_put_3, x1_k hs, x1_r0 hs, x1_r1 hs, x1_i2 hs, x1_w2 hs, x1_i3 hs, x1_w3 hs, x1_i4 hs, x1_w4 hs, x1_i5 hs, x1_w5 hs, x1_i6 hs, x1_w6 hs, x1_i7 hs, x1_w7 hs, x8_g hs, x8_s hs, x8_l hs, byU_J, b8_byS, Option.bind_some, xI, xU, xUt, xIt, J_lit, J_add, J_sub, J_mul, J_neg, J_ltc, J_lec, J_eqc, lt_T, lt_F, le_T, le_F, eq_T, eq_F, ↓reduceIte, ite_not, not_true_eq_false, not_false_eq_true, true_or, or_true, false_or, or_false, true_and, and_true, false_and, and_false, up_get, Nat.reduceEqDiff, Int.reduceNeg, eqN_T, eqN_F]
  rw [j_X3_put_3]
  simp (disch := omega) only [b_X3_put_3, x1_k hs, x1_r0 hs, x1_r1 hs, x1_i2 hs, x1_w2 hs, x1_i3 hs, x1_w3 hs, x1_i4 hs, x1_w4 hs, x1_i5 hs, x1_w5 hs, x1_i6 hs, x1_w6 hs, x1_i7 hs, x1_w7 hs, x8_g hs, x8_s hs, x8_l hs, byU_J, b8_byS, Option.bind_some, xI, xU, xUt, xIt, J_lit, J_add, J_sub, J_mul, J_neg, J_ltc, J_lec, J_eqc, lt_T, lt_F, le_T, le_F, eq_T, eq_F, ↓reduceIte, ite_not, not_true_eq_false, not_false_eq_true, true_or, or_true, false_or, or_false, true_and, and_true, false_and, and_false, up_get, Nat.reduceEqDiff, Int.reduceNeg, eqN_T, eqN_F]
  refine congrArg (fun z => some (Sum.inl none, hp S z q)) (funext fun b => funext fun i => ?_)
  by_cases c : b = 8
  · subst c
    by_cases d : m 1 2 ≤ i ∧ i < m 1 2 + 4
    · have R : put4 m a 8 i = byS a (24 - 8 * (i - m 1 2)) := if_pos ⟨rfl, d⟩
      rw [R]
      rcases (show i = m 1 2 ∨ i = m 1 2 + 1 ∨ i = m 1 2 + 1 + 1 ∨ i = m 1 2 + 1 + 1 + 1 by omega) with rfl | rfl | rfl | rfl
      · simp (disch := omega) only [Option.bind_some, xI, xU, xUt, xIt, J_lit, J_add, J_sub, J_mul, J_neg, J_ltc, J_lec, J_eqc, lt_T, lt_F, le_T, le_F, eq_T, eq_F, ↓reduceIte, ite_not, not_true_eq_false, not_false_eq_true, true_or, or_true, false_or, or_false, true_and, and_true, false_and, and_false, up_get, Nat.reduceEqDiff, Int.reduceNeg, eqN_T, eqN_F]
        congr 1
        omega
      · simp (disch := omega) only [Option.bind_some, xI, xU, xUt, xIt, J_lit, J_add, J_sub, J_mul, J_neg, J_ltc, J_lec, J_eqc, lt_T, lt_F, le_T, le_F, eq_T, eq_F, ↓reduceIte, ite_not, not_true_eq_false, not_false_eq_true, true_or, or_true, false_or, or_false, true_and, and_true, false_and, and_false, up_get, Nat.reduceEqDiff, Int.reduceNeg, eqN_T, eqN_F]
        congr 1
        omega
      · simp (disch := omega) only [Option.bind_some, xI, xU, xUt, xIt, J_lit, J_add, J_sub, J_mul, J_neg, J_ltc, J_lec, J_eqc, lt_T, lt_F, le_T, le_F, eq_T, eq_F, ↓reduceIte, ite_not, not_true_eq_false, not_false_eq_true, true_or, or_true, false_or, or_false, true_and, and_true, false_and, and_false, up_get, Nat.reduceEqDiff, Int.reduceNeg, eqN_T, eqN_F]
        congr 1
        omega
      · simp (disch := omega) only [Option.bind_some, xI, xU, xUt, xIt, J_lit, J_add, J_sub, J_mul, J_neg, J_ltc, J_lec, J_eqc, lt_T, lt_F, le_T, le_F, eq_T, eq_F, ↓reduceIte, ite_not, not_true_eq_false, not_false_eq_true, true_or, or_true, false_or, or_false, true_and, and_true, false_and, and_false, up_get, Nat.reduceEqDiff, Int.reduceNeg, eqN_T, eqN_F]
        congr 1
        omega
    · have R : put4 m a 8 i = m 8 i := by
        unfold put4
        rw [if_neg (fun z => d z.2), if_neg (by omega)]
      rw [R]
      simp only [up_get]
      repeat rw [if_neg (by omega)]
  · by_cases d : b = 1 ∧ i = 2
    · obtain ⟨rfl, rfl⟩ := d
      have R : put4 m a 1 2 = m 1 2 + 4 := by
        unfold put4
        rw [if_neg (by omega), if_pos ⟨rfl, rfl⟩]
      rw [R]
      simp (disch := omega) only [Option.bind_some, xI, xU, xUt, xIt, J_lit, J_add, J_sub, J_mul, J_neg, J_ltc, J_lec, J_eqc, lt_T, lt_F, le_T, le_F, eq_T, eq_F, ↓reduceIte, ite_not, not_true_eq_false, not_false_eq_true, true_or, or_true, false_or, or_false, true_and, and_true, false_and, and_false, up_get, Nat.reduceEqDiff, Int.reduceNeg, eqN_T, eqN_F]
    · have R : put4 m a b i = m b i := by
        unfold put4
        rw [if_neg (fun z => c z.1), if_neg d]
      rw [R]
      simp only [up_get]
      repeat rw [if_neg (by omega)]
/-- the reference's loop: a byte a turn -/
theorem q_feed_l (hs : Sk S) {T : Int} (t0 : 0 ≤ T) (t1 : T ≤ 380) (v1 v2 v3 v4 v5 : Int32) : ∀ (k i : Nat) (mc : Nat → Int → Int), i + k = 20 → mc 136 9 = T → ∃ m', De (fun n => f_X11_feed n 60 [.ref 136, .int v1, .int v2, .int v3, .int v4, .int v5, .int (J i)] (hp S mc q)) (.inl (some (.int (J (T + 20))))) (hp S m' q) ∧ (∀ b j, ¬ (b = 141 ∧ T + i ≤ j ∧ j < T + 20) → ¬ (b = 136 ∧ j = 9) → m' b j = mc b j) ∧ m' 136 9 = T + 20 ∧ (∀ j, T + i ≤ j → j < T + 20 → m' 141 j = byS (mc 142 ((j - T) / 4)) (24 - 8 * (j - T - (j - T) / 4 * 4)))
  | 0, i, mc, h, ht => by
    refine ⟨up mc 136 9 (T + 20), ?_, fun b j h1 h2 => by rw [up_get, if_neg h2], up_at _ _ _ _, fun j j0 j1 => by omega⟩
    refine De.cg 3 (g := fun _ => some (.inl (some (.int (J (T + 20)))), hp S (up mc 136 9 (T + 20)) q)) (fun n => ?_) (De.ret _ _)
    rw [j_X11_feed_60]
    simp (disch := omega) only [b_X11_feed_60, x136_k hs, x136_i0 hs, x136_w0 hs, x136_r1 hs, x136_r2 hs, x136_r3 hs, x136_r4 hs, x136_i5 hs, x136_w5 hs, x136_i6 hs, x136_w6 hs, x136_i7 hs, x136_w7 hs, x136_r8 hs, x136_i9 hs, x136_w9 hs, x136_i10 hs, x136_w10 hs, x136_i11 hs, x136_w11 hs, x136_i12 hs, x136_w12 hs, x136_i13 hs, x136_w13 hs, x136_i14 hs, x136_w14 hs, x136_r15 hs, x136_i16 hs, x136_w16 hs, x136_r17 hs, x136_r18 hs, x136_r19 hs, x136_r20 hs, x136_r21 hs, x136_i22 hs, x136_w22 hs, x136_r23 hs, x136_r24 hs, x136_i25 hs, x136_w25 hs, x136_i26 hs, x136_w26 hs, x136_r27 hs, x136_r28 hs, x136_i29 hs, x136_w29 hs, ht, Option.bind_some, xI, xU, xUt, xIt, J_lit, J_add, J_sub, J_mul, J_neg, J_ltc, J_lec, J_eqc, lt_T, lt_F, le_T, le_F, eq_T, eq_F, ↓reduceIte, ite_not, not_true_eq_false, not_false_eq_true, true_or, or_true, false_or, or_false, true_and, and_true, false_and, and_false, up_get, Nat.reduceEqDiff, Int.reduceNeg, eqN_T, eqN_F]
  | k + 1, i, mc, h, ht => by
    obtain ⟨m', D, p1, p2, p3⟩ := q_feed_l hs t0 t1 v1 v2 v3 v4 v5 k (i + 1) (up mc 141 (T + i) (byS (mc 142 ((i : Int) / 4)) (24 - 8 * ((i : Int) - (i : Int) / 4 * 4)))) (by omega) (by rw [up_a (by decide)]; exact ht)
    refine ⟨m', ?_, fun b j h1 h2 => ?_, p2, fun j j0 j1 => ?_⟩
    · refine De.cg 3 (fun n => ?_) (D.sh 2)
      rw [j_X11_feed_60]
      simp (disch := omega) only [b_X11_feed_60, x136_k hs, x136_i0 hs, x136_w0 hs, x136_r1 hs, x136_r2 hs, x136_r3 hs, x136_r4 hs, x136_i5 hs, x136_w5 hs, x136_i6 hs, x136_w6 hs, x136_i7 hs, x136_w7 hs, x136_r8 hs, x136_i9 hs, x136_w9 hs, x136_i10 hs, x136_w10 hs, x136_i11 hs, x136_w11 hs, x136_i12 hs, x136_w12 hs, x136_i13 hs, x136_w13 hs, x136_i14 hs, x136_w14 hs, x136_r15 hs, x136_i16 hs, x136_w16 hs, x136_r17 hs, x136_r18 hs, x136_r19 hs, x136_r20 hs, x136_r21 hs, x136_i22 hs, x136_w22 hs, x136_r23 hs, x136_r24 hs, x136_i25 hs, x136_w25 hs, x136_i26 hs, x136_w26 hs, x136_r27 hs, x136_r28 hs, x136_i29 hs, x136_w29 hs, x141_g hs, x141_s hs, x141_l hs, x142_g hs, x142_s hs, x142_l hs, ht, J_div, byS_J, b8_byS, Option.bind_some, xI, xU, xUt, xIt, J_lit, J_add, J_sub, J_mul, J_neg, J_ltc, J_lec, J_eqc, lt_T, lt_F, le_T, le_F, eq_T, eq_F, ↓reduceIte, ite_not, not_true_eq_false, not_false_eq_true, true_or, or_true, false_or, or_false, true_and, and_true, false_and, and_false, up_get, Nat.reduceEqDiff, Int.reduceNeg, eqN_T, eqN_F]
      rfl
    · rw [p1 b j (by omega) h2, up_get, if_neg (by omega)]
    · by_cases c : j = T + i
      · subst c
        rw [p1 _ _ (by omega) (by omega), up_at, show T + (i : Int) - T = i by omega]
      · rw [p3 j (by omega) j1, up_a (by decide)]
end FEED
