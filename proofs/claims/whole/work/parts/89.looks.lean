/-! the reference looks at a copy -/
def fcV (w v : Int → Int) (p x : Int) : Int → Int := fun i => if i = 0 then v 0 - w (761 + 10 * x + 2) else if i = 1 then v (51 + 7 * (30 * p + x) + 2) else if i = 2 then cntp v x (w 0).toNat else if i = 3 then v (1 + 5 * p + 1) else v (51 + 7 * (30 * p + x) + 1)
def tgN (w : Int → Int) (x : Int) : Nat := 2 ^ (w (761 + 10 * x + 0)).toNat
/-- what the words are, and what a net is, by the reference's numbers -/
def Wok (w : Int → Int) : Prop := Rtol w ∧ (0 ≤ w 1 ∧ w 1 ≤ 30) ∧ ∀ x : Int, 0 ≤ x → x < w 1 → (0 ≤ w (761 + 10 * x + 0) ∧ w (761 + 10 * x + 0) ≤ 5 ∧ 0 ≤ w (761 + 10 * x + 1) ∧ w (761 + 10 * x + 1) < w 0) ∧ (0 ≤ w (761 + 10 * x + 2) ∧ w (761 + 10 * x + 2) ≤ 400 ∧ 1 ≤ w (761 + 10 * x + 3) ∧ w (761 + 10 * x + 3) ≤ 200) ∧ (0 ≤ w (761 + 10 * x + 7) ∧ w (761 + 10 * x + 7) ≤ 9999 ∧ -1 ≤ w (761 + 10 * x + 8) ∧ w (761 + 10 * x + 8) < x)
def Vok (told : Int) (w v : Int → Int) : Prop := (0 ≤ v 0 ∧ v 0 ≤ 400 ∧ 0 ≤ told ∧ told ≤ w 1) ∧ (∀ p : Int, 0 ≤ p → p < w 0 → 0 ≤ v (1 + 5 * p + 0) ∧ v (1 + 5 * p + 0) ≤ 15 ∧ 0 ≤ v (1 + 5 * p + 1) ∧ v (1 + 5 * p + 1) ≤ 1000) ∧
  (∀ p x : Int, 0 ≤ p → p < 10 → 0 ≤ x → x < 30 → (0 ≤ v (51 + 7 * (30 * p + x) + 0) ∧ v (51 + 7 * (30 * p + x) + 0) ≤ 1) ∧ (v (51 + 7 * (30 * p + x) + 0) = 1 → (p < w 0 ∧ x < told) ∧ 0 ≤ v (51 + 7 * (30 * p + x) + 1) ∧ v (51 + 7 * (30 * p + x) + 1) ≤ 9999 ∧ 0 ≤ v (51 + 7 * (30 * p + x) + 2) ∧ v (51 + 7 * (30 * p + x) + 2) ≤ 12))
theorem InvM.wok {S : xH} {m : Nat → Int → Int} {q : Nat → Int → Int64} (h : InvM S m q) : Wok (m 139) := by
  have sm := h.small
  have hw := h.word
  obtain ⟨tap, by0, lot0, ⟨par, hid, prt, sto, gan, wrd, wlk, row, rul, tol, plc, net, dwn⟩, kep⟩ := h.get
  refine ⟨tol, by omega, fun x x0 x1 => ?_⟩
  obtain ⟨-, -, -, h4, h5, -⟩ := wrd
  have e := fun k k0 k1 => h4 x k x0 x1 k0 k1
  obtain ⟨z1, z2, z3⟩ := h5 x x0 x1
  rw [e 0 (by omega) (by omega), e 1 (by omega) (by omega), e 2 (by omega) (by omega), e 3 (by omega) (by omega), e 4 (by omega) (by omega), e 5 (by omega) (by omega)] at z1
  rw [e 7 (by omega) (by omega), e 8 (by omega) (by omega), e 9 (by omega) (by omega)] at z3
  omega
theorem Rnet.vok {N : Nat → Int → Int} {D : Nat → Int → Int64} {told : Int} {w v : Int → Int} (h : Rnet N D told w v) : Vok told w v := by
  obtain ⟨h1, h2, h3, h4, h5, h6⟩ := h
  refine ⟨by omega, fun p p0 p1 => ?_, fun p x p0 p1 x0 x1 => ?_⟩
  · have := h2 p p0 p1
    omega
  · obtain ⟨a1, a2⟩ := h4 p x p0 p1 x0 x1
    refine ⟨by rw [a1]; split <;> omega, fun z => ?_⟩
    obtain ⟨b1, b2, b3, b4⟩ := a2 z
    have := b4.2.2.2.2.2
    omega
theorem fcV_ok {told : Int} {w v : Int → Int} (W : Wok w) (V : Vok told w v) {p x : Int} (p0 : 0 ≤ p) (p1 : p < 10) (x0 : 0 ≤ x) (x1 : x < 30) (h : v (51 + 7 * (30 * p + x) + 0) = 1) : FcOk (fcV w v p x) := by
  obtain ⟨⟨a1, a2⟩, a3, a4, a5, a6⟩ := (V.2.2 p x p0 p1 x0 x1).2 h
  have b := V.2.1 p p0 a1
  have c := (W.2.2 x x0 (by have := V.1; omega)).2.1
  have d := cntp_in v x (w 0).toNat
  have t := W.1.2.1
  have v0 := V.1
  intro i i0 i1
  unfold fcV
  repeat' split
  all_goals omega
theorem tgN_lt {w : Int → Int} (W : Wok w) {x : Int} (x0 : 0 ≤ x) (x1 : x < w 1) : tgN w x < 128 := by
  have c := (W.2.2 x x0 x1).1
  unfold tgN
  have : 2 ^ (w (761 + 10 * x + 0)).toNat ≤ 2 ^ 5 := Nat.pow_le_pow_right (by omega) (by omega)
  omega
section LOOKS
variable {S : xH} {m m0 : Nat → Int → Int} {q : Nat → Int → Int64} {told p x : Int}
theorem q_looksAt (hs : Sk S) (W : Wok (m0 139)) (V : Vok told (m0 139) (m0 137)) (p0 : 0 ≤ p) (p1 : p < m0 139 0) (x0 : 0 ≤ x) (x1 : x < m0 139 1) : ∀ (t : Nat) (k : Int) (m : Nat → Int → Int), 0 ≤ k → k + t = 7 → (∀ b i, b ≠ 143 → m b i = m0 b i) → (∀ j : Int, 0 ≤ j → j < k → m 143 j = if (tgN (m0 139) x).testBit j.toNat = true then 1 else 0) → ∃ m', De (fun n => f_X11_looksAt n 2 [.ref 136, .int (J p), .int (J x), .int (J k)] (hp S m q)) (.inl none) (hp S m' q) ∧ (∀ b i, b ≠ 143 → b ≠ 144 → m' b i = m0 b i) ∧ (∀ j : Int, 0 ≤ j → j < 7 → m' 143 j = if (tgN (m0 139) x).testBit j.toNat = true then 1 else 0) ∧ ∀ i : Int, 0 ≤ i → i < 5 → m' 144 i = fcV (m0 139) (m0 137) p x i := by
  have tw := W.1.2.1
  have w1 := W.2.1
  have wx := W.2.2 x x0 x1
  intro t
  induction t with
  | zero =>
    intro k m k0 kt F T
    have r9 : m 139 = m0 139 := funext fun i => F 139 i (by decide)
    have r7 : m 137 = m0 137 := funext fun i => F 137 i (by decide)
    have HO := q_haveOf (S := S) (m := up (up m 144 0 (m0 137 0 - m0 139 (761 + 10 * x + 2))) 144 1 (m0 137 (51 + 7 * (30 * p + x) + 2))) (q := q) (x := x) hs x0 (by omega) (fun z z0 z1 => by rw [up_a (by decide), up_a (by decide), r7]; exact (V.2.2 z x z0 z1 x0 (by omega)).1) (by rw [up_a (by decide), up_a (by decide), r9]; exact tw) (m0 139 0).toNat (by rw [up_a (by decide), up_a (by decide), r9]; omega) (by omega)
    rw [up_row (by decide), up_row (by decide), r7] at HO
    refine ⟨up (up (up (up (up m 144 0 (m0 137 0 - m0 139 (761 + 10 * x + 2))) 144 1 (m0 137 (51 + 7 * (30 * p + x) + 2))) 144 2 (cntp (m0 137) x (m0 139 0).toNat)) 144 3 (m0 137 (1 + 5 * p + 1))) 144 4 (m0 137 (51 + 7 * (30 * p + x) + 1)), ?_, ?_, ?_, ?_⟩
    · refine De.stepk 4 ?_
      have e : ∀ n, f_X11_looksAt (n + 4) 2 [.ref 136, .int (J p), .int (J x), .int (J k)] (hp S m q) = b_X11_looksAt_2 (n + 3) (f_X11_looksAt (n + 3)) 136 (J p) (J x) (J k) (hp S m q) := fun n => j_X11_looksAt_2 _ _ _ _ _ _
      simp only [e]
      simp (disch := omega) only [b_X11_looksAt_2, x136_k hs, x136_i0 hs, x136_w0 hs, x136_r1 hs, x136_r2 hs, x136_r3 hs, x136_r4 hs, x136_i5 hs, x136_w5 hs, x136_i6 hs, x136_w6 hs, x136_i7 hs, x136_w7 hs, x136_r8 hs, x136_i9 hs, x136_w9 hs, x136_i10 hs, x136_w10 hs, x136_i11 hs, x136_w11 hs, x136_i12 hs, x136_w12 hs, x136_i13 hs, x136_w13 hs, x136_i14 hs, x136_w14 hs, x136_r15 hs, x136_i16 hs, x136_w16 hs, x136_r17 hs, x136_r18 hs, x136_r19 hs, x136_r20 hs, x136_r21 hs, x136_i22 hs, x136_w22 hs, x136_r23 hs, x136_r24 hs, x136_i25 hs, x136_w25 hs, x136_i26 hs, x136_w26 hs, x136_r27 hs, x136_r28 hs, x136_i29 hs, x136_w29 hs, x137_g hs, x137_s hs, x137_l hs, x144_g hs, x144_s hs, x144_l hs, e_tick hs, e_of hs, e_copyAt, r9, r7, J_lec, le_T, Option.bind_some, xI, J_lit, J_sub, ↓reduceIte, up_row, ne_eq, not_false_eq_true, Nat.reduceEqDiff]
      refine De.call (HO.sh 3) ?_
      simp (disch := omega) only [x136_k hs, x136_i0 hs, x136_w0 hs, x136_r1 hs, x136_r2 hs, x136_r3 hs, x136_r4 hs, x136_i5 hs, x136_w5 hs, x136_i6 hs, x136_w6 hs, x136_i7 hs, x136_w7 hs, x136_r8 hs, x136_i9 hs, x136_w9 hs, x136_i10 hs, x136_w10 hs, x136_i11 hs, x136_w11 hs, x136_i12 hs, x136_w12 hs, x136_i13 hs, x136_w13 hs, x136_i14 hs, x136_w14 hs, x136_r15 hs, x136_i16 hs, x136_w16 hs, x136_r17 hs, x136_r18 hs, x136_r19 hs, x136_r20 hs, x136_r21 hs, x136_i22 hs, x136_w22 hs, x136_r23 hs, x136_r24 hs, x136_i25 hs, x136_w25 hs, x136_i26 hs, x136_w26 hs, x136_r27 hs, x136_r28 hs, x136_i29 hs, x136_w29 hs, x137_g hs, x137_s hs, x137_l hs, x144_g hs, x144_s hs, x144_l hs, e_phoneAt, e_copyAt, r9, r7, Option.bind_some, xI, J_lit, up_row, ne_eq, not_false_eq_true, Nat.reduceEqDiff]
      exact De.ret _ _
    · intro b i h1 h2
      rw [up_a h2, up_a h2, up_a h2, up_a h2, up_a h2]
      exact F b i h1
    · intro j j0 j1
      rw [up_a (by decide), up_a (by decide), up_a (by decide), up_a (by decide), up_a (by decide)]
      exact T j j0 (by omega)
    · intro i i0 i1
      unfold fcV
      simp only [up_get, true_and]
      by_cases c0 : i = 0
      · rw [if_neg (by omega), if_neg (by omega), if_neg (by omega), if_neg (by omega), if_pos c0, if_pos c0]
      · by_cases c1 : i = 1
        · rw [if_neg (by omega), if_neg (by omega), if_neg (by omega), if_pos c1, if_neg c0, if_pos c1]
        · by_cases c2 : i = 2
          · rw [if_neg (by omega), if_neg (by omega), if_pos c2, if_neg c0, if_neg c1, if_pos c2]
          · by_cases c3 : i = 3
            · rw [if_neg (by omega), if_pos c3, if_neg c0, if_neg c1, if_neg c2, if_pos c3]
            · rw [if_pos (by omega), if_neg c0, if_neg c1, if_neg c2, if_neg c3]
  | succ t IH =>
    intro k m k0 kt F T
    have r9 : m 139 = m0 139 := funext fun i => F 139 i (by decide)
    have tk : (tgN (m0 139) x).testBit k.toNat = decide (m0 139 (761 + 10 * x + 0) = k) := by
      unfold tgN
      rw [Nat.testBit_two_pow]
      by_cases c : m0 139 (761 + 10 * x + 0) = k
      · rw [decide_eq_true c, decide_eq_true (by rw [c])]
      · rw [decide_eq_false c, decide_eq_false (by omega)]
    obtain ⟨m', D, A, B, C⟩ := IH (k + 1) (up m 143 k (if decide (m0 139 (761 + 10 * x + 0) = k) = true then 1 else 0)) (by omega) (by omega) (fun b i hb => by rw [up_a hb]; exact F b i hb) (fun j j0 j1 => by
      by_cases e : j = k
      · rw [e, up_at, tk]
      · rw [up_i e]
        exact T j j0 (by omega))
    refine ⟨m', ?_, A, B, C⟩
    refine De.cg 2 (fun n => ?_) (D.sh 1)
    rw [j_X11_looksAt_2]
    by_cases c : m0 139 (761 + 10 * x + 0) = k
    · simp (disch := omega) only [b_X11_looksAt_2, x136_k hs, x136_i0 hs, x136_w0 hs, x136_r1 hs, x136_r2 hs, x136_r3 hs, x136_r4 hs, x136_i5 hs, x136_w5 hs, x136_i6 hs, x136_w6 hs, x136_i7 hs, x136_w7 hs, x136_r8 hs, x136_i9 hs, x136_w9 hs, x136_i10 hs, x136_w10 hs, x136_i11 hs, x136_w11 hs, x136_i12 hs, x136_w12 hs, x136_i13 hs, x136_w13 hs, x136_i14 hs, x136_w14 hs, x136_r15 hs, x136_i16 hs, x136_w16 hs, x136_r17 hs, x136_r18 hs, x136_r19 hs, x136_r20 hs, x136_r21 hs, x136_i22 hs, x136_w22 hs, x136_r23 hs, x136_r24 hs, x136_i25 hs, x136_w25 hs, x136_i26 hs, x136_w26 hs, x136_r27 hs, x136_r28 hs, x136_i29 hs, x136_w29 hs, x143_g hs, x143_s hs, e_of hs, r9, decide_eq_true c, if_true, Option.bind_some, xI, xU, xUt, xIt, J_lit, J_add, J_sub, J_mul, J_neg, J_ltc, J_lec, J_eqc, lt_T, lt_F, le_T, le_F, eq_T, eq_F, ↓reduceIte, ite_not, not_true_eq_false, not_false_eq_true, true_or, or_true, false_or, or_false, true_and, and_true, false_and, and_false, up_get, Nat.reduceEqDiff, Int.reduceNeg, eqN_T, eqN_F]
      all_goals rfl
    · simp (disch := omega) only [b_X11_looksAt_2, x136_k hs, x136_i0 hs, x136_w0 hs, x136_r1 hs, x136_r2 hs, x136_r3 hs, x136_r4 hs, x136_i5 hs, x136_w5 hs, x136_i6 hs, x136_w6 hs, x136_i7 hs, x136_w7 hs, x136_r8 hs, x136_i9 hs, x136_w9 hs, x136_i10 hs, x136_w10 hs, x136_i11 hs, x136_w11 hs, x136_i12 hs, x136_w12 hs, x136_i13 hs, x136_w13 hs, x136_i14 hs, x136_w14 hs, x136_r15 hs, x136_i16 hs, x136_w16 hs, x136_r17 hs, x136_r18 hs, x136_r19 hs, x136_r20 hs, x136_r21 hs, x136_i22 hs, x136_w22 hs, x136_r23 hs, x136_r24 hs, x136_i25 hs, x136_w25 hs, x136_i26 hs, x136_w26 hs, x136_r27 hs, x136_r28 hs, x136_i29 hs, x136_w29 hs, x143_g hs, x143_s hs, e_of hs, r9, decide_eq_false c, Bool.false_eq_true, if_false, Option.bind_some, xI, xU, xUt, xIt, J_lit, J_add, J_sub, J_mul, J_neg, J_ltc, J_lec, J_eqc, lt_T, lt_F, le_T, le_F, eq_T, eq_F, ↓reduceIte, ite_not, not_true_eq_false, not_false_eq_true, true_or, or_true, false_or, or_false, true_and, and_true, false_and, and_false, up_get, Nat.reduceEqDiff, Int.reduceNeg, eqN_T, eqN_F]
      all_goals rfl
end LOOKS
