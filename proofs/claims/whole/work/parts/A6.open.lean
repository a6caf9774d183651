/-! a word is opened, by the class and by the reference -/
section OPEN
variable {S : xH} {m : Nat → Int → Int} {q : Nat → Int → Int64} {x kd ph t li pe pl wh nu un : Int} {w : Int → Int}
def opM (m : Nat → Int → Int) (x kd ph t li : Int) : Nat → Int → Int := up (up (up (up (up (up m 18 x kd) 19 x ph) 20 x t) 21 x li) 26 x (-1)) 16 3 (x + 1)
def fiM (m : Nat → Int → Int) (x pe pl wh nu : Int) : Nat → Int → Int := up (up (up (up m 22 x pe) 23 x pl) 24 x wh) 25 x nu
def lkM (m : Nat → Int → Int) (x un : Int) : Nat → Int → Int := up (up m 26 x un) 27 un (((m 27 un).toNat ||| 2 ^ x.toNat : Nat) : Int)
theorem d_open (hs : Sk S) (h3 : m 16 3 = x) (x0 : 0 ≤ x) (x1 : x < 30) : De (fun n => f_X9_open n 0 [.ref 16, .int (J kd), .int (J ph), .int (J t), .int (J li)] (hp S m q)) (.inl (some (.int (J x)))) (hp S (opM m x kd ph t li) q) := De.eq 1 (fun n => by
  rw [j_X9_open_0]
  unfold opM
  simp (disch := omega) only [b_X9_open_0, x16_k hs, x16_r0 hs, x16_r1 hs, x16_r2 hs, x16_i3 hs, x16_w3 hs, x17_m0 hs, x17_m1 hs, x17_m2 hs, x17_m3 hs, x17_m4 hs, x17_m5 hs, x17_m6 hs, x17_m7 hs, x17_m8 hs, x17_l hs, x18_g hs, x18_s hs, x18_l hs, x19_g hs, x19_s hs, x19_l hs, x20_g hs, x20_s hs, x20_l hs, x21_g hs, x21_s hs, x21_l hs, x26_g hs, x26_s hs, x26_l hs, h3, up_a, ne_eq, Option.bind_some, xI, xU, xUt, xIt, J_lit, J_add, J_sub, J_mul, J_neg, J_ltc, J_lec, J_eqc, lt_T, lt_F, le_T, le_F, eq_T, eq_F, ↓reduceIte, ite_not, not_true_eq_false, not_false_eq_true, true_or, or_true, false_or, or_false, true_and, and_true, false_and, and_false, up_get, Nat.reduceEqDiff, Int.reduceNeg, eqN_T, eqN_F])
theorem d_fill (hs : Sk S) (x0 : 0 ≤ x) (x1 : x < 30) : De (fun n => f_X9_fill n 0 [.ref 16, .int (J x), .int (J pe), .int (J pl), .int (J wh), .int (J nu)] (hp S m q)) (.inl none) (hp S (fiM m x pe pl wh nu) q) := De.eq 1 (fun n => by
  rw [j_X9_fill_0]
  unfold fiM
  simp (disch := omega) only [b_X9_fill_0, x16_k hs, x16_r0 hs, x16_r1 hs, x16_r2 hs, x16_i3 hs, x16_w3 hs, x17_m0 hs, x17_m1 hs, x17_m2 hs, x17_m3 hs, x17_m4 hs, x17_m5 hs, x17_m6 hs, x17_m7 hs, x17_m8 hs, x17_l hs, x22_g hs, x22_s hs, x22_l hs, x23_g hs, x23_s hs, x23_l hs, x24_g hs, x24_s hs, x24_l hs, x25_g hs, x25_s hs, x25_l hs, Option.bind_some, xI, xU, xUt, xIt, J_lit, J_add, J_sub, J_mul, J_neg, J_ltc, J_lec, J_eqc, lt_T, lt_F, le_T, le_F, eq_T, eq_F, ↓reduceIte, ite_not, not_true_eq_false, not_false_eq_true, true_or, or_true, false_or, or_false, true_and, and_true, false_and, and_false, up_get, Nat.reduceEqDiff, Int.reduceNeg, eqN_T, eqN_F])
theorem d_link (hs : Sk S) (x0 : 0 ≤ x) (x1 : x < 30) (u0 : 0 ≤ un) (u1 : un < 30) (z0 : 0 ≤ m 27 un) : De (fun n => f_X9_link n 0 [.ref 16, .int (J x), .int (J un)] (hp S m q)) (.inl none) (hp S (lkM m x un) q) := De.eq 1 (fun n => by
  have o := J_or1 (z := m 27 un) (p := x) z0 x0 (by omega)
  rw [j_X9_link_0]
  unfold lkM
  simp (disch := omega) only [b_X9_link_0, x16_k hs, x16_r0 hs, x16_r1 hs, x16_r2 hs, x16_i3 hs, x16_w3 hs, x17_m0 hs, x17_m1 hs, x17_m2 hs, x17_m3 hs, x17_m4 hs, x17_m5 hs, x17_m6 hs, x17_m7 hs, x17_m8 hs, x17_l hs, x26_g hs, x26_s hs, x26_l hs, x27_g hs, x27_s hs, x27_l hs, o, up_a, ne_eq, Option.bind_some, xI, xU, xUt, xIt, J_lit, J_add, J_sub, J_mul, J_neg, J_ltc, J_lec, J_eqc, lt_T, lt_F, le_T, le_F, eq_T, eq_F, ↓reduceIte, ite_not, not_true_eq_false, not_false_eq_true, true_or, or_true, false_or, or_false, true_and, and_true, false_and, and_false, up_get, Nat.reduceEqDiff, Int.reduceNeg, eqN_T, eqN_F])
/-- the reference's new word -/
def bgS (w : Int → Int) (x kd ph t li : Int) (i : Int) : Int → Int := fun j => if j = 761 + 10 * x + 8 then -1 else if j = 761 + 10 * x + 3 then li else if j = 761 + 10 * x + 2 then t else if j = 761 + 10 * x + 1 then ph else if j = 761 + 10 * x + 0 then kd else if 761 + 10 * x + i ≤ j ∧ j < 761 + 10 * x + 10 then 0 else w j
theorem q_begins_l (hs : Sk S) (x0 : 0 ≤ x) (x1 : x < 30) : ∀ (k : Nat) (i : Int) (m : Nat → Int → Int), 0 ≤ i → i + k = 10 → ∃ m', De (fun n => f_X11_begins n 19 [.ref 136, .int (J ph), .int (J kd), .int (J li), .int (J x), .int (J i)] (hp S m q)) (.inl (some (.int (J x)))) (hp S m' q) ∧ m' 139 = bgS (m 139) x kd ph (m 137 0) li i ∧ ∀ b i, b ≠ 139 → m' b i = m b i := by
  intro k
  induction k with
  | zero =>
    intro i m i0 hi
    refine ⟨up (up (up (up (up m 139 (761 + 10 * x + 0) kd) 139 (761 + 10 * x + 1) ph) 139 (761 + 10 * x + 2) (m 137 0)) 139 (761 + 10 * x + 3) li) 139 (761 + 10 * x + 8) (-1), ?_, ?_, fun b i hb => by rw [up_a hb, up_a hb, up_a hb, up_a hb, up_a hb]⟩
    · refine De.step ?_
      simp only [j_X11_begins_19]
      simp (disch := omega) only [b_X11_begins_19, x136_k hs, x136_i0 hs, x136_w0 hs, x136_r1 hs, x136_r2 hs, x136_r3 hs, x136_r4 hs, x136_i5 hs, x136_w5 hs, x136_i6 hs, x136_w6 hs, x136_i7 hs, x136_w7 hs, x136_r8 hs, x136_i9 hs, x136_w9 hs, x136_i10 hs, x136_w10 hs, x136_i11 hs, x136_w11 hs, x136_i12 hs, x136_w12 hs, x136_i13 hs, x136_w13 hs, x136_i14 hs, x136_w14 hs, x136_r15 hs, x136_i16 hs, x136_w16 hs, x136_r17 hs, x136_r18 hs, x136_r19 hs, x136_r20 hs, x136_r21 hs, x136_i22 hs, x136_w22 hs, x136_r23 hs, x136_r24 hs, x136_i25 hs, x136_w25 hs, x136_i26 hs, x136_w26 hs, x136_r27 hs, x136_r28 hs, x136_i29 hs, x136_w29 hs, x139_g hs, x139_s hs, x139_l hs, Option.bind_some, xI, xU, xUt, xIt, J_lit, J_add, J_sub, J_mul, J_neg, J_ltc, J_lec, J_eqc, lt_T, lt_F, le_T, le_F, eq_T, eq_F, ↓reduceIte, ite_not, not_true_eq_false, not_false_eq_true, true_or, or_true, false_or, or_false, true_and, and_true, false_and, and_false, up_get, Nat.reduceEqDiff, Int.reduceNeg, eqN_T, eqN_F]
      refine De.call (d_tick hs) ?_
      simp (disch := omega) only [x136_k hs, x136_i0 hs, x136_w0 hs, x136_r1 hs, x136_r2 hs, x136_r3 hs, x136_r4 hs, x136_i5 hs, x136_w5 hs, x136_i6 hs, x136_w6 hs, x136_i7 hs, x136_w7 hs, x136_r8 hs, x136_i9 hs, x136_w9 hs, x136_i10 hs, x136_w10 hs, x136_i11 hs, x136_w11 hs, x136_i12 hs, x136_w12 hs, x136_i13 hs, x136_w13 hs, x136_i14 hs, x136_w14 hs, x136_r15 hs, x136_i16 hs, x136_w16 hs, x136_r17 hs, x136_r18 hs, x136_r19 hs, x136_r20 hs, x136_r21 hs, x136_i22 hs, x136_w22 hs, x136_r23 hs, x136_r24 hs, x136_i25 hs, x136_w25 hs, x136_i26 hs, x136_w26 hs, x136_r27 hs, x136_r28 hs, x136_i29 hs, x136_w29 hs, x139_g hs, x139_s hs, x139_l hs, up_a, ne_eq, Option.bind_some, xI, xU, xUt, xIt, J_lit, J_add, J_sub, J_mul, J_neg, J_ltc, J_lec, J_eqc, lt_T, lt_F, le_T, le_F, eq_T, eq_F, ↓reduceIte, ite_not, not_true_eq_false, not_false_eq_true, true_or, or_true, false_or, or_false, true_and, and_true, false_and, and_false, up_get, Nat.reduceEqDiff, Int.reduceNeg, eqN_T, eqN_F]
      exact De.ret _ _
    · funext j
      unfold bgS
      simp only [up_get, true_and]
      repeat' split
      all_goals first | rfl | (exfalso; omega)
  | succ k IH =>
    intro i m i0 hi
    obtain ⟨m', D, A, F⟩ := IH (i + 1) (up m 139 (761 + 10 * x + i) 0) (by omega) (by omega)
    refine ⟨m', ?_, ?_, fun b i hb => (F b i hb).trans (up_a hb)⟩
    · refine De.step ?_
      simp only [j_X11_begins_19]
      simp (disch := omega) only [b_X11_begins_19, x136_k hs, x136_i0 hs, x136_w0 hs, x136_r1 hs, x136_r2 hs, x136_r3 hs, x136_r4 hs, x136_i5 hs, x136_w5 hs, x136_i6 hs, x136_w6 hs, x136_i7 hs, x136_w7 hs, x136_r8 hs, x136_i9 hs, x136_w9 hs, x136_i10 hs, x136_w10 hs, x136_i11 hs, x136_w11 hs, x136_i12 hs, x136_w12 hs, x136_i13 hs, x136_w13 hs, x136_i14 hs, x136_w14 hs, x136_r15 hs, x136_i16 hs, x136_w16 hs, x136_r17 hs, x136_r18 hs, x136_r19 hs, x136_r20 hs, x136_r21 hs, x136_i22 hs, x136_w22 hs, x136_r23 hs, x136_r24 hs, x136_i25 hs, x136_w25 hs, x136_i26 hs, x136_w26 hs, x136_r27 hs, x136_r28 hs, x136_i29 hs, x136_w29 hs, x139_g hs, x139_s hs, x139_l hs, Option.bind_some, xI, xU, xUt, xIt, J_lit, J_add, J_sub, J_mul, J_neg, J_ltc, J_lec, J_eqc, lt_T, lt_F, le_T, le_F, eq_T, eq_F, ↓reduceIte, ite_not, not_true_eq_false, not_false_eq_true, true_or, or_true, false_or, or_false, true_and, and_true, false_and, and_false, up_get, Nat.reduceEqDiff, Int.reduceNeg, eqN_T, eqN_F]
      exact D
    · rw [A]
      funext j
      unfold bgS
      rw [up_a (by decide)]
      simp only [up_get, true_and]
      repeat' split
      all_goals first | rfl | (exfalso; omega)
theorem q_begins (hs : Sk S) (hx : m 139 1 = x) (x0 : 0 ≤ x) (x1 : x < 30) : ∃ m', De (fun n => f_X11_begins n 0 [.ref 136, .int (J ph), .int (J kd), .int (J li)] (hp S m q)) (.inl (some (.int (J x)))) (hp S m' q) ∧ m' 139 = bgS (ups (m 139) 1 (x + 1)) x kd ph (m 137 0) li 0 ∧ ∀ b i, b ≠ 139 → m' b i = m b i := by
  obtain ⟨m', D, A, F⟩ := q_begins_l (q := q) (ph := ph) (kd := kd) (li := li) hs x0 x1 10 0 (up m 139 1 (x + 1)) (by decide) (by decide)
  rw [row_up, up_a (by decide)] at A
  refine ⟨m', ?_, A, fun b i hb => (F b i hb).trans (up_a hb)⟩
  refine De.step ?_
  simp only [j_X11_begins_0]
  simp (disch := omega) only [b_X11_begins_0, x136_k hs, x136_i0 hs, x136_w0 hs, x136_r1 hs, x136_r2 hs, x136_r3 hs, x136_r4 hs, x136_i5 hs, x136_w5 hs, x136_i6 hs, x136_w6 hs, x136_i7 hs, x136_w7 hs, x136_r8 hs, x136_i9 hs, x136_w9 hs, x136_i10 hs, x136_w10 hs, x136_i11 hs, x136_w11 hs, x136_i12 hs, x136_w12 hs, x136_i13 hs, x136_w13 hs, x136_i14 hs, x136_w14 hs, x136_r15 hs, x136_i16 hs, x136_w16 hs, x136_r17 hs, x136_r18 hs, x136_r19 hs, x136_r20 hs, x136_r21 hs, x136_i22 hs, x136_w22 hs, x136_r23 hs, x136_r24 hs, x136_i25 hs, x136_w25 hs, x136_i26 hs, x136_w26 hs, x136_r27 hs, x136_r28 hs, x136_i29 hs, x136_w29 hs, Option.bind_some]
  refine De.call (d_words hs) ?_
  simp (disch := omega) only [hx, x136_k hs, x136_i0 hs, x136_w0 hs, x136_r1 hs, x136_r2 hs, x136_r3 hs, x136_r4 hs, x136_i5 hs, x136_w5 hs, x136_i6 hs, x136_w6 hs, x136_i7 hs, x136_w7 hs, x136_r8 hs, x136_i9 hs, x136_w9 hs, x136_i10 hs, x136_w10 hs, x136_i11 hs, x136_w11 hs, x136_i12 hs, x136_w12 hs, x136_i13 hs, x136_w13 hs, x136_i14 hs, x136_w14 hs, x136_r15 hs, x136_i16 hs, x136_w16 hs, x136_r17 hs, x136_r18 hs, x136_r19 hs, x136_r20 hs, x136_r21 hs, x136_i22 hs, x136_w22 hs, x136_r23 hs, x136_r24 hs, x136_i25 hs, x136_w25 hs, x136_i26 hs, x136_w26 hs, x136_r27 hs, x136_r28 hs, x136_i29 hs, x136_w29 hs, x139_g hs, x139_s hs, x139_l hs, Option.bind_some, xI, xU, xUt, xIt, J_lit, J_add, J_sub, J_mul, J_neg, J_ltc, J_lec, J_eqc, lt_T, lt_F, le_T, le_F, eq_T, eq_F, ↓reduceIte, ite_not, not_true_eq_false, not_false_eq_true, true_or, or_true, false_or, or_false, true_and, and_true, false_and, and_false, up_get, Nat.reduceEqDiff, Int.reduceNeg, eqN_T, eqN_F]
  exact D
/-- said; undone -/
def saW (w : Int → Int) (x kd ph t li pe pl wh nu : Int) : Int → Int := ups (ups (ups (ups (bgS (ups w 1 (x + 1)) x kd ph t li 0) (761 + 10 * x + 4) pe) (761 + 10 * x + 5) pl) (761 + 10 * x + 6) wh) (761 + 10 * x + 7) nu
def udW (w : Int → Int) (x ph t li un : Int) : Int → Int := ups (bgS (ups w 1 (x + 1)) x 5 ph t li 0) (761 + 10 * x + 8) un
theorem bgS_o {i : Int} (h : i < 761 + 10 * x ∨ 761 + 10 * x + 10 ≤ i) : bgS w x kd ph t li 0 i = w i := (if_neg (by omega)).trans ((if_neg (by omega)).trans ((if_neg (by omega)).trans ((if_neg (by omega)).trans ((if_neg (by omega)).trans (if_neg (by omega))))))
theorem bgS_z {k : Int} (h : 4 ≤ k ∧ k ≤ 7 ∨ k = 9) : bgS w x kd ph t li 0 (761 + 10 * x + k) = 0 := (if_neg (by omega)).trans ((if_neg (by omega)).trans ((if_neg (by omega)).trans ((if_neg (by omega)).trans ((if_neg (by omega)).trans (if_pos (by omega))))))
theorem bgS_8 : bgS w x kd ph t li 0 (761 + 10 * x + 8) = -1 := if_pos rfl
theorem bgS_3 : bgS w x kd ph t li 0 (761 + 10 * x + 3) = li := (if_neg (by omega)).trans (if_pos rfl)
theorem bgS_2 : bgS w x kd ph t li 0 (761 + 10 * x + 2) = t := (if_neg (by omega)).trans ((if_neg (by omega)).trans (if_pos rfl))
theorem bgS_1 : bgS w x kd ph t li 0 (761 + 10 * x + 1) = ph := (if_neg (by omega)).trans ((if_neg (by omega)).trans ((if_neg (by omega)).trans (if_pos rfl)))
theorem bgS_0 : bgS w x kd ph t li 0 (761 + 10 * x + 0) = kd := (if_neg (by omega)).trans ((if_neg (by omega)).trans ((if_neg (by omega)).trans ((if_neg (by omega)).trans (if_pos rfl))))
theorem saW_o (x0 : 0 ≤ x) {i : Int} (h1 : i ≠ 1) (h2 : i < 761 + 10 * x ∨ 761 + 10 * x + 10 ≤ i) : saW w x kd ph t li pe pl wh nu i = w i := by
  unfold saW
  rw [ups_ne (by omega), ups_ne (by omega), ups_ne (by omega), ups_ne (by omega), bgS_o h2, ups_ne h1]
theorem saW_1 (x0 : 0 ≤ x) : saW w x kd ph t li pe pl wh nu 1 = x + 1 := by
  unfold saW
  rw [ups_ne (by omega), ups_ne (by omega), ups_ne (by omega), ups_ne (by omega), bgS_o (by omega), ups_at]
theorem saW_k (x0 : 0 ≤ x) : saW w x kd ph t li pe pl wh nu (761 + 10 * x + 0) = kd ∧ saW w x kd ph t li pe pl wh nu (761 + 10 * x + 1) = ph ∧ saW w x kd ph t li pe pl wh nu (761 + 10 * x + 2) = t ∧ saW w x kd ph t li pe pl wh nu (761 + 10 * x + 3) = li ∧ saW w x kd ph t li pe pl wh nu (761 + 10 * x + 4) = pe ∧ saW w x kd ph t li pe pl wh nu (761 + 10 * x + 5) = pl ∧ saW w x kd ph t li pe pl wh nu (761 + 10 * x + 6) = wh ∧ saW w x kd ph t li pe pl wh nu (761 + 10 * x + 7) = nu ∧ saW w x kd ph t li pe pl wh nu (761 + 10 * x + 8) = -1 ∧ saW w x kd ph t li pe pl wh nu (761 + 10 * x + 9) = 0 := by
  unfold saW
  refine ⟨?_, ?_, ?_, ?_, ?_, ?_, ?_, ?_, ?_, ?_⟩
  · rw [ups_ne (by omega), ups_ne (by omega), ups_ne (by omega), ups_ne (by omega), bgS_0]
  · rw [ups_ne (by omega), ups_ne (by omega), ups_ne (by omega), ups_ne (by omega), bgS_1]
  · rw [ups_ne (by omega), ups_ne (by omega), ups_ne (by omega), ups_ne (by omega), bgS_2]
  · rw [ups_ne (by omega), ups_ne (by omega), ups_ne (by omega), ups_ne (by omega), bgS_3]
  · rw [ups_ne (by omega), ups_ne (by omega), ups_ne (by omega), ups_at]
  · rw [ups_ne (by omega), ups_ne (by omega), ups_at]
  · rw [ups_ne (by omega), ups_at]
  · rw [ups_at]
  · rw [ups_ne (by omega), ups_ne (by omega), ups_ne (by omega), ups_ne (by omega), bgS_8]
  · rw [ups_ne (by omega), ups_ne (by omega), ups_ne (by omega), ups_ne (by omega), bgS_z (by omega)]
theorem udW_o (x0 : 0 ≤ x) {i : Int} (h1 : i ≠ 1) (h2 : i < 761 + 10 * x ∨ 761 + 10 * x + 10 ≤ i) : udW w x ph t li un i = w i := by
  unfold udW
  rw [ups_ne (by omega), bgS_o h2, ups_ne h1]
theorem udW_1 (x0 : 0 ≤ x) : udW w x ph t li un 1 = x + 1 := by
  unfold udW
  rw [ups_ne (by omega), bgS_o (by omega), ups_at]
theorem udW_k (x0 : 0 ≤ x) : udW w x ph t li un (761 + 10 * x + 0) = 5 ∧ udW w x ph t li un (761 + 10 * x + 1) = ph ∧ udW w x ph t li un (761 + 10 * x + 2) = t ∧ udW w x ph t li un (761 + 10 * x + 3) = li ∧ udW w x ph t li un (761 + 10 * x + 4) = 0 ∧ udW w x ph t li un (761 + 10 * x + 5) = 0 ∧ udW w x ph t li un (761 + 10 * x + 6) = 0 ∧ udW w x ph t li un (761 + 10 * x + 7) = 0 ∧ udW w x ph t li un (761 + 10 * x + 8) = un ∧ udW w x ph t li un (761 + 10 * x + 9) = 0 := by
  unfold udW
  refine ⟨?_, ?_, ?_, ?_, ?_, ?_, ?_, ?_, ?_, ?_⟩
  · rw [ups_ne (by omega), bgS_0]
  · rw [ups_ne (by omega), bgS_1]
  · rw [ups_ne (by omega), bgS_2]
  · rw [ups_ne (by omega), bgS_3]
  · rw [ups_ne (by omega), bgS_z (by omega)]
  · rw [ups_ne (by omega), bgS_z (by omega)]
  · rw [ups_ne (by omega), bgS_z (by omega)]
  · rw [ups_ne (by omega), bgS_z (by omega)]
  · rw [ups_at]
  · rw [ups_ne (by omega), bgS_z (by omega)]
theorem nw_say (x0 : 0 ≤ x) (x1 : x < 30) : NwC m (fiM (opM m x kd ph t li) x pe pl wh nu) (saW w x kd ph t li pe pl wh nu) x := by
  obtain ⟨a0, a1, a2, a3, a4, a5, a6, a7, a8, a9⟩ := saW_k (w := w) (kd := kd) (ph := ph) (t := t) (li := li) (pe := pe) (pl := pl) (wh := wh) (nu := nu) x0
  refine ⟨?_, fun k i k1 i0 i1 => ?_, fun i i0 i1 => ?_, fun i i0 i1 => ?_, fun b i h1 h2 => ?_⟩
  · unfold fiM opM
    rw [up_a (by decide), up_a (by decide), up_a (by decide), up_a (by decide), up_at]
  · unfold fiM opM
    simp only [up_get]
    obtain rfl | rfl | rfl | rfl | rfl | rfl | rfl | rfl | rfl : k = 0 ∨ k = 1 ∨ k = 2 ∨ k = 3 ∨ k = 4 ∨ k = 5 ∨ k = 6 ∨ k = 7 ∨ k = 8 := by omega
    all_goals by_cases c : i = x
    all_goals simp only [c, if_true, if_false, and_true, and_false, Nat.reduceAdd, Nat.reduceEqDiff]
    all_goals first | rfl | (symm; assumption) | exact a0.symm | exact a1.symm | exact a2.symm | exact a3.symm | exact a4.symm | exact a5.symm | exact a6.symm | exact a7.symm | exact a8.symm
  · rw [a8, if_neg (by omega)]
    unfold fiM opM
    rw [up_a (by decide), up_a (by decide), up_a (by decide), up_a (by decide), up_a (by decide), up_a (by decide), up_a (by decide), up_a (by decide), up_a (by decide), up_a (by decide)]
  · unfold fiM opM
    rw [up_a (by decide), up_a (by decide), up_a (by decide), up_a (by decide), up_a (by decide), up_a (by decide), up_a (by decide), up_a (by decide), up_a (by decide), up_a (by decide)]
  · unfold fiM opM
    simp only [up_get]
    repeat rw [if_neg (by omega)]
theorem nw_undo (x0 : 0 ≤ x) (x1 : x < 30) (u0 : 0 ≤ un) (z : m 22 x = 0 ∧ m 23 x = 0 ∧ m 24 x = 0 ∧ m 25 x = 0) : NwC m (lkM (opM m x 5 ph t li) x un) (udW w x ph t li un) x := by
  obtain ⟨a0, a1, a2, a3, a4, a5, a6, a7, a8, a9⟩ := udW_k (w := w) (ph := ph) (t := t) (li := li) (un := un) x0
  obtain ⟨z1, z2, z3, z4⟩ := z
  refine ⟨?_, fun k i k1 i0 i1 => ?_, fun i i0 i1 => ?_, fun i i0 i1 => ?_, fun b i h1 h2 => ?_⟩
  · unfold lkM opM
    rw [up_a (by decide), up_a (by decide), up_at]
  · unfold lkM opM
    simp only [up_get]
    obtain rfl | rfl | rfl | rfl | rfl | rfl | rfl | rfl | rfl : k = 0 ∨ k = 1 ∨ k = 2 ∨ k = 3 ∨ k = 4 ∨ k = 5 ∨ k = 6 ∨ k = 7 ∨ k = 8 := by omega
    all_goals by_cases c : i = x
    all_goals simp only [c, if_true, if_false, and_true, and_false, false_and, Nat.reduceAdd, Nat.reduceEqDiff]
    all_goals first | rfl | exact a0.symm | exact a1.symm | exact a2.symm | exact a3.symm | exact z1.trans a4.symm | exact z2.trans a5.symm | exact z3.trans a6.symm | exact z4.trans a7.symm | exact a8.symm
  · rw [a8]
    unfold lkM opM
    have e27 : ∀ i, up (up (up (up (up (up m 18 x 5) 19 x ph) 20 x t) 21 x li) 26 x (-1)) 16 3 (x + 1) 27 i = m 27 i := fun i => by rw [up_a (by decide), up_a (by decide), up_a (by decide), up_a (by decide), up_a (by decide), up_a (by decide)]
    by_cases c : i = un
    · rw [c, up_at, if_pos rfl, e27]
    · rw [up_i c, if_neg c, up_a (by decide), e27]
  · unfold lkM opM
    rw [up_a (by decide), up_a (by decide), up_a (by decide), up_a (by decide), up_a (by decide), up_a (by decide), up_a (by decide), up_a (by decide)]
  · unfold lkM opM
    simp only [up_get]
    repeat rw [if_neg (by omega)]
end OPEN
