/-! ask -/
def fz : Int → Int := fun _ => 0
def TK (b : Int) : Nat := if b = 1 then 2 ^ 6 else 0
theorem TK_lt (b : Int) : TK b < 128 := by unfold TK; split <;> decide
theorem TK_tb (b : Int) (k : Int) (k0 : 0 ≤ k) : (TK b).testBit k.toNat = decide (b = 1 ∧ k = 6) := by
  unfold TK
  by_cases c : b = 1
  · rw [if_pos c, Nat.testBit_two_pow]
    by_cases d : k = 6
    · rw [decide_eq_true (show 6 = k.toNat by omega), decide_eq_true ⟨c, d⟩]
    · rw [decide_eq_false (show ¬ 6 = k.toNat by omega), decide_eq_false (fun z => d z.2)]
  · rw [if_neg c, Nat.zero_testBit, decide_eq_false (fun z => c z.1)]
theorem fz_ok : FcOk fz := fun i _ _ => by unfold fz; omega
section ASK
variable {S : xH} {m m0 : Nat → Int → Int} {q : Nat → Int → Int64} {r : Nat} {g : Int → Int} {b y ln sp : Int} {kd nm bg so : Int → Int}
theorem q_showsC_l (hr : RulS S r) (R : RulC m r g) {T : Nat} {fc : Int → Int} (hf : FacC m r T fc) (a1 : Int32) : ∀ k i : Nat, (i : Int) + k = g 0 → anS g T fc 3 i = false → De (fun n => f_X5_shows n 40 [.ref r, .int a1, .int (J i)] (hp S m q)) (.inl (some (.int (J (if anS g T fc 3 (g 0).toNat = true then 1 else 0))))) (hp S m q) := by
  have r1 := R.1
  have r2 := R.2.2.1
  intro k
  induction k with
  | zero =>
    intro i hi ha
    rw [show (g 0).toNat = i by omega, ha, if_neg (by decide)]
    refine De.eq 1 (fun n => ?_)
    rw [j_X5_shows_40]
    simp (disch := omega) only [b_X5_shows_40, Rul0_k hr, Rul0_r0 hr, Rul0_r1 hr, Rul0_r2 hr, Rul0_i3 hr, Rul0_w3 hr, Rul0_r4 hr, Rul0_i5 hr, Rul0_w5 hr, Rul0_r6 hr, Rul0_i7 hr, Rul0_w7 hr, Rul1_g hr, Rul1_s hr, Rul1_l hr, Rul2_g hr, Rul2_s hr, Rul2_l hr, Rul3_g hr, Rul3_s hr, Rul3_l hr, Rul4_g hr, Rul4_s hr, Rul4_l hr, Rul5_g hr, Rul5_s hr, Rul5_l hr, Option.bind_some, xI, xU, xUt, xIt, J_lit, J_add, J_sub, J_mul, J_neg, J_ltc, J_lec, J_eqc, lt_T, lt_F, le_T, le_F, eq_T, eq_F, ↓reduceIte, ite_not, not_true_eq_false, not_false_eq_true, true_or, or_true, false_or, or_false, true_and, and_true, false_and, and_false, up_get, Nat.reduceEqDiff, Int.reduceNeg, eqN_T, eqN_F]
  | succ k IH =>
    intro i hi ha
    have ih := IH (i + 1) (by omega)
    obtain ⟨⟨k1, k2, k3, k4⟩, k5, k6⟩ := R.2.2.2.2.2.1 i (by omega) (by omega)
    have H := holC (q := q) hr R hf (l := i) (by omega) (by omega)
    by_cases c : g (1 + 4 * i) = 3
    · refine De.step ?_
      simp only [j_X5_shows_40]
      simp (disch := omega) only [b_X5_shows_40, Rul0_k hr, Rul0_r0 hr, Rul0_r1 hr, Rul0_r2 hr, Rul0_i3 hr, Rul0_w3 hr, Rul0_r4 hr, Rul0_i5 hr, Rul0_w5 hr, Rul0_r6 hr, Rul0_i7 hr, Rul0_w7 hr, Rul1_g hr, Rul1_s hr, Rul1_l hr, Rul2_g hr, Rul2_s hr, Rul2_l hr, Rul3_g hr, Rul3_s hr, Rul3_l hr, Rul4_g hr, Rul4_s hr, Rul4_l hr, Rul5_g hr, Rul5_s hr, Rul5_l hr, Option.bind_some, xI, xU, xUt, xIt, J_lit, J_add, J_sub, J_mul, J_neg, J_ltc, J_lec, J_eqc, lt_T, lt_F, le_T, le_F, eq_T, eq_F, ↓reduceIte, ite_not, not_true_eq_false, not_false_eq_true, true_or, or_true, false_or, or_false, true_and, and_true, false_and, and_false, up_get, Nat.reduceEqDiff, Int.reduceNeg, eqN_T, eqN_F]
      refine De.call H ?_
      by_cases d : holS g T fc i = true
      · have t : anS g T fc 3 (i + 1) = true := by rw [anS, decide_eq_true c, d, Bool.true_and, Bool.or_true]
        have t2 := anS_mono k (i + 1) t
        rw [show i + 1 + k = (g 0).toNat by omega] at t2
        rw [t2, if_pos rfl]
        simp (disch := omega) only [if_pos d, Option.bind_some, xI, xU, xUt, xIt, J_lit, J_add, J_sub, J_mul, J_neg, J_ltc, J_lec, J_eqc, lt_T, lt_F, le_T, le_F, eq_T, eq_F, ↓reduceIte, ite_not, not_true_eq_false, not_false_eq_true, true_or, or_true, false_or, or_false, true_and, and_true, false_and, and_false, up_get, Nat.reduceEqDiff, Int.reduceNeg, eqN_T, eqN_F]
        exact De.ret _ _
      · have z : anS g T fc 3 (i + 1) = false := by rw [anS, ha, Bool.eq_false_iff.mpr d, Bool.and_false, Bool.or_false]
        simp (disch := omega) only [if_neg d, Option.bind_some, xI, xU, xUt, xIt, J_lit, J_add, J_sub, J_mul, J_neg, J_ltc, J_lec, J_eqc, lt_T, lt_F, le_T, le_F, eq_T, eq_F, ↓reduceIte, ite_not, not_true_eq_false, not_false_eq_true, true_or, or_true, false_or, or_false, true_and, and_true, false_and, and_false, up_get, Nat.reduceEqDiff, Int.reduceNeg, eqN_T, eqN_F]
        exact ih z
    · have z : anS g T fc 3 (i + 1) = false := by rw [anS, ha, decide_eq_false c, Bool.false_and, Bool.or_false]
      refine De.cg 1 (fun n => ?_) (ih z)
      rw [j_X5_shows_40]
      simp (disch := omega) only [b_X5_shows_40, Rul0_k hr, Rul0_r0 hr, Rul0_r1 hr, Rul0_r2 hr, Rul0_i3 hr, Rul0_w3 hr, Rul0_r4 hr, Rul0_i5 hr, Rul0_w5 hr, Rul0_r6 hr, Rul0_i7 hr, Rul0_w7 hr, Rul1_g hr, Rul1_s hr, Rul1_l hr, Rul2_g hr, Rul2_s hr, Rul2_l hr, Rul3_g hr, Rul3_s hr, Rul3_l hr, Rul4_g hr, Rul4_s hr, Rul4_l hr, Rul5_g hr, Rul5_s hr, Rul5_l hr, Option.bind_some, xI, xU, xUt, xIt, J_lit, J_add, J_sub, J_mul, J_neg, J_ltc, J_lec, J_eqc, lt_T, lt_F, le_T, le_F, eq_T, eq_F, ↓reduceIte, ite_not, not_true_eq_false, not_false_eq_true, true_or, or_true, false_or, or_false, true_and, and_true, false_and, and_false, up_get, Nat.reduceEqDiff, Int.reduceNeg, eqN_T, eqN_F]
      all_goals rfl
theorem q_showsC (hr : RulS S r) (R : RulC m0 r g) (hb : b = 0 ∨ b = 1) : ∀ (k : Nat) (i : Int) (m : Nat → Int → Int), 0 ≤ i → i + k = 5 → (∀ c x, c ≠ r + 5 → m c x = m0 c x) → (∀ x : Int, 0 ≤ x → x < i → m (r + 5) x = 0) → ∃ m', De (fun n => f_X5_shows n 2 [.ref r, .int (J b), .int (J i)] (hp S m q)) (.inl (some (.int (J (if anS g (TK b) fz 3 (g 0).toNat = true then 1 else 0))))) (hp S m' q) ∧ ∀ c x, c ≠ r + 5 → ¬ (c = r ∧ x = 7) → m' c x = m0 c x := by
  intro k
  induction k with
  | zero =>
    intro i m i0 hi F Z
    have r2 := R.2.1
    refine ⟨up m r 7 (TK b), ?_, fun c x h1 h2 => by rw [up_get, if_neg h2]; exact F c x h1⟩
    have RM : RulC (up m r 7 (TK b)) r g := R.cg (by rw [up_i (by decide)]; exact F _ _ (by omega)) (by rw [up_i (by decide)]; exact F _ _ (by omega)) (fun c x h1 h2 => by rw [up_a (by omega)]; exact F _ _ (by omega))
    have Q := q_showsC_l (q := q) hr RM (T := TK b) (fc := fz) ⟨fun x x0 x1 => by rw [up_a (by omega)]; exact Z x x0 (by omega), up_at _ _ _ _, TK_lt b, fz_ok⟩ (J b) (g 0).toNat 0 (by omega) rfl
    rcases hb with rfl | rfl
    · refine De.cg 1 (fun n => ?_) Q
      rw [j_X5_shows_2]
      simp (disch := omega) only [b_X5_shows_2, Rul0_k hr, Rul0_r0 hr, Rul0_r1 hr, Rul0_r2 hr, Rul0_i3 hr, Rul0_w3 hr, Rul0_r4 hr, Rul0_i5 hr, Rul0_w5 hr, Rul0_r6 hr, Rul0_i7 hr, Rul0_w7 hr, Rul1_g hr, Rul1_s hr, Rul1_l hr, Rul2_g hr, Rul2_s hr, Rul2_l hr, Rul3_g hr, Rul3_s hr, Rul3_l hr, Rul4_g hr, Rul4_s hr, Rul4_l hr, Rul5_g hr, Rul5_s hr, Rul5_l hr, Option.bind_some, xI, xU, xUt, xIt, J_lit, J_add, J_sub, J_mul, J_neg, J_ltc, J_lec, J_eqc, lt_T, lt_F, le_T, le_F, eq_T, eq_F, ↓reduceIte, ite_not, not_true_eq_false, not_false_eq_true, true_or, or_true, false_or, or_false, true_and, and_true, false_and, and_false, up_get, Nat.reduceEqDiff, Int.reduceNeg, eqN_T, eqN_F]
      rfl
    · refine De.cg 1 (fun n => ?_) Q
      rw [j_X5_shows_2]
      simp (disch := omega) only [b_X5_shows_2, Rul0_k hr, Rul0_r0 hr, Rul0_r1 hr, Rul0_r2 hr, Rul0_i3 hr, Rul0_w3 hr, Rul0_r4 hr, Rul0_i5 hr, Rul0_w5 hr, Rul0_r6 hr, Rul0_i7 hr, Rul0_w7 hr, Rul1_g hr, Rul1_s hr, Rul1_l hr, Rul2_g hr, Rul2_s hr, Rul2_l hr, Rul3_g hr, Rul3_s hr, Rul3_l hr, Rul4_g hr, Rul4_s hr, Rul4_l hr, Rul5_g hr, Rul5_s hr, Rul5_l hr, Option.bind_some, xI, xU, xUt, xIt, J_lit, J_add, J_sub, J_mul, J_neg, J_ltc, J_lec, J_eqc, lt_T, lt_F, le_T, le_F, eq_T, eq_F, ↓reduceIte, ite_not, not_true_eq_false, not_false_eq_true, true_or, or_true, false_or, or_false, true_and, and_true, false_and, and_false, up_get, Nat.reduceEqDiff, Int.reduceNeg, eqN_T, eqN_F]
      rfl
  | succ k IH =>
    intro i m i0 hi F Z
    obtain ⟨m', D, F'⟩ := IH (i + 1) (up m (r + 5) i 0) (by omega) (by omega) (fun c x h1 => by rw [up_a h1]; exact F c x h1) (fun x x0 x1 => by
      by_cases e : x = i
      · rw [e, up_at]
      · rw [up_i e]
        exact Z x x0 (by omega))
    refine ⟨m', De.cg 1 (fun n => ?_) D, F'⟩
    rw [j_X5_shows_2]
    simp (disch := omega) only [b_X5_shows_2, Rul0_k hr, Rul0_r0 hr, Rul0_r1 hr, Rul0_r2 hr, Rul0_i3 hr, Rul0_w3 hr, Rul0_r4 hr, Rul0_i5 hr, Rul0_w5 hr, Rul0_r6 hr, Rul0_i7 hr, Rul0_w7 hr, Rul1_g hr, Rul1_s hr, Rul1_l hr, Rul2_g hr, Rul2_s hr, Rul2_l hr, Rul3_g hr, Rul3_s hr, Rul3_l hr, Rul4_g hr, Rul4_s hr, Rul4_l hr, Rul5_g hr, Rul5_s hr, Rul5_l hr, Option.bind_some, xI, xU, xUt, xIt, J_lit, J_add, J_sub, J_mul, J_neg, J_ltc, J_lec, J_eqc, lt_T, lt_F, le_T, le_F, eq_T, eq_F, ↓reduceIte, ite_not, not_true_eq_false, not_false_eq_true, true_or, or_true, false_or, or_false, true_and, and_true, false_and, and_false, up_get, Nat.reduceEqDiff, Int.reduceNeg, eqN_T, eqN_F]
/-- the reference's question -/
theorem q_askM_l (hs : Sk S) (M0 : RulM m0 y g) (R : Rrul ln sp kd nm bg so g) {T : Nat} {fc : Int → Int} (H : FacM m0 T fc) (a1 a2 V : Int32) (h0 : Bool) : ∀ (k i : Nat) (m : Nat → Int → Int), (i : Int) + k = g 0 → (∀ b x, b ≠ 145 → m b x = m0 b x) → ∃ m', De (fun n => f_X11_ask n 127 [.ref 136, .int a1, .int a2, .int V, .int (J (if (h0 || anS g T fc 3 i) = true then 1 else 0)), .int (J i)] (hp S m q)) (.inl (some (.int (if (h0 || anS g T fc 3 (g 0).toNat) = true then V else J 0)))) (hp S m' q) ∧ ∀ b x, b ≠ 145 → m' b x = m0 b x := by
  have r2 := R.2.2.1
  intro k
  induction k with
  | zero =>
    intro i m hi F
    have M := M0.cg (m' := m) (F 136 6 (by decide)) (fun i => F 139 i (by decide))
    refine ⟨m, ?_, F⟩
    rw [show (g 0).toNat = i by omega]
    refine De.step ?_
    simp only [j_X11_ask_127]
    simp (disch := omega) only [b_X11_ask_127, x136_k hs, x136_i0 hs, x136_w0 hs, x136_r1 hs, x136_r2 hs, x136_r3 hs, x136_r4 hs, x136_i5 hs, x136_w5 hs, x136_i6 hs, x136_w6 hs, x136_i7 hs, x136_w7 hs, x136_r8 hs, x136_i9 hs, x136_w9 hs, x136_i10 hs, x136_w10 hs, x136_i11 hs, x136_w11 hs, x136_i12 hs, x136_w12 hs, x136_i13 hs, x136_w13 hs, x136_i14 hs, x136_w14 hs, x136_r15 hs, x136_i16 hs, x136_w16 hs, x136_r17 hs, x136_r18 hs, x136_r19 hs, x136_r20 hs, x136_r21 hs, x136_i22 hs, x136_w22 hs, x136_r23 hs, x136_r24 hs, x136_i25 hs, x136_w25 hs, x136_i26 hs, x136_w26 hs, x136_r27 hs, x136_r28 hs, x136_i29 hs, x136_w29 hs, Option.bind_some]
    refine De.call (d_lines hs M) ?_
    cases (h0 || anS g T fc 3 i) <;> simp (disch := omega) only [Bool.false_eq_true, if_true, if_false, Option.bind_some, xI, xU, xUt, xIt, J_lit, J_add, J_sub, J_mul, J_neg, J_ltc, J_lec, J_eqc, lt_T, lt_F, le_T, le_F, eq_T, eq_F, ↓reduceIte, ite_not, not_true_eq_false, not_false_eq_true, true_or, or_true, false_or, or_false, true_and, and_true, false_and, and_false, up_get, Nat.reduceEqDiff, Int.reduceNeg, eqN_T, eqN_F] <;> exact De.ret _ _
  | succ k IH =>
    intro i m hi F
    have M := M0.cg (m' := m) (F 136 6 (by decide)) (fun i => F 139 i (by decide))
    obtain ⟨hy, y0, y1, hg⟩ := id M
    obtain ⟨⟨k1, k2, k3, k4⟩, k5, k6⟩ := R.2.2.2.2.2.1 i (by omega) (by omega)
    have g1 : m 139 (4239 + 841 * y + 1 + 4 * i) = g (1 + 4 * i) := by rw [← hg _ (by omega) (by omega)]; congr 1; omega
    by_cases z : (h0 || anS g T fc 3 i) = true
    · obtain ⟨m', D, F'⟩ := IH (i + 1) m (by omega) F
      have z2 : (h0 || anS g T fc 3 (i + 1)) = true := by
        rcases Bool.or_eq_true_iff.mp z with u | u
        · rw [u, Bool.true_or]
        · rw [anS_mono 1 i u, Bool.or_true]
      rw [z2, if_pos rfl] at D
      refine ⟨m', ?_, F'⟩
      rw [if_pos z]
      refine De.step ?_
      simp only [j_X11_ask_127]
      simp (disch := omega) only [b_X11_ask_127, x136_k hs, x136_i0 hs, x136_w0 hs, x136_r1 hs, x136_r2 hs, x136_r3 hs, x136_r4 hs, x136_i5 hs, x136_w5 hs, x136_i6 hs, x136_w6 hs, x136_i7 hs, x136_w7 hs, x136_r8 hs, x136_i9 hs, x136_w9 hs, x136_i10 hs, x136_w10 hs, x136_i11 hs, x136_w11 hs, x136_i12 hs, x136_w12 hs, x136_i13 hs, x136_w13 hs, x136_i14 hs, x136_w14 hs, x136_r15 hs, x136_i16 hs, x136_w16 hs, x136_r17 hs, x136_r18 hs, x136_r19 hs, x136_r20 hs, x136_r21 hs, x136_i22 hs, x136_w22 hs, x136_r23 hs, x136_r24 hs, x136_i25 hs, x136_w25 hs, x136_i26 hs, x136_w26 hs, x136_r27 hs, x136_r28 hs, x136_i29 hs, x136_w29 hs, Option.bind_some]
      refine De.call (d_lines hs M) ?_
      simp (disch := omega) only [Option.bind_some, xI, xU, xUt, xIt, J_lit, J_add, J_sub, J_mul, J_neg, J_ltc, J_lec, J_eqc, lt_T, lt_F, le_T, le_F, eq_T, eq_F, ↓reduceIte, ite_not, not_true_eq_false, not_false_eq_true, true_or, or_true, false_or, or_false, true_and, and_true, false_and, and_false, up_get, Nat.reduceEqDiff, Int.reduceNeg, eqN_T, eqN_F]
      exact D
    · have zh : h0 = false := by cases h0 <;> simp at z ⊢
      have za : anS g T fc 3 i = false := by rw [zh, Bool.false_or] at z; exact Bool.eq_false_iff.mpr z
      by_cases c : g (1 + 4 * i) = 3
      · obtain ⟨m1, Dh, F1⟩ := d_hol (q := q) hs M R (H.cg (m' := m) (fun i => F 144 i (by decide)) (fun i => F 143 i (by decide))) (l := i) (by omega) (by omega)
        obtain ⟨m', D, F'⟩ := IH (i + 1) m1 (by omega) (fun b x hb => (F1 b x hb).trans (F b x hb))
        rw [anS, za, zh, decide_eq_true c, Bool.true_and, Bool.false_or, Bool.false_or] at D
        refine ⟨m', ?_, F'⟩
        rw [if_neg z, zh]
        refine De.step ?_
        simp only [j_X11_ask_127]
        simp (disch := omega) only [b_X11_ask_127, x136_k hs, x136_i0 hs, x136_w0 hs, x136_r1 hs, x136_r2 hs, x136_r3 hs, x136_r4 hs, x136_i5 hs, x136_w5 hs, x136_i6 hs, x136_w6 hs, x136_i7 hs, x136_w7 hs, x136_r8 hs, x136_i9 hs, x136_w9 hs, x136_i10 hs, x136_w10 hs, x136_i11 hs, x136_w11 hs, x136_i12 hs, x136_w12 hs, x136_i13 hs, x136_w13 hs, x136_i14 hs, x136_w14 hs, x136_r15 hs, x136_i16 hs, x136_w16 hs, x136_r17 hs, x136_r18 hs, x136_r19 hs, x136_r20 hs, x136_r21 hs, x136_i22 hs, x136_w22 hs, x136_r23 hs, x136_r24 hs, x136_i25 hs, x136_w25 hs, x136_i26 hs, x136_w26 hs, x136_r27 hs, x136_r28 hs, x136_i29 hs, x136_w29 hs, Option.bind_some]
        refine De.call (d_lines hs M) ?_
        simp (disch := omega) only [x136_k hs, x136_i0 hs, x136_w0 hs, x136_r1 hs, x136_r2 hs, x136_r3 hs, x136_r4 hs, x136_i5 hs, x136_w5 hs, x136_i6 hs, x136_w6 hs, x136_i7 hs, x136_w7 hs, x136_r8 hs, x136_i9 hs, x136_w9 hs, x136_i10 hs, x136_w10 hs, x136_i11 hs, x136_w11 hs, x136_i12 hs, x136_w12 hs, x136_i13 hs, x136_w13 hs, x136_i14 hs, x136_w14 hs, x136_r15 hs, x136_i16 hs, x136_w16 hs, x136_r17 hs, x136_r18 hs, x136_r19 hs, x136_r20 hs, x136_r21 hs, x136_i22 hs, x136_w22 hs, x136_r23 hs, x136_r24 hs, x136_i25 hs, x136_w25 hs, x136_i26 hs, x136_w26 hs, x136_r27 hs, x136_r28 hs, x136_i29 hs, x136_w29 hs, hy, Option.bind_some, xI, xU, xUt, xIt, J_lit, J_add, J_sub, J_mul, J_neg, J_ltc, J_lec, J_eqc, lt_T, lt_F, le_T, le_F, eq_T, eq_F, ↓reduceIte, ite_not, not_true_eq_false, not_false_eq_true, true_or, or_true, false_or, or_false, true_and, and_true, false_and, and_false, up_get, Nat.reduceEqDiff, Int.reduceNeg, eqN_T, eqN_F]
        refine De.call (d_lineAt y i _) ?_
        simp (disch := omega) only [x136_k hs, x136_i0 hs, x136_w0 hs, x136_r1 hs, x136_r2 hs, x136_r3 hs, x136_r4 hs, x136_i5 hs, x136_w5 hs, x136_i6 hs, x136_w6 hs, x136_i7 hs, x136_w7 hs, x136_r8 hs, x136_i9 hs, x136_w9 hs, x136_i10 hs, x136_w10 hs, x136_i11 hs, x136_w11 hs, x136_i12 hs, x136_w12 hs, x136_i13 hs, x136_w13 hs, x136_i14 hs, x136_w14 hs, x136_r15 hs, x136_i16 hs, x136_w16 hs, x136_r17 hs, x136_r18 hs, x136_r19 hs, x136_r20 hs, x136_r21 hs, x136_i22 hs, x136_w22 hs, x136_r23 hs, x136_r24 hs, x136_i25 hs, x136_w25 hs, x136_i26 hs, x136_w26 hs, x136_r27 hs, x136_r28 hs, x136_i29 hs, x136_w29 hs, x139_g hs, x139_s hs, x139_l hs, g1, Option.bind_some, xI, xU, xUt, xIt, J_lit, J_add, J_sub, J_mul, J_neg, J_ltc, J_lec, J_eqc, lt_T, lt_F, le_T, le_F, eq_T, eq_F, ↓reduceIte, ite_not, not_true_eq_false, not_false_eq_true, true_or, or_true, false_or, or_false, true_and, and_true, false_and, and_false, up_get, Nat.reduceEqDiff, Int.reduceNeg, eqN_T, eqN_F]
        refine De.call Dh ?_
        by_cases d : holS g T fc i = true
        · rw [if_pos d] at D
          simp (disch := omega) only [if_pos d, Option.bind_some, xI, xU, xUt, xIt, J_lit, J_add, J_sub, J_mul, J_neg, J_ltc, J_lec, J_eqc, lt_T, lt_F, le_T, le_F, eq_T, eq_F, ↓reduceIte, ite_not, not_true_eq_false, not_false_eq_true, true_or, or_true, false_or, or_false, true_and, and_true, false_and, and_false, up_get, Nat.reduceEqDiff, Int.reduceNeg, eqN_T, eqN_F]
          exact D
        · rw [if_neg d] at D
          simp (disch := omega) only [if_neg d, Option.bind_some, xI, xU, xUt, xIt, J_lit, J_add, J_sub, J_mul, J_neg, J_ltc, J_lec, J_eqc, lt_T, lt_F, le_T, le_F, eq_T, eq_F, ↓reduceIte, ite_not, not_true_eq_false, not_false_eq_true, true_or, or_true, false_or, or_false, true_and, and_true, false_and, and_false, up_get, Nat.reduceEqDiff, Int.reduceNeg, eqN_T, eqN_F]
          exact D
      · obtain ⟨m', D, F'⟩ := IH (i + 1) m (by omega) F
        rw [anS, za, zh, decide_eq_false c, Bool.false_and, Bool.false_or, Bool.or_false, if_neg (by decide)] at D
        refine ⟨m', ?_, F'⟩
        rw [if_neg z, zh]
        refine De.step ?_
        simp only [j_X11_ask_127]
        simp (disch := omega) only [b_X11_ask_127, x136_k hs, x136_i0 hs, x136_w0 hs, x136_r1 hs, x136_r2 hs, x136_r3 hs, x136_r4 hs, x136_i5 hs, x136_w5 hs, x136_i6 hs, x136_w6 hs, x136_i7 hs, x136_w7 hs, x136_r8 hs, x136_i9 hs, x136_w9 hs, x136_i10 hs, x136_w10 hs, x136_i11 hs, x136_w11 hs, x136_i12 hs, x136_w12 hs, x136_i13 hs, x136_w13 hs, x136_i14 hs, x136_w14 hs, x136_r15 hs, x136_i16 hs, x136_w16 hs, x136_r17 hs, x136_r18 hs, x136_r19 hs, x136_r20 hs, x136_r21 hs, x136_i22 hs, x136_w22 hs, x136_r23 hs, x136_r24 hs, x136_i25 hs, x136_w25 hs, x136_i26 hs, x136_w26 hs, x136_r27 hs, x136_r28 hs, x136_i29 hs, x136_w29 hs, Option.bind_some]
        refine De.call (d_lines hs M) ?_
        simp (disch := omega) only [x136_k hs, x136_i0 hs, x136_w0 hs, x136_r1 hs, x136_r2 hs, x136_r3 hs, x136_r4 hs, x136_i5 hs, x136_w5 hs, x136_i6 hs, x136_w6 hs, x136_i7 hs, x136_w7 hs, x136_r8 hs, x136_i9 hs, x136_w9 hs, x136_i10 hs, x136_w10 hs, x136_i11 hs, x136_w11 hs, x136_i12 hs, x136_w12 hs, x136_i13 hs, x136_w13 hs, x136_i14 hs, x136_w14 hs, x136_r15 hs, x136_i16 hs, x136_w16 hs, x136_r17 hs, x136_r18 hs, x136_r19 hs, x136_r20 hs, x136_r21 hs, x136_i22 hs, x136_w22 hs, x136_r23 hs, x136_r24 hs, x136_i25 hs, x136_w25 hs, x136_i26 hs, x136_w26 hs, x136_r27 hs, x136_r28 hs, x136_i29 hs, x136_w29 hs, hy, Option.bind_some, xI, xU, xUt, xIt, J_lit, J_add, J_sub, J_mul, J_neg, J_ltc, J_lec, J_eqc, lt_T, lt_F, le_T, le_F, eq_T, eq_F, ↓reduceIte, ite_not, not_true_eq_false, not_false_eq_true, true_or, or_true, false_or, or_false, true_and, and_true, false_and, and_false, up_get, Nat.reduceEqDiff, Int.reduceNeg, eqN_T, eqN_F]
        refine De.call (d_lineAt y i _) ?_
        simp (disch := omega) only [x136_k hs, x136_i0 hs, x136_w0 hs, x136_r1 hs, x136_r2 hs, x136_r3 hs, x136_r4 hs, x136_i5 hs, x136_w5 hs, x136_i6 hs, x136_w6 hs, x136_i7 hs, x136_w7 hs, x136_r8 hs, x136_i9 hs, x136_w9 hs, x136_i10 hs, x136_w10 hs, x136_i11 hs, x136_w11 hs, x136_i12 hs, x136_w12 hs, x136_i13 hs, x136_w13 hs, x136_i14 hs, x136_w14 hs, x136_r15 hs, x136_i16 hs, x136_w16 hs, x136_r17 hs, x136_r18 hs, x136_r19 hs, x136_r20 hs, x136_r21 hs, x136_i22 hs, x136_w22 hs, x136_r23 hs, x136_r24 hs, x136_i25 hs, x136_w25 hs, x136_i26 hs, x136_w26 hs, x136_r27 hs, x136_r28 hs, x136_i29 hs, x136_w29 hs, x139_g hs, x139_s hs, x139_l hs, g1, Option.bind_some, xI, xU, xUt, xIt, J_lit, J_add, J_sub, J_mul, J_neg, J_ltc, J_lec, J_eqc, lt_T, lt_F, le_T, le_F, eq_T, eq_F, ↓reduceIte, ite_not, not_true_eq_false, not_false_eq_true, true_or, or_true, false_or, or_false, true_and, and_true, false_and, and_false, up_get, Nat.reduceEqDiff, Int.reduceNeg, eqN_T, eqN_F]
        exact D
theorem q_askM_f (hs : Sk S) (M0 : RulM m0 y g) (R : Rrul ln sp kd nm bg so g) {T : Nat} (hT : ∀ k : Int, 0 ≤ k → k < 7 → m0 143 k = if T.testBit k.toNat = true then 1 else 0) {p : Int} (p0 : 0 ≤ p) (p1 : p < 16) (a2 V : Int32) (h0 : Bool) (hh : m0 139 (1120 + p) = if h0 = true then 0 else 1) : ∀ (k : Nat) (i : Int) (m : Nat → Int → Int), 0 ≤ i → i + k = 5 → (∀ b x, b ≠ 144 → m b x = m0 b x) → (∀ x : Int, 0 ≤ x → x < i → m 144 x = 0) → ∃ m', De (fun n => f_X11_ask n 84 [.ref 136, .int (J p), .int a2, .int V, .int (J i)] (hp S m q)) (.inl (some (.int (if (h0 || anS g T fz 3 (g 0).toNat) = true then V else J 0)))) (hp S m' q) ∧ ∀ b x, b ≠ 144 → b ≠ 145 → m' b x = m0 b x := by
  have r2 := R.2.1
  intro k
  induction k with
  | zero =>
    intro i m i0 hi F Z
    obtain ⟨m', D, F'⟩ := q_askM_l (q := q) (m0 := m) hs (M0.cg (m' := m) (F 136 6 (by decide)) (fun i => F 139 i (by decide))) R (T := T) (fc := fz) ⟨fun x x0 x1 => Z x x0 (by omega), fz_ok, fun k k0 k1 => (F 143 k (by decide)).trans (hT k k0 k1)⟩ (J p) a2 V h0 (g 0).toNat 0 m (by omega) (fun _ _ _ => rfl)
    refine ⟨m', ?_, fun b x h1 h2 => (F' b x h2).trans (F b x h1)⟩
    have hv : m 139 (1120 + p) = if h0 = true then 0 else 1 := (F 139 _ (by decide)).trans hh
    rw [anS, Bool.or_false] at D
    cases h0 with
    | true =>
      rw [if_pos rfl] at hv D
      refine De.cg 1 (fun n => ?_) D
      rw [j_X11_ask_84]
      simp (disch := omega) only [b_X11_ask_84, x136_k hs, x136_i0 hs, x136_w0 hs, x136_r1 hs, x136_r2 hs, x136_r3 hs, x136_r4 hs, x136_i5 hs, x136_w5 hs, x136_i6 hs, x136_w6 hs, x136_i7 hs, x136_w7 hs, x136_r8 hs, x136_i9 hs, x136_w9 hs, x136_i10 hs, x136_w10 hs, x136_i11 hs, x136_w11 hs, x136_i12 hs, x136_w12 hs, x136_i13 hs, x136_w13 hs, x136_i14 hs, x136_w14 hs, x136_r15 hs, x136_i16 hs, x136_w16 hs, x136_r17 hs, x136_r18 hs, x136_r19 hs, x136_r20 hs, x136_r21 hs, x136_i22 hs, x136_w22 hs, x136_r23 hs, x136_r24 hs, x136_i25 hs, x136_w25 hs, x136_i26 hs, x136_w26 hs, x136_r27 hs, x136_r28 hs, x136_i29 hs, x136_w29 hs, x139_g hs, x139_s hs, x139_l hs, hv, Option.bind_some, xI, xU, xUt, xIt, J_lit, J_add, J_sub, J_mul, J_neg, J_ltc, J_lec, J_eqc, lt_T, lt_F, le_T, le_F, eq_T, eq_F, ↓reduceIte, ite_not, not_true_eq_false, not_false_eq_true, true_or, or_true, false_or, or_false, true_and, and_true, false_and, and_false, up_get, Nat.reduceEqDiff, Int.reduceNeg, eqN_T, eqN_F]
      all_goals rfl
    | false =>
      rw [if_neg (by decide)] at hv D
      refine De.cg 1 (fun n => ?_) D
      rw [j_X11_ask_84]
      simp (disch := omega) only [b_X11_ask_84, x136_k hs, x136_i0 hs, x136_w0 hs, x136_r1 hs, x136_r2 hs, x136_r3 hs, x136_r4 hs, x136_i5 hs, x136_w5 hs, x136_i6 hs, x136_w6 hs, x136_i7 hs, x136_w7 hs, x136_r8 hs, x136_i9 hs, x136_w9 hs, x136_i10 hs, x136_w10 hs, x136_i11 hs, x136_w11 hs, x136_i12 hs, x136_w12 hs, x136_i13 hs, x136_w13 hs, x136_i14 hs, x136_w14 hs, x136_r15 hs, x136_i16 hs, x136_w16 hs, x136_r17 hs, x136_r18 hs, x136_r19 hs, x136_r20 hs, x136_r21 hs, x136_i22 hs, x136_w22 hs, x136_r23 hs, x136_r24 hs, x136_i25 hs, x136_w25 hs, x136_i26 hs, x136_w26 hs, x136_r27 hs, x136_r28 hs, x136_i29 hs, x136_w29 hs, x139_g hs, x139_s hs, x139_l hs, hv, Option.bind_some, xI, xU, xUt, xIt, J_lit, J_add, J_sub, J_mul, J_neg, J_ltc, J_lec, J_eqc, lt_T, lt_F, le_T, le_F, eq_T, eq_F, ↓reduceIte, ite_not, not_true_eq_false, not_false_eq_true, true_or, or_true, false_or, or_false, true_and, and_true, false_and, and_false, up_get, Nat.reduceEqDiff, Int.reduceNeg, eqN_T, eqN_F]
      all_goals rfl
  | succ k IH =>
    intro i m i0 hi F Z
    obtain ⟨m', D, F'⟩ := IH (i + 1) (up m 144 i 0) (by omega) (by omega) (fun c x h1 => by rw [up_a h1]; exact F c x h1) (fun x x0 x1 => by
      by_cases e : x = i
      · rw [e, up_at]
      · rw [up_i e]
        exact Z x x0 (by omega))
    refine ⟨m', De.cg 1 (fun n => ?_) D, F'⟩
    rw [j_X11_ask_84]
    simp (disch := omega) only [b_X11_ask_84, x136_k hs, x136_i0 hs, x136_w0 hs, x136_r1 hs, x136_r2 hs, x136_r3 hs, x136_r4 hs, x136_i5 hs, x136_w5 hs, x136_i6 hs, x136_w6 hs, x136_i7 hs, x136_w7 hs, x136_r8 hs, x136_i9 hs, x136_w9 hs, x136_i10 hs, x136_w10 hs, x136_i11 hs, x136_w11 hs, x136_i12 hs, x136_w12 hs, x136_i13 hs, x136_w13 hs, x136_i14 hs, x136_w14 hs, x136_r15 hs, x136_i16 hs, x136_w16 hs, x136_r17 hs, x136_r18 hs, x136_r19 hs, x136_r20 hs, x136_r21 hs, x136_i22 hs, x136_w22 hs, x136_r23 hs, x136_r24 hs, x136_i25 hs, x136_w25 hs, x136_i26 hs, x136_w26 hs, x136_r27 hs, x136_r28 hs, x136_i29 hs, x136_w29 hs, x144_g hs, x144_s hs, x144_l hs, Option.bind_some, xI, xU, xUt, xIt, J_lit, J_add, J_sub, J_mul, J_neg, J_ltc, J_lec, J_eqc, lt_T, lt_F, le_T, le_F, eq_T, eq_F, ↓reduceIte, ite_not, not_true_eq_false, not_false_eq_true, true_or, or_true, false_or, or_false, true_and, and_true, false_and, and_false, up_get, Nat.reduceEqDiff, Int.reduceNeg, eqN_T, eqN_F]
theorem q_askM (hs : Sk S) (M0 : RulM m0 y g) (R : Rrul ln sp kd nm bg so g) (hb : b = 0 ∨ b = 1) {p : Int} (p0 : 0 ≤ p) (p1 : p < 16) (V : Int32) (h0 : Bool) (hh : m0 139 (1120 + p) = if h0 = true then 0 else 1) : ∀ (k : Nat) (i : Int) (m : Nat → Int → Int), 0 ≤ i → i + k = 7 → (∀ b x, b ≠ 143 → m b x = m0 b x) → (∀ x : Int, 0 ≤ x → x < i → m 143 x = if (TK b).testBit x.toNat = true then 1 else 0) → ∃ m', De (fun n => f_X11_ask n 45 [.ref 136, .int (J p), .int (J b), .int V, .int (J i)] (hp S m q)) (.inl (some (.int (if (h0 || anS g (TK b) fz 3 (g 0).toNat) = true then V else J 0)))) (hp S m' q) ∧ Fr3 m0 m' := by
  intro k
  induction k with
  | zero =>
    intro i m i0 hi F Z
    obtain ⟨m', D, F'⟩ := q_askM_f (q := q) (m0 := m) hs (M0.cg (m' := m) (F 136 6 (by decide)) (fun i => F 139 i (by decide))) R (T := TK b) (fun x x0 x1 => Z x x0 (by omega)) p0 p1 (J b) V h0 ((F 139 _ (by decide)).trans hh) 5 0 m (by omega) (by omega) (fun _ _ _ => rfl) (fun x x0 x1 => absurd x1 (by omega))
    refine ⟨m', De.cg 1 (fun n => ?_) D, fun b x h1 h2 h3 => (F' b x h2 h3).trans (F b x h1)⟩
    rw [j_X11_ask_45]
    simp (disch := omega) only [b_X11_ask_45, Option.bind_some, xI, xU, xUt, xIt, J_lit, J_add, J_sub, J_mul, J_neg, J_ltc, J_lec, J_eqc, lt_T, lt_F, le_T, le_F, eq_T, eq_F, ↓reduceIte, ite_not, not_true_eq_false, not_false_eq_true, true_or, or_true, false_or, or_false, true_and, and_true, false_and, and_false, up_get, Nat.reduceEqDiff, Int.reduceNeg, eqN_T, eqN_F]
  | succ k IH =>
    intro i m i0 hi F Z
    have tb := TK_tb b i i0
    obtain ⟨m', D, F'⟩ := IH (i + 1) (up m 143 i (if decide (b = 1 ∧ i = 6) = true then 1 else 0)) (by omega) (by omega) (fun c x h1 => by rw [up_a h1]; exact F c x h1) (fun x x0 x1 => by
      by_cases e : x = i
      · rw [e, up_at, tb]
      · rw [up_i e]
        exact Z x x0 (by omega))
    refine ⟨m', De.cg 1 (fun n => ?_) D, F'⟩
    rw [j_X11_ask_45]
    by_cases c : i = 6
    · rcases hb with rfl | rfl
      · rw [decide_eq_false (show ¬ ((0 : Int) = 1 ∧ i = 6) by omega), if_neg (by decide)]
        simp (disch := omega) only [b_X11_ask_45, x136_k hs, x136_i0 hs, x136_w0 hs, x136_r1 hs, x136_r2 hs, x136_r3 hs, x136_r4 hs, x136_i5 hs, x136_w5 hs, x136_i6 hs, x136_w6 hs, x136_i7 hs, x136_w7 hs, x136_r8 hs, x136_i9 hs, x136_w9 hs, x136_i10 hs, x136_w10 hs, x136_i11 hs, x136_w11 hs, x136_i12 hs, x136_w12 hs, x136_i13 hs, x136_w13 hs, x136_i14 hs, x136_w14 hs, x136_r15 hs, x136_i16 hs, x136_w16 hs, x136_r17 hs, x136_r18 hs, x136_r19 hs, x136_r20 hs, x136_r21 hs, x136_i22 hs, x136_w22 hs, x136_r23 hs, x136_r24 hs, x136_i25 hs, x136_w25 hs, x136_i26 hs, x136_w26 hs, x136_r27 hs, x136_r28 hs, x136_i29 hs, x136_w29 hs, x143_g hs, x143_s hs, Option.bind_some, xI, xU, xUt, xIt, J_lit, J_add, J_sub, J_mul, J_neg, J_ltc, J_lec, J_eqc, lt_T, lt_F, le_T, le_F, eq_T, eq_F, ↓reduceIte, ite_not, not_true_eq_false, not_false_eq_true, true_or, or_true, false_or, or_false, true_and, and_true, false_and, and_false, up_get, Nat.reduceEqDiff, Int.reduceNeg, eqN_T, eqN_F]
      · rw [decide_eq_true (show ((1 : Int) = 1 ∧ i = 6) by omega), if_pos rfl]
        simp (disch := omega) only [b_X11_ask_45, x136_k hs, x136_i0 hs, x136_w0 hs, x136_r1 hs, x136_r2 hs, x136_r3 hs, x136_r4 hs, x136_i5 hs, x136_w5 hs, x136_i6 hs, x136_w6 hs, x136_i7 hs, x136_w7 hs, x136_r8 hs, x136_i9 hs, x136_w9 hs, x136_i10 hs, x136_w10 hs, x136_i11 hs, x136_w11 hs, x136_i12 hs, x136_w12 hs, x136_i13 hs, x136_w13 hs, x136_i14 hs, x136_w14 hs, x136_r15 hs, x136_i16 hs, x136_w16 hs, x136_r17 hs, x136_r18 hs, x136_r19 hs, x136_r20 hs, x136_r21 hs, x136_i22 hs, x136_w22 hs, x136_r23 hs, x136_r24 hs, x136_i25 hs, x136_w25 hs, x136_i26 hs, x136_w26 hs, x136_r27 hs, x136_r28 hs, x136_i29 hs, x136_w29 hs, x143_g hs, x143_s hs, Option.bind_some, xI, xU, xUt, xIt, J_lit, J_add, J_sub, J_mul, J_neg, J_ltc, J_lec, J_eqc, lt_T, lt_F, le_T, le_F, eq_T, eq_F, ↓reduceIte, ite_not, not_true_eq_false, not_false_eq_true, true_or, or_true, false_or, or_false, true_and, and_true, false_and, and_false, up_get, Nat.reduceEqDiff, Int.reduceNeg, eqN_T, eqN_F]
    · rw [decide_eq_false (show ¬ (b = 1 ∧ i = 6) by omega), if_neg (by decide)]
      simp (disch := omega) only [b_X11_ask_45, x136_k hs, x136_i0 hs, x136_w0 hs, x136_r1 hs, x136_r2 hs, x136_r3 hs, x136_r4 hs, x136_i5 hs, x136_w5 hs, x136_i6 hs, x136_w6 hs, x136_i7 hs, x136_w7 hs, x136_r8 hs, x136_i9 hs, x136_w9 hs, x136_i10 hs, x136_w10 hs, x136_i11 hs, x136_w11 hs, x136_i12 hs, x136_w12 hs, x136_i13 hs, x136_w13 hs, x136_i14 hs, x136_w14 hs, x136_r15 hs, x136_i16 hs, x136_w16 hs, x136_r17 hs, x136_r18 hs, x136_r19 hs, x136_r20 hs, x136_r21 hs, x136_i22 hs, x136_w22 hs, x136_r23 hs, x136_r24 hs, x136_i25 hs, x136_w25 hs, x136_i26 hs, x136_w26 hs, x136_r27 hs, x136_r28 hs, x136_i29 hs, x136_w29 hs, x143_g hs, x143_s hs, Option.bind_some, xI, xU, xUt, xIt, J_lit, J_add, J_sub, J_mul, J_neg, J_ltc, J_lec, J_eqc, lt_T, lt_F, le_T, le_F, eq_T, eq_F, ↓reduceIte, ite_not, not_true_eq_false, not_false_eq_true, true_or, or_true, false_or, or_false, true_and, and_true, false_and, and_false, up_get, Nat.reduceEqDiff, Int.reduceNeg, eqN_T, eqN_F]
end ASK
