/-! a tick, by both -/
def mbS (w g : Int → Int) (pa : Int) : Nat → (Int → Int) → (Int → Int)
  | 0, v => v
  | k + 1, v => mbS w g pa k (if v (1 + 5 * pa + 0) = v (1 + 5 * (w 0 - (k + 1 : Nat)) + 0) then mtS w g pa (w 0 - (k + 1 : Nat)) 2000 v 0 0 else v)
def msS (w g : Int → Int) : Nat → (Int → Int) → (Int → Int)
  | 0, v => v
  | k + 1, v => msS w g k (mbS w g (w 0 - (k + 1 : Nat)) k v)
def stS (w g : Int → Int) (l : Int) (v : Int → Int) : Int → Int := msS w g (w 0).toNat (fdS w (pcS w l v) (v 0 + 1))
/-- the indices of what a meeting never changes -/
def Fix (i : Int) : Prop := i < 51 ∧ ∀ p k : Int, 0 ≤ p → 1 ≤ k → k ≤ 4 → i ≠ 1 + 5 * p + k
section STEPS
variable {S : xH} {m m' m0 : Nat → Int → Int} {q q' : Nat → Int → Int64} {a r : Nat} {told l pa y ln sp : Int} {w v v' g kd nm bg so : Int → Int}
theorem VX.mb (R : Rrul ln sp kd nm bg so g) (a0 : 0 ≤ pa) (a1 : pa < w 0) : ∀ (k : Nat) (v : Int → Int), (k : Int) ≤ w 0 → VX told w v g → VX told w (mbS w g pa k v) g ∧ ∀ i : Int, Fix i → mbS w g pa k v i = v i
  | 0, v, _, X => ⟨X, fun _ _ => rfl⟩
  | k + 1, v, hk, X => by
    rw [mbS]
    by_cases c : v (1 + 5 * pa + 0) = v (1 + 5 * (w 0 - (k + 1 : Nat)) + 0)
    · rw [if_pos c]
      obtain ⟨X1, E1⟩ := VX.meet (pa := pa) (pb := w 0 - (k + 1 : Nat)) R a0 a1 (by omega) (by omega) 2000 v 0 0 X
      obtain ⟨X2, E2⟩ := VX.mb R a0 a1 k _ (by omega) X1
      exact ⟨X2, fun i h => (E2 i h).trans (E1 i h.1 h.2)⟩
    · rw [if_neg c]
      exact VX.mb R a0 a1 k v (by omega) X
theorem VX.ms (R : Rrul ln sp kd nm bg so g) : ∀ (k : Nat) (v : Int → Int), (k : Int) ≤ w 0 → VX told w v g → VX told w (msS w g k v) g ∧ ∀ i : Int, Fix i → msS w g k v i = v i
  | 0, v, _, X => ⟨X, fun _ _ => rfl⟩
  | k + 1, v, hk, X => by
    rw [msS]
    obtain ⟨X1, E1⟩ := VX.mb (pa := w 0 - (k + 1 : Nat)) R (by omega) (by omega) k v (by omega) X
    obtain ⟨X2, E2⟩ := VX.ms R k _ (by omega) X1
    exact ⟨X2, fun i h => (E2 i h).trans (E1 i h)⟩
theorem VX.step (R : Rrul ln sp kd nm bg so g) (X : VX told w v g) (K : Kok w l) (h4 : v 0 < 400) : VX told w (stS w g l v) g ∧ stS w g l v 0 = v 0 + 1 ∧ Rplc l w (stS w g l v) := by
  have W := X.wok
  have tw := W.1.2.1
  have tw0 := W.1.1
  have X1 := X.plc K h4
  have X2 := X1.dead
  rw [pcS_0 tw] at X2
  obtain ⟨X3, E3⟩ := VX.ms R (w 0).toNat _ (by omega) X2
  have e0 : stS w g l v 0 = v 0 + 1 := (E3 0 ⟨by decide, fun p k _ _ _ => by omega⟩).trans ((fdS_o (by omega)).trans (pcS_0 tw))
  refine ⟨X3, e0, fun p p0 p1 => ?_⟩
  rw [e0]
  exact (E3 (1 + 5 * p + 0) ⟨by omega, fun p k _ _ _ => by omega⟩).trans ((fdS_o (by omega)).trans (pcS_p p0 p1))
theorem q_step44 (a0 : 0 ≤ pa) (a1 : pa < w 0) (z : Int32) : ∀ (k : Nat) (m : Nat → Int → Int) (q : Nat → Int → Int64) (v : Int → Int), (k : Int) + pa + 1 ≤ w 0 → CX S m q a r told w v g → ∃ m' q', CX S m' q' a r told w (mbS w g pa k v) g ∧ (∀ b i, (b < a ∨ a + 22 ≤ b) → b ≠ r + 5 → ¬ (b = r ∧ i = 7) → m' b i = m b i) ∧ (∀ b, b ≠ a + 15 → b ≠ a + 20 → q' b = q b) ∧ ∀ {r' : xR} {P' : xH}, De (fun n => f_X1_step n 31 [.ref a, .ref 29, .int z, .int (J (pa + 1))] (hp S m' q')) r' P' → De (fun n => f_X1_step n 44 [.ref a, .ref 29, .int z, .int (J pa), .int (J (w 0 - k))] (hp S m q)) r' P' := by
  intro k
  induction k with
  | zero =>
    intro m q v hk C
    obtain ⟨⟨hs, hn, hr, r16, a46⟩, W, WC, NC, R⟩ := id C
    have tw := W.1.2.1
    have n3 : m a 3 = w 0 := NC.1.1
    refine ⟨m, q, C, fun _ _ _ _ _ => rfl, fun _ _ _ => rfl, fun D => ?_⟩
    refine De.step ?_
    simp only [j_X1_step_44]
    simp (disch := omega) only [b_X1_step_44, Net0_i3 hn, n3, Option.bind_some, xI, xU, xUt, xIt, J_lit, J_add, J_sub, J_mul, J_neg, J_ltc, J_lec, J_eqc, lt_T, lt_F, le_T, le_F, eq_T, eq_F, ↓reduceIte, ite_not, not_true_eq_false, not_false_eq_true, true_or, or_true, false_or, or_false, true_and, and_true, false_and, and_false, up_get, Nat.reduceEqDiff, Int.reduceNeg, eqN_T, eqN_F]
    exact D
  | succ k IH =>
    intro m q v hk C
    obtain ⟨⟨hs, hn, hr, r16, a46⟩, W, WC, NC, R⟩ := id C
    have tw := W.1.2.1
    have n3 : m a 3 = w 0 := NC.1.1
    have na := NC.2.1 pa a0 a1
    have nb := NC.2.1 (w 0 - (k + 1 : Nat)) (by omega) (by omega)
    have ea : m (a + 2) pa = v (1 + 5 * pa + 0) := na.1.1
    have eb : m (a + 2) (w 0 - (k + 1 : Nat)) = v (1 + 5 * (w 0 - (k + 1 : Nat)) + 0) := nb.1.1
    have va := NC.vok.2.1 pa a0 a1
    have vb := NC.vok.2.1 (w 0 - (k + 1 : Nat)) (by omega) (by omega)
    have ek : w 0 - (k + 1 : Nat) + 1 = w 0 - k := by omega
    by_cases c : v (1 + 5 * pa + 0) = v (1 + 5 * (w 0 - (k + 1 : Nat)) + 0)
    · obtain ⟨m1, q1, D1, C1, F1, G1⟩ := q_meetC (pb := w 0 - (k + 1 : Nat)) C a0 a1 (by omega) (by omega) (by omega)
      obtain ⟨m', q', C', F', G', S'⟩ := IH m1 q1 _ (by omega) C1
      refine ⟨m', q', by rw [mbS, if_pos c]; exact C', fun b i h1 h2 h3 => (F' b i h1 h2 h3).trans (F1 b i h1 h2 h3), fun b h1 h2 => (G' b h1 h2).trans (G1 b h1 h2), fun D => ?_⟩
      have Q := S' D
      rw [← ek] at Q
      refine De.step ?_
      simp only [j_X1_step_44]
      simp (disch := omega) only [b_X1_step_44, Net0_i3 hn, Net0_r5 hn, Net1_m0 hn, Net2_g hn, Net0_k hn, n3, ea, eb, c, Option.bind_some, xI, xU, xUt, xIt, J_lit, J_add, J_sub, J_mul, J_neg, J_ltc, J_lec, J_eqc, lt_T, lt_F, le_T, le_F, eq_T, eq_F, ↓reduceIte, ite_not, not_true_eq_false, not_false_eq_true, true_or, or_true, false_or, or_false, true_and, and_true, false_and, and_false, up_get, Nat.reduceEqDiff, Int.reduceNeg, eqN_T, eqN_F]
      refine De.call D1 ?_
      simp (disch := omega) only [Option.bind_some, xI, xU, xUt, xIt, J_lit, J_add, J_sub, J_mul, J_neg, J_ltc, J_lec, J_eqc, lt_T, lt_F, le_T, le_F, eq_T, eq_F, ↓reduceIte, ite_not, not_true_eq_false, not_false_eq_true, true_or, or_true, false_or, or_false, true_and, and_true, false_and, and_false, up_get, Nat.reduceEqDiff, Int.reduceNeg, eqN_T, eqN_F]
      exact Q
    · obtain ⟨m', q', C', F', G', S'⟩ := IH m q v (by omega) C
      refine ⟨m', q', by rw [mbS, if_neg c]; exact C', F', G', fun D => ?_⟩
      have Q := S' D
      rw [← ek] at Q
      refine De.step ?_
      simp only [j_X1_step_44]
      simp (disch := omega) only [b_X1_step_44, Net0_i3 hn, Net0_r5 hn, Net1_m0 hn, Net2_g hn, Net0_k hn, n3, ea, eb, Option.bind_some, xI, xU, xUt, xIt, J_lit, J_add, J_sub, J_mul, J_neg, J_ltc, J_lec, J_eqc, lt_T, lt_F, le_T, le_F, eq_T, eq_F, ↓reduceIte, ite_not, not_true_eq_false, not_false_eq_true, true_or, or_true, false_or, or_false, true_and, and_true, false_and, and_false, up_get, Nat.reduceEqDiff, Int.reduceNeg, eqN_T, eqN_F]
      exact Q
theorem q_step31 (z : Int32) : ∀ (k : Nat) (m : Nat → Int → Int) (q : Nat → Int → Int64) (v : Int → Int), (k : Int) ≤ w 0 → CX S m q a r told w v g → ∃ m' q', De (fun n => f_X1_step n 31 [.ref a, .ref 29, .int z, .int (J (w 0 - k))] (hp S m q)) (.inl none) (hp S m' q') ∧ CX S m' q' a r told w (msS w g k v) g ∧ (∀ b i, (b < a ∨ a + 22 ≤ b) → b ≠ r + 5 → ¬ (b = r ∧ i = 7) → m' b i = m b i) ∧ ∀ b, b ≠ a + 15 → b ≠ a + 20 → q' b = q b := by
  intro k
  induction k with
  | zero =>
    intro m q v hk C
    obtain ⟨⟨hs, hn, hr, r16, a46⟩, W, WC, NC, R⟩ := id C
    have tw := W.1.2.1
    have n3 : m a 3 = w 0 := NC.1.1
    refine ⟨m, q, ?_, C, fun _ _ _ _ _ => rfl, fun _ _ _ => rfl⟩
    refine De.step ?_
    simp only [j_X1_step_31]
    simp (disch := omega) only [b_X1_step_31, Net0_i3 hn, n3, Option.bind_some, xI, xU, xUt, xIt, J_lit, J_add, J_sub, J_mul, J_neg, J_ltc, J_lec, J_eqc, lt_T, lt_F, le_T, le_F, eq_T, eq_F, ↓reduceIte, ite_not, not_true_eq_false, not_false_eq_true, true_or, or_true, false_or, or_false, true_and, and_true, false_and, and_false, up_get, Nat.reduceEqDiff, Int.reduceNeg, eqN_T, eqN_F]
    exact De.ret _ _
  | succ k IH =>
    intro m q v hk C
    obtain ⟨⟨hs, hn, hr, r16, a46⟩, W, WC, NC, R⟩ := id C
    have tw := W.1.2.1
    have n3 : m a 3 = w 0 := NC.1.1
    have ek : w 0 - (k + 1 : Nat) + 1 = w 0 - k := by omega
    obtain ⟨m1, q1, C1, F1, G1, S1⟩ := q_step44 (pa := w 0 - (k + 1 : Nat)) (by omega) (by omega) z k m q v (by omega) C
    obtain ⟨m', q', D', C', F', G'⟩ := IH m1 q1 _ (by omega) C1
    rw [ek] at S1
    have Q := S1 D'
    rw [← ek] at Q
    refine ⟨m', q', ?_, C', fun b i h1 h2 h3 => (F' b i h1 h2 h3).trans (F1 b i h1 h2 h3), fun b h1 h2 => (G' b h1 h2).trans (G1 b h1 h2)⟩
    refine De.step ?_
    simp only [j_X1_step_31]
    simp (disch := omega) only [b_X1_step_31, Net0_i3 hn, n3, Option.bind_some, xI, xU, xUt, xIt, J_lit, J_add, J_sub, J_mul, J_neg, J_ltc, J_lec, J_eqc, lt_T, lt_F, le_T, le_F, eq_T, eq_F, ↓reduceIte, ite_not, not_true_eq_false, not_false_eq_true, true_or, or_true, false_or, or_false, true_and, and_true, false_and, and_false, up_get, Nat.reduceEqDiff, Int.reduceNeg, eqN_T, eqN_F]
    exact Q
theorem q_stepC (C : CX S m q a r told w v g) (KC : WkC m w) (PL : Rplc l w v) (l0 : 0 ≤ l) (l1 : l < 4) (h4 : v 0 < 400) : ∃ m' q', De (fun n => f_X1_step n 0 [.ref a, .ref 29, .int (J l)] (hp S m q)) (.inl none) (hp S m' q') ∧ CX S m' q' a r told w (stS w g l v) g ∧ (∀ b i, (b < a ∨ a + 22 ≤ b) → b ≠ r + 5 → ¬ (b = r ∧ i = 7) → m' b i = m b i) ∧ ∀ b, b ≠ a + 15 → b ≠ a + 20 → q' b = q b := by
  obtain ⟨⟨hs, hn, hr, r16, a46⟩, W, WC, NC, R⟩ := id C
  have tw := W.1.2.1
  have tw0 := W.1.1
  have v1 := NC.vok.1
  have n2 : m a 2 = v 0 := NC.1.2.1
  have K := KC.kok l0 l1
  obtain ⟨m1, D1, F1, G1⟩ := q_walk (q := q) (m := up m a 2 (v 0 + 1)) (l := l) (t := v 0 + 1) hs hn a46 (KC.cg (fun b i h1 h2 => up_a (by omega))) tw l0 l1 (by omega) (by omega)
  have C1 : CX S m1 q a r told w (pcS w l v) g := C.plc K h4 (fun p p0 p1 => by
    have e : up m a 2 (v 0 + 1) (a + 2) p = plcA w l p (v 0 + 1 - 1) := by
      rw [up_a (by omega)]
      have z : m (a + 2) p = v (1 + 5 * p + 0) := (NC.2.1 p p0 p1).1.1
      rw [z, PL p p0 p1]
      congr 1
      omega
    rw [G1 p p0 (by omega), e, plcA_wk l0]) ((F1 _ _ (by omega)).trans (up_at _ _ _ _)) (fun b i h1 h2 => (F1 b i h1).trans (if_neg h2))
  obtain ⟨m2, D2, C2, F2⟩ := q_forgC C1
  rw [pcS_0 tw] at C2
  obtain ⟨m3, q3, D3, C3, F3, G3⟩ := q_step31 (J l) (w 0).toNat m2 q _ (by omega) C2
  rw [show w 0 - ((w 0).toNat : Int) = 0 by omega] at D3
  refine ⟨m3, q3, ?_, C3, fun b i h1 h2 h3 => (F3 b i h1 h2 h3).trans ((F2 b i (by omega) (by omega) (by omega)).trans ((F1 b i (by omega)).trans (up_a (by omega)))), G3⟩
  refine De.step ?_
  simp only [j_X1_step_0]
  simp (disch := omega) only [b_X1_step_0, Net0_i2 hn, Net0_w2 hn, Net0_r5 hn, Net1_m0 hn, x29_k hs, x29_r0 hs, x29_r1 hs, x29_r2 hs, x29_r3 hs, n2, Option.bind_some, xI, xU, xUt, xIt, J_lit, J_add, J_sub, J_mul, J_neg, J_ltc, J_lec, J_eqc, lt_T, lt_F, le_T, le_F, eq_T, eq_F, ↓reduceIte, ite_not, not_true_eq_false, not_false_eq_true, true_or, or_true, false_or, or_false, true_and, and_true, false_and, and_false, up_get, Nat.reduceEqDiff, Int.reduceNeg, eqN_T, eqN_F]
  refine De.call D1 ?_
  simp (disch := omega) only [Net0_k hn, Option.bind_some, xI, xU, xUt, xIt, J_lit, J_add, J_sub, J_mul, J_neg, J_ltc, J_lec, J_eqc, lt_T, lt_F, le_T, le_F, eq_T, eq_F, ↓reduceIte, ite_not, not_true_eq_false, not_false_eq_true, true_or, or_true, false_or, or_false, true_and, and_true, false_and, and_false, up_get, Nat.reduceEqDiff, Int.reduceNeg, eqN_T, eqN_F]
  refine De.call D2 ?_
  simp (disch := omega) only [Option.bind_some, xI, xU, xUt, xIt, J_lit, J_add, J_sub, J_mul, J_neg, J_ltc, J_lec, J_eqc, lt_T, lt_F, le_T, le_F, eq_T, eq_F, ↓reduceIte, ite_not, not_true_eq_false, not_false_eq_true, true_or, or_true, false_or, or_false, true_and, and_true, false_and, and_false, up_get, Nat.reduceEqDiff, Int.reduceNeg, eqN_T, eqN_F]
  exact D3
theorem q_goes120 (hs : Sk S) (R : Rrul ln sp kd nm bg so g) (a0 : 0 ≤ pa) (a1 : pa < w 0) : ∀ (k : Nat) (m : Nat → Int → Int), (k : Int) + pa + 1 ≤ w 0 → m 139 = w → VX told w (m 137) g → RulM m y g → ∃ m', m' 137 = mbS w g pa k (m 137) ∧ Fr5 m m' ∧ ∀ {r' : xR} {P' : xH}, De (fun n => f_X11_goesOn n 108 [.ref 136, .int (J (pa + 1))] (hp S m' q)) r' P' → De (fun n => f_X11_goesOn n 120 [.ref 136, .int (J pa), .int (J (w 0 - k))] (hp S m q)) r' P' := by
  intro k
  induction k with
  | zero =>
    intro m hk e9 X M
    have tw := X.wok.1.2.1
    refine ⟨m, rfl, fun _ _ _ _ _ _ _ => rfl, fun D => ?_⟩
    refine De.step ?_
    simp only [j_X11_goesOn_120]
    simp (disch := omega) only [b_X11_goesOn_120, x136_k hs, x136_i0 hs, x136_w0 hs, x136_r1 hs, x136_r2 hs, x136_r3 hs, x136_r4 hs, x136_i5 hs, x136_w5 hs, x136_i6 hs, x136_w6 hs, x136_i7 hs, x136_w7 hs, x136_r8 hs, x136_i9 hs, x136_w9 hs, x136_i10 hs, x136_w10 hs, x136_i11 hs, x136_w11 hs, x136_i12 hs, x136_w12 hs, x136_i13 hs, x136_w13 hs, x136_i14 hs, x136_w14 hs, x136_r15 hs, x136_i16 hs, x136_w16 hs, x136_r17 hs, x136_r18 hs, x136_r19 hs, x136_r20 hs, x136_r21 hs, x136_i22 hs, x136_w22 hs, x136_r23 hs, x136_r24 hs, x136_i25 hs, x136_w25 hs, x136_i26 hs, x136_w26 hs, x136_r27 hs, x136_r28 hs, x136_i29 hs, x136_w29 hs, Option.bind_some]
    refine De.call (d_phones hs) ?_
    simp (disch := omega) only [e9, Option.bind_some, xI, xU, xUt, xIt, J_lit, J_add, J_sub, J_mul, J_neg, J_ltc, J_lec, J_eqc, lt_T, lt_F, le_T, le_F, eq_T, eq_F, ↓reduceIte, ite_not, not_true_eq_false, not_false_eq_true, true_or, or_true, false_or, or_false, true_and, and_true, false_and, and_false, up_get, Nat.reduceEqDiff, Int.reduceNeg, eqN_T, eqN_F]
    exact D
  | succ k IH =>
    intro m hk e9 X M
    have tw := X.wok.1.2.1
    have va := X.vok.2.1 pa a0 a1
    have vb := X.vok.2.1 (w 0 - (k + 1 : Nat)) (by omega) (by omega)
    have ek : w 0 - (k + 1 : Nat) + 1 = w 0 - k := by omega
    by_cases c : m 137 (1 + 5 * pa + 0) = m 137 (1 + 5 * (w 0 - (k + 1 : Nat)) + 0)
    · obtain ⟨m1, D1, A1, F1⟩ := q_meetM (q := q) (m := m) (pa := pa) (pb := w 0 - (k + 1 : Nat)) (told := told) hs R a0 (by rw [e9]; exact a1) (by omega) (by rw [e9]; omega) (by omega) (by rw [e9]; exact X) M
      rw [e9] at A1
      have X1 := (VX.meet (pa := pa) (pb := w 0 - (k + 1 : Nat)) R a0 a1 (by omega) (by omega) 2000 (m 137) 0 0 X).1
      obtain ⟨m', A', F', S'⟩ := IH m1 (by omega) ((F1.row (by decide) (by decide) (by decide) (by decide) (by decide)).trans e9) (by rw [A1]; exact X1) (M.cg (F1 136 6 (by decide) (by decide) (by decide) (by decide) (by decide)) (fun i => F1 139 i (by decide) (by decide) (by decide) (by decide) (by decide)))
      refine ⟨m', by rw [A', A1, mbS, if_pos c], F1.tr F', fun D => ?_⟩
      have Q := S' D
      rw [← ek] at Q
      refine De.step ?_
      simp only [j_X11_goesOn_120]
      simp (disch := omega) only [b_X11_goesOn_120, x136_k hs, x136_i0 hs, x136_w0 hs, x136_r1 hs, x136_r2 hs, x136_r3 hs, x136_r4 hs, x136_i5 hs, x136_w5 hs, x136_i6 hs, x136_w6 hs, x136_i7 hs, x136_w7 hs, x136_r8 hs, x136_i9 hs, x136_w9 hs, x136_i10 hs, x136_w10 hs, x136_i11 hs, x136_w11 hs, x136_i12 hs, x136_w12 hs, x136_i13 hs, x136_w13 hs, x136_i14 hs, x136_w14 hs, x136_r15 hs, x136_i16 hs, x136_w16 hs, x136_r17 hs, x136_r18 hs, x136_r19 hs, x136_r20 hs, x136_r21 hs, x136_i22 hs, x136_w22 hs, x136_r23 hs, x136_r24 hs, x136_i25 hs, x136_w25 hs, x136_i26 hs, x136_w26 hs, x136_r27 hs, x136_r28 hs, x136_i29 hs, x136_w29 hs, Option.bind_some]
      refine De.call (d_phones hs) ?_
      simp (disch := omega) only [e9, x136_k hs, x136_i0 hs, x136_w0 hs, x136_r1 hs, x136_r2 hs, x136_r3 hs, x136_r4 hs, x136_i5 hs, x136_w5 hs, x136_i6 hs, x136_w6 hs, x136_i7 hs, x136_w7 hs, x136_r8 hs, x136_i9 hs, x136_w9 hs, x136_i10 hs, x136_w10 hs, x136_i11 hs, x136_w11 hs, x136_i12 hs, x136_w12 hs, x136_i13 hs, x136_w13 hs, x136_i14 hs, x136_w14 hs, x136_r15 hs, x136_i16 hs, x136_w16 hs, x136_r17 hs, x136_r18 hs, x136_r19 hs, x136_r20 hs, x136_r21 hs, x136_i22 hs, x136_w22 hs, x136_r23 hs, x136_r24 hs, x136_i25 hs, x136_w25 hs, x136_i26 hs, x136_w26 hs, x136_r27 hs, x136_r28 hs, x136_i29 hs, x136_w29 hs, Option.bind_some, xI, xU, xUt, xIt, J_lit, J_add, J_sub, J_mul, J_neg, J_ltc, J_lec, J_eqc, lt_T, lt_F, le_T, le_F, eq_T, eq_F, ↓reduceIte, ite_not, not_true_eq_false, not_false_eq_true, true_or, or_true, false_or, or_false, true_and, and_true, false_and, and_false, up_get, Nat.reduceEqDiff, Int.reduceNeg, eqN_T, eqN_F]
      refine De.call (d_phoneAt pa 0 _) ?_
      simp (disch := omega) only [x136_k hs, x136_i0 hs, x136_w0 hs, x136_r1 hs, x136_r2 hs, x136_r3 hs, x136_r4 hs, x136_i5 hs, x136_w5 hs, x136_i6 hs, x136_w6 hs, x136_i7 hs, x136_w7 hs, x136_r8 hs, x136_i9 hs, x136_w9 hs, x136_i10 hs, x136_w10 hs, x136_i11 hs, x136_w11 hs, x136_i12 hs, x136_w12 hs, x136_i13 hs, x136_w13 hs, x136_i14 hs, x136_w14 hs, x136_r15 hs, x136_i16 hs, x136_w16 hs, x136_r17 hs, x136_r18 hs, x136_r19 hs, x136_r20 hs, x136_r21 hs, x136_i22 hs, x136_w22 hs, x136_r23 hs, x136_r24 hs, x136_i25 hs, x136_w25 hs, x136_i26 hs, x136_w26 hs, x136_r27 hs, x136_r28 hs, x136_i29 hs, x136_w29 hs, x137_g hs, x137_s hs, x137_l hs, Option.bind_some, xI, xU, xUt, xIt, J_lit, J_add, J_sub, J_mul, J_neg, J_ltc, J_lec, J_eqc, lt_T, lt_F, le_T, le_F, eq_T, eq_F, ↓reduceIte, ite_not, not_true_eq_false, not_false_eq_true, true_or, or_true, false_or, or_false, true_and, and_true, false_and, and_false, up_get, Nat.reduceEqDiff, Int.reduceNeg, eqN_T, eqN_F]
      refine De.call (d_phoneAt (w 0 - (k + 1 : Nat)) 0 _) ?_
      simp (disch := omega) only [x136_k hs, x136_i0 hs, x136_w0 hs, x136_r1 hs, x136_r2 hs, x136_r3 hs, x136_r4 hs, x136_i5 hs, x136_w5 hs, x136_i6 hs, x136_w6 hs, x136_i7 hs, x136_w7 hs, x136_r8 hs, x136_i9 hs, x136_w9 hs, x136_i10 hs, x136_w10 hs, x136_i11 hs, x136_w11 hs, x136_i12 hs, x136_w12 hs, x136_i13 hs, x136_w13 hs, x136_i14 hs, x136_w14 hs, x136_r15 hs, x136_i16 hs, x136_w16 hs, x136_r17 hs, x136_r18 hs, x136_r19 hs, x136_r20 hs, x136_r21 hs, x136_i22 hs, x136_w22 hs, x136_r23 hs, x136_r24 hs, x136_i25 hs, x136_w25 hs, x136_i26 hs, x136_w26 hs, x136_r27 hs, x136_r28 hs, x136_i29 hs, x136_w29 hs, x137_g hs, x137_s hs, x137_l hs, c, Option.bind_some, xI, xU, xUt, xIt, J_lit, J_add, J_sub, J_mul, J_neg, J_ltc, J_lec, J_eqc, lt_T, lt_F, le_T, le_F, eq_T, eq_F, ↓reduceIte, ite_not, not_true_eq_false, not_false_eq_true, true_or, or_true, false_or, or_false, true_and, and_true, false_and, and_false, up_get, Nat.reduceEqDiff, Int.reduceNeg, eqN_T, eqN_F]
      refine De.call D1 ?_
      simp (disch := omega) only [Option.bind_some, xI, xU, xUt, xIt, J_lit, J_add, J_sub, J_mul, J_neg, J_ltc, J_lec, J_eqc, lt_T, lt_F, le_T, le_F, eq_T, eq_F, ↓reduceIte, ite_not, not_true_eq_false, not_false_eq_true, true_or, or_true, false_or, or_false, true_and, and_true, false_and, and_false, up_get, Nat.reduceEqDiff, Int.reduceNeg, eqN_T, eqN_F]
      exact Q
    · obtain ⟨m', A', F', S'⟩ := IH m (by omega) e9 X M
      refine ⟨m', by rw [A', mbS, if_neg c], F', fun D => ?_⟩
      have Q := S' D
      rw [← ek] at Q
      refine De.step ?_
      simp only [j_X11_goesOn_120]
      simp (disch := omega) only [b_X11_goesOn_120, x136_k hs, x136_i0 hs, x136_w0 hs, x136_r1 hs, x136_r2 hs, x136_r3 hs, x136_r4 hs, x136_i5 hs, x136_w5 hs, x136_i6 hs, x136_w6 hs, x136_i7 hs, x136_w7 hs, x136_r8 hs, x136_i9 hs, x136_w9 hs, x136_i10 hs, x136_w10 hs, x136_i11 hs, x136_w11 hs, x136_i12 hs, x136_w12 hs, x136_i13 hs, x136_w13 hs, x136_i14 hs, x136_w14 hs, x136_r15 hs, x136_i16 hs, x136_w16 hs, x136_r17 hs, x136_r18 hs, x136_r19 hs, x136_r20 hs, x136_r21 hs, x136_i22 hs, x136_w22 hs, x136_r23 hs, x136_r24 hs, x136_i25 hs, x136_w25 hs, x136_i26 hs, x136_w26 hs, x136_r27 hs, x136_r28 hs, x136_i29 hs, x136_w29 hs, Option.bind_some]
      refine De.call (d_phones hs) ?_
      simp (disch := omega) only [e9, x136_k hs, x136_i0 hs, x136_w0 hs, x136_r1 hs, x136_r2 hs, x136_r3 hs, x136_r4 hs, x136_i5 hs, x136_w5 hs, x136_i6 hs, x136_w6 hs, x136_i7 hs, x136_w7 hs, x136_r8 hs, x136_i9 hs, x136_w9 hs, x136_i10 hs, x136_w10 hs, x136_i11 hs, x136_w11 hs, x136_i12 hs, x136_w12 hs, x136_i13 hs, x136_w13 hs, x136_i14 hs, x136_w14 hs, x136_r15 hs, x136_i16 hs, x136_w16 hs, x136_r17 hs, x136_r18 hs, x136_r19 hs, x136_r20 hs, x136_r21 hs, x136_i22 hs, x136_w22 hs, x136_r23 hs, x136_r24 hs, x136_i25 hs, x136_w25 hs, x136_i26 hs, x136_w26 hs, x136_r27 hs, x136_r28 hs, x136_i29 hs, x136_w29 hs, Option.bind_some, xI, xU, xUt, xIt, J_lit, J_add, J_sub, J_mul, J_neg, J_ltc, J_lec, J_eqc, lt_T, lt_F, le_T, le_F, eq_T, eq_F, ↓reduceIte, ite_not, not_true_eq_false, not_false_eq_true, true_or, or_true, false_or, or_false, true_and, and_true, false_and, and_false, up_get, Nat.reduceEqDiff, Int.reduceNeg, eqN_T, eqN_F]
      refine De.call (d_phoneAt pa 0 _) ?_
      simp (disch := omega) only [x136_k hs, x136_i0 hs, x136_w0 hs, x136_r1 hs, x136_r2 hs, x136_r3 hs, x136_r4 hs, x136_i5 hs, x136_w5 hs, x136_i6 hs, x136_w6 hs, x136_i7 hs, x136_w7 hs, x136_r8 hs, x136_i9 hs, x136_w9 hs, x136_i10 hs, x136_w10 hs, x136_i11 hs, x136_w11 hs, x136_i12 hs, x136_w12 hs, x136_i13 hs, x136_w13 hs, x136_i14 hs, x136_w14 hs, x136_r15 hs, x136_i16 hs, x136_w16 hs, x136_r17 hs, x136_r18 hs, x136_r19 hs, x136_r20 hs, x136_r21 hs, x136_i22 hs, x136_w22 hs, x136_r23 hs, x136_r24 hs, x136_i25 hs, x136_w25 hs, x136_i26 hs, x136_w26 hs, x136_r27 hs, x136_r28 hs, x136_i29 hs, x136_w29 hs, x137_g hs, x137_s hs, x137_l hs, Option.bind_some, xI, xU, xUt, xIt, J_lit, J_add, J_sub, J_mul, J_neg, J_ltc, J_lec, J_eqc, lt_T, lt_F, le_T, le_F, eq_T, eq_F, ↓reduceIte, ite_not, not_true_eq_false, not_false_eq_true, true_or, or_true, false_or, or_false, true_and, and_true, false_and, and_false, up_get, Nat.reduceEqDiff, Int.reduceNeg, eqN_T, eqN_F]
      refine De.call (d_phoneAt (w 0 - (k + 1 : Nat)) 0 _) ?_
      simp (disch := omega) only [x136_k hs, x136_i0 hs, x136_w0 hs, x136_r1 hs, x136_r2 hs, x136_r3 hs, x136_r4 hs, x136_i5 hs, x136_w5 hs, x136_i6 hs, x136_w6 hs, x136_i7 hs, x136_w7 hs, x136_r8 hs, x136_i9 hs, x136_w9 hs, x136_i10 hs, x136_w10 hs, x136_i11 hs, x136_w11 hs, x136_i12 hs, x136_w12 hs, x136_i13 hs, x136_w13 hs, x136_i14 hs, x136_w14 hs, x136_r15 hs, x136_i16 hs, x136_w16 hs, x136_r17 hs, x136_r18 hs, x136_r19 hs, x136_r20 hs, x136_r21 hs, x136_i22 hs, x136_w22 hs, x136_r23 hs, x136_r24 hs, x136_i25 hs, x136_w25 hs, x136_i26 hs, x136_w26 hs, x136_r27 hs, x136_r28 hs, x136_i29 hs, x136_w29 hs, x137_g hs, x137_s hs, x137_l hs, Option.bind_some, xI, xU, xUt, xIt, J_lit, J_add, J_sub, J_mul, J_neg, J_ltc, J_lec, J_eqc, lt_T, lt_F, le_T, le_F, eq_T, eq_F, ↓reduceIte, ite_not, not_true_eq_false, not_false_eq_true, true_or, or_true, false_or, or_false, true_and, and_true, false_and, and_false, up_get, Nat.reduceEqDiff, Int.reduceNeg, eqN_T, eqN_F]
      exact Q
theorem q_goes108 (hs : Sk S) (R : Rrul ln sp kd nm bg so g) : ∀ (k : Nat) (m : Nat → Int → Int), (k : Int) ≤ w 0 → m 139 = w → VX told w (m 137) g → RulM m y g → ∃ m', De (fun n => f_X11_goesOn n 108 [.ref 136, .int (J (w 0 - k))] (hp S m q)) (.inl none) (hp S m' q) ∧ m' 137 = msS w g k (m 137) ∧ Fr5 m m' := by
  intro k
  induction k with
  | zero =>
    intro m hk e9 X M
    have tw := X.wok.1.2.1
    refine ⟨m, ?_, rfl, fun _ _ _ _ _ _ _ => rfl⟩
    refine De.step ?_
    simp only [j_X11_goesOn_108]
    simp (disch := omega) only [b_X11_goesOn_108, x136_k hs, x136_i0 hs, x136_w0 hs, x136_r1 hs, x136_r2 hs, x136_r3 hs, x136_r4 hs, x136_i5 hs, x136_w5 hs, x136_i6 hs, x136_w6 hs, x136_i7 hs, x136_w7 hs, x136_r8 hs, x136_i9 hs, x136_w9 hs, x136_i10 hs, x136_w10 hs, x136_i11 hs, x136_w11 hs, x136_i12 hs, x136_w12 hs, x136_i13 hs, x136_w13 hs, x136_i14 hs, x136_w14 hs, x136_r15 hs, x136_i16 hs, x136_w16 hs, x136_r17 hs, x136_r18 hs, x136_r19 hs, x136_r20 hs, x136_r21 hs, x136_i22 hs, x136_w22 hs, x136_r23 hs, x136_r24 hs, x136_i25 hs, x136_w25 hs, x136_i26 hs, x136_w26 hs, x136_r27 hs, x136_r28 hs, x136_i29 hs, x136_w29 hs, Option.bind_some]
    refine De.call (d_phones hs) ?_
    simp (disch := omega) only [e9, Option.bind_some, xI, xU, xUt, xIt, J_lit, J_add, J_sub, J_mul, J_neg, J_ltc, J_lec, J_eqc, lt_T, lt_F, le_T, le_F, eq_T, eq_F, ↓reduceIte, ite_not, not_true_eq_false, not_false_eq_true, true_or, or_true, false_or, or_false, true_and, and_true, false_and, and_false, up_get, Nat.reduceEqDiff, Int.reduceNeg, eqN_T, eqN_F]
    exact De.ret _ _
  | succ k IH =>
    intro m hk e9 X M
    have tw := X.wok.1.2.1
    have ek : w 0 - (k + 1 : Nat) + 1 = w 0 - k := by omega
    obtain ⟨m1, A1, F1, S1⟩ := q_goes120 (q := q) (pa := w 0 - (k + 1 : Nat)) hs R (by omega) (by omega) k m (by omega) e9 X M
    have X1 := (VX.mb (pa := w 0 - (k + 1 : Nat)) R (by omega) (by omega) k (m 137) (by omega) X).1
    obtain ⟨m', D', A', F'⟩ := IH m1 (by omega) ((F1.row (by decide) (by decide) (by decide) (by decide) (by decide)).trans e9) (by rw [A1]; exact X1) (M.cg (F1 136 6 (by decide) (by decide) (by decide) (by decide) (by decide)) (fun i => F1 139 i (by decide) (by decide) (by decide) (by decide) (by decide)))
    rw [ek] at S1
    have Q := S1 D'
    rw [← ek] at Q
    refine ⟨m', ?_, by rw [A', A1, msS], F1.tr F'⟩
    refine De.step ?_
    simp only [j_X11_goesOn_108]
    simp (disch := omega) only [b_X11_goesOn_108, x136_k hs, x136_i0 hs, x136_w0 hs, x136_r1 hs, x136_r2 hs, x136_r3 hs, x136_r4 hs, x136_i5 hs, x136_w5 hs, x136_i6 hs, x136_w6 hs, x136_i7 hs, x136_w7 hs, x136_r8 hs, x136_i9 hs, x136_w9 hs, x136_i10 hs, x136_w10 hs, x136_i11 hs, x136_w11 hs, x136_i12 hs, x136_w12 hs, x136_i13 hs, x136_w13 hs, x136_i14 hs, x136_w14 hs, x136_r15 hs, x136_i16 hs, x136_w16 hs, x136_r17 hs, x136_r18 hs, x136_r19 hs, x136_r20 hs, x136_r21 hs, x136_i22 hs, x136_w22 hs, x136_r23 hs, x136_r24 hs, x136_i25 hs, x136_w25 hs, x136_i26 hs, x136_w26 hs, x136_r27 hs, x136_r28 hs, x136_i29 hs, x136_w29 hs, Option.bind_some]
    refine De.call (d_phones hs) ?_
    simp (disch := omega) only [e9, Option.bind_some, xI, xU, xUt, xIt, J_lit, J_add, J_sub, J_mul, J_neg, J_ltc, J_lec, J_eqc, lt_T, lt_F, le_T, le_F, eq_T, eq_F, ↓reduceIte, ite_not, not_true_eq_false, not_false_eq_true, true_or, or_true, false_or, or_false, true_and, and_true, false_and, and_false, up_get, Nat.reduceEqDiff, Int.reduceNeg, eqN_T, eqN_F]
    exact Q
theorem q_goesM (hs : Sk S) (R : Rrul ln sp kd nm bg so g) (X : VX told (m 139) (m 137) g) (M : RulM m y g) (K : Kok (m 139) l) (hl : m 136 7 = l) (l0 : 0 ≤ l) (l1 : l < 4) (h4 : m 137 0 < 400) : ∃ m', De (fun n => f_X11_goesOn n 0 [.ref 136] (hp S m q)) (.inl none) (hp S m' q) ∧ m' 137 = stS (m 139) g l (m 137) ∧ Fr5 m m' := by
  have W := X.wok
  have tw := W.1.2.1
  have tw0 := W.1.1
  have w1 := W.2.1
  have v1 := X.vok.1
  have X1 := X.plc K h4
  obtain ⟨m1, G1, F1, S1⟩ := q_goes12 (q := q) (m0 := m) (v := m 137) (l := l) hs K hl l0 l1 v1.1 h4 ⟨tw0, tw⟩ (m 139 0).toNat 0 (up m 137 0 (m 137 0 + 1)) (by omega) (fun b z h => up_a h) (row_up _ _ _ _)
  have e9 : m1 139 = m 139 := funext fun z => F1 139 z (by decide)
  have p0 := pcS_0 (l := l) (v := m 137) tw
  obtain ⟨m2, G2, F2, S2⟩ := q_goes47 (q := q) (m0 := m1) (v := pcS (m 139) l (m 137)) hs W X1.vok (m 139 0).toNat 0 m1 (by omega) e9 (fun _ _ _ => rfl) G1
  rw [loC_fd X1.vok ⟨tw0, tw⟩ w1, p0] at G2
  have X2 := X1.dead
  rw [p0] at X2
  have f9 : m2 139 = m 139 := (funext fun z => F2 139 z (by decide)).trans e9
  obtain ⟨m3, D3, G3, F3⟩ := q_goes108 (q := q) (w := m 139) hs R (m 139 0).toNat m2 (by omega) f9 (by rw [G2]; exact X2) (M.cg ((F2 136 6 (by decide)).trans (F1 136 6 (by decide))) (fun i => congrFun f9 i))
  rw [show m 139 0 - ((m 139 0).toNat : Int) = 0 by omega] at D3
  refine ⟨m3, ?_, by rw [G3, G2, stS], fun b i h1 h2 h3 h4 h5 => (F3 b i h1 h2 h3 h4 h5).trans ((F2 b i h1).trans (F1 b i h1))⟩
  have Q := S1 (S2 D3)
  refine De.step ?_
  simp only [j_X11_goesOn_0]
  simp (disch := omega) only [b_X11_goesOn_0, x136_k hs, x136_i0 hs, x136_w0 hs, x136_r1 hs, x136_r2 hs, x136_r3 hs, x136_r4 hs, x136_i5 hs, x136_w5 hs, x136_i6 hs, x136_w6 hs, x136_i7 hs, x136_w7 hs, x136_r8 hs, x136_i9 hs, x136_w9 hs, x136_i10 hs, x136_w10 hs, x136_i11 hs, x136_w11 hs, x136_i12 hs, x136_w12 hs, x136_i13 hs, x136_w13 hs, x136_i14 hs, x136_w14 hs, x136_r15 hs, x136_i16 hs, x136_w16 hs, x136_r17 hs, x136_r18 hs, x136_r19 hs, x136_r20 hs, x136_r21 hs, x136_i22 hs, x136_w22 hs, x136_r23 hs, x136_r24 hs, x136_i25 hs, x136_w25 hs, x136_i26 hs, x136_w26 hs, x136_r27 hs, x136_r28 hs, x136_i29 hs, x136_w29 hs, x137_g hs, x137_s hs, x137_l hs, Option.bind_some, xI, xU, xUt, xIt, J_lit, J_add, J_sub, J_mul, J_neg, J_ltc, J_lec, J_eqc, lt_T, lt_F, le_T, le_F, eq_T, eq_F, ↓reduceIte, ite_not, not_true_eq_false, not_false_eq_true, true_or, or_true, false_or, or_false, true_and, and_true, false_and, and_false, up_get, Nat.reduceEqDiff, Int.reduceNeg, eqN_T, eqN_F]
  exact Q
end STEPS
