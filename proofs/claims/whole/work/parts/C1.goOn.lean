/-! a tick of the town, by the class; ticks, by the reference -/
def stW (w v : Int → Int) : Int → Int := fun i => if 1938 ≤ i ∧ i < 4239 then v (i - 1938) else w i
def tk0 (w v : Int → Int) : Int → Int := if v 0 = 0 then stW w v else w
def alS (w v : Int → Int) : Int := psum (fun p => cntw v p (w 1).toNat) (w 0).toNat
def tkV (g w v : Int → Int) : Int → Int := stS (tk0 w v) g 0 v
def tkW (g w v : Int → Int) : Int → Int := ups (ups (tk0 w v) (1136 + 2 * (v 0 + 1)) (alS (tk0 w v) (tkV g w v))) (1136 + 2 * (v 0 + 1) + 1) (alS (tk0 w v) (tkV g w v))
/-- what holds of the dawn behind the first tick -/
def DwB (N : Nat → Int → Int) (D : Nat → Int → Int64) (w : Int → Int) : Prop := w 1938 = 0 ∧ (∀ p : Int, 0 ≤ p → p < w 0 → w (1938 + (1 + 5 * p + 0)) = w (11 + 3 * p + 0)) ∧ ∃ told, Rnet N D told w (fun k => w (1938 + k)) ∧ ∀ x : Int, 0 ≤ x → x < w 1 → (x < told ↔ w (761 + 10 * x + 2) = 0)
def TKi (S : xH) (m : Nat → Int → Int) (q : Nat → Int → Int64) (w v g : Int → Int) : Prop := CX S m q 46 10 (w 1) w v g ∧ WkC m w ∧ Rplc 0 w v ∧ Rrow (m 90 2) (m 91) (m 92) w v ∧ Rdwn (fun o => m (68 + o)) (fun o => q (68 + o)) w v ∧ (v 0 = 0 → ∀ x : Int, 0 ≤ x → x < w 1 → w (761 + 10 * x + 2) = 0)
section GOON
variable {S : xH} {m m' m0 : Nat → Int → Int} {q q' : Nat → Int → Int64} {told : Int} {w w' v v' g : Int → Int}
theorem stW_o {i : Int} (h : i < 1938 ∨ 4239 ≤ i) : stW w v i = w i := if_neg (by omega)
theorem stW_k {k : Int} (k0 : 0 ≤ k) (k1 : k < 2301) : stW w v (1938 + k) = v k := by
  rw [stW, if_pos (by omega), show 1938 + k - 1938 = k by omega]
theorem tk0_o {i : Int} (h : i < 1938 ∨ 4239 ≤ i) : tk0 w v i = w i := by
  unfold tk0
  split
  · exact stW_o h
  · rfl
theorem tkW_o {i : Int} (h : i < 1938 ∨ 4239 ≤ i) (h1 : i ≠ 1136 + 2 * (v 0 + 1)) (h2 : i ≠ 1136 + 2 * (v 0 + 1) + 1) : tkW g w v i = w i := by
  unfold tkW
  rw [ups_ne h2, ups_ne h1, tk0_o h]
theorem psum_30 {f : Int → Int} : ∀ n : Nat, (∀ i : Int, 0 ≤ i → i < n → 0 ≤ f i ∧ f i ≤ 30) → 0 ≤ psum f n ∧ psum f n ≤ 30 * n
  | 0, _ => by simp [psum]
  | n + 1, h => by
    have ih := psum_30 (f := f) n (fun i a b => h i a (by omega))
    have z := h n (by omega) (by omega)
    rw [psum]
    omega
theorem alS_in (w0 : 0 ≤ w 0 ∧ w 0 ≤ 10) (w1 : 0 ≤ w 1 ∧ w 1 ≤ 30) : 0 ≤ alS w v ∧ alS w v ≤ 300 := by
  have := psum_30 (f := fun p => cntw v p (w 1).toNat) (w 0).toNat (fun i _ _ => by have := cntw_in v i (w 1).toNat; omega)
  unfold alS
  omega
theorem alS_eq {N : Int → Int} (V : Vok told w v) (tw : w 0 ≤ 10) (w1 : w 1 ≤ 30) (h : ∀ p : Int, 0 ≤ p → p < w 0 → N p = cntw v p 30) : psum N (w 0).toNat = alS w v := psum_congr _ (fun i i0 i1 => by
  have v1 := V.1
  rw [h i i0 (by omega)]
  have := cntw_stop (v := v) (p := i) (w 1).toNat (30 - (w 1).toNat) (fun x a b z => by
    have := ((V.2.2 i x i0 (by omega) (by omega) (by omega)).2 z).1
    omega)
  rw [show (w 1).toNat + (30 - (w 1).toNat) = 30 by omega] at this
  exact this)
theorem DwB.wd {N : Nat → Int → Int} {D : Nat → Int → Int64} (h : DwB N D w) (tw : w 0 ≤ 10) (w1 : w 1 ≤ 30) (e : ∀ i, i < 1136 → w' i = w i) (e2 : ∀ i, 1938 ≤ i → i < 4239 → w' i = w i) : DwB N D w' := by
  obtain ⟨h1, h2, told, h3, h4⟩ := h
  have n1 := h3.1
  refine ⟨(e2 _ (by decide) (by decide)).trans h1, fun p p0 p1 => ?_, told, Rnet.congr h3 tw (fun i _ _ => rfl) (fun o _ _ => rfl) (fun o _ _ => rfl) (e 0 (by decide)) (by rw [e 1 (by decide)]; omega) (fun i _ _ => e i (by omega)) (fun i _ _ => e2 _ (by omega) (by omega)) (by omega), fun x x0 x1 => ?_⟩
  · rw [e 0 (by decide)] at p1
    rw [e2 _ (by omega) (by omega), e _ (by omega)]
    exact h2 p p0 p1
  · rw [e 1 (by decide)] at x1
    rw [e _ (by omega)]
    exact h4 x x0 x1
theorem DwB.cg {N N' : Nat → Int → Int} {D D' : Nat → Int → Int64} (h : DwB N D w) (tw : w 0 ≤ 10) (w1 : w 1 ≤ 30) (ea : ∀ i : Int, 2 ≤ i → i ≤ 4 → N' 0 i = N 0 i) (e1 : ∀ o, 2 ≤ o → o ≤ 19 → N' o = N o) (e2 : ∀ o, 15 ≤ o → o ≤ 20 → D' o = D o) : DwB N' D' w := by
  obtain ⟨h1, h2, told, h3, h4⟩ := h
  have n1 := h3.1
  exact ⟨h1, h2, told, Rnet.congr h3 tw ea e1 e2 rfl (Int.le_refl _) (fun i _ _ => rfl) (fun i _ _ => rfl) (by omega), h4⟩
theorem CX.cg {a r : Nat} (C : CX S m q a r told w v g) (F : ∀ b i, (b < 29 ∨ (a ≤ b ∧ b < a + 22)) → m' b i = m b i) (G : ∀ b, a ≤ b → b < a + 22 → q' b = q b) : CX S m' q' a r told w v g := by
  obtain ⟨⟨hs, hn, hr, r16, a46⟩, W, WC, NC, R⟩ := C
  have w1 := W.2.1
  have n1 := NC.1
  exact ⟨⟨hs, hn, hr, r16, a46⟩, W, WC.cg (fun b i _ _ => F b i (by omega)), Rnet.congr NC W.1.2.1 (fun i _ _ => F _ _ (by omega)) (fun o _ _ => funext fun i => F _ _ (by omega)) (fun o _ _ => G _ (by omega) (by omega)) rfl (Int.le_refl _) (fun i _ _ => rfl) (fun i _ _ => rfl) (by omega), R.cg (F _ _ (by omega)) (F _ _ (by omega)) (fun b i _ _ => F b i (by omega))⟩
theorem VX.wd (X : VX told w v g) (e : ∀ i, i < 1136 → w' i = w i) : VX told w' v g := by
  obtain ⟨S, m, q, a, r, C⟩ := X
  exact ⟨S, m, q, a, r, C.wd e⟩
theorem Kok.wd {l : Int} (K : Kok w l) (l0 : 0 ≤ l) (l1 : l < 4) (e : ∀ i, i < 1136 → w' i = w i) : Kok w' l := by
  obtain ⟨k1, k2, k3⟩ := K
  unfold Kok
  rw [e (2 + l) (by omega), e 0 (by decide)]
  refine ⟨k1, k2, fun k k0 k4 => ?_⟩
  rw [e _ (by omega), e _ (by omega), e _ (by omega)]
  exact k3 k k0 k4
/-- what a tick of the class may change -/
def FrT (m m' : Nat → Int → Int) : Prop := ∀ b i, (b < 46 ∨ 93 ≤ b) → b ≠ 15 → ¬ (b = 10 ∧ i = 7) → m' b i = m b i
def FrQ (q q' : Nat → Int → Int64) : Prop := ∀ b, b ≠ 61 → b ≠ 66 → b ≠ 83 → b ≠ 88 → q' b = q b
theorem nbQ_ne {a b c : Nat} (h1 : c ≠ a + 15) (h2 : c ≠ a + 20) : nbQ q a b c = q c := funext fun i => by
  unfold nbQ
  rw [cpq, if_neg (fun z => h2 z.1), cpq, if_neg (fun z => h1 z.1)]
theorem q_dawn (hs : Sk S) (T : TKi S m q w v g) : ∃ m1 q1, (∀ {r' : xR} {P' : xH}, De (fun n => f_X7_goOn n 21 [.ref 9] (hp S m1 q1)) r' P' → De (fun n => f_X7_goOn n 0 [.ref 9] (hp S m q)) r' P') ∧ CX S m1 q1 46 10 (w 1) (tk0 w v) v g ∧ WkC m1 (tk0 w v) ∧ Rplc 0 (tk0 w v) v ∧ Rrow (m1 90 2) (m1 91) (m1 92) (tk0 w v) v ∧ DwB (fun o => m1 (68 + o)) (fun o => q1 (68 + o)) (tk0 w v) ∧ FrT m m1 ∧ FrQ q q1 := by
  obtain ⟨C, KC, PL, RR, DW, T0⟩ := T
  obtain ⟨⟨-, hn, hr, r16, a46⟩, W, WC, NC, R⟩ := id C
  have tw := W.1.2.1
  have w1 := W.2.1
  have v1 := NC.vok.1
  have n2 : m 46 2 = v 0 := NC.1.2.1
  have K := KC.kok (l := 0) (by decide) (by decide)
  have eo : ∀ i, i < 1136 → tk0 w v i = w i := fun i h => tk0_o (by omega)
  by_cases c : v 0 = 0
  · have D := q_netBecome (m := m) (q := q) hs.Net68 hs.Net46 (by omega)
    have F : ∀ b i, (b < 68 ∨ 90 ≤ b) → nbM m 68 46 b i = m b i := fun b i h => nbM_out (by omega)
    have G : ∀ b, (b < 68 ∨ 90 ≤ b) → nbQ q 68 46 b = q b := fun b h => nbQ_out (by omega)
    have f2 : nbM m 68 46 91 = m 91 := funext fun i => F _ _ (by decide)
    have f3 : nbM m 68 46 92 = m 92 := funext fun i => F _ _ (by decide)
    have n2' : m 46 2 = 0 := n2.trans c
    have et : tk0 w v = stW w v := if_pos c
    refine ⟨nbM m 68 46, nbQ q 68 46, fun E => ?_, (C.wd eo).cg (fun b i h => F b i (by omega)) (fun b h1 h2 => G b (by omega)), (KC.wd eo).cg (fun b i h1 h2 => F b i (by omega)), PL.w tw (by decide) (by decide) K.2.1 (eo 0 (by decide)) (fun i _ _ => eo i (by omega)) (fun i _ _ => eo i (by omega)) (fun i _ _ => eo i (by omega)) (fun i _ _ => rfl), ?_, ?_, fun b i h1 h2 h3 => F b i (by omega), fun b h1 h2 h3 h4 => ?_⟩
    · refine De.step ?_
      simp only [j_X7_goOn_0]
      simp (disch := omega) only [b_X7_goOn_0, x9_k hs, x9_r0 hs, x9_r1 hs, x9_r2 hs, x9_r3 hs, x9_r4 hs, x9_r5 hs, x9_r6 hs, x9_r7 hs, x9_i8 hs, x9_w8 hs, x9_i9 hs, x9_w9 hs, x46_k hs, x46_r0 hs, x46_r1 hs, x46_i2 hs, x46_w2 hs, x46_i3 hs, x46_w3 hs, x46_i4 hs, x46_w4 hs, x46_r5 hs, x46_r6 hs, x46_r7 hs, x46_r8 hs, x46_r9 hs, x46_r10 hs, x46_r11 hs, x46_r12 hs, x46_r13 hs, x46_i14 hs, x46_w14 hs, x46_i15 hs, x46_w15 hs, x46_i16 hs, x46_w16 hs, x68_k hs, x68_r0 hs, x68_r1 hs, x68_i2 hs, x68_w2 hs, x68_i3 hs, x68_w3 hs, x68_i4 hs, x68_w4 hs, x68_r5 hs, x68_r6 hs, x68_r7 hs, x68_r8 hs, x68_r9 hs, x68_r10 hs, x68_r11 hs, x68_r12 hs, x68_r13 hs, x68_i14 hs, x68_w14 hs, x68_i15 hs, x68_w15 hs, x68_i16 hs, x68_w16 hs, n2', Option.bind_some, xI, xU, xUt, xIt, J_lit, J_add, J_sub, J_mul, J_neg, J_ltc, J_lec, J_eqc, lt_T, lt_F, le_T, le_F, eq_T, eq_F, ↓reduceIte, ite_not, not_true_eq_false, not_false_eq_true, true_or, or_true, false_or, or_false, true_and, and_true, false_and, and_false, up_get, Nat.reduceEqDiff, Int.reduceNeg, eqN_T, eqN_F]
      refine De.call D ?_
      simp (disch := omega) only [Option.bind_some, xI, xU, xUt, xIt, J_lit, J_add, J_sub, J_mul, J_neg, J_ltc, J_lec, J_eqc, lt_T, lt_F, le_T, le_F, eq_T, eq_F, ↓reduceIte, ite_not, not_true_eq_false, not_false_eq_true, true_or, or_true, false_or, or_false, true_and, and_true, false_and, and_false, up_get, Nat.reduceEqDiff, Int.reduceNeg, eqN_T, eqN_F]
      exact E
    · rw [F 90 2 (by decide), f2, f3]
      exact RR.w (fun i _ _ => tk0_o (by omega)) rfl (by omega)
    · rw [et]
      have B := Rnet.become (a := 68) (b := 46) NC (by omega) tw w1.2
      refine ⟨(stW_k (k := 0) (by decide) (by decide)).trans c, fun p p0 p1 => ?_, w 1, Rnet.congr B tw (fun i _ _ => rfl) (fun o _ _ => rfl) (fun o _ _ => rfl) (stW_o (by decide)) (by rw [stW_o (by decide)]; exact Int.le_refl _) (fun i _ _ => stW_o (by omega)) (fun i i0 i1 => stW_k i0 i1) w1.2, fun x x0 x1 => ?_⟩
      · rw [stW_o (by decide)] at p1
        rw [stW_k (by omega) (by omega), stW_o (by omega), PL p p0 p1, c, plcA_0 K.1 (fun k k0 k1 => (K.2.2 k k0 k1).2.1.1)]
      · rw [stW_o (by decide)] at x1
        rw [stW_o (by omega)]
        exact ⟨fun _ => T0 c x x0 x1, fun _ => x1⟩
    · exact nbQ_ne (by omega) (by omega)
  · have et : tk0 w v = w := if_neg c
    rw [et]
    refine ⟨m, q, fun E => ?_, C, KC, PL, RR, DW (by omega), fun _ _ _ _ _ => rfl, fun _ _ _ _ _ => rfl⟩
    refine De.step ?_
    simp only [j_X7_goOn_0]
    simp (disch := omega) only [b_X7_goOn_0, x9_k hs, x9_r0 hs, x9_r1 hs, x9_r2 hs, x9_r3 hs, x9_r4 hs, x9_r5 hs, x9_r6 hs, x9_r7 hs, x9_i8 hs, x9_w8 hs, x9_i9 hs, x9_w9 hs, x46_k hs, x46_r0 hs, x46_r1 hs, x46_i2 hs, x46_w2 hs, x46_i3 hs, x46_w3 hs, x46_i4 hs, x46_w4 hs, x46_r5 hs, x46_r6 hs, x46_r7 hs, x46_r8 hs, x46_r9 hs, x46_r10 hs, x46_r11 hs, x46_r12 hs, x46_r13 hs, x46_i14 hs, x46_w14 hs, x46_i15 hs, x46_w15 hs, x46_i16 hs, x46_w16 hs, x68_k hs, x68_r0 hs, x68_r1 hs, x68_i2 hs, x68_w2 hs, x68_i3 hs, x68_w3 hs, x68_i4 hs, x68_w4 hs, x68_r5 hs, x68_r6 hs, x68_r7 hs, x68_r8 hs, x68_r9 hs, x68_r10 hs, x68_r11 hs, x68_r12 hs, x68_r13 hs, x68_i14 hs, x68_w14 hs, x68_i15 hs, x68_w15 hs, x68_i16 hs, x68_w16 hs, n2, Option.bind_some, xI, xU, xUt, xIt, J_lit, J_add, J_sub, J_mul, J_neg, J_ltc, J_lec, J_eqc, lt_T, lt_F, le_T, le_F, eq_T, eq_F, ↓reduceIte, ite_not, not_true_eq_false, not_false_eq_true, true_or, or_true, false_or, or_false, true_and, and_true, false_and, and_false, up_get, Nat.reduceEqDiff, Int.reduceNeg, eqN_T, eqN_F]
    exact E
theorem tkV_st (X : VX told w v g) {ln sp : Int} {kd nm bg so : Int → Int} (R : Rrul ln sp kd nm bg so g) (K : Kok w 0) (h4 : v 0 < 400) : VX told (tk0 w v) (tkV g w v) g ∧ tkV g w v 0 = v 0 + 1 ∧ Rplc 0 (tk0 w v) (tkV g w v) := by
  have eo : ∀ i, i < 1136 → tk0 w v i = w i := fun i h => tk0_o (by omega)
  exact VX.step R (X.wd eo) (K.wd (by decide) (by decide) eo) h4
theorem q_goOn (hs : Sk S) (T : TKi S m q w v g) (h4 : v 0 < 400) : ∃ m' q', De (fun n => f_X7_goOn n 0 [.ref 9] (hp S m q)) (.inl none) (hp S m' q') ∧ TKi S m' q' (tkW g w v) (tkV g w v) g ∧ FrT m m' ∧ FrQ q q' := by
  obtain ⟨m1, q1, S1, C1, KC1, PL1, RR1, DB1, F1, G1⟩ := q_dawn hs T
  have W := C1.2.1
  have tw := W.1.2.1
  have tw0 := W.1.1
  have w1 := W.2.1
  have NC1 := C1.2.2.2.1
  have v1 := NC1.vok.1
  have RC := T.1.2.2.2.2
  have X : VX (w 1) w v g := ⟨_, _, _, _, _, T.1⟩
  obtain ⟨X2, e0, PL2⟩ := tkV_st X RC (T.2.1.kok (by decide) (by decide)) h4
  obtain ⟨m2, q2, D2, C2, F2, G2⟩ := q_stepC (l := 0) C1 KC1 PL1 (by decide) (by decide) h4
  have C2' : CX S m2 q2 46 10 (w 1) (tk0 w v) (tkV g w v) g := C2
  have NC2 := C2'.2.2.2.1
  have n3 : m2 46 3 = tk0 w v 0 := NC2.1.1
  have DT := q_total2 (q := q2) (m := m2) hs (by omega) (tk0 w v 0).toNat (by omega)
  have az := alS_eq (N := m2 50) NC2.vok tw w1.2 (fun p p0 p1 => (NC2.2.2.1 p p0 (by omega)).1)
  rw [az] at DT
  have ai := alS_in (v := tkV g w v) ⟨tw0, tw⟩ w1
  have k90 : m2 90 2 = min 8 (v 0) := (F2 90 2 (by omega) (by decide) (by decide)).trans RR1.1
  obtain ⟨m3, D3, F3, H2, H3⟩ := q_rowAdd (q := q2) (m := m2) (z := alS (tk0 w v) (tkV g w v)) hs k90 (by omega) (by omega)
  rw [← k90] at H2 H3
  have eo : ∀ i, i < 1136 → tkW g w v i = tk0 w v i := fun i h => by
    unfold tkW
    rw [ups_ne (by omega), ups_ne (by omega)]
  have eo2 : ∀ i, 1938 ≤ i → tkW g w v i = tk0 w v i := fun i h => by
    unfold tkW
    rw [ups_ne (by omega), ups_ne (by omega)]
  have e1 : tkW g w v 1 = w 1 := (eo 1 (by decide)).trans (tk0_o (by decide))
  have K := KC1.kok (l := 0) (by decide) (by decide)
  have k91 : m2 91 = m1 91 := funext fun i => F2 _ i (by omega) (by decide) (by omega)
  have k92 : m2 92 = m1 92 := funext fun i => F2 _ i (by omega) (by decide) (by omega)
  have RR2 : Rrow (m2 90 2) (m2 91) (m2 92) (tk0 w v) v := by
    rw [k91, k92, F2 90 2 (by omega) (by decide) (by decide)]
    exact RR1
  refine ⟨m3, q2, S1 ?_, ⟨?_, ?_, ?_, ?_, ?_, ?_⟩, fun b i h1 h2 h3 => (F3 b i (by omega) (by omega) (by omega)).trans ((F2 b i (by omega) (by omega) (by omega)).trans (F1 b i h1 h2 h3)), fun b h1 h2 h3 h4 => (G2 b (by omega) (by omega)).trans (G1 b h1 h2 h3 h4)⟩
  · refine De.step ?_
    simp only [j_X7_goOn_21]
    simp (disch := omega) only [b_X7_goOn_21, x9_k hs, x9_r0 hs, x9_r1 hs, x9_r2 hs, x9_r3 hs, x9_r4 hs, x9_r5 hs, x9_r6 hs, x9_r7 hs, x9_i8 hs, x9_w8 hs, x9_i9 hs, x9_w9 hs, x46_k hs, x46_r0 hs, x46_r1 hs, x46_i2 hs, x46_w2 hs, x46_i3 hs, x46_w3 hs, x46_i4 hs, x46_w4 hs, x46_r5 hs, x46_r6 hs, x46_r7 hs, x46_r8 hs, x46_r9 hs, x46_r10 hs, x46_r11 hs, x46_r12 hs, x46_r13 hs, x46_i14 hs, x46_w14 hs, x46_i15 hs, x46_w15 hs, x46_i16 hs, x46_w16 hs, Option.bind_some, xI, xU, xUt, xIt, J_lit, J_add, J_sub, J_mul, J_neg, J_ltc, J_lec, J_eqc, lt_T, lt_F, le_T, le_F, eq_T, eq_F, ↓reduceIte, ite_not, not_true_eq_false, not_false_eq_true, true_or, or_true, false_or, or_false, true_and, and_true, false_and, and_false, up_get, Nat.reduceEqDiff, Int.reduceNeg, eqN_T, eqN_F]
    refine De.call D2 ?_
    simp (disch := omega) only [x9_k hs, x9_r0 hs, x9_r1 hs, x9_r2 hs, x9_r3 hs, x9_r4 hs, x9_r5 hs, x9_r6 hs, x9_r7 hs, x9_i8 hs, x9_w8 hs, x9_i9 hs, x9_w9 hs, x46_k hs, x46_r0 hs, x46_r1 hs, x46_i2 hs, x46_w2 hs, x46_i3 hs, x46_w3 hs, x46_i4 hs, x46_w4 hs, x46_r5 hs, x46_r6 hs, x46_r7 hs, x46_r8 hs, x46_r9 hs, x46_r10 hs, x46_r11 hs, x46_r12 hs, x46_r13 hs, x46_i14 hs, x46_w14 hs, x46_i15 hs, x46_w15 hs, x46_i16 hs, x46_w16 hs, Option.bind_some, xI, xU, xUt, xIt, J_lit, J_add, J_sub, J_mul, J_neg, J_ltc, J_lec, J_eqc, lt_T, lt_F, le_T, le_F, eq_T, eq_F, ↓reduceIte, ite_not, not_true_eq_false, not_false_eq_true, true_or, or_true, false_or, or_false, true_and, and_true, false_and, and_false, up_get, Nat.reduceEqDiff, Int.reduceNeg, eqN_T, eqN_F]
    refine De.call DT ?_
    simp (disch := omega) only [x90_k hs, x90_r0 hs, x90_r1 hs, x90_i2 hs, x90_w2 hs, Option.bind_some, xI, xU, xUt, xIt, J_lit, J_add, J_sub, J_mul, J_neg, J_ltc, J_lec, J_eqc, lt_T, lt_F, le_T, le_F, eq_T, eq_F, ↓reduceIte, ite_not, not_true_eq_false, not_false_eq_true, true_or, or_true, false_or, or_false, true_and, and_true, false_and, and_false, up_get, Nat.reduceEqDiff, Int.reduceNeg, eqN_T, eqN_F]
    refine De.call D3 ?_
    simp (disch := omega) only [Option.bind_some, xI, xU, xUt, xIt, J_lit, J_add, J_sub, J_mul, J_neg, J_ltc, J_lec, J_eqc, lt_T, lt_F, le_T, le_F, eq_T, eq_F, ↓reduceIte, ite_not, not_true_eq_false, not_false_eq_true, true_or, or_true, false_or, or_false, true_and, and_true, false_and, and_false, up_get, Nat.reduceEqDiff, Int.reduceNeg, eqN_T, eqN_F]
    exact De.ret _ _
  · rw [e1]
    exact (C2'.wd eo).cg (fun b i h => F3 b i (by omega) (by omega) (by omega)) (fun _ _ _ => rfl)
  · exact (KC1.wd eo).cg (fun b i h1 h2 => (F3 b i (by omega) (by omega) (by omega)).trans (F2 b i (by omega) (by omega) (by omega)))
  · exact PL2.w tw (by decide) (by decide) K.2.1 (eo 0 (by decide)) (fun i _ _ => eo i (by omega)) (fun i _ _ => eo i (by omega)) (fun i _ _ => eo i (by omega)) (fun i _ _ => rfl)
  · refine RR2.add v1.1 h4 e0 ai.1 ai.2 ?_ ?_ (fun i i0 i1 i2 i3 => ?_) H2 H3
    · unfold tkW
      rw [ups_ne (by omega), ups_at]
    · unfold tkW
      rw [ups_at]
    · unfold tkW
      rw [ups_ne i3, ups_ne i2]
  · intro _
    have f : ∀ b i, 68 ≤ b → b < 90 → m3 b i = m1 b i := fun b i h1 h2 => (F3 b i (by omega) (by omega) (by omega)).trans (F2 b i (by omega) (by omega) (by omega))
    exact (DB1.cg tw w1.2 (fun i _ _ => f _ _ (by omega) (by omega)) (fun o _ _ => funext fun i => f _ _ (by omega) (by omega)) (fun o _ _ => G2 _ (by omega) (by omega))).wd tw w1.2 eo (fun i h _ => eo2 i h)
  · intro h
    rw [e0] at h
    omega
end GOON
