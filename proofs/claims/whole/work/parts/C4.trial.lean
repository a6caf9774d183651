/-! a trial begins; words are told when they are due -/
def trS (S : xH) (r : Nat) : xH := (S.1, S.2.1, fun j => if j = 111 then .inr (1, [.ref 16, .ref r, .int 0, .int 0, .int 0, .ref 112, .ref 121, .ref 126, .ref 127, .ref 128, .ref 129, .ref 130, .ref 131, .ref 132, .int 0, .int 0, .int 0]) else S.2.2 j)
section TRS
variable {S : xH} {m m' : Nat → Int → Int} {q q' : Nat → Int → Int64} {r r' : Nat}
theorem trS_ne {j : Nat} (h : j ≠ 111) : (trS S r).2.2 j = S.2.2 j := if_neg h
theorem trS_at : (trS S r).2.2 111 = .inr (1, [.ref 16, .ref r, .int 0, .int 0, .int 0, .ref 112, .ref 121, .ref 126, .ref 127, .ref 128, .ref 129, .ref 130, .ref 131, .ref 132, .int 0, .int 0, .int 0]) := by
  unfold trS
  simp only [if_true]
theorem trS_tr : trS (trS S r) r' = trS S r' := by
  unfold trS
  refine congrArg (Prod.mk _) (congrArg (Prod.mk _) (funext fun j => ?_))
  by_cases e : j = 111
  · simp only [e, if_true]
  · simp only [e, if_false]
theorem trS_sk (h : Sk S) (hr : r = 2 ∨ r = 10) : Sk (trS S r) := by
  refine ⟨fun j h1 h2 h3 => (trS_ne h3).trans (h.1 j h1 h2 h3), ?_, r, hr, trS_at⟩
  obtain ⟨v, hv⟩ := h.2.1
  exact ⟨v, (trS_ne (by decide)).trans hv⟩
theorem trS_net (h : Sk S) : NetS (trS S r) 111 16 r := ⟨trS_at, (trS_ne (by decide)).trans (h.at 112), (trS_ne (by decide)).trans (h.at 113), (trS_ne (by decide)).trans (h.at 114), (trS_ne (by decide)).trans (h.at 115), (trS_ne (by decide)).trans (h.at 116), (trS_ne (by decide)).trans (h.at 117), (trS_ne (by decide)).trans (h.at 118), (trS_ne (by decide)).trans (h.at 119), (trS_ne (by decide)).trans (h.at 120), (trS_ne (by decide)).trans (h.at 121), (trS_ne (by decide)).trans (h.at 122), (trS_ne (by decide)).trans (h.at 123), (trS_ne (by decide)).trans (h.at 124), (trS_ne (by decide)).trans (h.at 125), (trS_ne (by decide)).trans (h.at 126), (trS_ne (by decide)).trans (h.at 127), (trS_ne (by decide)).trans (h.at 128), (trS_ne (by decide)).trans (h.at 129), (trS_ne (by decide)).trans (h.at 130), (trS_ne (by decide)).trans (h.at 131), (trS_ne (by decide)).trans (h.at 132)⟩
theorem trS_w (h : Sk S) : wV (hp S m q) 111 1 1 (.ref r) = some (hp (trS S r) m q) := by
  obtain ⟨r0, -, h111⟩ := h.2.2
  unfold wV
  rw [hp_cell, h111]
  show (if 1 = 1 ∧ 1 < (fillv (m 111) 0 _).length then some _ else none) = _
  rw [if_pos ⟨rfl, by rw [fillv_len]; simp only [List.length_cons]; omega⟩]
  refine congrArg some ?_
  unfold xput hp
  refine congrArg (Prod.mk _) (congrArg (Prod.mk _) (funext fun j => ?_))
  by_cases e : j = 111
  · subst e
    show (if 111 = 111 then _ else _) = mkc (m 111) (q 111) ((trS S r).2.2 111)
    rw [if_pos rfl, trS_at]
    rfl
  · show (if j = 111 then _ else _) = mkc (m j) (q j) ((trS S r).2.2 j)
    rw [if_neg e, trS_ne e]
theorem trS_kep (h : Rkep S m q) : Rkep (trS S r) m q := by
  unfold Rkep at *
  rw [trS_ne (by decide)]
  refine ⟨h.1, ?_⟩
  rcases h.2 with h | ⟨h1, K, k1, k2, k3, k4, k5, k6, k7, k8, k9, k10, k11, k12, k13⟩
  · exact Or.inl h
  · have es : ∀ o, (trS S r).2.2 (K + o) = S.2.2 (K + o) := fun o => trS_ne (by omega)
    refine Or.inr ⟨h1, K, k1, k2, k3, (es 0).trans k4, ?_, ?_, ?_, ?_, ?_, ?_, ?_, ?_, k13⟩
    · unfold RulS at *
      simp only [Nat.add_assoc] at *
      simp only [es]
      exact k5
    · unfold WrdS at *
      simp only [Nat.add_assoc] at *
      simp only [es]
      exact k6
    · unfold WlkS at *
      simp only [Nat.add_assoc] at *
      simp only [es]
      exact k7
    · unfold NetS at *
      simp only [Nat.add_assoc] at *
      simp only [es]
      exact k8
    · unfold NetS at *
      simp only [Nat.add_assoc] at *
      simp only [es]
      exact k9
    · unfold RowS at *
      simp only [Nat.add_assoc] at *
      simp only [es]
      exact k10
    · unfold ParS at *
      simp only [Nat.add_assoc] at *
      simp only [es]
      exact k11
    · unfold HelS at *
      simp only [Nat.add_assoc] at *
      simp only [es]
      exact k12
theorem InvM.tr (h : InvM S m q) : InvM (trS S r) m q := ⟨h.1, h.2.1, h.2.2.1, h.2.2.2.1, trS_kep h.2.2.2.2⟩
end TRS
/-- what the trial begins with -/
def v0S (w v : Int → Int) : Int → Int := if v 0 = 0 then v else fun k => w (1938 + k)
def LIN (told : Int) (w v : Int → Int) : Prop := ∀ x : Int, 0 ≤ x → x < w 1 → (x < told ↔ w (761 + 10 * x + 2) ≤ v 0)
def SRT (w : Int → Int) : Prop := ∀ x y : Int, 0 ≤ x → x ≤ y → y < w 1 → w (761 + 10 * x + 2) ≤ w (761 + 10 * y + 2)
section TRIAL
variable {S : xH} {m m' m0 : Nat → Int → Int} {q q' : Nat → Int → Int64} {a r : Nat} {told l : Int} {w v v' g : Int → Int} {ln sp : Int} {kd nm bg so : Int → Int}
theorem q_begin (hs : Sk S) (T : TKi S m q w v g) {g' : Int → Int} (hr : r = 2 ∨ r = 10) (RC : RulC m r g') : ∃ m1 q1 told, De (fun n => f_X10_beginTrial n 0 [.ref 0, .ref r] (hp S m q)) (.inl none) (hp (trS S r) m1 q1) ∧ CX (trS S r) m1 q1 111 r told w (v0S w v) g' ∧ LIN told w (v0S w v) ∧ (v0S w v 0 = 0 ∧ ∀ p : Int, 0 ≤ p → p < w 0 → v0S w v (1 + 5 * p + 0) = w (11 + 3 * p + 0)) ∧ (∀ b i, (b < 111 ∨ 133 ≤ b) → m1 b i = m b i) ∧ ∀ b, (b < 111 ∨ 133 ≤ b) → q1 b = q b := by
  obtain ⟨C, KC, PL, RR, DW, T0⟩ := T
  obtain ⟨⟨-, hn, hr10, r16, a46⟩, W, WC, NC, R⟩ := id C
  have tw := W.1.2.1
  have w1 := W.2.1
  have v1 := NC.vok.1
  have n2 : m 46 2 = v 0 := NC.1.2.1
  obtain ⟨rt, -, n111⟩ := hs.Net111
  have hs' := trS_sk (r := r) hs hr
  have hR : RulS (trS S r) r := by
    rcases hr with e | e
    · rw [e]
      rw [e] at hs'
      exact hs'.Rul2
    · rw [e]
      rw [e] at hs'
      exact hs'.Rul
  have mk : ∀ (src : Nat) (told : Int) (vs : Int → Int), src + 22 ≤ 111 → Rnet (fun o => m (src + o)) (fun o => q (src + o)) told w vs → told ≤ 30 → CX (trS S r) (nbM m 111 src) (nbQ q 111 src) 111 r told w vs g' := fun src told vs h1 h2 h3 => by
    refine ⟨⟨hs', trS_net hs, hR, by omega, by decide⟩, W, WC.cg (fun b i _ _ => nbM_out (by omega)), Rnet.become h2 (by omega) tw h3, RC.cg (nbM_out (by omega)) (nbM_out (by omega)) (fun b i _ _ => nbM_out (by omega))⟩
  by_cases c : v 0 = 0
  · have K := KC.kok (l := 0) (by decide) (by decide)
    have n2' : m 46 2 = 0 := n2.trans c
    have e : v0S w v = v := if_pos c
    rw [e]
    have D := q_netBecome (m := m) (q := q) n111 hs.Net46 (by omega)
    refine ⟨nbM m 111 46, nbQ q 111 46, w 1, ?_, mk 46 (w 1) v (by decide) NC w1.2, fun x x0 x1 => ⟨fun _ => by rw [T0 c x x0 x1]; omega, fun _ => x1⟩, ⟨c, fun p p0 p1 => ?_⟩, fun b i h => nbM_out (by omega), fun b h => nbQ_out (by omega)⟩
    · refine De.step ?_
      simp only [j_X10_beginTrial_0]
      simp (disch := omega) only [b_X10_beginTrial_0, x0_k hs, x0_r0 hs, x0_r1 hs, x0_r2 hs, x0_r3 hs, x9_k hs, x9_r0 hs, x9_r1 hs, x9_r2 hs, x9_r3 hs, x9_r4 hs, x9_r5 hs, x9_r6 hs, x9_r7 hs, x9_i8 hs, x9_w8 hs, x9_i9 hs, x9_w9 hs, x46_k hs, x46_r0 hs, x46_r1 hs, x46_i2 hs, x46_w2 hs, x46_i3 hs, x46_w3 hs, x46_i4 hs, x46_w4 hs, x46_r5 hs, x46_r6 hs, x46_r7 hs, x46_r8 hs, x46_r9 hs, x46_r10 hs, x46_r11 hs, x46_r12 hs, x46_r13 hs, x46_i14 hs, x46_w14 hs, x46_i15 hs, x46_w15 hs, x46_i16 hs, x46_w16 hs, n2', Option.bind_some, xI, xU, xUt, xIt, J_lit, J_add, J_sub, J_mul, J_neg, J_ltc, J_lec, J_eqc, lt_T, lt_F, le_T, le_F, eq_T, eq_F, ↓reduceIte, ite_not, not_true_eq_false, not_false_eq_true, true_or, or_true, false_or, or_false, true_and, and_true, false_and, and_false, up_get, Nat.reduceEqDiff, Int.reduceNeg, eqN_T, eqN_F]
      refine De.step ?_
      simp only [j_X10_beginTrial_34]
      simp (disch := omega) only [b_X10_beginTrial_34, Net0_k n111, Option.bind_some]
      refine De.call D ?_
      simp (disch := omega) only [x0_k hs, x0_r0 hs, x0_r1 hs, x0_r2 hs, x0_r3 hs, trS_w hs, Option.bind_some, xI, xU, xUt, xIt, J_lit, J_add, J_sub, J_mul, J_neg, J_ltc, J_lec, J_eqc, lt_T, lt_F, le_T, le_F, eq_T, eq_F, ↓reduceIte, ite_not, not_true_eq_false, not_false_eq_true, true_or, or_true, false_or, or_false, true_and, and_true, false_and, and_false, up_get, Nat.reduceEqDiff, Int.reduceNeg, eqN_T, eqN_F]
      exact De.ret _ _
    · rw [PL p p0 p1, c, plcA_0 K.1 (fun k k0 k1 => (K.2.2 k k0 k1).2.1.1)]
  · obtain ⟨d1, d2, told, d3, d4⟩ := DW (by omega)
    have n1 := d3.1
    have e : v0S w v = fun k => w (1938 + k) := if_neg c
    rw [e]
    have D := q_netBecome (m := m) (q := q) n111 hs.Net68 (by omega)
    refine ⟨nbM m 111 68, nbQ q 111 68, told, ?_, mk 68 told _ (by decide) d3 (by omega), fun x x0 x1 => ?_, ⟨d1, d2⟩, fun b i h => nbM_out (by omega), fun b h => nbQ_out (by omega)⟩
    · refine De.step ?_
      simp only [j_X10_beginTrial_0]
      simp (disch := omega) only [b_X10_beginTrial_0, x0_k hs, x0_r0 hs, x0_r1 hs, x0_r2 hs, x0_r3 hs, x9_k hs, x9_r0 hs, x9_r1 hs, x9_r2 hs, x9_r3 hs, x9_r4 hs, x9_r5 hs, x9_r6 hs, x9_r7 hs, x9_i8 hs, x9_w8 hs, x9_i9 hs, x9_w9 hs, x46_k hs, x46_r0 hs, x46_r1 hs, x46_i2 hs, x46_w2 hs, x46_i3 hs, x46_w3 hs, x46_i4 hs, x46_w4 hs, x46_r5 hs, x46_r6 hs, x46_r7 hs, x46_r8 hs, x46_r9 hs, x46_r10 hs, x46_r11 hs, x46_r12 hs, x46_r13 hs, x46_i14 hs, x46_w14 hs, x46_i15 hs, x46_w15 hs, x46_i16 hs, x46_w16 hs, n2, Option.bind_some, xI, xU, xUt, xIt, J_lit, J_add, J_sub, J_mul, J_neg, J_ltc, J_lec, J_eqc, lt_T, lt_F, le_T, le_F, eq_T, eq_F, ↓reduceIte, ite_not, not_true_eq_false, not_false_eq_true, true_or, or_true, false_or, or_false, true_and, and_true, false_and, and_false, up_get, Nat.reduceEqDiff, Int.reduceNeg, eqN_T, eqN_F]
      refine De.step ?_
      simp only [j_X10_beginTrial_34]
      simp (disch := omega) only [b_X10_beginTrial_34, Net0_k n111, Option.bind_some]
      refine De.call D ?_
      simp (disch := omega) only [x0_k hs, x0_r0 hs, x0_r1 hs, x0_r2 hs, x0_r3 hs, trS_w hs, Option.bind_some, xI, xU, xUt, xIt, J_lit, J_add, J_sub, J_mul, J_neg, J_ltc, J_lec, J_eqc, lt_T, lt_F, le_T, le_F, eq_T, eq_F, ↓reduceIte, ite_not, not_true_eq_false, not_false_eq_true, true_or, or_true, false_or, or_false, true_and, and_true, false_and, and_false, up_get, Nat.reduceEqDiff, Int.reduceNeg, eqN_T, eqN_F]
      exact De.ret _ _
    · have wx := W.2.2 x x0 x1
      have e1 : w (1938 + 0) = 0 := d1
      have := d4 x x0 x1
      simp only [e1]
      omega
/-- the words that are due, told one by one -/
def tdS (w g : Int → Int) : Nat → Int × (Int → Int) → Int × (Int → Int)
  | 0, s => s
  | k + 1, s => if w (761 + 10 * s.1 + 2) ≤ s.2 0 then tdS w g k (s.1 + 1, tlS w s.2 g s.1) else s
theorem VX.tell (X : VX told w v g) (h : told < w 1) : VX (told + 1) w (tlS w v g told) g := by
  obtain ⟨S, m, q, a, r, C⟩ := X
  obtain ⟨m', q', -, C', -⟩ := q_tellC C h
  exact ⟨S, m', q', a, r, C'⟩
theorem tdS_ok (srt : SRT w) : ∀ (k : Nat) (told : Int) (v : Int → Int), told + k = w 1 → VX told w v g → (∀ x : Int, 0 ≤ x → x < told → w (761 + 10 * x + 2) ≤ v 0) → VX (tdS w g k (told, v)).1 w (tdS w g k (told, v)).2 g ∧ (tdS w g k (told, v)).2 0 = v 0 ∧ (∀ p : Int, 0 ≤ p → p < w 0 → (tdS w g k (told, v)).2 (1 + 5 * p + 0) = v (1 + 5 * p + 0)) ∧ LIN (tdS w g k (told, v)).1 w (tdS w g k (told, v)).2 ∧ told ≤ (tdS w g k (told, v)).1
  | 0, told, v, hk, X, h => ⟨X, rfl, fun _ _ _ => rfl, fun x x0 x1 => ⟨fun c => h x x0 c, fun _ => show x < told by omega⟩, Int.le_refl _⟩
  | k + 1, told, v, hk, X, h => by
    have t0 := X.vok.1.2.2.1
    by_cases c : w (761 + 10 * told + 2) ≤ v 0
    · have e : tdS w g (k + 1) (told, v) = tdS w g k (told + 1, tlS w v g told) := if_pos c
      rw [e]
      have o0 : tlS w v g told 0 = v 0 := tlS_o X.wok t0 (by omega) (by decide) (fun p p0 => by omega)
      obtain ⟨h1, h2, h3, h4, h5⟩ := tdS_ok srt k (told + 1) (tlS w v g told) (by omega) (X.tell (by omega)) (fun x x0 x1 => by
        rw [o0]
        by_cases d : x = told
        · rw [d]
          exact c
        · exact h x x0 (by omega))
      have tw := X.wok.1.2.1
      exact ⟨h1, h2.trans o0, fun p p0 p1 => (h3 p p0 p1).trans (tlS_o X.wok t0 (by omega) (by omega) (fun p' p'0 => by omega)), h4, by omega⟩
    · have e : tdS w g (k + 1) (told, v) = (told, v) := if_neg c
      rw [e]
      refine ⟨X, rfl, fun _ _ _ => rfl, fun x x0 x1 => ⟨fun d => h x x0 d, fun d => ?_⟩, Int.le_refl _⟩
      by_cases z : x < told
      · exact z
      · have := srt told x t0 (by omega) x1
        have d' : w (761 + 10 * x + 2) ≤ v 0 := d
        omega
theorem q_tdC : ∀ (k : Nat) (m : Nat → Int → Int) (q : Nat → Int → Int64) (told : Int) (v : Int → Int), told + k = w 1 → CX S m q a r told w v g → ∃ m' q', De (fun n => f_X1_tellDue n 5 [.ref a, .int (J told)] (hp S m q)) (.inl none) (hp S m' q') ∧ CX S m' q' a r (tdS w g k (told, v)).1 w (tdS w g k (told, v)).2 g ∧ (∀ b i, (b < a ∨ a + 22 ≤ b) → b ≠ r + 5 → ¬ (b = r ∧ i = 7) → m' b i = m b i) ∧ ∀ b, b ≠ a + 15 → b ≠ a + 20 → q' b = q b := by
  intro k
  induction k with
  | zero =>
    intro m q told v hk C
    obtain ⟨⟨hs, hn, hr, r16, a46⟩, W, WC, NC, R⟩ := id C
    have w1 := W.2.1
    have n1 := NC.1
    have s3 : m 16 3 = w 1 := WC.1
    refine ⟨m, q, ?_, C, fun _ _ _ _ _ => rfl, fun _ _ _ => rfl⟩
    refine De.step ?_
    simp only [j_X1_tellDue_5]
    simp (disch := omega) only [b_X1_tellDue_5, Net0_r0 hn, x16_k hs, x16_r0 hs, x16_r1 hs, x16_r2 hs, x16_i3 hs, x16_w3 hs, s3, Option.bind_some, xI, xU, xUt, xIt, J_lit, J_add, J_sub, J_mul, J_neg, J_ltc, J_lec, J_eqc, lt_T, lt_F, le_T, le_F, eq_T, eq_F, ↓reduceIte, ite_not, not_true_eq_false, not_false_eq_true, true_or, or_true, false_or, or_false, true_and, and_true, false_and, and_false, up_get, Nat.reduceEqDiff, Int.reduceNeg, eqN_T, eqN_F]
    exact De.ret _ _
  | succ k IH =>
    intro m q told v hk C
    obtain ⟨⟨hs, hn, hr, r16, a46⟩, W, WC, NC, R⟩ := id C
    have w1 := W.2.1
    have v1 := NC.vok.1
    have s3 : m 16 3 = w 1 := WC.1
    have n2 : m a 2 = v 0 := NC.1.2.1
    have wx := W.2.2 told (by omega) (by omega)
    have f2 : m 20 told = w (761 + 10 * told + 2) := (WC.2.1 told (by omega) (by omega)).2.2.1
    by_cases c : w (761 + 10 * told + 2) ≤ v 0
    · have e : tdS w g (k + 1) (told, v) = tdS w g k (told + 1, tlS w v g told) := if_pos c
      rw [e]
      obtain ⟨m1, q1, D1, C1, F1, G1⟩ := q_tellC C (by omega)
      obtain ⟨m', q', D', C', F', G'⟩ := IH m1 q1 (told + 1) _ (by omega) C1
      refine ⟨m', q', ?_, C', fun b i h1 h2 h3 => (F' b i h1 h2 h3).trans (F1 b i h1 h2 h3), fun b h1 h2 => (G' b h1 h2).trans (G1 b h1 h2)⟩
      refine De.step ?_
      simp only [j_X1_tellDue_5]
      simp (disch := omega) only [b_X1_tellDue_5, Net0_r0 hn, Net0_i2 hn, Net0_k hn, x16_k hs, x16_r0 hs, x16_r1 hs, x16_r2 hs, x16_i3 hs, x16_w3 hs, x17_m0 hs, x17_m1 hs, x17_m2 hs, x17_m3 hs, x17_m4 hs, x17_m5 hs, x17_m6 hs, x17_m7 hs, x17_m8 hs, x17_l hs, x20_g hs, x20_s hs, x20_l hs, s3, n2, f2, Option.bind_some, xI, xU, xUt, xIt, J_lit, J_add, J_sub, J_mul, J_neg, J_ltc, J_lec, J_eqc, lt_T, lt_F, le_T, le_F, eq_T, eq_F, ↓reduceIte, ite_not, not_true_eq_false, not_false_eq_true, true_or, or_true, false_or, or_false, true_and, and_true, false_and, and_false, up_get, Nat.reduceEqDiff, Int.reduceNeg, eqN_T, eqN_F]
      refine De.call D1 ?_
      simp (disch := omega) only [Option.bind_some, xI, xU, xUt, xIt, J_lit, J_add, J_sub, J_mul, J_neg, J_ltc, J_lec, J_eqc, lt_T, lt_F, le_T, le_F, eq_T, eq_F, ↓reduceIte, ite_not, not_true_eq_false, not_false_eq_true, true_or, or_true, false_or, or_false, true_and, and_true, false_and, and_false, up_get, Nat.reduceEqDiff, Int.reduceNeg, eqN_T, eqN_F]
      exact D'
    · have e : tdS w g (k + 1) (told, v) = (told, v) := if_neg c
      rw [e]
      refine ⟨m, q, ?_, C, fun _ _ _ _ _ => rfl, fun _ _ _ => rfl⟩
      refine De.step ?_
      simp only [j_X1_tellDue_5]
      simp (disch := omega) only [b_X1_tellDue_5, Net0_r0 hn, Net0_i2 hn, Net0_k hn, x16_k hs, x16_r0 hs, x16_r1 hs, x16_r2 hs, x16_i3 hs, x16_w3 hs, x17_m0 hs, x17_m1 hs, x17_m2 hs, x17_m3 hs, x17_m4 hs, x17_m5 hs, x17_m6 hs, x17_m7 hs, x17_m8 hs, x17_l hs, x20_g hs, x20_s hs, x20_l hs, s3, n2, f2, Option.bind_some, xI, xU, xUt, xIt, J_lit, J_add, J_sub, J_mul, J_neg, J_ltc, J_lec, J_eqc, lt_T, lt_F, le_T, le_F, eq_T, eq_F, ↓reduceIte, ite_not, not_true_eq_false, not_false_eq_true, true_or, or_true, false_or, or_false, true_and, and_true, false_and, and_false, up_get, Nat.reduceEqDiff, Int.reduceNeg, eqN_T, eqN_F]
      exact De.ret _ _
/-- a tick of a trial -/
def nsS (w g : Int → Int) (l : Int) (s : Int × (Int → Int)) : Int × (Int → Int) := tdS w g (w 1 - s.1).toNat (s.1, stS w g l s.2)
def rnS (w g : Int → Int) (l : Int) : Nat → Int × (Int → Int) → Int × (Int → Int)
  | 0, s => s
  | n + 1, s => rnS w g l n (nsS w g l s)
theorem nsS_ok (R : Rrul ln sp kd nm bg so g) (srt : SRT w) (K : Kok w l) (X : VX told w v g) (L : LIN told w v) (h4 : v 0 < 400) : VX (nsS w g l (told, v)).1 w (nsS w g l (told, v)).2 g ∧ LIN (nsS w g l (told, v)).1 w (nsS w g l (told, v)).2 ∧ Rplc l w (nsS w g l (told, v)).2 ∧ (nsS w g l (told, v)).2 0 = v 0 + 1 ∧ told ≤ (nsS w g l (told, v)).1 := by
  obtain ⟨X1, e0, P1⟩ := VX.step R X K h4
  have v1 := X.vok.1
  obtain ⟨h1, h2, h3, h4, h5⟩ := tdS_ok srt (w 1 - told).toNat told (stS w g l v) (by omega) X1 (fun x x0 x1 => by
    rw [e0]
    have := (L x x0 (by omega)).1 x1
    omega)
  refine ⟨h1, h4, fun p p0 p1 => ?_, h2.trans e0, h5⟩
  have := P1 p p0 p1
  rw [nsS, h3 p p0 p1, h2]
  exact this
theorem q_nsC (C : CX S m q a r told w v g) (KC : WkC m w) (PL : Rplc l w v) (l0 : 0 ≤ l) (l1 : l < 4) (h4 : v 0 < 400) : ∃ m1 q1 m' q', De (fun n => f_X1_step n 0 [.ref a, .ref 29, .int (J l)] (hp S m q)) (.inl none) (hp S m1 q1) ∧ De (fun n => f_X1_tellDue n 0 [.ref a] (hp S m1 q1)) (.inl none) (hp S m' q') ∧ CX S m' q' a r (nsS w g l (told, v)).1 w (nsS w g l (told, v)).2 g ∧ (∀ b i, (b < a ∨ a + 22 ≤ b) → b ≠ r + 5 → ¬ (b = r ∧ i = 7) → m' b i = m b i) ∧ ∀ b, b ≠ a + 15 → b ≠ a + 20 → q' b = q b := by
  obtain ⟨m1, q1, D1, C1, F1, G1⟩ := q_stepC C KC PL l0 l1 h4
  obtain ⟨⟨hs, hn, hr, r16, a46⟩, W, WC, NC, R⟩ := id C1
  have v1 := NC.vok.1
  have n4 : m1 a 4 = told := NC.1.2.2.1
  obtain ⟨m', q', D', C', F', G'⟩ := q_tdC (w 1 - told).toNat m1 q1 told _ (by omega) C1
  refine ⟨m1, q1, m', q', D1, ?_, C', fun b i h1 h2 h3 => (F' b i h1 h2 h3).trans (F1 b i h1 h2 h3), fun b h1 h2 => (G' b h1 h2).trans (G1 b h1 h2)⟩
  refine De.step ?_
  simp only [j_X1_tellDue_0]
  simp (disch := omega) only [b_X1_tellDue_0, Net0_i4 hn, n4, Option.bind_some, xI, xU, xUt, xIt, J_lit, J_add, J_sub, J_mul, J_neg, J_ltc, J_lec, J_eqc, lt_T, lt_F, le_T, le_F, eq_T, eq_F, ↓reduceIte, ite_not, not_true_eq_false, not_false_eq_true, true_or, or_true, false_or, or_false, true_and, and_true, false_and, and_false, up_get, Nat.reduceEqDiff, Int.reduceNeg, eqN_T, eqN_F]
  exact D'
end TRIAL
