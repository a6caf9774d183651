/-! a line, whole; the text -/
section CORE
variable {S : xH} {m m' m0 : Nat → Int → Int} {q : Nat → Int → Int64} {b g g' g2 : Int → Int} {n B s s' B' L d t nb e : Int}
theorem ln_if (hB : Bok b n B) (s0 : 0 ≤ s) (s2 : 2 * s ≤ B) (L0 : 0 ≤ L) (L1 : L < 10) (PL : PLn g L s) (H : HL g g2 L t nb s s) (t0 : 0 ≤ t) (t1 : t ≤ 3) (n0 : 0 ≤ nb) (n1 : nb ≤ 9999) (n2 : t = 2 → nb ≤ 100) : ∃ (ok : Bool) (Bt s' : Int) (g' : Int → Int), ((ok = true → Bok b n Bt ∧ B ≤ Bt ∧ s ≤ s' ∧ 2 * s' ≤ Bt ∧ PLn g' (L + 1) s') ∧ (ok = false → 0 ≤ Bt ∧ Bt ≤ n)) ∧
  (∀ (S : xH) (m : Nat → Int → Int) (q : Nat → Int → Int64), Sk S → CLs m b n B s g L → ∃ m', FrL m m' ∧ (ok = false → De (fun k => f_X3_readLine k 73 [.ref 1, .int (J t), .int (J nb)] (hp S m q)) (.inl (some (.int (J 0)))) (hp S m' q) ∧ m' 1 3 = Bt) ∧ (ok = true → CLs m' b n Bt s' g' (L + 1) ∧ m' 1 3 = m 1 3 ∧ ∀ {R : xR} {P : xH}, De (fun k => f_X3_readLine k 109 [.ref 1, .int (J t), .int (J nb)] (hp S m' q)) R P → De (fun k => f_X3_readLine k 73 [.ref 1, .int (J t), .int (J nb)] (hp S m q)) R P)) ∧
  (∀ (S : xH) (m : Nat → Int → Int) (q : Nat → Int → Int64) (d : Int), Sk S → RPs m b n B s g2 d → ∃ m', De (fun k => f_X11_readLine k 165 [.ref 136, .int (J L), .int (J (5080 + (1 + 4 * L))), .int (J t)] (hp S m q)) (.inl (some (.int (J (bI ok))))) (hp S m' q) ∧ FrRe m m' ∧ (ok = true → RLs m' b n Bt s' g') ∧ (ok = false → m' 136 12 = Bt)) := by
  by_cases c : t = 2 ∨ tok b n B ≠ 4
  · refine ⟨true, B, s, g2, ⟨fun _ => ⟨hB, Int.le_refl _, Int.le_refl _, s2, PL.add L0 L1 s0 H t0 t1 n0 n1 n2 (Int.le_refl _) (Int.le_refl _) rfl (fun i a z => by omega) (fun z => by omega)⟩, fun z => absurd z (by decide)⟩, fun S m q hs h => ?_, fun S m q d hs h => ?_⟩
    · obtain ⟨m', C, F, w, Z⟩ := c_l73 (q := q) hs hB h L1 H t0 t1 c
      exact ⟨m', F, fun z => absurd z (by decide), fun _ => ⟨C, w, Z⟩⟩
    · obtain ⟨m', D, R, F⟩ := r_l165 (q := q) (a1 := J L) (a2 := J (5080 + (1 + 4 * L))) hs hB h t0 t1 c
      exact ⟨m', D, F, fun _ => ⟨d, R⟩, fun z => absurd z (by decide)⟩
  · have t2 : t ≠ 2 := by omega
    have c4 : tok b n B = 4 := by omega
    have lt := tok_lt (show tok b n B ≠ 21 by omega)
    obtain ⟨hB1, x1, x2⟩ := hB.nx lt
    have PE := (co_deep b n 6 (by omega)).2
    rw [show (6 - ((6 : Nat) : Int)) = 0 from rfl] at PE
    obtain ⟨ok, B4, s4, g4, FC, CL, RE⟩ := PE (nxB b n B) s g2 hB1 s0 (by omega)
    refine ⟨ok, B4, s4, ups g4 (1 + 4 * L + 3) s4, ⟨fun z => ?_, FC.2⟩, fun S m q hs h => ?_, fun S m q d hs h => ?_⟩
    · obtain ⟨y0, y1, y2, y3, y4, y5⟩ := FC.1 z
      obtain ⟨⟨k1, k2, k3, k4⟩, k5⟩ := H
      have H2 : HL g (ups g4 (1 + 4 * L + 3) s4) L t nb s s4 := ⟨⟨by rw [ups_ne (by omega), y4 _ (by omega), k1], by rw [ups_ne (by omega), y4 _ (by omega), k2], by rw [ups_ne (by omega), y4 _ (by omega), k3], ups_at _ _ _⟩, fun i a c => by rw [ups_ne (by omega), y4 _ c]; exact k5 i a c⟩
      refine ⟨y0, by omega, by omega, by omega, PL.add L0 L1 s0 H2 t0 t1 n0 n1 n2 (by omega) (Int.le_refl _) rfl (fun i a c => ?_) (fun _ => ?_)⟩
      · rw [ups_ne (by omega), ups_ne (by omega)]
        exact y5.1 i a c
      · rw [wfS_congr _ _ _ (fun k k0 k1 => ups_ne (by omega))]
        exact y5.2 0 (by decide) (by decide)
    · exact c_l73i (q := q) hs hB h L1 H t0 t1 t2 c4 (fun z => ⟨(FC.1 z).2.2.1, (FC.1 z).2.2.2.2.1⟩) (fun S m q L hs h => CL 30 (by decide) S m q L hs h)
    · obtain ⟨m', D, F, r1, r2⟩ := r_l165i (q := q) (a1 := J L) hs hB h t0 t1 t2 c4 L0 L1 (fun S m q hs h => RE 30 (by decide) S m q hs h)
      exact ⟨m', D, F, fun z => ⟨0, r1 z⟩, r2⟩
theorem r_l71F (hs : Sk S) (h : RPs m b n B s g d) (L0 : 0 ≤ L) (L1 : L < 10) : ∃ m1, FrRe m m1 ∧ m1 136 12 = m 136 12 ∧ De (fun k => f_X11_readLine k 71 [.ref 136, .int (J L), .int (J (5080 + (1 + 4 * L))), .int (J (-1))] (hp S m q)) (.inl (some (.int (J 0)))) (hp S m1 q) := by
  have k16 : m 136 16 = s := h.2.2.1
  refine ⟨up (up (up (up m 139 (5080 + (1 + 4 * L)) (-1)) 139 (5080 + (1 + 4 * L) + 1) 0) 139 (5080 + (1 + 4 * L) + 2) s) 139 (5080 + (1 + 4 * L) + 3) s, (((FrRe.w9 (by omega)).tr (FrRe.w9 (by omega))).tr (FrRe.w9 (by omega))).tr (FrRe.w9 (by omega)), by rw [up_a (by decide), up_a (by decide), up_a (by decide), up_a (by decide)], ?_⟩
  refine De.step ?_
  simp only [j_X11_readLine_71]
  simp (disch := omega) only [b_X11_readLine_71, x136_k hs, x136_i0 hs, x136_w0 hs, x136_r1 hs, x136_r2 hs, x136_r3 hs, x136_r4 hs, x136_i5 hs, x136_w5 hs, x136_i6 hs, x136_w6 hs, x136_i7 hs, x136_w7 hs, x136_r8 hs, x136_i9 hs, x136_w9 hs, x136_i10 hs, x136_w10 hs, x136_i11 hs, x136_w11 hs, x136_i12 hs, x136_w12 hs, x136_i13 hs, x136_w13 hs, x136_i14 hs, x136_w14 hs, x136_r15 hs, x136_i16 hs, x136_w16 hs, x136_r17 hs, x136_r18 hs, x136_r19 hs, x136_r20 hs, x136_r21 hs, x136_i22 hs, x136_w22 hs, x136_r23 hs, x136_r24 hs, x136_i25 hs, x136_w25 hs, x136_i26 hs, x136_w26 hs, x136_r27 hs, x136_r28 hs, x136_i29 hs, x136_w29 hs, x139_g hs, x139_s hs, x139_l hs, k16, Option.bind_some, xI, xU, xUt, xIt, J_lit, J_add, J_sub, J_mul, J_neg, J_ltc, J_lec, J_eqc, lt_T, lt_F, le_T, le_F, eq_T, eq_F, ↓reduceIte, ite_not, not_true_eq_false, not_false_eq_true, true_or, or_true, false_or, or_false, true_and, and_true, false_and, and_false, up_get, Nat.reduceEqDiff, Int.reduceNeg, eqN_T, eqN_F]
  exact De.ret _ _
/-- a line's number -/
theorem r_l127 (hs : Sk S) (hB : Bok b n B) (h : RPs m b n B s g d) (L0 : 0 ≤ L) (L1 : L < 10) (c : t = 0 ∨ t = 2) {V : Int} (eV : V = if tok b n B = 20 ∧ vlF b B (ten b n B - B).toNat ≤ (if t = 2 then 100 else 9999) then vlF b B (ten b n B - B).toNat else -1) (v0 : -1 ≤ V) (v1 : V ≤ 9999) : ∃ m1, RPs m1 b n (if tok b n B = 20 then nxB b n B else B) s (ups g (1 + 4 * L + 1) V) d ∧ FrRe m m1 ∧ m1 136 12 = B ∧ (V < 0 → De (fun k => f_X11_readLine k 127 [.ref 136, .int (J L), .int (J (5080 + (1 + 4 * L))), .int (J t)] (hp S m q)) (.inl (some (.int (J 0)))) (hp S m1 q)) ∧ (0 ≤ V → ∀ {R : xR} {P : xH}, De (fun k => f_X11_readLine k 165 [.ref 136, .int (J L), .int (J (5080 + (1 + 4 * L))), .int (J t)] (hp S m1 q)) R P → De (fun k => f_X11_readLine k 127 [.ref 136, .int (J L), .int (J (5080 + (1 + 4 * L))), .int (J t)] (hp S m q)) R P) := by
  obtain ⟨m1, D1, RP1, B1, F1⟩ := r_number (q := q) (high := if t = 2 then 100 else 9999) hs hB h (by split <;> decide) (by split <;> decide)
  rw [← eV] at D1
  have D148 : ∀ {R : xR} {P : xH}, (V < 0 → R = .inl (some (.int (J 0))) ∧ P = hp S (up m1 139 (5080 + (1 + 4 * L) + 1) V) q) → (0 ≤ V → De (fun k => f_X11_readLine k 165 [.ref 136, .int (J L), .int (J (5080 + (1 + 4 * L))), .int (J t)] (hp S (up m1 139 (5080 + (1 + 4 * L) + 1) V) q)) R P) → De (fun k => f_X11_readLine k 148 [.ref 136, .int (J L), .int (J (5080 + (1 + 4 * L))), .int (J t), .ref 139, .int (J (5080 + (1 + 4 * L) + 1)), .ref 136, .int (J (if t = 2 then 100 else 9999))] (hp S m q)) R P := by
    intro R P E1 E2
    refine De.step ?_
    simp only [j_X11_readLine_148]
    simp (disch := omega) only [b_X11_readLine_148, x136_k hs, x136_i0 hs, x136_w0 hs, x136_r1 hs, x136_r2 hs, x136_r3 hs, x136_r4 hs, x136_i5 hs, x136_w5 hs, x136_i6 hs, x136_w6 hs, x136_i7 hs, x136_w7 hs, x136_r8 hs, x136_i9 hs, x136_w9 hs, x136_i10 hs, x136_w10 hs, x136_i11 hs, x136_w11 hs, x136_i12 hs, x136_w12 hs, x136_i13 hs, x136_w13 hs, x136_i14 hs, x136_w14 hs, x136_r15 hs, x136_i16 hs, x136_w16 hs, x136_r17 hs, x136_r18 hs, x136_r19 hs, x136_r20 hs, x136_r21 hs, x136_i22 hs, x136_w22 hs, x136_r23 hs, x136_r24 hs, x136_i25 hs, x136_w25 hs, x136_i26 hs, x136_w26 hs, x136_r27 hs, x136_r28 hs, x136_i29 hs, x136_w29 hs, Option.bind_some]
    refine De.call D1 ?_
    by_cases z : 0 ≤ V
    · simp (disch := omega) only [x136_k hs, x136_i0 hs, x136_w0 hs, x136_r1 hs, x136_r2 hs, x136_r3 hs, x136_r4 hs, x136_i5 hs, x136_w5 hs, x136_i6 hs, x136_w6 hs, x136_i7 hs, x136_w7 hs, x136_r8 hs, x136_i9 hs, x136_w9 hs, x136_i10 hs, x136_w10 hs, x136_i11 hs, x136_w11 hs, x136_i12 hs, x136_w12 hs, x136_i13 hs, x136_w13 hs, x136_i14 hs, x136_w14 hs, x136_r15 hs, x136_i16 hs, x136_w16 hs, x136_r17 hs, x136_r18 hs, x136_r19 hs, x136_r20 hs, x136_r21 hs, x136_i22 hs, x136_w22 hs, x136_r23 hs, x136_r24 hs, x136_i25 hs, x136_w25 hs, x136_i26 hs, x136_w26 hs, x136_r27 hs, x136_r28 hs, x136_i29 hs, x136_w29 hs, x139_g hs, x139_s hs, x139_l hs, Option.bind_some, xI, xU, xUt, xIt, J_lit, J_add, J_sub, J_mul, J_neg, J_ltc, J_lec, J_eqc, lt_T, lt_F, le_T, le_F, eq_T, eq_F, ↓reduceIte, ite_not, not_true_eq_false, not_false_eq_true, true_or, or_true, false_or, or_false, true_and, and_true, false_and, and_false, up_get, Nat.reduceEqDiff, Int.reduceNeg, eqN_T, eqN_F]
      exact E2 z
    · obtain ⟨e1, e2⟩ := E1 (by omega)
      subst e1
      subst e2
      simp (disch := omega) only [x136_k hs, x136_i0 hs, x136_w0 hs, x136_r1 hs, x136_r2 hs, x136_r3 hs, x136_r4 hs, x136_i5 hs, x136_w5 hs, x136_i6 hs, x136_w6 hs, x136_i7 hs, x136_w7 hs, x136_r8 hs, x136_i9 hs, x136_w9 hs, x136_i10 hs, x136_w10 hs, x136_i11 hs, x136_w11 hs, x136_i12 hs, x136_w12 hs, x136_i13 hs, x136_w13 hs, x136_i14 hs, x136_w14 hs, x136_r15 hs, x136_i16 hs, x136_w16 hs, x136_r17 hs, x136_r18 hs, x136_r19 hs, x136_r20 hs, x136_r21 hs, x136_i22 hs, x136_w22 hs, x136_r23 hs, x136_r24 hs, x136_i25 hs, x136_w25 hs, x136_i26 hs, x136_w26 hs, x136_r27 hs, x136_r28 hs, x136_i29 hs, x136_w29 hs, x139_g hs, x139_s hs, x139_l hs, Option.bind_some, xI, xU, xUt, xIt, J_lit, J_add, J_sub, J_mul, J_neg, J_ltc, J_lec, J_eqc, lt_T, lt_F, le_T, le_F, eq_T, eq_F, ↓reduceIte, ite_not, not_true_eq_false, not_false_eq_true, true_or, or_true, false_or, or_false, true_and, and_true, false_and, and_false, up_get, Nat.reduceEqDiff, Int.reduceNeg, eqN_T, eqN_F]
      exact De.ret _ _
  have D127 : ∀ {R : xR} {P : xH}, De (fun k => f_X11_readLine k 148 [.ref 136, .int (J L), .int (J (5080 + (1 + 4 * L))), .int (J t), .ref 139, .int (J (5080 + (1 + 4 * L) + 1)), .ref 136, .int (J (if t = 2 then 100 else 9999))] (hp S m q)) R P → De (fun k => f_X11_readLine k 127 [.ref 136, .int (J L), .int (J (5080 + (1 + 4 * L))), .int (J t)] (hp S m q)) R P := by
    intro R P E
    rcases c with z | z
    · rw [if_neg (by omega)] at E
      subst z
      refine De.step ?_
      simp only [j_X11_readLine_127]
      simp (disch := omega) only [b_X11_readLine_127, x136_k hs, x136_i0 hs, x136_w0 hs, x136_r1 hs, x136_r2 hs, x136_r3 hs, x136_r4 hs, x136_i5 hs, x136_w5 hs, x136_i6 hs, x136_w6 hs, x136_i7 hs, x136_w7 hs, x136_r8 hs, x136_i9 hs, x136_w9 hs, x136_i10 hs, x136_w10 hs, x136_i11 hs, x136_w11 hs, x136_i12 hs, x136_w12 hs, x136_i13 hs, x136_w13 hs, x136_i14 hs, x136_w14 hs, x136_r15 hs, x136_i16 hs, x136_w16 hs, x136_r17 hs, x136_r18 hs, x136_r19 hs, x136_r20 hs, x136_r21 hs, x136_i22 hs, x136_w22 hs, x136_r23 hs, x136_r24 hs, x136_i25 hs, x136_w25 hs, x136_i26 hs, x136_w26 hs, x136_r27 hs, x136_r28 hs, x136_i29 hs, x136_w29 hs, Option.bind_some, xI, xU, xUt, xIt, J_lit, J_add, J_sub, J_mul, J_neg, J_ltc, J_lec, J_eqc, lt_T, lt_F, le_T, le_F, eq_T, eq_F, ↓reduceIte, ite_not, not_true_eq_false, not_false_eq_true, true_or, or_true, false_or, or_false, true_and, and_true, false_and, and_false, up_get, Nat.reduceEqDiff, Int.reduceNeg, eqN_T, eqN_F]
      exact E
    · rw [if_pos z] at E
      subst z
      refine De.step ?_
      simp only [j_X11_readLine_127]
      simp (disch := omega) only [b_X11_readLine_127, x136_k hs, x136_i0 hs, x136_w0 hs, x136_r1 hs, x136_r2 hs, x136_r3 hs, x136_r4 hs, x136_i5 hs, x136_w5 hs, x136_i6 hs, x136_w6 hs, x136_i7 hs, x136_w7 hs, x136_r8 hs, x136_i9 hs, x136_w9 hs, x136_i10 hs, x136_w10 hs, x136_i11 hs, x136_w11 hs, x136_i12 hs, x136_w12 hs, x136_i13 hs, x136_w13 hs, x136_i14 hs, x136_w14 hs, x136_r15 hs, x136_i16 hs, x136_w16 hs, x136_r17 hs, x136_r18 hs, x136_r19 hs, x136_r20 hs, x136_r21 hs, x136_i22 hs, x136_w22 hs, x136_r23 hs, x136_r24 hs, x136_i25 hs, x136_w25 hs, x136_i26 hs, x136_w26 hs, x136_r27 hs, x136_r28 hs, x136_i29 hs, x136_w29 hs, Option.bind_some, xI, xU, xUt, xIt, J_lit, J_add, J_sub, J_mul, J_neg, J_ltc, J_lec, J_eqc, lt_T, lt_F, le_T, le_F, eq_T, eq_F, ↓reduceIte, ite_not, not_true_eq_false, not_false_eq_true, true_or, or_true, false_or, or_false, true_and, and_true, false_and, and_false, up_get, Nat.reduceEqDiff, Int.reduceNeg, eqN_T, eqN_F]
      exact E
  refine ⟨up m1 139 (5080 + (1 + 4 * L) + 1) V, RP1.w (by omega) V, F1.r.tr (FrRe.w9 (by omega)), (up_a (by decide)).trans B1, fun z => D127 (D148 (fun _ => ⟨rfl, rfl⟩) (fun y => by omega)), fun z R P E => D127 (D148 (fun y => by omega) (fun _ => E))⟩
theorem ln_core (hB : Bok b n B) (s0 : 0 ≤ s) (s2 : 2 * s ≤ B) (L0 : 0 ≤ L) (L1 : L < 10) (PL : PLn g L s) : ∃ (ok : Bool) (Bt s' : Int) (g' : Int → Int), ((ok = true → Bok b n Bt ∧ B ≤ Bt ∧ s ≤ s' ∧ 2 * s' ≤ Bt ∧ PLn g' (L + 1) s') ∧ (ok = false → 0 ≤ Bt ∧ Bt ≤ n)) ∧
  (∀ (S : xH) (m : Nat → Int → Int) (q : Nat → Int → Int64), Sk S → CLs m b n B s g L → ∃ m', FrL m m' ∧ (ok = false → De (fun k => f_X3_readLine k 0 [.ref 1] (hp S m q)) (.inl (some (.int (J 0)))) (hp S m' q) ∧ m' 1 3 = Bt) ∧ (ok = true → CLs m' b n Bt s' g' (L + 1) ∧ m' 1 3 = m 1 3 ∧ ∃ x y : Int32, ∀ {R : xR} {P : xH}, De (fun k => f_X3_readLine k 109 [.ref 1, .int x, .int y] (hp S m' q)) R P → De (fun k => f_X3_readLine k 0 [.ref 1] (hp S m q)) R P)) ∧
  (∀ (S : xH) (m : Nat → Int → Int) (q : Nat → Int → Int64), Sk S → RLs m b n B s g → ∃ m', De (fun k => f_X11_readLine k 0 [.ref 136, .int (J L)] (hp S m q)) (.inl (some (.int (J (bI ok))))) (hp S m' q) ∧ FrRe m m' ∧ (ok = true → RLs m' b n Bt s' g') ∧ (ok = false → m' 136 12 = Bt)) := by
  have tr := tok_rng hB
  have h1 := hB.1
  by_cases ct : tok b n B ≤ 3
  · have lt := tok_lt (show tok b n B ≠ 21 by omega)
    obtain ⟨kk, hkk, ek⟩ : ∃ kk : Nat, kk < 20 ∧ tok b n B = kk := ⟨(tok b n B).toNat, by omega, by omega⟩
    have tw := ten_wd h1.2.1 hkk ek
    obtain ⟨hB1, x1, x2⟩ := hB.nx lt
    have tr1 := tok_rng hB1
    -- the reference up to its number
    have RZ : ∀ (S : xH) (m : Nat → Int → Int) (q : Nat → Int → Int64), Sk S → RLs m b n B s g → ∃ (m1 : Nat → Int → Int) (d : Int), RPs m1 b n (nxB b n B) s (ln4 g L (tok b n B) 0 s s) d ∧ FrRe m m1 ∧ ∀ {R : xR} {P : xH}, (tok b n B = 0 ∨ tok b n B = 2 → De (fun k => f_X11_readLine k 127 [.ref 136, .int (J L), .int (J (5080 + (1 + 4 * L))), .int (J (tok b n B))] (hp S m1 q)) R P) → (tok b n B = 1 ∨ tok b n B = 3 → De (fun k => f_X11_readLine k 165 [.ref 136, .int (J L), .int (J (5080 + (1 + 4 * L))), .int (J (tok b n B))] (hp S m1 q)) R P) → De (fun k => f_X11_readLine k 0 [.ref 136, .int (J L)] (hp S m q)) R P := by
      intro S m q hs ⟨d, h⟩
      obtain ⟨ma, Ra, Ba, Fa, Za⟩ := r_l0 (q := q) hs hB h L0 L1
      rw [if_pos ct] at Za
      have RP : RPs ma b n (nxB b n B) s g d := h.fr Fa Ra (by rw [← tw.2.1]; rfl)
      obtain ⟨mb, Rb, Fb, -, Zb⟩ := r_l71 (q := q) (t := tok b n B) hs RP L0 L1 (by omega) ct
      exact ⟨mb, d, Rb, Fa.r.tr Fb, fun D1 D2 => Za (Zb D1 D2)⟩
    by_cases cn : tok b n B = 0 ∨ tok b n B = 2
    · obtain ⟨V, eV⟩ : ∃ V : Int, V = if tok b n (nxB b n B) = 20 ∧ vlF b (nxB b n B) (ten b n (nxB b n B) - nxB b n B).toNat ≤ (if tok b n B = 2 then 100 else 9999) then vlF b (nxB b n B) (ten b n (nxB b n B) - nxB b n B).toNat else -1 := ⟨_, rfl⟩
      by_cases cv : tok b n (nxB b n B) = 20 ∧ vlF b (nxB b n B) (ten b n (nxB b n B) - nxB b n B).toNat ≤ (if tok b n B = 2 then 100 else 9999)
      · have eV2 := eV
        rw [if_pos cv] at eV2
        have vv := vl_20 hB1 cv.1
        have v9 : V ≤ 9999 ∧ (tok b n B = 2 → V ≤ 100) := by
          have := cv.2
          by_cases z : tok b n B = 2
          · rw [if_pos z] at this
            omega
          · rw [if_neg z] at this
            omega
        have lt1 := tok_lt (show tok b n (nxB b n B) ≠ 21 by omega)
        obtain ⟨hB2, z1, z2⟩ := hB1.nx lt1
        obtain ⟨ok, Bt, s', g', FC, CL, RE⟩ := ln_if (t := tok b n B) (nb := V) hB2 s0 (by omega) L0 L1 PL ((ln4_HL g L (tok b n B) 0 s s).nb V) (by omega) ct (by omega) v9.1 v9.2
        refine ⟨ok, Bt, s', g', ⟨fun z => ?_, FC.2⟩, fun S m q hs h => ?_, fun S m q hs h => ?_⟩
        · obtain ⟨a1, a2, a3⟩ := FC.1 z
          exact ⟨a1, by omega, a3⟩
        · have tk := h.1.tk
          obtain ⟨m1, D1, C1, F1⟩ := c_next (q := q) hs hB h.1 lt
          have tk1 := C1.tk
          have v7 : m1 1 7 = V := (C1.2.2.1.2.2.2 cv.1).trans eV2.symm
          obtain ⟨m2, D2, C2, F2⟩ := c_next (q := q) hs hB1 C1 lt1
          have C2L : CLs m2 b n (nxB b n (nxB b n B)) s g L := ⟨C2, ((F1.tr F2) 5 0 (by omega)).trans h.2.1, fun j j0 j1 => by
            rw [(F1.tr F2) 3 j (by omega), (F1.tr F2) 4 j (by omega), (F1.tr F2) 5 j (by omega), (F1.tr F2) 5 (j + 1) (by omega)]
            exact h.2.2 j j0 j1⟩
          obtain ⟨m3, F3, c3, c4⟩ := CL S m2 q hs C2L
          have Z : ∀ {R : xR} {P : xH}, De (fun k => f_X3_readLine k 73 [.ref 1, .int (J (tok b n B)), .int (J V)] (hp S m2 q)) R P → De (fun k => f_X3_readLine k 0 [.ref 1] (hp S m q)) R P := by
            intro R P E
            have D56 : ∀ hi : Int, V ≤ hi → hi ≤ 9999 → De (fun k => f_X3_readLine k 56 [.ref 1, .int (J (tok b n B)), .int (J 0), .int (J V), .int (J hi)] (hp S m1 q)) R P := by
              intro hi h1 h2
              refine De.step ?_
              simp only [j_X3_readLine_56]
              simp (disch := omega) only [b_X3_readLine_56, x1_k hs, x1_r0 hs, x1_r1 hs, x1_i2 hs, x1_w2 hs, x1_i3 hs, x1_w3 hs, x1_i4 hs, x1_w4 hs, x1_i5 hs, x1_w5 hs, x1_i6 hs, x1_w6 hs, x1_i7 hs, x1_w7 hs, v7, Option.bind_some, xI, xU, xUt, xIt, J_lit, J_add, J_sub, J_mul, J_neg, J_ltc, J_lec, J_eqc, lt_T, lt_F, le_T, le_F, eq_T, eq_F, ↓reduceIte, ite_not, not_true_eq_false, not_false_eq_true, true_or, or_true, false_or, or_false, true_and, and_true, false_and, and_false, up_get, Nat.reduceEqDiff, Int.reduceNeg, eqN_T, eqN_F]
              refine De.call D2 ?_
              simp (disch := omega) only [Option.bind_some, xI, xU, xUt, xIt, J_lit, J_add, J_sub, J_mul, J_neg, J_ltc, J_lec, J_eqc, lt_T, lt_F, le_T, le_F, eq_T, eq_F, ↓reduceIte, ite_not, not_true_eq_false, not_false_eq_true, true_or, or_true, false_or, or_false, true_and, and_true, false_and, and_false, up_get, Nat.reduceEqDiff, Int.reduceNeg, eqN_T, eqN_F]
              exact E
            have D30 : De (fun k => f_X3_readLine k 30 [.ref 1, .int (J (tok b n B)), .int (J 0)] (hp S m1 q)) R P := by
              rcases cn with z | z
              · refine De.step ?_
                simp only [j_X3_readLine_30]
                simp (disch := omega) only [b_X3_readLine_30, x1_k hs, x1_r0 hs, x1_r1 hs, x1_i2 hs, x1_w2 hs, x1_i3 hs, x1_w3 hs, x1_i4 hs, x1_w4 hs, x1_i5 hs, x1_w5 hs, x1_i6 hs, x1_w6 hs, x1_i7 hs, x1_w7 hs, tk1.1, cv.1, v7, Option.bind_some, xI, xU, xUt, xIt, J_lit, J_add, J_sub, J_mul, J_neg, J_ltc, J_lec, J_eqc, lt_T, lt_F, le_T, le_F, eq_T, eq_F, ↓reduceIte, ite_not, not_true_eq_false, not_false_eq_true, true_or, or_true, false_or, or_false, true_and, and_true, false_and, and_false, up_get, Nat.reduceEqDiff, Int.reduceNeg, eqN_T, eqN_F]
                exact D56 9999 v9.1 (by decide)
              · refine De.step ?_
                simp only [j_X3_readLine_30]
                simp (disch := omega) only [b_X3_readLine_30, x1_k hs, x1_r0 hs, x1_r1 hs, x1_i2 hs, x1_w2 hs, x1_i3 hs, x1_w3 hs, x1_i4 hs, x1_w4 hs, x1_i5 hs, x1_w5 hs, x1_i6 hs, x1_w6 hs, x1_i7 hs, x1_w7 hs, tk1.1, cv.1, v7, Option.bind_some, xI, xU, xUt, xIt, J_lit, J_add, J_sub, J_mul, J_neg, J_ltc, J_lec, J_eqc, lt_T, lt_F, le_T, le_F, eq_T, eq_F, ↓reduceIte, ite_not, not_true_eq_false, not_false_eq_true, true_or, or_true, false_or, or_false, true_and, and_true, false_and, and_false, up_get, Nat.reduceEqDiff, Int.reduceNeg, eqN_T, eqN_F]
                exact D56 100 (v9.2 z) (by decide)
            refine De.step ?_
            simp only [j_X3_readLine_0]
            simp (disch := omega) only [b_X3_readLine_0, x1_k hs, x1_r0 hs, x1_r1 hs, x1_i2 hs, x1_w2 hs, x1_i3 hs, x1_w3 hs, x1_i4 hs, x1_w4 hs, x1_i5 hs, x1_w5 hs, x1_i6 hs, x1_w6 hs, x1_i7 hs, x1_w7 hs, tk.1, Option.bind_some, xI, xU, xUt, xIt, J_lit, J_add, J_sub, J_mul, J_neg, J_ltc, J_lec, J_eqc, lt_T, lt_F, le_T, le_F, eq_T, eq_F, ↓reduceIte, ite_not, not_true_eq_false, not_false_eq_true, true_or, or_true, false_or, or_false, true_and, and_true, false_and, and_false, up_get, Nat.reduceEqDiff, Int.reduceNeg, eqN_T, eqN_F]
            refine De.call D1 ?_
            rcases cn with z | z
            · simp (disch := omega) only [Option.bind_some, xI, xU, xUt, xIt, J_lit, J_add, J_sub, J_mul, J_neg, J_ltc, J_lec, J_eqc, lt_T, lt_F, le_T, le_F, eq_T, eq_F, ↓reduceIte, ite_not, not_true_eq_false, not_false_eq_true, true_or, or_true, false_or, or_false, true_and, and_true, false_and, and_false, up_get, Nat.reduceEqDiff, Int.reduceNeg, eqN_T, eqN_F]
              exact D30
            · simp (disch := omega) only [Option.bind_some, xI, xU, xUt, xIt, J_lit, J_add, J_sub, J_mul, J_neg, J_ltc, J_lec, J_eqc, lt_T, lt_F, le_T, le_F, eq_T, eq_F, ↓reduceIte, ite_not, not_true_eq_false, not_false_eq_true, true_or, or_true, false_or, or_false, true_and, and_true, false_and, and_false, up_get, Nat.reduceEqDiff, Int.reduceNeg, eqN_T, eqN_F]
              exact D30
          refine ⟨m3, (F1.tr F2).l.tr F3, fun z => ⟨Z (c3 z).1, (c3 z).2⟩, fun z => ⟨(c4 z).1, (c4 z).2.1.trans ((F1.tr F2) 1 3 (by omega)), J (tok b n B), J V, fun E => Z ((c4 z).2.2 E)⟩⟩
        · obtain ⟨m1, d, RP1, F1, Z1⟩ := RZ S m q hs h
          obtain ⟨m2, RP2, F2, -, -, Z2⟩ := r_l127 (q := q) hs hB1 RP1 L0 L1 cn eV (by omega) v9.1
          rw [if_pos cv.1] at RP2
          obtain ⟨m3, D3, F3, r1, r2⟩ := RE S m2 q d hs RP2
          exact ⟨m3, Z1 (fun _ => Z2 (by omega) D3) (fun z => by omega), F1.tr (F2.tr F3), r1, r2⟩
      · rw [if_neg cv] at eV
        refine ⟨false, nxB b n B, s, g, ⟨fun z => absurd z (by decide), fun _ => ⟨hB1.1.1, hB1.1.2.1⟩⟩, fun S m q hs h => ?_, fun S m q hs h => ?_⟩
        · have tk := h.1.tk
          obtain ⟨m1, D1, C1, F1⟩ := c_next (q := q) hs hB h.1 lt
          have tk1 := C1.tk
          obtain ⟨DX, CR⟩ := c_failR (q := q) (s' := s) (g' := g) hs C1
          refine ⟨up m1 1 3 (nxB b n B), F1.l.tr (fun c j a _ _ _ _ _ => if_neg (fun z => a ⟨z.1, by omega, by omega⟩)), fun _ => ⟨?_, up_at _ _ _ _⟩, fun z => absurd z (by decide)⟩
          have D59 : De (fun k => f_X3_readLine k 59 [.ref 1, .int (J (tok b n B)), .int (J 0)] (hp S m1 q)) (.inl (some (.int (J 0)))) (hp S (up m1 1 3 (nxB b n B)) q) := by
            refine De.step ?_
            simp only [j_X3_readLine_59]
            simp (disch := omega) only [b_X3_readLine_59, x1_k hs, x1_r0 hs, x1_r1 hs, x1_i2 hs, x1_w2 hs, x1_i3 hs, x1_w3 hs, x1_i4 hs, x1_w4 hs, x1_i5 hs, x1_w5 hs, x1_i6 hs, x1_w6 hs, x1_i7 hs, x1_w7 hs, Option.bind_some]
            refine De.call DX ?_
            simp (disch := omega) only [Option.bind_some, xI, xU, xUt, xIt, J_lit, J_add, J_sub, J_mul, J_neg, J_ltc, J_lec, J_eqc, lt_T, lt_F, le_T, le_F, eq_T, eq_F, ↓reduceIte, ite_not, not_true_eq_false, not_false_eq_true, true_or, or_true, false_or, or_false, true_and, and_true, false_and, and_false, up_get, Nat.reduceEqDiff, Int.reduceNeg, eqN_T, eqN_F]
            exact De.ret _ _
          have D30 : De (fun k => f_X3_readLine k 30 [.ref 1, .int (J (tok b n B)), .int (J 0)] (hp S m1 q)) (.inl (some (.int (J 0)))) (hp S (up m1 1 3 (nxB b n B)) q) := by
            by_cases c20 : tok b n (nxB b n B) = 20
            · have v7 := C1.2.2.1.2.2.2 c20
              have vv := vl_20 hB1 c20
              have big : ¬ vlF b (nxB b n B) (ten b n (nxB b n B) - nxB b n B).toNat ≤ (if tok b n B = 2 then 100 else 9999) := fun z => cv ⟨c20, z⟩
              have D56 : ∀ hi : Int, hi = (if tok b n B = 2 then 100 else 9999) → 0 ≤ hi → hi ≤ 9999 → De (fun k => f_X3_readLine k 56 [.ref 1, .int (J (tok b n B)), .int (J 0), .int (J (vlF b (nxB b n B) (ten b n (nxB b n B) - nxB b n B).toNat)), .int (J hi)] (hp S m1 q)) (.inl (some (.int (J 0)))) (hp S (up m1 1 3 (nxB b n B)) q) := by
                intro hi e e0 e1
                rw [← e] at big
                refine De.step ?_
                simp only [j_X3_readLine_56]
                simp (disch := omega) only [b_X3_readLine_56, Option.bind_some, xI, xU, xUt, xIt, J_lit, J_add, J_sub, J_mul, J_neg, J_ltc, J_lec, J_eqc, lt_T, lt_F, le_T, le_F, eq_T, eq_F, ↓reduceIte, ite_not, not_true_eq_false, not_false_eq_true, true_or, or_true, false_or, or_false, true_and, and_true, false_and, and_false, up_get, Nat.reduceEqDiff, Int.reduceNeg, eqN_T, eqN_F]
                exact D59
              rcases cn with z | z
              · refine De.step ?_
                simp only [j_X3_readLine_30]
                simp (disch := omega) only [b_X3_readLine_30, x1_k hs, x1_r0 hs, x1_r1 hs, x1_i2 hs, x1_w2 hs, x1_i3 hs, x1_w3 hs, x1_i4 hs, x1_w4 hs, x1_i5 hs, x1_w5 hs, x1_i6 hs, x1_w6 hs, x1_i7 hs, x1_w7 hs, tk1.1, c20, v7, Option.bind_some, xI, xU, xUt, xIt, J_lit, J_add, J_sub, J_mul, J_neg, J_ltc, J_lec, J_eqc, lt_T, lt_F, le_T, le_F, eq_T, eq_F, ↓reduceIte, ite_not, not_true_eq_false, not_false_eq_true, true_or, or_true, false_or, or_false, true_and, and_true, false_and, and_false, up_get, Nat.reduceEqDiff, Int.reduceNeg, eqN_T, eqN_F]
                exact D56 9999 (if_neg (by omega)).symm (by decide) (by decide)
              · refine De.step ?_
                simp only [j_X3_readLine_30]
                simp (disch := omega) only [b_X3_readLine_30, x1_k hs, x1_r0 hs, x1_r1 hs, x1_i2 hs, x1_w2 hs, x1_i3 hs, x1_w3 hs, x1_i4 hs, x1_w4 hs, x1_i5 hs, x1_w5 hs, x1_i6 hs, x1_w6 hs, x1_i7 hs, x1_w7 hs, tk1.1, c20, v7, Option.bind_some, xI, xU, xUt, xIt, J_lit, J_add, J_sub, J_mul, J_neg, J_ltc, J_lec, J_eqc, lt_T, lt_F, le_T, le_F, eq_T, eq_F, ↓reduceIte, ite_not, not_true_eq_false, not_false_eq_true, true_or, or_true, false_or, or_false, true_and, and_true, false_and, and_false, up_get, Nat.reduceEqDiff, Int.reduceNeg, eqN_T, eqN_F]
                exact D56 100 (if_pos z).symm (by decide) (by decide)
            · refine De.step ?_
              simp only [j_X3_readLine_30]
              simp (disch := omega) only [b_X3_readLine_30, x1_k hs, x1_r0 hs, x1_r1 hs, x1_i2 hs, x1_w2 hs, x1_i3 hs, x1_w3 hs, x1_i4 hs, x1_w4 hs, x1_i5 hs, x1_w5 hs, x1_i6 hs, x1_w6 hs, x1_i7 hs, x1_w7 hs, tk1.1, Option.bind_some, xI, xU, xUt, xIt, J_lit, J_add, J_sub, J_mul, J_neg, J_ltc, J_lec, J_eqc, lt_T, lt_F, le_T, le_F, eq_T, eq_F, ↓reduceIte, ite_not, not_true_eq_false, not_false_eq_true, true_or, or_true, false_or, or_false, true_and, and_true, false_and, and_false, up_get, Nat.reduceEqDiff, Int.reduceNeg, eqN_T, eqN_F]
              exact D59
          refine De.step ?_
          simp only [j_X3_readLine_0]
          simp (disch := omega) only [b_X3_readLine_0, x1_k hs, x1_r0 hs, x1_r1 hs, x1_i2 hs, x1_w2 hs, x1_i3 hs, x1_w3 hs, x1_i4 hs, x1_w4 hs, x1_i5 hs, x1_w5 hs, x1_i6 hs, x1_w6 hs, x1_i7 hs, x1_w7 hs, tk.1, Option.bind_some, xI, xU, xUt, xIt, J_lit, J_add, J_sub, J_mul, J_neg, J_ltc, J_lec, J_eqc, lt_T, lt_F, le_T, le_F, eq_T, eq_F, ↓reduceIte, ite_not, not_true_eq_false, not_false_eq_true, true_or, or_true, false_or, or_false, true_and, and_true, false_and, and_false, up_get, Nat.reduceEqDiff, Int.reduceNeg, eqN_T, eqN_F]
          refine De.call D1 ?_
          rcases cn with z | z
          · simp (disch := omega) only [Option.bind_some, xI, xU, xUt, xIt, J_lit, J_add, J_sub, J_mul, J_neg, J_ltc, J_lec, J_eqc, lt_T, lt_F, le_T, le_F, eq_T, eq_F, ↓reduceIte, ite_not, not_true_eq_false, not_false_eq_true, true_or, or_true, false_or, or_false, true_and, and_true, false_and, and_false, up_get, Nat.reduceEqDiff, Int.reduceNeg, eqN_T, eqN_F]
            exact D30
          · simp (disch := omega) only [Option.bind_some, xI, xU, xUt, xIt, J_lit, J_add, J_sub, J_mul, J_neg, J_ltc, J_lec, J_eqc, lt_T, lt_F, le_T, le_F, eq_T, eq_F, ↓reduceIte, ite_not, not_true_eq_false, not_false_eq_true, true_or, or_true, false_or, or_false, true_and, and_true, false_and, and_false, up_get, Nat.reduceEqDiff, Int.reduceNeg, eqN_T, eqN_F]
            exact D30
        · obtain ⟨m1, d, RP1, F1, Z1⟩ := RZ S m q hs h
          obtain ⟨m2, RP2, F2, B2, D2, -⟩ := r_l127 (q := q) (V := V) hs hB1 RP1 L0 L1 cn (by rw [if_neg cv]; exact eV) (by omega) (by omega)
          exact ⟨m2, Z1 (fun _ => D2 (by omega)) (fun z => by omega), F1.tr F2, fun z => absurd z (by decide), fun _ => B2⟩
    · obtain ⟨ok, Bt, s', g', FC, CL, RE⟩ := ln_if (t := tok b n B) (nb := 0) hB1 s0 (by omega) L0 L1 PL (ln4_HL g L (tok b n B) 0 s s) (by omega) ct (by decide) (by decide) (fun _ => by decide)
      refine ⟨ok, Bt, s', g', ⟨fun z => ?_, FC.2⟩, fun S m q hs h => ?_, fun S m q hs h => ?_⟩
      · obtain ⟨a1, a2, a3⟩ := FC.1 z
        exact ⟨a1, by omega, a3⟩
      · have tk := h.1.tk
        obtain ⟨m1, D1, C1, F1⟩ := c_next (q := q) hs hB h.1 lt
        have C1L : CLs m1 b n (nxB b n B) s g L := ⟨C1, (F1 5 0 (by omega)).trans h.2.1, fun j j0 j1 => by
          rw [F1 3 j (by omega), F1 4 j (by omega), F1 5 j (by omega), F1 5 (j + 1) (by omega)]
          exact h.2.2 j j0 j1⟩
        obtain ⟨m3, F3, c3, c4⟩ := CL S m1 q hs C1L
        have Z : ∀ {R : xR} {P : xH}, De (fun k => f_X3_readLine k 73 [.ref 1, .int (J (tok b n B)), .int (J 0)] (hp S m1 q)) R P → De (fun k => f_X3_readLine k 0 [.ref 1] (hp S m q)) R P := by
          intro R P E
          refine De.step ?_
          simp only [j_X3_readLine_0]
          simp (disch := omega) only [b_X3_readLine_0, x1_k hs, x1_r0 hs, x1_r1 hs, x1_i2 hs, x1_w2 hs, x1_i3 hs, x1_w3 hs, x1_i4 hs, x1_w4 hs, x1_i5 hs, x1_w5 hs, x1_i6 hs, x1_w6 hs, x1_i7 hs, x1_w7 hs, tk.1, Option.bind_some, xI, xU, xUt, xIt, J_lit, J_add, J_sub, J_mul, J_neg, J_ltc, J_lec, J_eqc, lt_T, lt_F, le_T, le_F, eq_T, eq_F, ↓reduceIte, ite_not, not_true_eq_false, not_false_eq_true, true_or, or_true, false_or, or_false, true_and, and_true, false_and, and_false, up_get, Nat.reduceEqDiff, Int.reduceNeg, eqN_T, eqN_F]
          refine De.call D1 ?_
          simp (disch := omega) only [Option.bind_some, xI, xU, xUt, xIt, J_lit, J_add, J_sub, J_mul, J_neg, J_ltc, J_lec, J_eqc, lt_T, lt_F, le_T, le_F, eq_T, eq_F, ↓reduceIte, ite_not, not_true_eq_false, not_false_eq_true, true_or, or_true, false_or, or_false, true_and, and_true, false_and, and_false, up_get, Nat.reduceEqDiff, Int.reduceNeg, eqN_T, eqN_F]
          exact E
        exact ⟨m3, F1.l.tr F3, fun z => ⟨Z (c3 z).1, (c3 z).2⟩, fun z => ⟨(c4 z).1, (c4 z).2.1.trans (F1 1 3 (by omega)), J (tok b n B), J 0, fun E => Z ((c4 z).2.2 E)⟩⟩
      · obtain ⟨m1, d, RP1, F1, Z1⟩ := RZ S m q hs h
        obtain ⟨m3, D3, F3, r1, r2⟩ := RE S m1 q d hs RP1
        exact ⟨m3, Z1 (fun z => absurd z cn) (fun _ => D3), F1.tr F3, r1, r2⟩
  · refine ⟨false, B, s, g, ⟨fun z => absurd z (by decide), fun _ => ⟨h1.1, h1.2.1⟩⟩, fun S m q hs h => ?_, fun S m q hs h => ?_⟩
    · have tk := h.1.tk
      obtain ⟨DX, CR⟩ := c_failR (q := q) (s' := s) (g' := g) hs h.1
      refine ⟨up m 1 3 B, fun c j a _ _ _ _ _ => if_neg (fun z => a ⟨z.1, by omega, by omega⟩), fun _ => ⟨?_, up_at _ _ _ _⟩, fun z => absurd z (by decide)⟩
      refine De.step ?_
      simp only [j_X3_readLine_0]
      simp (disch := omega) only [b_X3_readLine_0, x1_k hs, x1_r0 hs, x1_r1 hs, x1_i2 hs, x1_w2 hs, x1_i3 hs, x1_w3 hs, x1_i4 hs, x1_w4 hs, x1_i5 hs, x1_w5 hs, x1_i6 hs, x1_w6 hs, x1_i7 hs, x1_w7 hs, tk.1, Option.bind_some, xI, xU, xUt, xIt, J_lit, J_add, J_sub, J_mul, J_neg, J_ltc, J_lec, J_eqc, lt_T, lt_F, le_T, le_F, eq_T, eq_F, ↓reduceIte, ite_not, not_true_eq_false, not_false_eq_true, true_or, or_true, false_or, or_false, true_and, and_true, false_and, and_false, up_get, Nat.reduceEqDiff, Int.reduceNeg, eqN_T, eqN_F]
      refine De.call DX ?_
      simp (disch := omega) only [Option.bind_some, xI, xU, xUt, xIt, J_lit, J_add, J_sub, J_mul, J_neg, J_ltc, J_lec, J_eqc, lt_T, lt_F, le_T, le_F, eq_T, eq_F, ↓reduceIte, ite_not, not_true_eq_false, not_false_eq_true, true_or, or_true, false_or, or_false, true_and, and_true, false_and, and_false, up_get, Nat.reduceEqDiff, Int.reduceNeg, eqN_T, eqN_F]
      exact De.ret _ _
    · obtain ⟨d, h⟩ := h
      obtain ⟨ma, Ra, Ba, Fa, Za⟩ := r_l0 (q := q) hs hB h L0 L1
      rw [if_neg ct] at Za
      have RP : RPs ma b n (rn b n 32 32 (rn b n 97 122 B)) s g d := h.fr Fa Ra rfl
      obtain ⟨mb, Fb, Bb, Db⟩ := r_l71F (q := q) hs RP L0 L1
      exact ⟨mb, Za Db, Fa.r.tr Fb, fun z => absurd z (by decide), fun _ => Bb.trans Ba⟩
end CORE
