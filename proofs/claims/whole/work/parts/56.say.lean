/-! sayings -/
theorem gath {S : xH} {m : Nat → Int → Int} {q : Nat → Int → Int64} {pe kn : Int} (hs : Sk S) (hI : InvM S m q) (k0 : -2147483648 ≤ kn) (k1 : kn < 2147483648) (e0 : 0 ≤ pe) (e1 : pe < 16) : ∃ (mg : Nat → Int → Int) (L : Int → Int) (c : Nat), De (fun n => f_X6_gather n 0 [.ref 133, .int (J pe), .int (J kn)] (hp S m q)) (.inl none) (hp S mg q) ∧ (∀ b j, b ≠ 133 → b ≠ 134 → mg b j = m b j) ∧ (c : Int) = mg 133 4 ∧ Lst mg 134 L c ∧ (∀ i : Int, 0 ≤ i → i < c → m 139 (761 + 10 * L i + 0) ≤ 1) ∧
    ∀ (mx : Nat → Int → Int) (qx : Nat → Int → Int64), (∀ b, b = 139 ∨ b = 137 ∨ (16 ≤ b ∧ b ≤ 26) ∨ b = 64 → mx b = m b) → ∃ mh, De (fun n => f_X11_gathers n 0 [.ref 136, .int (J pe), .int (J kn)] (hp S mx qx)) (.inl none) (hp S mh qx) ∧ (∀ b j, (b ≠ 136 ∨ j ≠ 22) → b ≠ 147 → mh b j = mx b j) ∧ (c : Int) = mh 136 22 ∧ Lst mh 147 L c := by
  have sm := hI.small
  have hN : (((m 139 1).toNat : Nat) : Int) = m 139 1 := by omega
  have bn := gN_in (m 139) (m 137) pe kn (m 139 1).toNat (m 139 1).toNat
  have be := gE_in (m 139) (m 137) pe kn (m 139 1).toNat (m 139 1).toNat
  obtain ⟨mg, G, g1, g2, g3⟩ := q_gather (q := q) hs hI.gok k0 k1 e0 e1 (m 139 1).toNat hN
  refine ⟨mg, gE (m 139) (m 137) pe kn (m 139 1).toNat (m 139 1).toNat, (gN (m 139) (m 137) pe kn (m 139 1).toNat (m 139 1).toNat).toNat, G, g1, by omega, ⟨by omega, fun i i0 i1 => ?_⟩, fun i i0 i1 => ?_, fun mx qx hx => ?_⟩
  · have := (be i i0 (by omega)).1
    rw [g1 139 1 (by decide) (by decide)]
    exact ⟨g3 i i0 (by omega), this.1, by omega⟩
  · have := (be i i0 (by omega)).2
    unfold sayB at this
    simp only [Bool.and_eq_true, decide_eq_true_eq] at this
    exact this.1.1.1
  · have r9 := hx 139 (by omega)
    have r7 := hx 137 (by omega)
    obtain ⟨mh, H, h1, h2, h3⟩ := q_gathers (m := mx) (q := qx) (kn := kn) (pe := pe) hs (hI.gok.row hx) k0 k1 e0 e1 (m 139 1).toNat (by rw [r9]; exact hN)
    rw [r9, r7] at h2 h3
    refine ⟨mh, H, h1, by omega, by omega, fun i i0 i1 => ?_⟩
    have := (be i i0 (by omega)).1
    rw [h1 139 1 (Or.inl (by decide)) (by decide), r9]
    exact ⟨h3 i i0 (by omega), this.1, by omega⟩
theorem Fok.row {m m' : Nat → Int → Int} (h : Fok m) (e : m' 139 = m 139) : Fok m' := by
  unfold Fok
  rw [e]
  exact h
theorem Fcl.row {m m' : Nat → Int → Int} (h : Fcl m) (e : ∀ b, b = 139 ∨ (16 ≤ b ∧ b ≤ 26) → m' b = m b) : Fcl m' := by
  unfold Fcl
  rw [e 139 (by omega), e 19 (by omega), e 23 (by omega), e 24 (by omega)]
  exact h
theorem w_sayings : LawOb Inv 0 136 152 16 := by
  rintro j P hj ⟨S, m, q, rfl, hs, hR, hI⟩ v1 v2 bb hbb
  obtain ⟨x1, rfl, a1, b1⟩ := J_of v1
  obtain ⟨x2, rfl, a2, b2⟩ := J_of v2
  have rm := hR.rm hj
  have hr := hR.1
  obtain ⟨⟨w0, w1, w2⟩, ⟨w3, w4, w5, w6⟩, ⟨v0, v1, v2⟩, l0⟩ := hI.small
  obtain ⟨tap, by0, lot0, ⟨par, hid, prt, sto, gan, wrd, wlk, row, rul, tol, plc, net, dwn⟩, kep⟩ := hI.get
  by_cases c1 : 0 ≤ x1 ∧ x1 < 16
  · obtain ⟨mg, L, c, G, g1, g2, g3, g4, g5⟩ := gath (pe := x1) (kn := x2) hs hI (by omega) (by omega) (by omega) (by omega)
    have gr : ∀ b, b ≠ 133 → b ≠ 134 → mg b = m b := fun b u1 u2 => funext fun j => g1 b j u1 u2
    have gx : ∀ b, b = 139 ∨ b = 137 ∨ (16 ≤ b ∧ b ≤ 26) ∨ b = 64 → (up mg 136 0 0) b = m b := fun b hb => (up_row (by omega)).trans (gr b (by omega) (by omega))
    have F := hI.fok
    have C := hI.fcl
    have r9 := gr 139 (by decide) (by decide)
    rcases hbb with rfl | rfl
    · obtain ⟨mh, H, h1, h2, h3⟩ := g5 (up mg 136 0 0) (uq q 152 0 (Int32.toInt64 (J c))) gx
      have s9 : mh 139 = m 139 := (funext fun j => h1 139 j (Or.inl (by decide)) (by decide)).trans (gx 139 (by omega))
      refine ob_sayings_ok hs (v := (J c)) (m1 := mg) (q1 := q) (m2 := mh) ?_ ?_ ((h1 136 0 (Or.inr (by omega)) (by decide)).trans (up_at _ _ _ _)) ⟨_, _, _, rfl, hs, hR.next, hI.free (Grow.rfl' S) hr (fun b i hb => by
        unfold Free at hb
        rw [h1 b i (by omega) (by omega), up_get, if_neg (by omega), g1 b i (by omega) (by omega)]) (fun b hb => uq_row (by omega))⟩
      · refine De.stepk 12 ?_
        simp (disch := omega) only [j_X10_sayings_0, b_X10_sayings_0, x0_k hs, x0_r0 hs, x0_r1 hs, x0_r2 hs, x0_r3 hs, x133_k hs, x133_r0 hs, x133_r1 hs, x133_r2 hs, x133_r3 hs, x133_i4 hs, x133_w4 hs, e_needIndex_ok, e_needIndex_no rm, e_needPlace_ok, e_needPlace_no rm, e_needWithin_ok, e_needWithin_no rm, e_needSpace_ok, e_needSpace_no rm, e_needPhone hs, e_needWord hs, e_needWhat_ok, e_needWhat_no rm, e_needTickZero hs, tE_hp _ _ _ _ rm.1 rm.2, Option.bind_some, xI, xU, xUt, xIt, J_lit, J_add, J_sub, J_mul, J_neg, J_ltc, J_lec, J_eqc, lt_T, lt_F, le_T, le_F, eq_T, eq_F, ↓reduceIte, ite_not, not_true_eq_false, not_false_eq_true, true_or, or_true, false_or, or_false, true_and, and_true, false_and, and_false, up_get, Nat.reduceEqDiff, Int.reduceNeg, eqN_T, eqN_F]
        refine De.call (G.sh 11) ?_
        simp (disch := omega) only [x0_k hs, x0_r0 hs, x0_r1 hs, x0_r2 hs, x0_r3 hs, x133_k hs, x133_r0 hs, x133_r1 hs, x133_r2 hs, x133_r3 hs, x133_i4 hs, x133_w4 hs, g2, Option.bind_some, xI, xU, xUt, xIt, J_lit, J_add, J_sub, J_mul, J_neg, J_ltc, J_lec, J_eqc, lt_T, lt_F, le_T, le_F, eq_T, eq_F, ↓reduceIte, ite_not, not_true_eq_false, not_false_eq_true, true_or, or_true, false_or, or_false, true_and, and_true, false_and, and_false, up_get, Nat.reduceEqDiff, Int.reduceNeg, eqN_T, eqN_F]
        exact De.ret _ _
      · refine De.stepk 12 ?_
        simp (disch := omega) only [j_X11_sayings_0, b_X11_sayings_0, x136_k hs, x136_i0 hs, x136_w0 hs, x136_r1 hs, x136_r2 hs, x136_r3 hs, x136_r4 hs, x136_i5 hs, x136_w5 hs, x136_i6 hs, x136_w6 hs, x136_i7 hs, x136_w7 hs, x136_r8 hs, x136_i9 hs, x136_w9 hs, x136_i10 hs, x136_w10 hs, x136_i11 hs, x136_w11 hs, x136_i12 hs, x136_w12 hs, x136_i13 hs, x136_w13 hs, x136_i14 hs, x136_w14 hs, x136_r15 hs, x136_i16 hs, x136_w16 hs, x136_r17 hs, x136_r18 hs, x136_r19 hs, x136_r20 hs, x136_r21 hs, x136_i22 hs, x136_w22 hs, x136_r23 hs, x136_r24 hs, x136_i25 hs, x136_w25 hs, x136_i26 hs, x136_w26 hs, x136_r27 hs, x136_r28 hs, x136_i29 hs, x136_w29 hs, e_in_T, e_in_F, e_throws0 hs, e_throws1 hs, e_noPlace_ok, e_noPlace_no, e_noPerson_ok, e_noPerson_no, e_noPhone hs, e_noWord hs, e_noGang hs, e_tick hs, e_phones hs, e_words hs, e_of hs, e_toldOf hs, e_copyAt, e_phoneAt, e_hadAt, e_ruleAt, e_lineAt, Option.bind_some, xI, xU, xUt, xIt, J_lit, J_add, J_sub, J_mul, J_neg, J_ltc, J_lec, J_eqc, lt_T, lt_F, le_T, le_F, eq_T, eq_F, ↓reduceIte, ite_not, not_true_eq_false, not_false_eq_true, true_or, or_true, false_or, or_false, true_and, and_true, false_and, and_false, up_get, Nat.reduceEqDiff, Int.reduceNeg, eqN_T, eqN_F]
        refine De.call (H.sh 11) ?_
        have M := q_sayings_l (q := (uq q 152 0 (Int32.toInt64 (J c)))) (pe := x1) (kn := x2) hs (F.row s9) L c h2 h3 0 (by omega) c 0 (by omega)
        rw [s9] at M
        rw [if_pos rfl] at M
        simp (disch := omega) only [Option.bind_some, xI, xU, xUt, xIt, J_lit, J_add, J_sub, J_mul, J_neg, J_ltc, J_lec, J_eqc, lt_T, lt_F, le_T, le_F, eq_T, eq_F, ↓reduceIte, ite_not, not_true_eq_false, not_false_eq_true, true_or, or_true, false_or, or_false, true_and, and_true, false_and, and_false, up_get, Nat.reduceEqDiff, Int.reduceNeg, eqN_T, eqN_F]
        exact M.sh 11
    · obtain ⟨mh, H, h1, h2, h3⟩ := g5 (up mg 136 0 0) (uq q 152 0 (Int32.toInt64 (bcn (foC (fun _ => true) (m 139) L c)))) gx
      have s9 : mh 139 = m 139 := (funext fun j => h1 139 j (Or.inl (by decide)) (by decide)).trans (gx 139 (by omega))
      refine ob_sayings_ok hs (v := (bcn (foC (fun _ => true) (m 139) L c))) (m1 := mg) (q1 := q) (m2 := mh) ?_ ?_ ((h1 136 0 (Or.inr (by omega)) (by decide)).trans (up_at _ _ _ _)) ⟨_, _, _, rfl, hs, hR.next, hI.free (Grow.rfl' S) hr (fun b i hb => by
        unfold Free at hb
        rw [h1 b i (by omega) (by omega), up_get, if_neg (by omega), g1 b i (by omega) (by omega)]) (fun b hb => uq_row (by omega))⟩
      · refine De.stepk 12 ?_
        simp (disch := omega) only [j_X10_sayings_0, b_X10_sayings_0, x0_k hs, x0_r0 hs, x0_r1 hs, x0_r2 hs, x0_r3 hs, x133_k hs, x133_r0 hs, x133_r1 hs, x133_r2 hs, x133_r3 hs, x133_i4 hs, x133_w4 hs, e_needIndex_ok, e_needIndex_no rm, e_needPlace_ok, e_needPlace_no rm, e_needWithin_ok, e_needWithin_no rm, e_needSpace_ok, e_needSpace_no rm, e_needPhone hs, e_needWord hs, e_needWhat_ok, e_needWhat_no rm, e_needTickZero hs, tE_hp _ _ _ _ rm.1 rm.2, Option.bind_some, xI, xU, xUt, xIt, J_lit, J_add, J_sub, J_mul, J_neg, J_ltc, J_lec, J_eqc, lt_T, lt_F, le_T, le_F, eq_T, eq_F, ↓reduceIte, ite_not, not_true_eq_false, not_false_eq_true, true_or, or_true, false_or, or_false, true_and, and_true, false_and, and_false, up_get, Nat.reduceEqDiff, Int.reduceNeg, eqN_T, eqN_F]
        refine De.call (G.sh 11) ?_
        simp (disch := omega) only [x0_k hs, x0_r0 hs, x0_r1 hs, x0_r2 hs, x0_r3 hs, x133_k hs, x133_r0 hs, x133_r1 hs, x133_r2 hs, x133_r3 hs, x133_i4 hs, x133_w4 hs, Option.bind_some, xI, xU, xUt, xIt, J_lit, J_add, J_sub, J_mul, J_neg, J_ltc, J_lec, J_eqc, lt_T, lt_F, le_T, le_F, eq_T, eq_F, ↓reduceIte, ite_not, not_true_eq_false, not_false_eq_true, true_or, or_true, false_or, or_false, true_and, and_true, false_and, and_false, up_get, Nat.reduceEqDiff, Int.reduceNeg, eqN_T, eqN_F]
        have M := q_mouthsAll (q := q) hs (F.row r9) (C.row (fun b hb => gr b (by omega) (by omega))) L c g2 g3
        rw [r9] at M
        refine De.call (M.sh 11) ?_
        simp only [xI, e_bitCount, Option.bind_some]
        exact De.ret _ _
      · refine De.stepk 12 ?_
        simp (disch := omega) only [j_X11_sayings_0, b_X11_sayings_0, x136_k hs, x136_i0 hs, x136_w0 hs, x136_r1 hs, x136_r2 hs, x136_r3 hs, x136_r4 hs, x136_i5 hs, x136_w5 hs, x136_i6 hs, x136_w6 hs, x136_i7 hs, x136_w7 hs, x136_r8 hs, x136_i9 hs, x136_w9 hs, x136_i10 hs, x136_w10 hs, x136_i11 hs, x136_w11 hs, x136_i12 hs, x136_w12 hs, x136_i13 hs, x136_w13 hs, x136_i14 hs, x136_w14 hs, x136_r15 hs, x136_i16 hs, x136_w16 hs, x136_r17 hs, x136_r18 hs, x136_r19 hs, x136_r20 hs, x136_r21 hs, x136_i22 hs, x136_w22 hs, x136_r23 hs, x136_r24 hs, x136_i25 hs, x136_w25 hs, x136_i26 hs, x136_w26 hs, x136_r27 hs, x136_r28 hs, x136_i29 hs, x136_w29 hs, e_in_T, e_in_F, e_throws0 hs, e_throws1 hs, e_noPlace_ok, e_noPlace_no, e_noPerson_ok, e_noPerson_no, e_noPhone hs, e_noWord hs, e_noGang hs, e_tick hs, e_phones hs, e_words hs, e_of hs, e_toldOf hs, e_copyAt, e_phoneAt, e_hadAt, e_ruleAt, e_lineAt, Option.bind_some, xI, xU, xUt, xIt, J_lit, J_add, J_sub, J_mul, J_neg, J_ltc, J_lec, J_eqc, lt_T, lt_F, le_T, le_F, eq_T, eq_F, ↓reduceIte, ite_not, not_true_eq_false, not_false_eq_true, true_or, or_true, false_or, or_false, true_and, and_true, false_and, and_false, up_get, Nat.reduceEqDiff, Int.reduceNeg, eqN_T, eqN_F]
        refine De.call (H.sh 11) ?_
        have M := q_sayings_l (q := (uq q 152 0 (Int32.toInt64 (bcn (foC (fun _ => true) (m 139) L c))))) (pe := x1) (kn := x2) hs (F.row s9) L c h2 h3 1 (by omega) c 0 (by omega)
        rw [s9] at M
        rw [if_neg (by omega)] at M
        simp (disch := omega) only [Option.bind_some, xI, xU, xUt, xIt, J_lit, J_add, J_sub, J_mul, J_neg, J_ltc, J_lec, J_eqc, lt_T, lt_F, le_T, le_F, eq_T, eq_F, ↓reduceIte, ite_not, not_true_eq_false, not_false_eq_true, true_or, or_true, false_or, or_false, true_and, and_true, false_and, and_false, up_get, Nat.reduceEqDiff, Int.reduceNeg, eqN_T, eqN_F]
        exact M.sh 11
  · have hs2 : Sk (xth S 0) := hs.grow (Grow.th S 0) hr
    exact ob_sayings_t0 hs hr (m1 := m) (q1 := q) (m2 := up (up m 136 0 0) 136 0 1) (b := J 0) (De.eq 12 (fun n => by
      simp (disch := omega) only [j_X10_sayings_0, b_X10_sayings_0, x0_k hs, x0_r0 hs, x0_r1 hs, x0_r2 hs, x0_r3 hs, x9_k hs, x9_r0 hs, x9_r1 hs, x9_r2 hs, x9_r3 hs, x9_r4 hs, x9_r5 hs, x9_r6 hs, x9_r7 hs, x9_i8 hs, x9_w8 hs, x9_i9 hs, x9_w9 hs, e_needIndex_ok, e_needIndex_no rm, e_needPlace_ok, e_needPlace_no rm, e_needWithin_ok, e_needWithin_no rm, e_needSpace_ok, e_needSpace_no rm, e_needPhone hs, e_needWord hs, e_needWhat_ok, e_needWhat_no rm, e_needTickZero hs, tE_hp _ _ _ _ rm.1 rm.2, Option.bind_some, xI, xU, xUt, xIt, J_lit, J_add, J_sub, J_mul, J_neg, J_lt, J_le, J_eq, lt_T, lt_F, le_T, le_F, eq_T, eq_F, ↓reduceIte, ite_not, not_true_eq_false, not_false_eq_true, true_or, or_true, false_or, or_false, true_and, and_true, false_and, and_false, up_get, Nat.reduceEqDiff, Int.reduceNeg])) (De.eq 12 (fun n => by
      simp (disch := omega) only [j_X11_sayings_0, b_X11_sayings_0, x136_k hs2, x136_i0 hs2, x136_w0 hs2, x136_r1 hs2, x136_r2 hs2, x136_r3 hs2, x136_r4 hs2, x136_i5 hs2, x136_w5 hs2, x136_i6 hs2, x136_w6 hs2, x136_i7 hs2, x136_w7 hs2, x136_r8 hs2, x136_i9 hs2, x136_w9 hs2, x136_i10 hs2, x136_w10 hs2, x136_i11 hs2, x136_w11 hs2, x136_i12 hs2, x136_w12 hs2, x136_i13 hs2, x136_w13 hs2, x136_i14 hs2, x136_w14 hs2, x136_r15 hs2, x136_i16 hs2, x136_w16 hs2, x136_r17 hs2, x136_r18 hs2, x136_r19 hs2, x136_r20 hs2, x136_r21 hs2, x136_i22 hs2, x136_w22 hs2, x136_r23 hs2, x136_r24 hs2, x136_i25 hs2, x136_w25 hs2, x136_i26 hs2, x136_w26 hs2, x136_r27 hs2, x136_r28 hs2, x136_i29 hs2, x136_w29 hs2, e_in_T, e_in_F, e_throws0 hs2, e_throws1 hs2, e_noPlace_ok, e_noPlace_no, e_noPerson_ok, e_noPerson_no, e_noPhone hs2, e_noWord hs2, e_noGang hs2, e_tick hs2, e_phones hs2, e_words hs2, e_of hs2, e_toldOf hs2, e_copyAt, e_phoneAt, e_hadAt, e_ruleAt, e_lineAt, Option.bind_some, xI, xU, xUt, xIt, J_lit, J_add, J_sub, J_mul, J_neg, J_lt, J_le, J_eq, lt_T, lt_F, le_T, le_F, eq_T, eq_F, ↓reduceIte, ite_not, not_true_eq_false, not_false_eq_true, true_or, or_true, false_or, or_false, true_and, and_true, false_and, and_false, up_get, Nat.reduceEqDiff, Int.reduceNeg]
      try simp (disch := omega) only [j_X11_sayings_31, b_X11_sayings_31, x136_k hs2, x136_i0 hs2, x136_w0 hs2, x136_r1 hs2, x136_r2 hs2, x136_r3 hs2, x136_r4 hs2, x136_i5 hs2, x136_w5 hs2, x136_i6 hs2, x136_w6 hs2, x136_i7 hs2, x136_w7 hs2, x136_r8 hs2, x136_i9 hs2, x136_w9 hs2, x136_i10 hs2, x136_w10 hs2, x136_i11 hs2, x136_w11 hs2, x136_i12 hs2, x136_w12 hs2, x136_i13 hs2, x136_w13 hs2, x136_i14 hs2, x136_w14 hs2, x136_r15 hs2, x136_i16 hs2, x136_w16 hs2, x136_r17 hs2, x136_r18 hs2, x136_r19 hs2, x136_r20 hs2, x136_r21 hs2, x136_i22 hs2, x136_w22 hs2, x136_r23 hs2, x136_r24 hs2, x136_i25 hs2, x136_w25 hs2, x136_i26 hs2, x136_w26 hs2, x136_r27 hs2, x136_r28 hs2, x136_i29 hs2, x136_w29 hs2, e_in_T, e_in_F, e_throws0 hs2, e_throws1 hs2, e_noPlace_ok, e_noPlace_no, e_noPerson_ok, e_noPerson_no, e_noPhone hs2, e_noWord hs2, e_noGang hs2, e_tick hs2, e_phones hs2, e_words hs2, e_of hs2, e_toldOf hs2, e_copyAt, e_phoneAt, e_hadAt, e_ruleAt, e_lineAt, Option.bind_some, xI, xU, xUt, xIt, J_lit, J_add, J_sub, J_mul, J_neg, J_lt, J_le, J_eq, lt_T, lt_F, le_T, le_F, eq_T, eq_F, ↓reduceIte, ite_not, not_true_eq_false, not_false_eq_true, true_or, or_true, false_or, or_false, true_and, and_true, false_and, and_false, up_get, Nat.reduceEqDiff, Int.reduceNeg])) (up_at _ _ _ _) (Inv.thr hI hs hR 0 1)
