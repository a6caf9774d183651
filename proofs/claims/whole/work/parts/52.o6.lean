/-! check, count -/
theorem w_check : LawOb Inv 0 136 152 36 := by
  rintro j P hj ⟨S, m, q, rfl, hs, hR, hI⟩
  have rm := hR.rm hj
  have hr := hR.1
  obtain ⟨⟨w0, w1, w2⟩, ⟨w3, w4, w5, w6⟩, ⟨v0, v1, v2⟩, l0⟩ := hI.small
  obtain ⟨tap, by0, lot0, ⟨par, hid, prt, sto, gan, wrd, wlk, row, rul, tol, plc, net, dwn⟩, kep⟩ := hI.get
  obtain ⟨row1, row2⟩ := row
  have r7 : (up m 136 0 0) 137 = m 137 := up_row (by decide)
  have r9 : (up m 136 0 0) 139 = m 139 := up_row (by decide)
  have hk : (((min 8 (m 137 0)).toNat : Nat) : Int) = min 8 (m 137 0) := by omega
  have ec : ftor (m 91) (m 92) (min 8 (m 137 0)).toNat 0 = ftor (fun i => m 139 (1136 + 2 * (m 137 0 - min 8 (m 137 0) + 1 + i) + 1)) (fun i => m 139 (1136 + 2 * (m 137 0 - min 8 (m 137 0) + 1 + i))) (min 8 (m 137 0)).toNat 0 :=
    ftor_congr _ _ (fun x x0 x1 => by
      obtain ⟨⟨a, b⟩, -⟩ := row2 x x0 (by omega)
      exact ⟨b, a⟩)
  refine oA_of hs (v := J (ftor (m 91) (m 92) (min 8 (m 137 0)).toNat 0)) (m1 := m) (q1 := q) (m2 := up m 136 0 0) ?_ ?_ (Inv.ro' hI hs hR)
  · refine De.stepk 6 ?_
    simp (disch := omega) only [j_X10_check_0, b_X10_check_0, x0_k hs, x0_r0 hs, x0_r1 hs, x0_r2 hs, x0_r3 hs, x9_k hs, x9_r0 hs, x9_r1 hs, x9_r2 hs, x9_r3 hs, x9_r4 hs, x9_r5 hs, x9_r6 hs, x9_r7 hs, x9_i8 hs, x9_w8 hs, x9_i9 hs, x9_w9 hs, x90_k hs, x90_r0 hs, x90_r1 hs, x90_i2 hs, x90_w2 hs, Option.bind_some, xI, xU, xUt, xIt, J_lit, J_add, J_sub, J_mul, J_neg, J_lt, J_le, J_eq, lt_T, lt_F, le_T, le_F, eq_T, eq_F, ↓reduceIte, ite_not, not_true_eq_false, not_false_eq_true, true_or, or_true, false_or, or_false, true_and, and_true, false_and, and_false, up_get, Nat.reduceEqDiff, Int.reduceNeg]
    have Q := q_firstTorn_l (q := q) hs (by omega) (fun i i0 i1 => (row2 i i0 (by omega)).2) (min 8 (m 137 0)).toNat 0 (by omega)
    have Q2 : De (fun n => f_X4_firstTorn n 0 [.ref 90] (hp S m q)) (.inl (some (.int (J (ftor (m 91) (m 92) (min 8 (m 137 0)).toNat 0))))) (hp S m q) := by
      refine De.step ?_
      simp only [j_X4_firstTorn_0, b_X4_firstTorn_0, J_lit]
      exact Q
    refine De.call (Q2.sh 5) ?_
    simp only [xI]
    exact De.ret _ _
  · refine De.stepk 6 ?_
    simp only [j_X11_check_0]
    simp (disch := omega) only [b_X11_check_0, x136_k hs, x136_i0 hs, x136_w0 hs, x136_r1 hs, x136_r2 hs, x136_r3 hs, x136_r4 hs, x136_i5 hs, x136_w5 hs, x136_i6 hs, x136_w6 hs, x136_i7 hs, x136_w7 hs, x136_r8 hs, x136_i9 hs, x136_w9 hs, x136_i10 hs, x136_w10 hs, x136_i11 hs, x136_w11 hs, x136_i12 hs, x136_w12 hs, x136_i13 hs, x136_w13 hs, x136_i14 hs, x136_w14 hs, x136_r15 hs, x136_i16 hs, x136_w16 hs, x136_r17 hs, x136_r18 hs, x136_r19 hs, x136_r20 hs, x136_r21 hs, x136_i22 hs, x136_w22 hs, x136_r23 hs, x136_r24 hs, x136_i25 hs, x136_w25 hs, x136_i26 hs, x136_w26 hs, x136_r27 hs, x136_r28 hs, x136_i29 hs, x136_w29 hs, Option.bind_some, xI, xU, xUt, xIt, J_lit, J_add, J_sub, J_mul, J_neg, J_lt, J_le, J_eq, lt_T, lt_F, le_T, le_F, eq_T, eq_F, ↓reduceIte, ite_not, not_true_eq_false, not_false_eq_true, true_or, or_true, false_or, or_false, true_and, and_true, false_and, and_false, up_get, Nat.reduceEqDiff, Int.reduceNeg]
    have Q := q_check_l (m := up m 136 0 0) (q := q) hs (by rw [r7]; exact v0) (by rw [r7]; exact v1) (by
      rw [r7, r9]
      intro i i0 i1
      obtain ⟨⟨a, b⟩, c1, c2, c3, c4⟩ := row2 i i0 i1
      omega) (min 8 (m 137 0)).toNat 0 (by rw [r7]; omega)
    rw [r7, r9] at Q
    rw [ec]
    exact Q.sh 5
theorem cX_count0 (n : Nat) (P : xH) : f_X10_count (n + 1) 0 [.ref 0, .int (J 0)] P = ((rA P 0 10 1).bind fun v2 => (rA P v2 7 3).bind fun v4 => (rI P v4 1 2).bind fun v6 => some (.inl (some (.int v6)), P)) := rfl
theorem cM_count0 (n : Nat) (P : xH) : f_X11_count (n + 1) 0 [.ref 136, .int (J 0)] P = (wV P 136 11 0 (.int 0)).bind fun P1 => ((kO P1 136 11).bind fun _ => (f_X11_tick n 0 [.ref 136] P1).bind fun r5 => xI r5 fun v7 P4 => some (.inl (some (.int v7)), P4)) := rfl
theorem cX_count1 (n : Nat) (P : xH) : f_X10_count (n + 1) 0 [.ref 0, .int (J 1)] P = ((rA P 0 10 1).bind fun v9 => (rA P v9 7 3).bind fun v11 => (rI P v11 1 3).bind fun v13 => some (.inl (some (.int v13)), P)) := rfl
theorem cM_count1 (n : Nat) (P : xH) : f_X11_count (n + 1) 0 [.ref 136, .int (J 1)] P = (wV P 136 11 0 (.int 0)).bind fun P1 => ((kO P1 136 11).bind fun _ => (f_X11_phones n 0 [.ref 136] P1).bind fun r11 => xI r11 fun v13 P10 => some (.inl (some (.int v13)), P10)) := rfl
theorem cX_count2 (n : Nat) (P : xH) : f_X10_count (n + 1) 0 [.ref 0, .int (J 2)] P = ((rA P 0 10 1).bind fun v16 => (rA P v16 7 1).bind fun v18 => (rI P v18 9 3).bind fun v20 => some (.inl (some (.int v20)), P)) := rfl
theorem cM_count2 (n : Nat) (P : xH) : f_X11_count (n + 1) 0 [.ref 136, .int (J 2)] P = (wV P 136 11 0 (.int 0)).bind fun P1 => ((kO P1 136 11).bind fun _ => (f_X11_words n 0 [.ref 136] P1).bind fun r17 => xI r17 fun v19 P16 => some (.inl (some (.int v19)), P16)) := rfl
theorem cX_count3 (n : Nat) (P : xH) : f_X10_count (n + 1) 0 [.ref 0, .int (J 3)] P = ((rA P 0 10 1).bind fun v23 => (rA P v23 7 0).bind fun v25 => (rI P v25 5 3).bind fun v27 => some (.inl (some (.int v27)), P)) := rfl
theorem cM_count3 (n : Nat) (P : xH) : f_X11_count (n + 1) 0 [.ref 136, .int (J 3)] P = (wV P 136 11 0 (.int 0)).bind fun P1 => ((rA P1 136 11 3).bind fun v22 => (f_X11_ruleAt n 0 [.int 0] P1).bind fun r25 => xI r25 fun v27 P24 => (aI P24 v22 v27).bind fun v28 => some (.inl (some (.int v28)), P24)) := rfl
theorem cX_count4 (n : Nat) (P : xH) : f_X10_count (n + 1) 0 [.ref 0, .int (J 4)] P = ((rA P 0 10 1).bind fun v30 => (rA P v30 7 3).bind fun v32 => (kO P v32 1).bind fun _ => (f_X1_total n 0 [.ref v32, .int 2] P).bind fun r35 => xI r35 fun v37 P34 => some (.inl (some (.int v37)), P34)) := rfl
theorem cM_count4 (n : Nat) (P : xH) : f_X11_count (n + 1) 0 [.ref 136, .int (J 4)] P = (wV P 136 11 0 (.int 0)).bind fun P1 => ((kO P1 136 11).bind fun _ => (f_X11_allCopies n 0 [.ref 136] P1).bind fun r32 => xI r32 fun v34 P31 => some (.inl (some (.int v34)), P31)) := rfl
theorem cX_count5 (n : Nat) (P : xH) : f_X10_count (n + 1) 0 [.ref 0, .int (J 5)] P = ((rA P 0 10 1).bind fun v40 => (rA P v40 7 3).bind fun v42 => (kO P v42 1).bind fun _ => (f_X1_total n 0 [.ref v42, .int 5] P).bind fun r45 => xI r45 fun v47 P44 => some (.inl (some (.int v47)), P44)) := rfl
theorem cM_count5 (n : Nat) (P : xH) : f_X11_count (n + 1) 0 [.ref 136, .int (J 5)] P = (wV P 136 11 0 (.int 0)).bind fun P1 => ((kO P1 136 11).bind fun _ => (f_X11_sumOf n 0 [.ref 136, .int 2] P1).bind fun r38 => xI r38 fun v40 P37 => some (.inl (some (.int v40)), P37)) := rfl
theorem cX_count6 (n : Nat) (P : xH) : f_X10_count (n + 1) 0 [.ref 0, .int (J 6)] P = ((rA P 0 10 1).bind fun v50 => (rA P v50 7 3).bind fun v52 => (kO P v52 1).bind fun _ => (f_X1_total n 0 [.ref v52, .int 7] P).bind fun r55 => xI r55 fun v57 P54 => some (.inl (some (.int v57)), P54)) := rfl
theorem cM_count6 (n : Nat) (P : xH) : f_X11_count (n + 1) 0 [.ref 136, .int (J 6)] P = (wV P 136 11 0 (.int 0)).bind fun P1 => ((kO P1 136 11).bind fun _ => (f_X11_sumOf n 0 [.ref 136, .int 4] P1).bind fun r44 => xI r44 fun v46 P43 => some (.inl (some (.int v46)), P43)) := rfl
theorem cX_count7 (n : Nat) (P : xH) : f_X10_count (n + 1) 0 [.ref 0, .int (J 7)] P = ((rA P 0 10 1).bind fun v60 => (rA P v60 7 3).bind fun v62 => (kO P v62 1).bind fun _ => (f_X1_wordsHad n 0 [.ref v62] P).bind fun r65 => xI r65 fun v67 P64 => some (.inl (some (.int v67)), P64)) := rfl
theorem cM_count7 (n : Nat) (P : xH) : f_X11_count (n + 1) 0 [.ref 136, .int (J 7)] P = (wV P 136 11 0 (.int 0)).bind fun P1 => (f_X11_count n 116 [.ref 136, .int (J 7), .int 0, .int 0] P1) := rfl
theorem cX_count8 (n : Nat) (P : xH) : f_X10_count (n + 1) 0 [.ref 0, .int (J 8)] P = ((rA P 0 10 1).bind fun v70 => (rA P v70 7 6).bind fun v72 => (rI P v72 2 5).bind fun v74 => some (.inl (some (.int v74)), P)) := rfl
theorem cM_count8 (n : Nat) (P : xH) : f_X11_count (n + 1) 0 [.ref 136, .int (J 8)] P = (wV P 136 11 0 (.int 0)).bind fun P1 => ((rA P1 136 11 3).bind fun v50 => (aI P1 v50 8).bind fun v52 => some (.inl (some (.int v52)), P1)) := rfl
theorem cX_count9 (n : Nat) (P : xH) : f_X10_count (n + 1) 0 [.ref 0, .int (J 9)] P = ((rA P 0 10 1).bind fun v77 => (rA P v77 7 7).bind fun v79 => (rI P v79 0 5).bind fun v81 => some (.inl (some (.int v81)), P)) := rfl
theorem cM_count9 (n : Nat) (P : xH) : f_X11_count (n + 1) 0 [.ref 136, .int (J 9)] P = (wV P 136 11 0 (.int 0)).bind fun P1 => ((rA P1 136 11 3).bind fun v55 => (aI P1 v55 9).bind fun v57 => some (.inl (some (.int v57)), P1)) := rfl
theorem cX_count10 (n : Nat) (P : xH) : f_X10_count (n + 1) 0 [.ref 0, .int (J 10)] P = ((rA P 0 10 1).bind fun v84 => (rA P v84 7 7).bind fun v86 => (rI P v86 0 6).bind fun v88 => some (.inl (some (.int v88)), P)) := rfl
theorem cM_count10 (n : Nat) (P : xH) : f_X11_count (n + 1) 0 [.ref 136, .int (J 10)] P = (wV P 136 11 0 (.int 0)).bind fun P1 => ((rA P1 136 11 3).bind fun v60 => (aI P1 v60 10).bind fun v62 => some (.inl (some (.int v62)), P1)) := rfl
theorem cX_count11 (n : Nat) (P : xH) : f_X10_count (n + 1) 0 [.ref 0, .int (J 11)] P = ((rA P 0 10 1).bind fun v91 => (rA P v91 7 2).bind fun v93 => (kO P v93 8).bind fun _ => (f_X8_lotsThatMove n 0 [.ref v93] P).bind fun r96 => xI r96 fun v98 P95 => some (.inl (some (.int v98)), P95)) := rfl
theorem cM_count11 (n : Nat) (P : xH) : f_X11_count (n + 1) 0 [.ref 136, .int (J 11)] P = (wV P 136 11 0 (.int 0)).bind fun P1 => (f_X11_count n 179 [.ref 136, .int (J 11), .int 0, .int 0] P1) := rfl
theorem w_count : LawOb Inv 0 136 152 39 := by
  rintro j P hj ⟨S, m, q, rfl, hs, hR, hI⟩ v1
  obtain ⟨x1, rfl, a1, b1⟩ := J_of v1
  have rm := hR.rm hj
  have hr := hR.1
  obtain ⟨⟨w0, w1, w2⟩, ⟨w3, w4, w5, w6⟩, ⟨v0, v1, v2⟩, l0⟩ := hI.small
  obtain ⟨tap, by0, lot0, ⟨par, hid, prt, sto, gan, wrd, wlk, row, rul, tol, plc, net, dwn⟩, kep⟩ := hI.get
  obtain ⟨rul1, -⟩ := rul
  have rul1 : m 10 3 = m 139 (4239 + 841 * 0) := rul1
  have prt1 := prt.1
  have sto1 := sto.1
  have gan1 := gan.1
  have r7 : (up m 136 0 0) 137 = m 137 := up_row (by decide)
  have r9 : (up m 136 0 0) 139 = m 139 := up_row (by decide)
  have hW : (((m 139 1).toNat : Nat) : Int) = m 139 1 := by omega
  have hPh : (((m 139 0).toNat : Nat) : Int) = m 139 0 := by omega
  by_cases cc : 0 ≤ x1 ∧ x1 ≤ 11
  · rcases (show x1 = 0 ∨ 1 ≤ x1 by omega) with rfl | d0
    · refine oA_of hs (v := J (m 46 2)) (m1 := m) (q1 := q) (m2 := up m 136 0 0) (De.eq 12 (fun n => by
        simp (disch := omega) only [cX_count0, x0_k hs, x0_r0 hs, x0_r1 hs, x0_r2 hs, x0_r3 hs, x9_k hs, x9_r0 hs, x9_r1 hs, x9_r2 hs, x9_r3 hs, x9_r4 hs, x9_r5 hs, x9_r6 hs, x9_r7 hs, x9_i8 hs, x9_w8 hs, x9_i9 hs, x9_w9 hs, x46_k hs, x46_r0 hs, x46_r1 hs, x46_i2 hs, x46_w2 hs, x46_i3 hs, x46_w3 hs, x46_i4 hs, x46_w4 hs, x46_r5 hs, x46_r6 hs, x46_r7 hs, x46_r8 hs, x46_r9 hs, x46_r10 hs, x46_r11 hs, x46_r12 hs, x46_r13 hs, x46_i14 hs, x46_w14 hs, x46_i15 hs, x46_w15 hs, x46_i16 hs, x46_w16 hs, Option.bind_some, xI, xU, xUt, xIt, J_lit, J_add, J_sub, J_mul, J_neg, J_lt, J_le, J_eq, lt_T, lt_F, le_T, le_F, eq_T, eq_F, ↓reduceIte, ite_not, not_true_eq_false, not_false_eq_true, true_or, or_true, false_or, or_false, true_and, and_true, false_and, and_false, up_get, Nat.reduceEqDiff, Int.reduceNeg])) (De.eq 12 (fun n => by
        simp (disch := omega) only [cM_count0, x136_k hs, x136_i0 hs, x136_w0 hs, x136_r1 hs, x136_r2 hs, x136_r3 hs, x136_r4 hs, x136_i5 hs, x136_w5 hs, x136_i6 hs, x136_w6 hs, x136_i7 hs, x136_w7 hs, x136_r8 hs, x136_i9 hs, x136_w9 hs, x136_i10 hs, x136_w10 hs, x136_i11 hs, x136_w11 hs, x136_i12 hs, x136_w12 hs, x136_i13 hs, x136_w13 hs, x136_i14 hs, x136_w14 hs, x136_r15 hs, x136_i16 hs, x136_w16 hs, x136_r17 hs, x136_r18 hs, x136_r19 hs, x136_r20 hs, x136_r21 hs, x136_i22 hs, x136_w22 hs, x136_r23 hs, x136_r24 hs, x136_i25 hs, x136_w25 hs, x136_i26 hs, x136_w26 hs, x136_r27 hs, x136_r28 hs, x136_i29 hs, x136_w29 hs, x137_g hs, x137_s hs, x137_l hs, e_tick hs, e_phones hs, e_words hs, e_ruleAt, v2, Option.bind_some, xI, xU, xUt, xIt, J_lit, J_add, J_sub, J_mul, J_neg, J_lt, J_le, J_eq, lt_T, lt_F, le_T, le_F, eq_T, eq_F, ↓reduceIte, ite_not, not_true_eq_false, not_false_eq_true, true_or, or_true, false_or, or_false, true_and, and_true, false_and, and_false, up_get, Nat.reduceEqDiff, Int.reduceNeg])) (Inv.ro' hI hs hR)
    rcases (show x1 = 1 ∨ 2 ≤ x1 by omega) with rfl | d1
    · refine oA_of hs (v := J (m 46 3)) (m1 := m) (q1 := q) (m2 := up m 136 0 0) (De.eq 12 (fun n => by
        simp (disch := omega) only [cX_count1, x0_k hs, x0_r0 hs, x0_r1 hs, x0_r2 hs, x0_r3 hs, x9_k hs, x9_r0 hs, x9_r1 hs, x9_r2 hs, x9_r3 hs, x9_r4 hs, x9_r5 hs, x9_r6 hs, x9_r7 hs, x9_i8 hs, x9_w8 hs, x9_i9 hs, x9_w9 hs, x46_k hs, x46_r0 hs, x46_r1 hs, x46_i2 hs, x46_w2 hs, x46_i3 hs, x46_w3 hs, x46_i4 hs, x46_w4 hs, x46_r5 hs, x46_r6 hs, x46_r7 hs, x46_r8 hs, x46_r9 hs, x46_r10 hs, x46_r11 hs, x46_r12 hs, x46_r13 hs, x46_i14 hs, x46_w14 hs, x46_i15 hs, x46_w15 hs, x46_i16 hs, x46_w16 hs, Option.bind_some, xI, xU, xUt, xIt, J_lit, J_add, J_sub, J_mul, J_neg, J_lt, J_le, J_eq, lt_T, lt_F, le_T, le_F, eq_T, eq_F, ↓reduceIte, ite_not, not_true_eq_false, not_false_eq_true, true_or, or_true, false_or, or_false, true_and, and_true, false_and, and_false, up_get, Nat.reduceEqDiff, Int.reduceNeg])) (De.eq 12 (fun n => by
        simp (disch := omega) only [cM_count1, x136_k hs, x136_i0 hs, x136_w0 hs, x136_r1 hs, x136_r2 hs, x136_r3 hs, x136_r4 hs, x136_i5 hs, x136_w5 hs, x136_i6 hs, x136_w6 hs, x136_i7 hs, x136_w7 hs, x136_r8 hs, x136_i9 hs, x136_w9 hs, x136_i10 hs, x136_w10 hs, x136_i11 hs, x136_w11 hs, x136_i12 hs, x136_w12 hs, x136_i13 hs, x136_w13 hs, x136_i14 hs, x136_w14 hs, x136_r15 hs, x136_i16 hs, x136_w16 hs, x136_r17 hs, x136_r18 hs, x136_r19 hs, x136_r20 hs, x136_r21 hs, x136_i22 hs, x136_w22 hs, x136_r23 hs, x136_r24 hs, x136_i25 hs, x136_w25 hs, x136_i26 hs, x136_w26 hs, x136_r27 hs, x136_r28 hs, x136_i29 hs, x136_w29 hs, e_tick hs, e_phones hs, e_words hs, e_ruleAt, w2, Option.bind_some, xI, xU, xUt, xIt, J_lit, J_add, J_sub, J_mul, J_neg, J_lt, J_le, J_eq, lt_T, lt_F, le_T, le_F, eq_T, eq_F, ↓reduceIte, ite_not, not_true_eq_false, not_false_eq_true, true_or, or_true, false_or, or_false, true_and, and_true, false_and, and_false, up_get, Nat.reduceEqDiff, Int.reduceNeg])) (Inv.ro' hI hs hR)
    rcases (show x1 = 2 ∨ 3 ≤ x1 by omega) with rfl | d2
    · refine oA_of hs (v := J (m 16 3)) (m1 := m) (q1 := q) (m2 := up m 136 0 0) (De.eq 12 (fun n => by
        simp (disch := omega) only [cX_count2, x0_k hs, x0_r0 hs, x0_r1 hs, x0_r2 hs, x0_r3 hs, x9_k hs, x9_r0 hs, x9_r1 hs, x9_r2 hs, x9_r3 hs, x9_r4 hs, x9_r5 hs, x9_r6 hs, x9_r7 hs, x9_i8 hs, x9_w8 hs, x9_i9 hs, x9_w9 hs, x16_k hs, x16_r0 hs, x16_r1 hs, x16_r2 hs, x16_i3 hs, x16_w3 hs, Option.bind_some, xI, xU, xUt, xIt, J_lit, J_add, J_sub, J_mul, J_neg, J_lt, J_le, J_eq, lt_T, lt_F, le_T, le_F, eq_T, eq_F, ↓reduceIte, ite_not, not_true_eq_false, not_false_eq_true, true_or, or_true, false_or, or_false, true_and, and_true, false_and, and_false, up_get, Nat.reduceEqDiff, Int.reduceNeg])) (De.eq 12 (fun n => by
        simp (disch := omega) only [cM_count2, x136_k hs, x136_i0 hs, x136_w0 hs, x136_r1 hs, x136_r2 hs, x136_r3 hs, x136_r4 hs, x136_i5 hs, x136_w5 hs, x136_i6 hs, x136_w6 hs, x136_i7 hs, x136_w7 hs, x136_r8 hs, x136_i9 hs, x136_w9 hs, x136_i10 hs, x136_w10 hs, x136_i11 hs, x136_w11 hs, x136_i12 hs, x136_w12 hs, x136_i13 hs, x136_w13 hs, x136_i14 hs, x136_w14 hs, x136_r15 hs, x136_i16 hs, x136_w16 hs, x136_r17 hs, x136_r18 hs, x136_r19 hs, x136_r20 hs, x136_r21 hs, x136_i22 hs, x136_w22 hs, x136_r23 hs, x136_r24 hs, x136_i25 hs, x136_w25 hs, x136_i26 hs, x136_w26 hs, x136_r27 hs, x136_r28 hs, x136_i29 hs, x136_w29 hs, e_tick hs, e_phones hs, e_words hs, e_ruleAt, w5, Option.bind_some, xI, xU, xUt, xIt, J_lit, J_add, J_sub, J_mul, J_neg, J_lt, J_le, J_eq, lt_T, lt_F, le_T, le_F, eq_T, eq_F, ↓reduceIte, ite_not, not_true_eq_false, not_false_eq_true, true_or, or_true, false_or, or_false, true_and, and_true, false_and, and_false, up_get, Nat.reduceEqDiff, Int.reduceNeg])) (Inv.ro' hI hs hR)
    rcases (show x1 = 3 ∨ 4 ≤ x1 by omega) with rfl | d3
    · refine oA_of hs (v := J (m 10 3)) (m1 := m) (q1 := q) (m2 := up m 136 0 0) (De.eq 12 (fun n => by
        simp (disch := omega) only [cX_count3, x0_k hs, x0_r0 hs, x0_r1 hs, x0_r2 hs, x0_r3 hs, x9_k hs, x9_r0 hs, x9_r1 hs, x9_r2 hs, x9_r3 hs, x9_r4 hs, x9_r5 hs, x9_r6 hs, x9_r7 hs, x9_i8 hs, x9_w8 hs, x9_i9 hs, x9_w9 hs, x10_k hs, x10_r0 hs, x10_r1 hs, x10_r2 hs, x10_i3 hs, x10_w3 hs, x10_r4 hs, x10_i5 hs, x10_w5 hs, x10_r6 hs, x10_i7 hs, x10_w7 hs, Option.bind_some, xI, xU, xUt, xIt, J_lit, J_add, J_sub, J_mul, J_neg, J_lt, J_le, J_eq, lt_T, lt_F, le_T, le_F, eq_T, eq_F, ↓reduceIte, ite_not, not_true_eq_false, not_false_eq_true, true_or, or_true, false_or, or_false, true_and, and_true, false_and, and_false, up_get, Nat.reduceEqDiff, Int.reduceNeg])) (De.eq 12 (fun n => by
        simp (disch := omega) only [cM_count3, x136_k hs, x136_i0 hs, x136_w0 hs, x136_r1 hs, x136_r2 hs, x136_r3 hs, x136_r4 hs, x136_i5 hs, x136_w5 hs, x136_i6 hs, x136_w6 hs, x136_i7 hs, x136_w7 hs, x136_r8 hs, x136_i9 hs, x136_w9 hs, x136_i10 hs, x136_w10 hs, x136_i11 hs, x136_w11 hs, x136_i12 hs, x136_w12 hs, x136_i13 hs, x136_w13 hs, x136_i14 hs, x136_w14 hs, x136_r15 hs, x136_i16 hs, x136_w16 hs, x136_r17 hs, x136_r18 hs, x136_r19 hs, x136_r20 hs, x136_r21 hs, x136_i22 hs, x136_w22 hs, x136_r23 hs, x136_r24 hs, x136_i25 hs, x136_w25 hs, x136_i26 hs, x136_w26 hs, x136_r27 hs, x136_r28 hs, x136_i29 hs, x136_w29 hs, x139_g hs, x139_s hs, x139_l hs, e_tick hs, e_phones hs, e_words hs, e_ruleAt, rul1, Option.bind_some, xI, xU, xUt, xIt, J_lit, J_add, J_sub, J_mul, J_neg, J_lt, J_le, J_eq, lt_T, lt_F, le_T, le_F, eq_T, eq_F, ↓reduceIte, ite_not, not_true_eq_false, not_false_eq_true, true_or, or_true, false_or, or_false, true_and, and_true, false_and, and_false, up_get, Nat.reduceEqDiff, Int.reduceNeg])) (Inv.ro' hI hs hR)
    rcases (show x1 = 4 ∨ 5 ≤ x1 by omega) with rfl | d4
    · have ec : psum (m 50) (m 139 0).toNat = psum (fun p => cntw (m 137) p (m 139 1).toNat) (m 139 0).toNat :=
        psum_congr _ (fun i i0 i1 => (hI.phone i i0 (by omega)).1.2.2.1)
      refine oA_of hs (v := J (psum (m 50) (m 139 0).toNat)) (m1 := m) (q1 := q) (m2 := up m 136 0 0) ?_ ?_ (Inv.ro' hI hs hR)
      · refine De.stepk 12 ?_
        simp (disch := omega) only [cX_count4, x0_k hs, x0_r0 hs, x0_r1 hs, x0_r2 hs, x0_r3 hs, x9_k hs, x9_r0 hs, x9_r1 hs, x9_r2 hs, x9_r3 hs, x9_r4 hs, x9_r5 hs, x9_r6 hs, x9_r7 hs, x9_i8 hs, x9_w8 hs, x9_i9 hs, x9_w9 hs, x46_k hs, x46_r0 hs, x46_r1 hs, x46_i2 hs, x46_w2 hs, x46_i3 hs, x46_w3 hs, x46_i4 hs, x46_w4 hs, x46_r5 hs, x46_r6 hs, x46_r7 hs, x46_r8 hs, x46_r9 hs, x46_r10 hs, x46_r11 hs, x46_r12 hs, x46_r13 hs, x46_i14 hs, x46_w14 hs, x46_i15 hs, x46_w15 hs, x46_i16 hs, x46_w16 hs, Option.bind_some, xI, xU, xUt, xIt, J_lit, J_add, J_sub, J_mul, J_neg, J_lt, J_le, J_eq, lt_T, lt_F, le_T, le_F, eq_T, eq_F, ↓reduceIte, ite_not, not_true_eq_false, not_false_eq_true, true_or, or_true, false_or, or_false, true_and, and_true, false_and, and_false, up_get, Nat.reduceEqDiff, Int.reduceNeg]
        refine De.call ((q_total2 (q := q) hs (by omega) (m 139 0).toNat (by omega)).sh 11) ?_
        simp only [xI]
        exact De.ret _ _
      · refine De.stepk 12 ?_
        simp (disch := omega) only [cM_count4, x136_k hs, x136_i0 hs, x136_w0 hs, x136_r1 hs, x136_r2 hs, x136_r3 hs, x136_r4 hs, x136_i5 hs, x136_w5 hs, x136_i6 hs, x136_w6 hs, x136_i7 hs, x136_w7 hs, x136_r8 hs, x136_i9 hs, x136_w9 hs, x136_i10 hs, x136_w10 hs, x136_i11 hs, x136_w11 hs, x136_i12 hs, x136_w12 hs, x136_i13 hs, x136_w13 hs, x136_i14 hs, x136_w14 hs, x136_r15 hs, x136_i16 hs, x136_w16 hs, x136_r17 hs, x136_r18 hs, x136_r19 hs, x136_r20 hs, x136_r21 hs, x136_i22 hs, x136_w22 hs, x136_r23 hs, x136_r24 hs, x136_i25 hs, x136_w25 hs, x136_i26 hs, x136_w26 hs, x136_r27 hs, x136_r28 hs, x136_i29 hs, x136_w29 hs, e_tick hs, e_phones hs, e_words hs, e_ruleAt, Option.bind_some, xI, xU, xUt, xIt, J_lit, J_add, J_sub, J_mul, J_neg, J_lt, J_le, J_eq, lt_T, lt_F, le_T, le_F, eq_T, eq_F, ↓reduceIte, ite_not, not_true_eq_false, not_false_eq_true, true_or, or_true, false_or, or_false, true_and, and_true, false_and, and_false, up_get, Nat.reduceEqDiff, Int.reduceNeg]
        have Q := q_allCopies (m := up m 136 0 0) (q := q) hs (by
          rw [r7]
          intro p w p0 p1 w0 w1
          exact (hI.has p w p0 p1 w0 w1).1) (by rw [r9]; exact w1) (by rw [r9]; exact w4) (m 139 1).toNat (by rw [r9]; exact hW) (m 139 0).toNat (by rw [r9]; exact hPh) (by omega)
        rw [r7] at Q
        rw [ec]
        refine De.call (Q.sh 11) ?_
        simp only [xI]
        exact De.ret _ _
    rcases (show x1 = 5 ∨ 6 ≤ x1 by omega) with rfl | d5
    · have ec : psum (m 53) (m 139 0).toNat = psum (fun p => m 137 (1 + 5 * p + 2)) (m 139 0).toNat :=
        psum_congr _ (fun i i0 i1 => (hI.phone i i0 (by omega)).1.2.2.2.2.2.1)
      refine oA_of hs (v := J (psum (m 53) (m 139 0).toNat)) (m1 := m) (q1 := q) (m2 := up m 136 0 0) ?_ ?_ (Inv.ro' hI hs hR)
      · refine De.stepk 12 ?_
        simp (disch := omega) only [cX_count5, x0_k hs, x0_r0 hs, x0_r1 hs, x0_r2 hs, x0_r3 hs, x9_k hs, x9_r0 hs, x9_r1 hs, x9_r2 hs, x9_r3 hs, x9_r4 hs, x9_r5 hs, x9_r6 hs, x9_r7 hs, x9_i8 hs, x9_w8 hs, x9_i9 hs, x9_w9 hs, x46_k hs, x46_r0 hs, x46_r1 hs, x46_i2 hs, x46_w2 hs, x46_i3 hs, x46_w3 hs, x46_i4 hs, x46_w4 hs, x46_r5 hs, x46_r6 hs, x46_r7 hs, x46_r8 hs, x46_r9 hs, x46_r10 hs, x46_r11 hs, x46_r12 hs, x46_r13 hs, x46_i14 hs, x46_w14 hs, x46_i15 hs, x46_w15 hs, x46_i16 hs, x46_w16 hs, Option.bind_some, xI, xU, xUt, xIt, J_lit, J_add, J_sub, J_mul, J_neg, J_lt, J_le, J_eq, lt_T, lt_F, le_T, le_F, eq_T, eq_F, ↓reduceIte, ite_not, not_true_eq_false, not_false_eq_true, true_or, or_true, false_or, or_false, true_and, and_true, false_and, and_false, up_get, Nat.reduceEqDiff, Int.reduceNeg]
        refine De.call ((q_total5 (q := q) hs (by omega) (m 139 0).toNat (by omega)).sh 11) ?_
        simp only [xI]
        exact De.ret _ _
      · refine De.stepk 12 ?_
        simp (disch := omega) only [cM_count5, x136_k hs, x136_i0 hs, x136_w0 hs, x136_r1 hs, x136_r2 hs, x136_r3 hs, x136_r4 hs, x136_i5 hs, x136_w5 hs, x136_i6 hs, x136_w6 hs, x136_i7 hs, x136_w7 hs, x136_r8 hs, x136_i9 hs, x136_w9 hs, x136_i10 hs, x136_w10 hs, x136_i11 hs, x136_w11 hs, x136_i12 hs, x136_w12 hs, x136_i13 hs, x136_w13 hs, x136_i14 hs, x136_w14 hs, x136_r15 hs, x136_i16 hs, x136_w16 hs, x136_r17 hs, x136_r18 hs, x136_r19 hs, x136_r20 hs, x136_r21 hs, x136_i22 hs, x136_w22 hs, x136_r23 hs, x136_r24 hs, x136_i25 hs, x136_w25 hs, x136_i26 hs, x136_w26 hs, x136_r27 hs, x136_r28 hs, x136_i29 hs, x136_w29 hs, e_tick hs, e_phones hs, e_words hs, e_ruleAt, Option.bind_some, xI, xU, xUt, xIt, J_lit, J_add, J_sub, J_mul, J_neg, J_lt, J_le, J_eq, lt_T, lt_F, le_T, le_F, eq_T, eq_F, ↓reduceIte, ite_not, not_true_eq_false, not_false_eq_true, true_or, or_true, false_or, or_false, true_and, and_true, false_and, and_false, up_get, Nat.reduceEqDiff, Int.reduceNeg]
        have Q := q_sumOf (m := up m 136 0 0) (q := q) (x := 2) hs (by omega) (by omega) (by rw [r9]; exact w1) (m 139 0).toNat (by rw [r9]; exact hPh) (by omega)
        rw [r7] at Q
        rw [ec]
        refine De.call (Q.sh 11) ?_
        simp only [xI]
        exact De.ret _ _
    rcases (show x1 = 6 ∨ 7 ≤ x1 by omega) with rfl | d6
    · have ec : psum (m 55) (m 139 0).toNat = psum (fun p => m 137 (1 + 5 * p + 4)) (m 139 0).toNat :=
        psum_congr _ (fun i i0 i1 => (hI.phone i i0 (by omega)).1.2.2.2.2.2.2.2)
      refine oA_of hs (v := J (psum (m 55) (m 139 0).toNat)) (m1 := m) (q1 := q) (m2 := up m 136 0 0) ?_ ?_ (Inv.ro' hI hs hR)
      · refine De.stepk 12 ?_
        simp (disch := omega) only [cX_count6, x0_k hs, x0_r0 hs, x0_r1 hs, x0_r2 hs, x0_r3 hs, x9_k hs, x9_r0 hs, x9_r1 hs, x9_r2 hs, x9_r3 hs, x9_r4 hs, x9_r5 hs, x9_r6 hs, x9_r7 hs, x9_i8 hs, x9_w8 hs, x9_i9 hs, x9_w9 hs, x46_k hs, x46_r0 hs, x46_r1 hs, x46_i2 hs, x46_w2 hs, x46_i3 hs, x46_w3 hs, x46_i4 hs, x46_w4 hs, x46_r5 hs, x46_r6 hs, x46_r7 hs, x46_r8 hs, x46_r9 hs, x46_r10 hs, x46_r11 hs, x46_r12 hs, x46_r13 hs, x46_i14 hs, x46_w14 hs, x46_i15 hs, x46_w15 hs, x46_i16 hs, x46_w16 hs, Option.bind_some, xI, xU, xUt, xIt, J_lit, J_add, J_sub, J_mul, J_neg, J_lt, J_le, J_eq, lt_T, lt_F, le_T, le_F, eq_T, eq_F, ↓reduceIte, ite_not, not_true_eq_false, not_false_eq_true, true_or, or_true, false_or, or_false, true_and, and_true, false_and, and_false, up_get, Nat.reduceEqDiff, Int.reduceNeg]
        refine De.call ((q_total7 (q := q) hs (by omega) (m 139 0).toNat (by omega)).sh 11) ?_
        simp only [xI]
        exact De.ret _ _
      · refine De.stepk 12 ?_
        simp (disch := omega) only [cM_count6, x136_k hs, x136_i0 hs, x136_w0 hs, x136_r1 hs, x136_r2 hs, x136_r3 hs, x136_r4 hs, x136_i5 hs, x136_w5 hs, x136_i6 hs, x136_w6 hs, x136_i7 hs, x136_w7 hs, x136_r8 hs, x136_i9 hs, x136_w9 hs, x136_i10 hs, x136_w10 hs, x136_i11 hs, x136_w11 hs, x136_i12 hs, x136_w12 hs, x136_i13 hs, x136_w13 hs, x136_i14 hs, x136_w14 hs, x136_r15 hs, x136_i16 hs, x136_w16 hs, x136_r17 hs, x136_r18 hs, x136_r19 hs, x136_r20 hs, x136_r21 hs, x136_i22 hs, x136_w22 hs, x136_r23 hs, x136_r24 hs, x136_i25 hs, x136_w25 hs, x136_i26 hs, x136_w26 hs, x136_r27 hs, x136_r28 hs, x136_i29 hs, x136_w29 hs, e_tick hs, e_phones hs, e_words hs, e_ruleAt, Option.bind_some, xI, xU, xUt, xIt, J_lit, J_add, J_sub, J_mul, J_neg, J_lt, J_le, J_eq, lt_T, lt_F, le_T, le_F, eq_T, eq_F, ↓reduceIte, ite_not, not_true_eq_false, not_false_eq_true, true_or, or_true, false_or, or_false, true_and, and_true, false_and, and_false, up_get, Nat.reduceEqDiff, Int.reduceNeg]
        have Q := q_sumOf (m := up m 136 0 0) (q := q) (x := 4) hs (by omega) (by omega) (by rw [r9]; exact w1) (m 139 0).toNat (by rw [r9]; exact hPh) (by omega)
        rw [r7] at Q
        rw [ec]
        refine De.call (Q.sh 11) ?_
        simp only [xI]
        exact De.ret _ _
    rcases (show x1 = 7 ∨ 8 ≤ x1 by omega) with rfl | d7
    · skip
      refine oA_of hs (v := J (cHad (m 137) (m 139 1).toNat)) (m1 := m) (q1 := q) (m2 := up m 136 0 0) ?_ ?_ (Inv.ro' hI hs hR)
      · refine De.stepk 12 ?_
        simp (disch := omega) only [cX_count7, x0_k hs, x0_r0 hs, x0_r1 hs, x0_r2 hs, x0_r3 hs, x9_k hs, x9_r0 hs, x9_r1 hs, x9_r2 hs, x9_r3 hs, x9_r4 hs, x9_r5 hs, x9_r6 hs, x9_r7 hs, x9_i8 hs, x9_w8 hs, x9_i9 hs, x9_w9 hs, x46_k hs, x46_r0 hs, x46_r1 hs, x46_i2 hs, x46_w2 hs, x46_i3 hs, x46_w3 hs, x46_i4 hs, x46_w4 hs, x46_r5 hs, x46_r6 hs, x46_r7 hs, x46_r8 hs, x46_r9 hs, x46_r10 hs, x46_r11 hs, x46_r12 hs, x46_r13 hs, x46_i14 hs, x46_w14 hs, x46_i15 hs, x46_w15 hs, x46_i16 hs, x46_w16 hs, Option.bind_some, xI, xU, xUt, xIt, J_lit, J_add, J_sub, J_mul, J_neg, J_lt, J_le, J_eq, lt_T, lt_F, le_T, le_F, eq_T, eq_F, ↓reduceIte, ite_not, not_true_eq_false, not_false_eq_true, true_or, or_true, false_or, or_false, true_and, and_true, false_and, and_false, up_get, Nat.reduceEqDiff, Int.reduceNeg]
        refine De.call ((q_wordsHad (q := q) hs (by omega) (fun x x0 x1 => ?_) (m 139 1).toNat (by omega) (by omega)).sh 11) ?_
        · obtain ⟨a, b, c, -⟩ := hI.had x x0 (by omega)
          exact ⟨a, b, by omega⟩
        · simp only [xI]
          exact De.ret _ _
      · refine De.stepk 12 ?_
        simp (disch := omega) only [cM_count7, x136_k hs, x136_i0 hs, x136_w0 hs, x136_r1 hs, x136_r2 hs, x136_r3 hs, x136_r4 hs, x136_i5 hs, x136_w5 hs, x136_i6 hs, x136_w6 hs, x136_i7 hs, x136_w7 hs, x136_r8 hs, x136_i9 hs, x136_w9 hs, x136_i10 hs, x136_w10 hs, x136_i11 hs, x136_w11 hs, x136_i12 hs, x136_w12 hs, x136_i13 hs, x136_w13 hs, x136_i14 hs, x136_w14 hs, x136_r15 hs, x136_i16 hs, x136_w16 hs, x136_r17 hs, x136_r18 hs, x136_r19 hs, x136_r20 hs, x136_r21 hs, x136_i22 hs, x136_w22 hs, x136_r23 hs, x136_r24 hs, x136_i25 hs, x136_w25 hs, x136_i26 hs, x136_w26 hs, x136_r27 hs, x136_r28 hs, x136_i29 hs, x136_w29 hs, e_tick hs, e_phones hs, e_words hs, e_ruleAt, Option.bind_some, xI, xU, xUt, xIt, J_lit, J_add, J_sub, J_mul, J_neg, J_lt, J_le, J_eq, lt_T, lt_F, le_T, le_F, eq_T, eq_F, ↓reduceIte, ite_not, not_true_eq_false, not_false_eq_true, true_or, or_true, false_or, or_false, true_and, and_true, false_and, and_false, up_get, Nat.reduceEqDiff, Int.reduceNeg]
        have Q := q_count116 (m := up m 136 0 0) (q := q) hs (by rw [r9]; exact w4) (by
          rw [r7, r9]
          intro x x0 x1
          obtain ⟨a, b, c, -⟩ := hI.had x x0 x1
          omega) (m 139 1).toNat (by rw [r9]; exact hW) (by omega) (m 139 1).toNat 0 (by omega)
        rw [r7] at Q
        exact Q.sh 11
    rcases (show x1 = 8 ∨ 9 ≤ x1 by omega) with rfl | d8
    · refine oA_of hs (v := J (m 93 5)) (m1 := m) (q1 := q) (m2 := up m 136 0 0) (De.eq 12 (fun n => by
        simp (disch := omega) only [cX_count8, x0_k hs, x0_r0 hs, x0_r1 hs, x0_r2 hs, x0_r3 hs, x9_k hs, x9_r0 hs, x9_r1 hs, x9_r2 hs, x9_r3 hs, x9_r4 hs, x9_r5 hs, x9_r6 hs, x9_r7 hs, x9_i8 hs, x9_w8 hs, x9_i9 hs, x9_w9 hs, x93_k hs, x93_r0 hs, x93_r1 hs, x93_r2 hs, x93_r3 hs, x93_r4 hs, x93_i5 hs, x93_w5 hs, x93_i6 hs, x93_w6 hs, x93_i7 hs, x93_w7 hs, x93_i8 hs, x93_w8 hs, Option.bind_some, xI, xU, xUt, xIt, J_lit, J_add, J_sub, J_mul, J_neg, J_lt, J_le, J_eq, lt_T, lt_F, le_T, le_F, eq_T, eq_F, ↓reduceIte, ite_not, not_true_eq_false, not_false_eq_true, true_or, or_true, false_or, or_false, true_and, and_true, false_and, and_false, up_get, Nat.reduceEqDiff, Int.reduceNeg])) (De.eq 12 (fun n => by
        simp (disch := omega) only [cM_count8, x136_k hs, x136_i0 hs, x136_w0 hs, x136_r1 hs, x136_r2 hs, x136_r3 hs, x136_r4 hs, x136_i5 hs, x136_w5 hs, x136_i6 hs, x136_w6 hs, x136_i7 hs, x136_w7 hs, x136_r8 hs, x136_i9 hs, x136_w9 hs, x136_i10 hs, x136_w10 hs, x136_i11 hs, x136_w11 hs, x136_i12 hs, x136_w12 hs, x136_i13 hs, x136_w13 hs, x136_i14 hs, x136_w14 hs, x136_r15 hs, x136_i16 hs, x136_w16 hs, x136_r17 hs, x136_r18 hs, x136_r19 hs, x136_r20 hs, x136_r21 hs, x136_i22 hs, x136_w22 hs, x136_r23 hs, x136_r24 hs, x136_i25 hs, x136_w25 hs, x136_i26 hs, x136_w26 hs, x136_r27 hs, x136_r28 hs, x136_i29 hs, x136_w29 hs, x139_g hs, x139_s hs, x139_l hs, e_tick hs, e_phones hs, e_words hs, e_ruleAt, prt1, Option.bind_some, xI, xU, xUt, xIt, J_lit, J_add, J_sub, J_mul, J_neg, J_lt, J_le, J_eq, lt_T, lt_F, le_T, le_F, eq_T, eq_F, ↓reduceIte, ite_not, not_true_eq_false, not_false_eq_true, true_or, or_true, false_or, or_false, true_and, and_true, false_and, and_false, up_get, Nat.reduceEqDiff, Int.reduceNeg])) (Inv.ro' hI hs hR)
    rcases (show x1 = 9 ∨ 10 ≤ x1 by omega) with rfl | d9
    · refine oA_of hs (v := J (m 99 5)) (m1 := m) (q1 := q) (m2 := up m 136 0 0) (De.eq 12 (fun n => by
        simp (disch := omega) only [cX_count9, x0_k hs, x0_r0 hs, x0_r1 hs, x0_r2 hs, x0_r3 hs, x9_k hs, x9_r0 hs, x9_r1 hs, x9_r2 hs, x9_r3 hs, x9_r4 hs, x9_r5 hs, x9_r6 hs, x9_r7 hs, x9_i8 hs, x9_w8 hs, x9_i9 hs, x9_w9 hs, x99_k hs, x99_r0 hs, x99_r1 hs, x99_r2 hs, x99_r3 hs, x99_r4 hs, x99_i5 hs, x99_w5 hs, x99_i6 hs, x99_w6 hs, x99_i7 hs, x99_w7 hs, Option.bind_some, xI, xU, xUt, xIt, J_lit, J_add, J_sub, J_mul, J_neg, J_lt, J_le, J_eq, lt_T, lt_F, le_T, le_F, eq_T, eq_F, ↓reduceIte, ite_not, not_true_eq_false, not_false_eq_true, true_or, or_true, false_or, or_false, true_and, and_true, false_and, and_false, up_get, Nat.reduceEqDiff, Int.reduceNeg])) (De.eq 12 (fun n => by
        simp (disch := omega) only [cM_count9, x136_k hs, x136_i0 hs, x136_w0 hs, x136_r1 hs, x136_r2 hs, x136_r3 hs, x136_r4 hs, x136_i5 hs, x136_w5 hs, x136_i6 hs, x136_w6 hs, x136_i7 hs, x136_w7 hs, x136_r8 hs, x136_i9 hs, x136_w9 hs, x136_i10 hs, x136_w10 hs, x136_i11 hs, x136_w11 hs, x136_i12 hs, x136_w12 hs, x136_i13 hs, x136_w13 hs, x136_i14 hs, x136_w14 hs, x136_r15 hs, x136_i16 hs, x136_w16 hs, x136_r17 hs, x136_r18 hs, x136_r19 hs, x136_r20 hs, x136_r21 hs, x136_i22 hs, x136_w22 hs, x136_r23 hs, x136_r24 hs, x136_i25 hs, x136_w25 hs, x136_i26 hs, x136_w26 hs, x136_r27 hs, x136_r28 hs, x136_i29 hs, x136_w29 hs, x139_g hs, x139_s hs, x139_l hs, e_tick hs, e_phones hs, e_words hs, e_ruleAt, sto1, Option.bind_some, xI, xU, xUt, xIt, J_lit, J_add, J_sub, J_mul, J_neg, J_lt, J_le, J_eq, lt_T, lt_F, le_T, le_F, eq_T, eq_F, ↓reduceIte, ite_not, not_true_eq_false, not_false_eq_true, true_or, or_true, false_or, or_false, true_and, and_true, false_and, and_false, up_get, Nat.reduceEqDiff, Int.reduceNeg])) (Inv.ro' hI hs hR)
    rcases (show x1 = 10 ∨ 11 ≤ x1 by omega) with rfl | d10
    · refine oA_of hs (v := J (m 99 6)) (m1 := m) (q1 := q) (m2 := up m 136 0 0) (De.eq 12 (fun n => by
        simp (disch := omega) only [cX_count10, x0_k hs, x0_r0 hs, x0_r1 hs, x0_r2 hs, x0_r3 hs, x9_k hs, x9_r0 hs, x9_r1 hs, x9_r2 hs, x9_r3 hs, x9_r4 hs, x9_r5 hs, x9_r6 hs, x9_r7 hs, x9_i8 hs, x9_w8 hs, x9_i9 hs, x9_w9 hs, x99_k hs, x99_r0 hs, x99_r1 hs, x99_r2 hs, x99_r3 hs, x99_r4 hs, x99_i5 hs, x99_w5 hs, x99_i6 hs, x99_w6 hs, x99_i7 hs, x99_w7 hs, Option.bind_some, xI, xU, xUt, xIt, J_lit, J_add, J_sub, J_mul, J_neg, J_lt, J_le, J_eq, lt_T, lt_F, le_T, le_F, eq_T, eq_F, ↓reduceIte, ite_not, not_true_eq_false, not_false_eq_true, true_or, or_true, false_or, or_false, true_and, and_true, false_and, and_false, up_get, Nat.reduceEqDiff, Int.reduceNeg])) (De.eq 12 (fun n => by
        simp (disch := omega) only [cM_count10, x136_k hs, x136_i0 hs, x136_w0 hs, x136_r1 hs, x136_r2 hs, x136_r3 hs, x136_r4 hs, x136_i5 hs, x136_w5 hs, x136_i6 hs, x136_w6 hs, x136_i7 hs, x136_w7 hs, x136_r8 hs, x136_i9 hs, x136_w9 hs, x136_i10 hs, x136_w10 hs, x136_i11 hs, x136_w11 hs, x136_i12 hs, x136_w12 hs, x136_i13 hs, x136_w13 hs, x136_i14 hs, x136_w14 hs, x136_r15 hs, x136_i16 hs, x136_w16 hs, x136_r17 hs, x136_r18 hs, x136_r19 hs, x136_r20 hs, x136_r21 hs, x136_i22 hs, x136_w22 hs, x136_r23 hs, x136_r24 hs, x136_i25 hs, x136_w25 hs, x136_i26 hs, x136_w26 hs, x136_r27 hs, x136_r28 hs, x136_i29 hs, x136_w29 hs, x139_g hs, x139_s hs, x139_l hs, e_tick hs, e_phones hs, e_words hs, e_ruleAt, gan1, Option.bind_some, xI, xU, xUt, xIt, J_lit, J_add, J_sub, J_mul, J_neg, J_lt, J_le, J_eq, lt_T, lt_F, le_T, le_F, eq_T, eq_F, ↓reduceIte, ite_not, not_true_eq_false, not_false_eq_true, true_or, or_true, false_or, or_false, true_and, and_true, false_and, and_false, up_get, Nat.reduceEqDiff, Int.reduceNeg])) (Inv.ro' hI hs hR)
    rcases (show x1 = 11 ∨ 12 ≤ x1 by omega) with rfl | d11
    · skip
      refine oA_of hs (v := J (cLot (m 139) 4)) (m1 := m) (q1 := q) (m2 := up m 136 0 0) ?_ ?_ (Inv.ro' hI hs hR)
      · refine De.stepk 12 ?_
        simp (disch := omega) only [cX_count11, x0_k hs, x0_r0 hs, x0_r1 hs, x0_r2 hs, x0_r3 hs, x9_k hs, x9_r0 hs, x9_r1 hs, x9_r2 hs, x9_r3 hs, x9_r4 hs, x9_r5 hs, x9_r6 hs, x9_r7 hs, x9_i8 hs, x9_w8 hs, x9_i9 hs, x9_w9 hs, x29_k hs, x29_r0 hs, x29_r1 hs, x29_r2 hs, x29_r3 hs, Option.bind_some, xI, xU, xUt, xIt, J_lit, J_add, J_sub, J_mul, J_neg, J_lt, J_le, J_eq, lt_T, lt_F, le_T, le_F, eq_T, eq_F, ↓reduceIte, ite_not, not_true_eq_false, not_false_eq_true, true_or, or_true, false_or, or_false, true_and, and_true, false_and, and_false, up_get, Nat.reduceEqDiff, Int.reduceNeg]
        refine De.call ((q_lotsThatMove (q := q) hs (fun l l0 l1 => ⟨(wlk l l0 l1).1, (wlk l l0 l1).2.1, (wlk l l0 l1).2.2.1⟩) 4 (by omega) (by omega)).sh 11) ?_
        simp only [xI]
        exact De.ret _ _
      · refine De.stepk 12 ?_
        simp (disch := omega) only [cM_count11, x136_k hs, x136_i0 hs, x136_w0 hs, x136_r1 hs, x136_r2 hs, x136_r3 hs, x136_r4 hs, x136_i5 hs, x136_w5 hs, x136_i6 hs, x136_w6 hs, x136_i7 hs, x136_w7 hs, x136_r8 hs, x136_i9 hs, x136_w9 hs, x136_i10 hs, x136_w10 hs, x136_i11 hs, x136_w11 hs, x136_i12 hs, x136_w12 hs, x136_i13 hs, x136_w13 hs, x136_i14 hs, x136_w14 hs, x136_r15 hs, x136_i16 hs, x136_w16 hs, x136_r17 hs, x136_r18 hs, x136_r19 hs, x136_r20 hs, x136_r21 hs, x136_i22 hs, x136_w22 hs, x136_r23 hs, x136_r24 hs, x136_i25 hs, x136_w25 hs, x136_i26 hs, x136_w26 hs, x136_r27 hs, x136_r28 hs, x136_i29 hs, x136_w29 hs, e_tick hs, e_phones hs, e_words hs, e_ruleAt, Option.bind_some, xI, xU, xUt, xIt, J_lit, J_add, J_sub, J_mul, J_neg, J_lt, J_le, J_eq, lt_T, lt_F, le_T, le_F, eq_T, eq_F, ↓reduceIte, ite_not, not_true_eq_false, not_false_eq_true, true_or, or_true, false_or, or_false, true_and, and_true, false_and, and_false, up_get, Nat.reduceEqDiff, Int.reduceNeg]
        have Q := q_count179 (m := up m 136 0 0) (q := q) hs (by
          rw [r9]
          intro l l0 l1
          exact ⟨(wlk l l0 l1).2.1, (wlk l l0 l1).2.2.1⟩) 4 (by omega) (by omega) 4 0 (by omega)
        rw [r9] at Q
        exact Q.sh 11
    omega
  · exact oA_of hs (v := J (-1)) (m1 := m) (q1 := q) (m2 := up m 136 0 0) (De.eq 12 (fun n => by
      rw [j_X10_count_0]
      unfold b_X10_count_0
      rw [toInt_J (by omega) (by omega), if_pos (by omega)]
      simp only [J_lit, J_neg])) (De.eq 12 (fun n => by
      rw [j_X11_count_0]
      unfold b_X11_count_0
      rw [J_lit 0, x136_w0 hs, Option.bind_some, toInt_J (by omega) (by omega), if_pos (by omega)]
      simp only [J_lit, J_neg])) (Inv.ro' hI hs hR)
