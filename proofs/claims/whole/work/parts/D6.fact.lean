/-! facts, brackets, not -/
section ATOM2
variable {S : xH} {m m' m0 : Nat → Int → Int} {q : Nat → Int → Int64} {b g g' : Int → Int} {n B s s' B' L d A : Int} {ok : Bool}
/-- the class behind the letters of a fact -/
theorem c_atomF (hs : Sk S) (hB : Bok b n B) (h : CPs m b n B s g L) (c1 : tok b n B ≠ 140) (c2 : tok b n B ≠ 7) {dp : Nat} {x : Int} (hx : x = 0 ∨ x = 1) {P' : xH} (D : De (fun k => f_X3_readFact k 0 [.ref 1] (hp S m q)) (.inl (some (.int (J x)))) P') : De (fun k => F_X3_readEither k (dp + 1) 1 [.ref 1, .int (J d)] (hp S m q)) (.inl (some (.int (J x)))) P' := by
  have tk := h.tk
  have tr := tok_rng hB
  simp only [FqA]
  refine De.step ?_
  simp only [j_X3_readAtom_0]
  simp (disch := omega) only [b_X3_readAtom_0, x1_k hs, x1_r0 hs, x1_r1 hs, x1_i2 hs, x1_w2 hs, x1_i3 hs, x1_w3 hs, x1_i4 hs, x1_w4 hs, x1_i5 hs, x1_w5 hs, x1_i6 hs, x1_w6 hs, x1_i7 hs, x1_w7 hs, tk.1, Option.bind_some, xI, xU, xUt, xIt, J_lit, J_add, J_sub, J_mul, J_neg, J_ltc, J_lec, J_eqc, lt_T, lt_F, le_T, le_F, eq_T, eq_F, ↓reduceIte, ite_not, not_true_eq_false, not_false_eq_true, true_or, or_true, false_or, or_false, true_and, and_true, false_and, and_false, up_get, Nat.reduceEqDiff, Int.reduceNeg, eqN_T, eqN_F]
  refine De.step ?_
  simp only [j_X3_readAtom_15]
  simp (disch := omega) only [b_X3_readAtom_15, x1_k hs, x1_r0 hs, x1_r1 hs, x1_i2 hs, x1_w2 hs, x1_i3 hs, x1_w3 hs, x1_i4 hs, x1_w4 hs, x1_i5 hs, x1_w5 hs, x1_i6 hs, x1_w6 hs, x1_i7 hs, x1_w7 hs, tk.1, Option.bind_some, xI, xU, xUt, xIt, J_lit, J_add, J_sub, J_mul, J_neg, J_ltc, J_lec, J_eqc, lt_T, lt_F, le_T, le_F, eq_T, eq_F, ↓reduceIte, ite_not, not_true_eq_false, not_false_eq_true, true_or, or_true, false_or, or_false, true_and, and_true, false_and, and_false, up_get, Nat.reduceEqDiff, Int.reduceNeg, eqN_T, eqN_F]
  refine De.call (De.at (fun k => k) (fun k => Nat.le_refl _) D) ?_
  rcases hx with rfl | rfl
  · simp (disch := omega) only [Option.bind_some, xI, xU, xUt, xIt, J_lit, J_add, J_sub, J_mul, J_neg, J_ltc, J_lec, J_eqc, lt_T, lt_F, le_T, le_F, eq_T, eq_F, ↓reduceIte, ite_not, not_true_eq_false, not_false_eq_true, true_or, or_true, false_or, or_false, true_and, and_true, false_and, and_false, up_get, Nat.reduceEqDiff, Int.reduceNeg, eqN_T, eqN_F]
    exact De.ret _ _
  · simp (disch := omega) only [Option.bind_some, xI, xU, xUt, xIt, J_lit, J_add, J_sub, J_mul, J_neg, J_ltc, J_lec, J_eqc, lt_T, lt_F, le_T, le_F, eq_T, eq_F, ↓reduceIte, ite_not, not_true_eq_false, not_false_eq_true, true_or, or_true, false_or, or_false, true_and, and_true, false_and, and_false, up_get, Nat.reduceEqDiff, Int.reduceNeg, eqN_T, eqN_F]
    exact De.ret _ _
theorem vlF_in : ∀ j : Nat, (∀ i, B ≤ i → i < B + j → 48 ≤ b i ∧ b i ≤ 57) → 0 ≤ vlF b B j ∧ vlF b B j ≤ 10000 := fun j hd => by
  by_cases c : j ≤ 4
  · rw [← rvF_v j c]
    have := rvF_in (b := b) (B := B) (e := B + j) hd j (Int.le_refl _)
    have p4 : (10 : Int) ^ (min j 4) ≤ 10000 := by
      rcases (show j = 0 ∨ j = 1 ∨ j = 2 ∨ j = 3 ∨ j = 4 by omega) with z | z | z | z | z <;> rw [z] <;> decide
    omega
  · rw [show j = (j - 1) + 1 by omega, vlF, if_neg (by omega)]
    omega
theorem vl_20 (hB : Bok b n B) (h : tok b n B = 20) : 0 ≤ vlF b B (ten b n B - B).toNat ∧ vlF b B (ten b n B - B).toNat ≤ 10000 := by
  obtain ⟨t1, t2⟩ := tok_20 (b := b) (n := n) (B := B)
  have c := t1.1 h
  have r := rn_ok (b := b) (lo := 48) (hi := 57) hB.1.2.1
  rw [t2 h]
  exact vlF_in _ (fun i a e => r.2.2.1 i a (by omega))
/-- a fact beside a number -/
theorem at_fact (hB : Bok b n B) (s0 : 0 ≤ s) (s2 : 2 * s ≤ B) (c1 : 15 ≤ tok b n B) (c2 : tok b n B ≤ 19) (A1 : 1 ≤ A) : ∃ (ok : Bool) (B' s' : Int) (g' : Int → Int), Fct b n B s g ok B' s' g' A ∧
  (∀ (dp : Nat), 1 ≤ dp → ∀ (S : xH) (m : Nat → Int → Int) (q : Nat → Int → Int64) (L : Int), Sk S → CPs m b n B s g L → ∃ m', De (fun k => F_X3_readEither k dp 1 [.ref 1, .int (J d)] (hp S m q)) (.inl (some (.int (J (bI ok))))) (hp S m' q) ∧ CRes m m' b n L ok B' s' g') ∧
  (∀ (dp : Nat), 1 ≤ dp → ∀ (S : xH) (m : Nat → Int → Int) (q : Nat → Int → Int64), Sk S → RPs m b n B s g d → ∃ m', De (fun k => F_X11_readCond k dp 2 [.ref 136] (hp S m q)) (.inl (some (.int (J (bI ok))))) (hp S m' q) ∧ RRes m m' b n d ok B' s' g') := by
  have lt := tok_lt (show tok b n B ≠ 21 by omega)
  have h1 := hB.1
  obtain ⟨kk, hkk, ek⟩ : ∃ kk : Nat, kk < 20 ∧ tok b n B = kk := ⟨(tok b n B).toNat, by omega, by omega⟩
  have tw := ten_wd h1.2.1 hkk ek
  obtain ⟨hB1, x1, x2⟩ := hB.nx lt
  have tr1 := tok_rng hB1
  by_cases cs : tok b n (nxB b n B) = 160 ∨ tok b n (nxB b n B) = 162
  · have lt1 := tok_lt (show tok b n (nxB b n B) ≠ 21 by omega)
    obtain ⟨hB2, y1, y2⟩ := hB1.nx lt1
    have tr2 := tok_rng hB2
    by_cases cn : tok b n (nxB b n (nxB b n B)) = 20 ∧ vlF b (nxB b n (nxB b n B)) (ten b n (nxB b n (nxB b n B)) - nxB b n (nxB b n B)).toNat ≤ 9999
    · have lt2 := tok_lt (show tok b n (nxB b n (nxB b n B)) ≠ 21 by omega)
      obtain ⟨hB3, z1, z2⟩ := hB2.nx lt2
      have vv := vl_20 hB2 cn.1
      obtain ⟨V, eV⟩ : ∃ V, V = vlF b (nxB b n (nxB b n B)) (ten b n (nxB b n (nxB b n B)) - nxB b n (nxB b n B)).toNat := ⟨_, rfl⟩
      rw [← eV] at cn vv
      obtain ⟨cd, ecd⟩ : ∃ cd : Int, cd = (if tok b n (nxB b n B) = 160 then 100 else 200) + (tok b n B - 15) := ⟨_, rfl⟩
      have hcd : (tok b n (nxB b n B) = 160 ∧ cd = 100 + (tok b n B - 15)) ∨ (tok b n (nxB b n B) = 162 ∧ cd = 200 + (tok b n B - 15)) := by
        rcases cs with z | z
        · exact Or.inl ⟨z, by rw [ecd, if_pos z]⟩
        · exact Or.inr ⟨z, by rw [ecd, if_neg (by omega)]⟩
      refine ⟨true, nxB b n (nxB b n (nxB b n B)), s + 1, em g s cd V, ⟨fun _ => ⟨hB3, by omega, by omega, by omega, fun i hi => em_o hi, (Seg.one vv.1 (by omega) (by omega)).mono A1⟩, fun z => absurd z (by decide)⟩, fun dp hd S m q L hs h => ?_, fun dp hd S m q hs h => ?_⟩
      · obtain ⟨dp, rfl⟩ : ∃ e, dp = e + 1 := ⟨dp - 1, by omega⟩
        have tk := h.tk
        obtain ⟨m1, D1, C1, F1⟩ := c_next (q := q) hs hB h lt
        have tk1 := C1.tk
        obtain ⟨m2, D2, C2, F2⟩ := c_next (q := q) hs hB1 C1 lt1
        have tk2 := C2.tk
        have v7 : m2 1 7 = V := (C2.2.2.1.2.2.2 cn.1).trans eV.symm
        obtain ⟨op, hop⟩ : ∃ op : Int, op = (if tok b n (nxB b n B) = 160 then 1 else 2) := ⟨_, rfl⟩
        have hop' : (tok b n (nxB b n B) = 160 ∧ op = 1) ∨ (tok b n (nxB b n B) = 162 ∧ op = 2) := by
          rcases cs with z | z
          · exact Or.inl ⟨z, by rw [hop, if_pos z]⟩
          · exact Or.inr ⟨z, by rw [hop, if_neg (by omega)]⟩
        have eh : 256 * V + 16 * (tok b n B - 15) + op = encS cd V := by
          unfold encS
          rcases hop' with ⟨z, e⟩ | ⟨z, e⟩
          · rw [if_neg (by omega), if_pos (by omega)]
            omega
          · rw [if_neg (by omega), if_neg (by omega), if_pos (by omega)]
            omega
        obtain ⟨m3, D3, C3, F3, w3⟩ := c_add (q := q) (op := op) (wh := tok b n B - 15) (th := V) hs C2 (by omega) vv.1 (by omega) (by omega) (by omega) (by omega) (by omega) eh
        obtain ⟨m4, D4, C4, F4⟩ := c_next (q := q) hs hB2 C3 lt2
        refine ⟨m4, ?_, ((F1.p.tr F2.p).tr F3).tr F4.p, fun _ => ⟨C4, (F4 1 3 (by omega)).trans (w3.trans ((F2 1 3 (by omega)).trans (F1 1 3 (by omega))))⟩, fun z => absurd z (by decide)⟩
        refine c_atomF hs hB h (by omega) (by omega) (x := 1) (Or.inr rfl) ?_
        have D151 : De (fun k => f_X3_readFact k 151 [.ref 1, .int (J (tok b n B - 15)), .int (J (if tok b n (nxB b n B) = 160 then 1 else 0)), .ref 2, .int (J op)] (hp S m2 q)) (.inl (some (.int (J 1)))) (hp S m4 q) := by
          refine De.step ?_
          simp only [j_X3_readFact_151]
          simp (disch := omega) only [b_X3_readFact_151, x1_k hs, x1_r0 hs, x1_r1 hs, x1_i2 hs, x1_w2 hs, x1_i3 hs, x1_w3 hs, x1_i4 hs, x1_w4 hs, x1_i5 hs, x1_w5 hs, x1_i6 hs, x1_w6 hs, x1_i7 hs, x1_w7 hs, x2_k hs, x2_r0 hs, x2_r1 hs, x2_r2 hs, x2_i3 hs, x2_w3 hs, x2_r4 hs, x2_i5 hs, x2_w5 hs, x2_r6 hs, x2_i7 hs, x2_w7 hs, v7, Option.bind_some, xI, xU, xUt, xIt, J_lit, J_add, J_sub, J_mul, J_neg, J_ltc, J_lec, J_eqc, lt_T, lt_F, le_T, le_F, eq_T, eq_F, ↓reduceIte, ite_not, not_true_eq_false, not_false_eq_true, true_or, or_true, false_or, or_false, true_and, and_true, false_and, and_false, up_get, Nat.reduceEqDiff, Int.reduceNeg, eqN_T, eqN_F]
          refine De.call D3 ?_
          simp (disch := omega) only [x1_k hs, x1_r0 hs, x1_r1 hs, x1_i2 hs, x1_w2 hs, x1_i3 hs, x1_w3 hs, x1_i4 hs, x1_w4 hs, x1_i5 hs, x1_w5 hs, x1_i6 hs, x1_w6 hs, x1_i7 hs, x1_w7 hs, Option.bind_some, xI, xU, xUt, xIt, J_lit, J_add, J_sub, J_mul, J_neg, J_ltc, J_lec, J_eqc, lt_T, lt_F, le_T, le_F, eq_T, eq_F, ↓reduceIte, ite_not, not_true_eq_false, not_false_eq_true, true_or, or_true, false_or, or_false, true_and, and_true, false_and, and_false, up_get, Nat.reduceEqDiff, Int.reduceNeg, eqN_T, eqN_F]
          refine De.call D4 ?_
          simp (disch := omega) only [Option.bind_some, xI, xU, xUt, xIt, J_lit, J_add, J_sub, J_mul, J_neg, J_ltc, J_lec, J_eqc, lt_T, lt_F, le_T, le_F, eq_T, eq_F, ↓reduceIte, ite_not, not_true_eq_false, not_false_eq_true, true_or, or_true, false_or, or_false, true_and, and_true, false_and, and_false, up_get, Nat.reduceEqDiff, Int.reduceNeg, eqN_T, eqN_F]
          exact De.ret _ _
        refine De.step ?_
        simp only [j_X3_readFact_0]
        simp (disch := omega) only [b_X3_readFact_0, x1_k hs, x1_r0 hs, x1_r1 hs, x1_i2 hs, x1_w2 hs, x1_i3 hs, x1_w3 hs, x1_i4 hs, x1_w4 hs, x1_i5 hs, x1_w5 hs, x1_i6 hs, x1_w6 hs, x1_i7 hs, x1_w7 hs, tk.1, Option.bind_some, xI, xU, xUt, xIt, J_lit, J_add, J_sub, J_mul, J_neg, J_ltc, J_lec, J_eqc, lt_T, lt_F, le_T, le_F, eq_T, eq_F, ↓reduceIte, ite_not, not_true_eq_false, not_false_eq_true, true_or, or_true, false_or, or_false, true_and, and_true, false_and, and_false, up_get, Nat.reduceEqDiff, Int.reduceNeg, eqN_T, eqN_F]
        refine De.step ?_
        simp only [j_X3_readFact_40]
        simp (disch := omega) only [b_X3_readFact_40, x1_k hs, x1_r0 hs, x1_r1 hs, x1_i2 hs, x1_w2 hs, x1_i3 hs, x1_w3 hs, x1_i4 hs, x1_w4 hs, x1_i5 hs, x1_w5 hs, x1_i6 hs, x1_w6 hs, x1_i7 hs, x1_w7 hs, tk.1, Option.bind_some, xI, xU, xUt, xIt, J_lit, J_add, J_sub, J_mul, J_neg, J_ltc, J_lec, J_eqc, lt_T, lt_F, le_T, le_F, eq_T, eq_F, ↓reduceIte, ite_not, not_true_eq_false, not_false_eq_true, true_or, or_true, false_or, or_false, true_and, and_true, false_and, and_false, up_get, Nat.reduceEqDiff, Int.reduceNeg, eqN_T, eqN_F]
        refine De.call D1 ?_
        rcases hop' with ⟨z, e⟩ | ⟨z, e⟩
        · rw [if_pos z, e] at D151
          simp (disch := omega) only [x1_k hs, x1_r0 hs, x1_r1 hs, x1_i2 hs, x1_w2 hs, x1_i3 hs, x1_w3 hs, x1_i4 hs, x1_w4 hs, x1_i5 hs, x1_w5 hs, x1_i6 hs, x1_w6 hs, x1_i7 hs, x1_w7 hs, tk1.1, z, Option.bind_some, xI, xU, xUt, xIt, J_lit, J_add, J_sub, J_mul, J_neg, J_ltc, J_lec, J_eqc, lt_T, lt_F, le_T, le_F, eq_T, eq_F, ↓reduceIte, ite_not, not_true_eq_false, not_false_eq_true, true_or, or_true, false_or, or_false, true_and, and_true, false_and, and_false, up_get, Nat.reduceEqDiff, Int.reduceNeg, eqN_T, eqN_F]
          refine De.step ?_
          simp only [j_X3_readFact_90]
          simp (disch := omega) only [b_X3_readFact_90, x1_k hs, x1_r0 hs, x1_r1 hs, x1_i2 hs, x1_w2 hs, x1_i3 hs, x1_w3 hs, x1_i4 hs, x1_w4 hs, x1_i5 hs, x1_w5 hs, x1_i6 hs, x1_w6 hs, x1_i7 hs, x1_w7 hs, tk1.1, z, Option.bind_some, xI, xU, xUt, xIt, J_lit, J_add, J_sub, J_mul, J_neg, J_ltc, J_lec, J_eqc, lt_T, lt_F, le_T, le_F, eq_T, eq_F, ↓reduceIte, ite_not, not_true_eq_false, not_false_eq_true, true_or, or_true, false_or, or_false, true_and, and_true, false_and, and_false, up_get, Nat.reduceEqDiff, Int.reduceNeg, eqN_T, eqN_F]
          refine De.step ?_
          simp only [j_X3_readFact_110]
          simp (disch := omega) only [b_X3_readFact_110, x1_k hs, x1_r0 hs, x1_r1 hs, x1_i2 hs, x1_w2 hs, x1_i3 hs, x1_w3 hs, x1_i4 hs, x1_w4 hs, x1_i5 hs, x1_w5 hs, x1_i6 hs, x1_w6 hs, x1_i7 hs, x1_w7 hs, Option.bind_some, xI, xU, xUt, xIt, J_lit, J_add, J_sub, J_mul, J_neg, J_ltc, J_lec, J_eqc, lt_T, lt_F, le_T, le_F, eq_T, eq_F, ↓reduceIte, ite_not, not_true_eq_false, not_false_eq_true, true_or, or_true, false_or, or_false, true_and, and_true, false_and, and_false, up_get, Nat.reduceEqDiff, Int.reduceNeg, eqN_T, eqN_F]
          refine De.call D2 ?_
          simp (disch := omega) only [x1_k hs, x1_r0 hs, x1_r1 hs, x1_i2 hs, x1_w2 hs, x1_i3 hs, x1_w3 hs, x1_i4 hs, x1_w4 hs, x1_i5 hs, x1_w5 hs, x1_i6 hs, x1_w6 hs, x1_i7 hs, x1_w7 hs, tk2.1, cn.1, v7, Option.bind_some, xI, xU, xUt, xIt, J_lit, J_add, J_sub, J_mul, J_neg, J_ltc, J_lec, J_eqc, lt_T, lt_F, le_T, le_F, eq_T, eq_F, ↓reduceIte, ite_not, not_true_eq_false, not_false_eq_true, true_or, or_true, false_or, or_false, true_and, and_true, false_and, and_false, up_get, Nat.reduceEqDiff, Int.reduceNeg, eqN_T, eqN_F]
          exact D151
        · rw [if_neg (by omega), e] at D151
          simp (disch := omega) only [x1_k hs, x1_r0 hs, x1_r1 hs, x1_i2 hs, x1_w2 hs, x1_i3 hs, x1_w3 hs, x1_i4 hs, x1_w4 hs, x1_i5 hs, x1_w5 hs, x1_i6 hs, x1_w6 hs, x1_i7 hs, x1_w7 hs, tk1.1, z, Option.bind_some, xI, xU, xUt, xIt, J_lit, J_add, J_sub, J_mul, J_neg, J_ltc, J_lec, J_eqc, lt_T, lt_F, le_T, le_F, eq_T, eq_F, ↓reduceIte, ite_not, not_true_eq_false, not_false_eq_true, true_or, or_true, false_or, or_false, true_and, and_true, false_and, and_false, up_get, Nat.reduceEqDiff, Int.reduceNeg, eqN_T, eqN_F]
          refine De.step ?_
          simp only [j_X3_readFact_90]
          simp (disch := omega) only [b_X3_readFact_90, x1_k hs, x1_r0 hs, x1_r1 hs, x1_i2 hs, x1_w2 hs, x1_i3 hs, x1_w3 hs, x1_i4 hs, x1_w4 hs, x1_i5 hs, x1_w5 hs, x1_i6 hs, x1_w6 hs, x1_i7 hs, x1_w7 hs, tk1.1, z, Option.bind_some, xI, xU, xUt, xIt, J_lit, J_add, J_sub, J_mul, J_neg, J_ltc, J_lec, J_eqc, lt_T, lt_F, le_T, le_F, eq_T, eq_F, ↓reduceIte, ite_not, not_true_eq_false, not_false_eq_true, true_or, or_true, false_or, or_false, true_and, and_true, false_and, and_false, up_get, Nat.reduceEqDiff, Int.reduceNeg, eqN_T, eqN_F]
          refine De.step ?_
          simp only [j_X3_readFact_110]
          simp (disch := omega) only [b_X3_readFact_110, x1_k hs, x1_r0 hs, x1_r1 hs, x1_i2 hs, x1_w2 hs, x1_i3 hs, x1_w3 hs, x1_i4 hs, x1_w4 hs, x1_i5 hs, x1_w5 hs, x1_i6 hs, x1_w6 hs, x1_i7 hs, x1_w7 hs, Option.bind_some, xI, xU, xUt, xIt, J_lit, J_add, J_sub, J_mul, J_neg, J_ltc, J_lec, J_eqc, lt_T, lt_F, le_T, le_F, eq_T, eq_F, ↓reduceIte, ite_not, not_true_eq_false, not_false_eq_true, true_or, or_true, false_or, or_false, true_and, and_true, false_and, and_false, up_get, Nat.reduceEqDiff, Int.reduceNeg, eqN_T, eqN_F]
          refine De.call D2 ?_
          simp (disch := omega) only [x1_k hs, x1_r0 hs, x1_r1 hs, x1_i2 hs, x1_w2 hs, x1_i3 hs, x1_w3 hs, x1_i4 hs, x1_w4 hs, x1_i5 hs, x1_w5 hs, x1_i6 hs, x1_w6 hs, x1_i7 hs, x1_w7 hs, tk2.1, cn.1, v7, Option.bind_some, xI, xU, xUt, xIt, J_lit, J_add, J_sub, J_mul, J_neg, J_ltc, J_lec, J_eqc, lt_T, lt_F, le_T, le_F, eq_T, eq_F, ↓reduceIte, ite_not, not_true_eq_false, not_false_eq_true, true_or, or_true, false_or, or_false, true_and, and_true, false_and, and_false, up_get, Nat.reduceEqDiff, Int.reduceNeg, eqN_T, eqN_F]
          exact D151
      · obtain ⟨dp, rfl⟩ : ∃ e, dp = e + 1 := ⟨dp - 1, by omega⟩
        obtain ⟨m1, R1, B1, F1, S1⟩ := r_word (q := q) (dp := dp) hs hB h (by omega) (by omega)
        rw [if_neg (by omega)] at S1
        have RP : RPs m1 b n (nxB b n B) s g d := h.fr F1 R1 (by rw [← tw.2.1]; rfl)
        simp only [FqMA]
        have fin : ∀ (x : Int) (m2 : Nat → Int → Int), FrRe m m2 → RPs m2 b n (nxB b n (nxB b n B)) s g d → (x = 1 ∧ cd = 100 + (tok b n B - 15)) ∨ (x = 0 ∧ cd = 200 + (tok b n B - 15)) → ∃ m', (∀ v : Nat → Nat, De (fun k => g_X11_readAtom (F_X11_readCond (v k) dp) k 320 [.ref 136, .int (J (-1)), .int (J (tok b n B - 15)), .int (J x)] (hp S m2 q)) (.inl (some (.int (J (bI true))))) (hp S m' q)) ∧ RRes m m' b n d true (nxB b n (nxB b n (nxB b n B))) (s + 1) (em g s cd V) := by
          intro x m2 F2 RP2 hx
          obtain ⟨m3, D3, RP3, B3, F3⟩ := r_number (q := q) (high := 9999) hs hB2 RP2 (by decide) (by decide)
          rw [← eV, if_pos cn] at D3
          rw [if_pos cn.1] at RP3
          obtain ⟨m4, D4, RP4, F4, -⟩ := r_emits (q := q) hs RP3 s0 (by omega) cd V
          refine ⟨m4, fun v => ?_, F2.tr (F3.r.tr F4), fun _ => RP4, fun z => absurd z (by decide)⟩
          rcases hx with ⟨z, e⟩ | ⟨z, e⟩
          · rw [e] at D4
            rw [z]
            refine De.step ?_
            simp only [j_X11_readAtom_320]
            simp (disch := omega) only [b_X11_readAtom_320, x136_k hs, x136_i0 hs, x136_w0 hs, x136_r1 hs, x136_r2 hs, x136_r3 hs, x136_r4 hs, x136_i5 hs, x136_w5 hs, x136_i6 hs, x136_w6 hs, x136_i7 hs, x136_w7 hs, x136_r8 hs, x136_i9 hs, x136_w9 hs, x136_i10 hs, x136_w10 hs, x136_i11 hs, x136_w11 hs, x136_i12 hs, x136_w12 hs, x136_i13 hs, x136_w13 hs, x136_i14 hs, x136_w14 hs, x136_r15 hs, x136_i16 hs, x136_w16 hs, x136_r17 hs, x136_r18 hs, x136_r19 hs, x136_r20 hs, x136_r21 hs, x136_i22 hs, x136_w22 hs, x136_r23 hs, x136_r24 hs, x136_i25 hs, x136_w25 hs, x136_i26 hs, x136_w26 hs, x136_r27 hs, x136_r28 hs, x136_i29 hs, x136_w29 hs, J_lit, Option.bind_some]
            refine De.call D3 ?_
            simp (disch := omega) only [Option.bind_some, xI, xU, xUt, xIt, J_lit, J_add, J_sub, J_mul, J_neg, J_ltc, J_lec, J_eqc, lt_T, lt_F, le_T, le_F, eq_T, eq_F, ↓reduceIte, ite_not, not_true_eq_false, not_false_eq_true, true_or, or_true, false_or, or_false, true_and, and_true, false_and, and_false, up_get, Nat.reduceEqDiff, Int.reduceNeg, eqN_T, eqN_F]
            refine De.step ?_
            simp only [j_X11_readAtom_349]
            simp (disch := omega) only [b_X11_readAtom_349, x136_k hs, x136_i0 hs, x136_w0 hs, x136_r1 hs, x136_r2 hs, x136_r3 hs, x136_r4 hs, x136_i5 hs, x136_w5 hs, x136_i6 hs, x136_w6 hs, x136_i7 hs, x136_w7 hs, x136_r8 hs, x136_i9 hs, x136_w9 hs, x136_i10 hs, x136_w10 hs, x136_i11 hs, x136_w11 hs, x136_i12 hs, x136_w12 hs, x136_i13 hs, x136_w13 hs, x136_i14 hs, x136_w14 hs, x136_r15 hs, x136_i16 hs, x136_w16 hs, x136_r17 hs, x136_r18 hs, x136_r19 hs, x136_r20 hs, x136_r21 hs, x136_i22 hs, x136_w22 hs, x136_r23 hs, x136_r24 hs, x136_i25 hs, x136_w25 hs, x136_i26 hs, x136_w26 hs, x136_r27 hs, x136_r28 hs, x136_i29 hs, x136_w29 hs, Option.bind_some, xI, xU, xUt, xIt, J_lit, J_add, J_sub, J_mul, J_neg, J_ltc, J_lec, J_eqc, lt_T, lt_F, le_T, le_F, eq_T, eq_F, ↓reduceIte, ite_not, not_true_eq_false, not_false_eq_true, true_or, or_true, false_or, or_false, true_and, and_true, false_and, and_false, up_get, Nat.reduceEqDiff, Int.reduceNeg, eqN_T, eqN_F]
            refine De.call D4 ?_
            simp (disch := omega) only [bI_t, Option.bind_some, xI, xU, xUt, xIt, J_lit, J_add, J_sub, J_mul, J_neg, J_ltc, J_lec, J_eqc, lt_T, lt_F, le_T, le_F, eq_T, eq_F, ↓reduceIte, ite_not, not_true_eq_false, not_false_eq_true, true_or, or_true, false_or, or_false, true_and, and_true, false_and, and_false, up_get, Nat.reduceEqDiff, Int.reduceNeg, eqN_T, eqN_F]
            exact De.ret _ _
          · rw [e] at D4
            rw [z]
            refine De.step ?_
            simp only [j_X11_readAtom_320]
            simp (disch := omega) only [b_X11_readAtom_320, x136_k hs, x136_i0 hs, x136_w0 hs, x136_r1 hs, x136_r2 hs, x136_r3 hs, x136_r4 hs, x136_i5 hs, x136_w5 hs, x136_i6 hs, x136_w6 hs, x136_i7 hs, x136_w7 hs, x136_r8 hs, x136_i9 hs, x136_w9 hs, x136_i10 hs, x136_w10 hs, x136_i11 hs, x136_w11 hs, x136_i12 hs, x136_w12 hs, x136_i13 hs, x136_w13 hs, x136_i14 hs, x136_w14 hs, x136_r15 hs, x136_i16 hs, x136_w16 hs, x136_r17 hs, x136_r18 hs, x136_r19 hs, x136_r20 hs, x136_r21 hs, x136_i22 hs, x136_w22 hs, x136_r23 hs, x136_r24 hs, x136_i25 hs, x136_w25 hs, x136_i26 hs, x136_w26 hs, x136_r27 hs, x136_r28 hs, x136_i29 hs, x136_w29 hs, J_lit, Option.bind_some]
            refine De.call D3 ?_
            simp (disch := omega) only [Option.bind_some, xI, xU, xUt, xIt, J_lit, J_add, J_sub, J_mul, J_neg, J_ltc, J_lec, J_eqc, lt_T, lt_F, le_T, le_F, eq_T, eq_F, ↓reduceIte, ite_not, not_true_eq_false, not_false_eq_true, true_or, or_true, false_or, or_false, true_and, and_true, false_and, and_false, up_get, Nat.reduceEqDiff, Int.reduceNeg, eqN_T, eqN_F]
            refine De.step ?_
            simp only [j_X11_readAtom_349]
            simp (disch := omega) only [b_X11_readAtom_349, x136_k hs, x136_i0 hs, x136_w0 hs, x136_r1 hs, x136_r2 hs, x136_r3 hs, x136_r4 hs, x136_i5 hs, x136_w5 hs, x136_i6 hs, x136_w6 hs, x136_i7 hs, x136_w7 hs, x136_r8 hs, x136_i9 hs, x136_w9 hs, x136_i10 hs, x136_w10 hs, x136_i11 hs, x136_w11 hs, x136_i12 hs, x136_w12 hs, x136_i13 hs, x136_w13 hs, x136_i14 hs, x136_w14 hs, x136_r15 hs, x136_i16 hs, x136_w16 hs, x136_r17 hs, x136_r18 hs, x136_r19 hs, x136_r20 hs, x136_r21 hs, x136_i22 hs, x136_w22 hs, x136_r23 hs, x136_r24 hs, x136_i25 hs, x136_w25 hs, x136_i26 hs, x136_w26 hs, x136_r27 hs, x136_r28 hs, x136_i29 hs, x136_w29 hs, Option.bind_some, xI, xU, xUt, xIt, J_lit, J_add, J_sub, J_mul, J_neg, J_ltc, J_lec, J_eqc, lt_T, lt_F, le_T, le_F, eq_T, eq_F, ↓reduceIte, ite_not, not_true_eq_false, not_false_eq_true, true_or, or_true, false_or, or_false, true_and, and_true, false_and, and_false, up_get, Nat.reduceEqDiff, Int.reduceNeg, eqN_T, eqN_F]
            refine De.call D4 ?_
            simp (disch := omega) only [bI_t, Option.bind_some, xI, xU, xUt, xIt, J_lit, J_add, J_sub, J_mul, J_neg, J_ltc, J_lec, J_eqc, lt_T, lt_F, le_T, le_F, eq_T, eq_F, ↓reduceIte, ite_not, not_true_eq_false, not_false_eq_true, true_or, or_true, false_or, or_false, true_and, and_true, false_and, and_false, up_get, Nat.reduceEqDiff, Int.reduceNeg, eqN_T, eqN_F]
            exact De.ret _ _
        obtain ⟨ma, Da, RPa, Ba, Fa⟩ := r_sign (q := q) (c := 60) hs hB1 RP (by decide) (by decide) (by decide)
        rcases hcd with ⟨z, e⟩ | ⟨z, e⟩
        · rw [if_pos (show tok b n (nxB b n B) = 100 + 60 by omega)] at Da RPa
          obtain ⟨m', D', R'⟩ := fin 1 ma (F1.r.tr Fa.r) RPa (Or.inl ⟨rfl, e⟩)
          refine ⟨m', ?_, R'⟩
          refine S1 (fun k => k) (fun v => r_fact hs hB R1 B1 v (fun v' => ?_))
          rw [if_pos ⟨c1, c2⟩]
          refine De.step ?_
          simp only [j_X11_readAtom_291]
          simp (disch := omega) only [b_X11_readAtom_291, x136_k hs, x136_i0 hs, x136_w0 hs, x136_r1 hs, x136_r2 hs, x136_r3 hs, x136_r4 hs, x136_i5 hs, x136_w5 hs, x136_i6 hs, x136_w6 hs, x136_i7 hs, x136_w7 hs, x136_r8 hs, x136_i9 hs, x136_w9 hs, x136_i10 hs, x136_w10 hs, x136_i11 hs, x136_w11 hs, x136_i12 hs, x136_w12 hs, x136_i13 hs, x136_w13 hs, x136_i14 hs, x136_w14 hs, x136_r15 hs, x136_i16 hs, x136_w16 hs, x136_r17 hs, x136_r18 hs, x136_r19 hs, x136_r20 hs, x136_r21 hs, x136_i22 hs, x136_w22 hs, x136_r23 hs, x136_r24 hs, x136_i25 hs, x136_w25 hs, x136_i26 hs, x136_w26 hs, x136_r27 hs, x136_r28 hs, x136_i29 hs, x136_w29 hs, Option.bind_some, xI, xU, xUt, xIt, J_lit, J_add, J_sub, J_mul, J_neg, J_ltc, J_lec, J_eqc, lt_T, lt_F, le_T, le_F, eq_T, eq_F, ↓reduceIte, ite_not, not_true_eq_false, not_false_eq_true, true_or, or_true, false_or, or_false, true_and, and_true, false_and, and_false, up_get, Nat.reduceEqDiff, Int.reduceNeg, eqN_T, eqN_F]
          refine De.call Da ?_
          simp (disch := omega) only [Option.bind_some, xI, xU, xUt, xIt, J_lit, J_add, J_sub, J_mul, J_neg, J_ltc, J_lec, J_eqc, lt_T, lt_F, le_T, le_F, eq_T, eq_F, ↓reduceIte, ite_not, not_true_eq_false, not_false_eq_true, true_or, or_true, false_or, or_false, true_and, and_true, false_and, and_false, up_get, Nat.reduceEqDiff, Int.reduceNeg, eqN_T, eqN_F]
          exact D' (fun k => v' (k + 1))
        · rw [if_neg (show ¬ tok b n (nxB b n B) = 100 + 60 by omega)] at Da RPa
          obtain ⟨mb, Db, RPb, Bb, Fb⟩ := r_sign (q := q) (c := 62) hs hB1 RPa (by decide) (by decide) (by decide)
          rw [if_pos (show tok b n (nxB b n B) = 100 + 62 by omega)] at Db RPb
          obtain ⟨m', D', R'⟩ := fin 0 mb (F1.r.tr (Fa.r.tr Fb.r)) RPb (Or.inr ⟨rfl, e⟩)
          refine ⟨m', ?_, R'⟩
          refine S1 (fun k => k) (fun v => r_fact hs hB R1 B1 v (fun v' => ?_))
          rw [if_pos ⟨c1, c2⟩]
          refine De.step ?_
          simp only [j_X11_readAtom_291]
          simp (disch := omega) only [b_X11_readAtom_291, x136_k hs, x136_i0 hs, x136_w0 hs, x136_r1 hs, x136_r2 hs, x136_r3 hs, x136_r4 hs, x136_i5 hs, x136_w5 hs, x136_i6 hs, x136_w6 hs, x136_i7 hs, x136_w7 hs, x136_r8 hs, x136_i9 hs, x136_w9 hs, x136_i10 hs, x136_w10 hs, x136_i11 hs, x136_w11 hs, x136_i12 hs, x136_w12 hs, x136_i13 hs, x136_w13 hs, x136_i14 hs, x136_w14 hs, x136_r15 hs, x136_i16 hs, x136_w16 hs, x136_r17 hs, x136_r18 hs, x136_r19 hs, x136_r20 hs, x136_r21 hs, x136_i22 hs, x136_w22 hs, x136_r23 hs, x136_r24 hs, x136_i25 hs, x136_w25 hs, x136_i26 hs, x136_w26 hs, x136_r27 hs, x136_r28 hs, x136_i29 hs, x136_w29 hs, Option.bind_some, xI, xU, xUt, xIt, J_lit, J_add, J_sub, J_mul, J_neg, J_ltc, J_lec, J_eqc, lt_T, lt_F, le_T, le_F, eq_T, eq_F, ↓reduceIte, ite_not, not_true_eq_false, not_false_eq_true, true_or, or_true, false_or, or_false, true_and, and_true, false_and, and_false, up_get, Nat.reduceEqDiff, Int.reduceNeg, eqN_T, eqN_F]
          refine De.call Da ?_
          simp (disch := omega) only [x136_k hs, x136_i0 hs, x136_w0 hs, x136_r1 hs, x136_r2 hs, x136_r3 hs, x136_r4 hs, x136_i5 hs, x136_w5 hs, x136_i6 hs, x136_w6 hs, x136_i7 hs, x136_w7 hs, x136_r8 hs, x136_i9 hs, x136_w9 hs, x136_i10 hs, x136_w10 hs, x136_i11 hs, x136_w11 hs, x136_i12 hs, x136_w12 hs, x136_i13 hs, x136_w13 hs, x136_i14 hs, x136_w14 hs, x136_r15 hs, x136_i16 hs, x136_w16 hs, x136_r17 hs, x136_r18 hs, x136_r19 hs, x136_r20 hs, x136_r21 hs, x136_i22 hs, x136_w22 hs, x136_r23 hs, x136_r24 hs, x136_i25 hs, x136_w25 hs, x136_i26 hs, x136_w26 hs, x136_r27 hs, x136_r28 hs, x136_i29 hs, x136_w29 hs, Option.bind_some, xI, xU, xUt, xIt, J_lit, J_add, J_sub, J_mul, J_neg, J_ltc, J_lec, J_eqc, lt_T, lt_F, le_T, le_F, eq_T, eq_F, ↓reduceIte, ite_not, not_true_eq_false, not_false_eq_true, true_or, or_true, false_or, or_false, true_and, and_true, false_and, and_false, up_get, Nat.reduceEqDiff, Int.reduceNeg, eqN_T, eqN_F]
          refine De.call Db ?_
          simp (disch := omega) only [Option.bind_some, xI, xU, xUt, xIt, J_lit, J_add, J_sub, J_mul, J_neg, J_ltc, J_lec, J_eqc, lt_T, lt_F, le_T, le_F, eq_T, eq_F, ↓reduceIte, ite_not, not_true_eq_false, not_false_eq_true, true_or, or_true, false_or, or_false, true_and, and_true, false_and, and_false, up_get, Nat.reduceEqDiff, Int.reduceNeg, eqN_T, eqN_F]
          exact D' (fun k => v' (k + 1))
    · refine ⟨false, nxB b n (nxB b n B), s, g, ⟨fun z => absurd z (by decide), fun _ => ⟨hB2.1.1, hB2.1.2.1⟩⟩, fun dp hd S m q L hs h => ?_, fun dp hd S m q hs h => ?_⟩
      · obtain ⟨dp, rfl⟩ : ∃ e, dp = e + 1 := ⟨dp - 1, by omega⟩
        have tk := h.tk
        obtain ⟨m1, D1, C1, F1⟩ := c_next (q := q) hs hB h lt
        have tk1 := C1.tk
        obtain ⟨m2, D2, C2, F2⟩ := c_next (q := q) hs hB1 C1 lt1
        have tk2 := C2.tk
        obtain ⟨DX, CR⟩ := c_failR (q := q) (s' := s) (g' := g) hs C2
        refine ⟨up m2 1 3 (nxB b n (nxB b n B)), ?_, (F1.p.tr F2.p).tr CR.1, fun z => absurd z (by decide), CR.2.2⟩
        refine c_atomF hs hB h (by omega) (by omega) (x := 0) (Or.inl rfl) ?_
        have D133 : ∀ x y : Int32, De (fun k => f_X3_readFact k 133 [.ref 1, .int x, .int y] (hp S m2 q)) (.inl (some (.int (J 0)))) (hp S (up m2 1 3 (nxB b n (nxB b n B))) q) := by
          intro x y
          refine De.step ?_
          simp only [j_X3_readFact_133]
          simp (disch := omega) only [b_X3_readFact_133, x1_k hs, x1_r0 hs, x1_r1 hs, x1_i2 hs, x1_w2 hs, x1_i3 hs, x1_w3 hs, x1_i4 hs, x1_w4 hs, x1_i5 hs, x1_w5 hs, x1_i6 hs, x1_w6 hs, x1_i7 hs, x1_w7 hs, Option.bind_some]
          refine De.call DX ?_
          simp (disch := omega) only [Option.bind_some, xI, xU, xUt, xIt, J_lit, J_add, J_sub, J_mul, J_neg, J_ltc, J_lec, J_eqc, lt_T, lt_F, le_T, le_F, eq_T, eq_F, ↓reduceIte, ite_not, not_true_eq_false, not_false_eq_true, true_or, or_true, false_or, or_false, true_and, and_true, false_and, and_false, up_get, Nat.reduceEqDiff, Int.reduceNeg, eqN_T, eqN_F]
          exact De.ret _ _
        have D110 : ∀ x y : Int32, De (fun k => f_X3_readFact k 110 [.ref 1, .int x, .int y] (hp S m1 q)) (.inl (some (.int (J 0)))) (hp S (up m2 1 3 (nxB b n (nxB b n B))) q) := by
          intro x y
          refine De.step ?_
          simp only [j_X3_readFact_110]
          simp (disch := omega) only [b_X3_readFact_110, x1_k hs, x1_r0 hs, x1_r1 hs, x1_i2 hs, x1_w2 hs, x1_i3 hs, x1_w3 hs, x1_i4 hs, x1_w4 hs, x1_i5 hs, x1_w5 hs, x1_i6 hs, x1_w6 hs, x1_i7 hs, x1_w7 hs, Option.bind_some]
          refine De.call D2 ?_
          by_cases z : tok b n (nxB b n (nxB b n B)) = 20
          · have vv := vl_20 hB2 z
            have v7 := C2.2.2.1.2.2.2 z
            have big : 9999 < vlF b (nxB b n (nxB b n B)) (ten b n (nxB b n (nxB b n B)) - nxB b n (nxB b n B)).toNat := by omega
            simp (disch := omega) only [x1_k hs, x1_r0 hs, x1_r1 hs, x1_i2 hs, x1_w2 hs, x1_i3 hs, x1_w3 hs, x1_i4 hs, x1_w4 hs, x1_i5 hs, x1_w5 hs, x1_i6 hs, x1_w6 hs, x1_i7 hs, x1_w7 hs, tk2.1, z, v7, Option.bind_some, xI, xU, xUt, xIt, J_lit, J_add, J_sub, J_mul, J_neg, J_ltc, J_lec, J_eqc, lt_T, lt_F, le_T, le_F, eq_T, eq_F, ↓reduceIte, ite_not, not_true_eq_false, not_false_eq_true, true_or, or_true, false_or, or_false, true_and, and_true, false_and, and_false, up_get, Nat.reduceEqDiff, Int.reduceNeg, eqN_T, eqN_F]
            exact D133 _ _
          · simp (disch := omega) only [x1_k hs, x1_r0 hs, x1_r1 hs, x1_i2 hs, x1_w2 hs, x1_i3 hs, x1_w3 hs, x1_i4 hs, x1_w4 hs, x1_i5 hs, x1_w5 hs, x1_i6 hs, x1_w6 hs, x1_i7 hs, x1_w7 hs, tk2.1, Option.bind_some, xI, xU, xUt, xIt, J_lit, J_add, J_sub, J_mul, J_neg, J_ltc, J_lec, J_eqc, lt_T, lt_F, le_T, le_F, eq_T, eq_F, ↓reduceIte, ite_not, not_true_eq_false, not_false_eq_true, true_or, or_true, false_or, or_false, true_and, and_true, false_and, and_false, up_get, Nat.reduceEqDiff, Int.reduceNeg, eqN_T, eqN_F]
            exact D133 _ _
        refine De.step ?_
        simp only [j_X3_readFact_0]
        simp (disch := omega) only [b_X3_readFact_0, x1_k hs, x1_r0 hs, x1_r1 hs, x1_i2 hs, x1_w2 hs, x1_i3 hs, x1_w3 hs, x1_i4 hs, x1_w4 hs, x1_i5 hs, x1_w5 hs, x1_i6 hs, x1_w6 hs, x1_i7 hs, x1_w7 hs, tk.1, Option.bind_some, xI, xU, xUt, xIt, J_lit, J_add, J_sub, J_mul, J_neg, J_ltc, J_lec, J_eqc, lt_T, lt_F, le_T, le_F, eq_T, eq_F, ↓reduceIte, ite_not, not_true_eq_false, not_false_eq_true, true_or, or_true, false_or, or_false, true_and, and_true, false_and, and_false, up_get, Nat.reduceEqDiff, Int.reduceNeg, eqN_T, eqN_F]
        refine De.step ?_
        simp only [j_X3_readFact_40]
        simp (disch := omega) only [b_X3_readFact_40, x1_k hs, x1_r0 hs, x1_r1 hs, x1_i2 hs, x1_w2 hs, x1_i3 hs, x1_w3 hs, x1_i4 hs, x1_w4 hs, x1_i5 hs, x1_w5 hs, x1_i6 hs, x1_w6 hs, x1_i7 hs, x1_w7 hs, tk.1, Option.bind_some, xI, xU, xUt, xIt, J_lit, J_add, J_sub, J_mul, J_neg, J_ltc, J_lec, J_eqc, lt_T, lt_F, le_T, le_F, eq_T, eq_F, ↓reduceIte, ite_not, not_true_eq_false, not_false_eq_true, true_or, or_true, false_or, or_false, true_and, and_true, false_and, and_false, up_get, Nat.reduceEqDiff, Int.reduceNeg, eqN_T, eqN_F]
        refine De.call D1 ?_
        rcases cs with z | z
        · simp (disch := omega) only [x1_k hs, x1_r0 hs, x1_r1 hs, x1_i2 hs, x1_w2 hs, x1_i3 hs, x1_w3 hs, x1_i4 hs, x1_w4 hs, x1_i5 hs, x1_w5 hs, x1_i6 hs, x1_w6 hs, x1_i7 hs, x1_w7 hs, tk1.1, z, Option.bind_some, xI, xU, xUt, xIt, J_lit, J_add, J_sub, J_mul, J_neg, J_ltc, J_lec, J_eqc, lt_T, lt_F, le_T, le_F, eq_T, eq_F, ↓reduceIte, ite_not, not_true_eq_false, not_false_eq_true, true_or, or_true, false_or, or_false, true_and, and_true, false_and, and_false, up_get, Nat.reduceEqDiff, Int.reduceNeg, eqN_T, eqN_F]
          refine De.step ?_
          simp only [j_X3_readFact_90]
          simp (disch := omega) only [b_X3_readFact_90, x1_k hs, x1_r0 hs, x1_r1 hs, x1_i2 hs, x1_w2 hs, x1_i3 hs, x1_w3 hs, x1_i4 hs, x1_w4 hs, x1_i5 hs, x1_w5 hs, x1_i6 hs, x1_w6 hs, x1_i7 hs, x1_w7 hs, tk1.1, z, Option.bind_some, xI, xU, xUt, xIt, J_lit, J_add, J_sub, J_mul, J_neg, J_ltc, J_lec, J_eqc, lt_T, lt_F, le_T, le_F, eq_T, eq_F, ↓reduceIte, ite_not, not_true_eq_false, not_false_eq_true, true_or, or_true, false_or, or_false, true_and, and_true, false_and, and_false, up_get, Nat.reduceEqDiff, Int.reduceNeg, eqN_T, eqN_F]
          exact D110 _ _
        · simp (disch := omega) only [x1_k hs, x1_r0 hs, x1_r1 hs, x1_i2 hs, x1_w2 hs, x1_i3 hs, x1_w3 hs, x1_i4 hs, x1_w4 hs, x1_i5 hs, x1_w5 hs, x1_i6 hs, x1_w6 hs, x1_i7 hs, x1_w7 hs, tk1.1, z, Option.bind_some, xI, xU, xUt, xIt, J_lit, J_add, J_sub, J_mul, J_neg, J_ltc, J_lec, J_eqc, lt_T, lt_F, le_T, le_F, eq_T, eq_F, ↓reduceIte, ite_not, not_true_eq_false, not_false_eq_true, true_or, or_true, false_or, or_false, true_and, and_true, false_and, and_false, up_get, Nat.reduceEqDiff, Int.reduceNeg, eqN_T, eqN_F]
          refine De.step ?_
          simp only [j_X3_readFact_90]
          simp (disch := omega) only [b_X3_readFact_90, x1_k hs, x1_r0 hs, x1_r1 hs, x1_i2 hs, x1_w2 hs, x1_i3 hs, x1_w3 hs, x1_i4 hs, x1_w4 hs, x1_i5 hs, x1_w5 hs, x1_i6 hs, x1_w6 hs, x1_i7 hs, x1_w7 hs, tk1.1, z, Option.bind_some, xI, xU, xUt, xIt, J_lit, J_add, J_sub, J_mul, J_neg, J_ltc, J_lec, J_eqc, lt_T, lt_F, le_T, le_F, eq_T, eq_F, ↓reduceIte, ite_not, not_true_eq_false, not_false_eq_true, true_or, or_true, false_or, or_false, true_and, and_true, false_and, and_false, up_get, Nat.reduceEqDiff, Int.reduceNeg, eqN_T, eqN_F]
          exact D110 _ _
      · obtain ⟨dp, rfl⟩ : ∃ e, dp = e + 1 := ⟨dp - 1, by omega⟩
        obtain ⟨m1, R1, B1, F1, S1⟩ := r_word (q := q) (dp := dp) hs hB h (by omega) (by omega)
        rw [if_neg (by omega)] at S1
        have RP : RPs m1 b n (nxB b n B) s g d := h.fr F1 R1 (by rw [← tw.2.1]; rfl)
        simp only [FqMA]
        have fin : ∀ (x : Int) (m2 : Nat → Int → Int), FrRe m m2 → RPs m2 b n (nxB b n (nxB b n B)) s g d → ∃ m', (∀ v : Nat → Nat, De (fun k => g_X11_readAtom (F_X11_readCond (v k) dp) k 320 [.ref 136, .int (J (-1)), .int (J (tok b n B - 15)), .int (J x)] (hp S m2 q)) (.inl (some (.int (J (bI false))))) (hp S m' q)) ∧ RRes m m' b n d false (nxB b n (nxB b n B)) s g := by
          intro x m2 F2 RP2
          obtain ⟨m3, D3, RP3, B3, F3⟩ := r_number (q := q) (high := 9999) hs hB2 RP2 (by decide) (by decide)
          rw [if_neg cn] at D3
          refine ⟨m3, fun v => ?_, F2.tr F3.r, fun z => absurd z (by decide), fun _ => B3⟩
          refine De.step ?_
          simp only [j_X11_readAtom_320]
          simp (disch := omega) only [b_X11_readAtom_320, x136_k hs, x136_i0 hs, x136_w0 hs, x136_r1 hs, x136_r2 hs, x136_r3 hs, x136_r4 hs, x136_i5 hs, x136_w5 hs, x136_i6 hs, x136_w6 hs, x136_i7 hs, x136_w7 hs, x136_r8 hs, x136_i9 hs, x136_w9 hs, x136_i10 hs, x136_w10 hs, x136_i11 hs, x136_w11 hs, x136_i12 hs, x136_w12 hs, x136_i13 hs, x136_w13 hs, x136_i14 hs, x136_w14 hs, x136_r15 hs, x136_i16 hs, x136_w16 hs, x136_r17 hs, x136_r18 hs, x136_r19 hs, x136_r20 hs, x136_r21 hs, x136_i22 hs, x136_w22 hs, x136_r23 hs, x136_r24 hs, x136_i25 hs, x136_w25 hs, x136_i26 hs, x136_w26 hs, x136_r27 hs, x136_r28 hs, x136_i29 hs, x136_w29 hs, J_lit, Option.bind_some]
          refine De.call D3 ?_
          simp (disch := omega) only [bI_f, Option.bind_some, xI, xU, xUt, xIt, J_lit, J_add, J_sub, J_mul, J_neg, J_ltc, J_lec, J_eqc, lt_T, lt_F, le_T, le_F, eq_T, eq_F, ↓reduceIte, ite_not, not_true_eq_false, not_false_eq_true, true_or, or_true, false_or, or_false, true_and, and_true, false_and, and_false, up_get, Nat.reduceEqDiff, Int.reduceNeg, eqN_T, eqN_F]
          exact De.ret _ _
        obtain ⟨ma, Da, RPa, Ba, Fa⟩ := r_sign (q := q) (c := 60) hs hB1 RP (by decide) (by decide) (by decide)
        rcases cs with z | z
        · rw [if_pos (show tok b n (nxB b n B) = 100 + 60 by omega)] at Da RPa
          obtain ⟨m', D', R'⟩ := fin 1 ma (F1.r.tr Fa.r) RPa
          refine ⟨m', ?_, R'⟩
          refine S1 (fun k => k) (fun v => r_fact hs hB R1 B1 v (fun v' => ?_))
          rw [if_pos ⟨c1, c2⟩]
          refine De.step ?_
          simp only [j_X11_readAtom_291]
          simp (disch := omega) only [b_X11_readAtom_291, x136_k hs, x136_i0 hs, x136_w0 hs, x136_r1 hs, x136_r2 hs, x136_r3 hs, x136_r4 hs, x136_i5 hs, x136_w5 hs, x136_i6 hs, x136_w6 hs, x136_i7 hs, x136_w7 hs, x136_r8 hs, x136_i9 hs, x136_w9 hs, x136_i10 hs, x136_w10 hs, x136_i11 hs, x136_w11 hs, x136_i12 hs, x136_w12 hs, x136_i13 hs, x136_w13 hs, x136_i14 hs, x136_w14 hs, x136_r15 hs, x136_i16 hs, x136_w16 hs, x136_r17 hs, x136_r18 hs, x136_r19 hs, x136_r20 hs, x136_r21 hs, x136_i22 hs, x136_w22 hs, x136_r23 hs, x136_r24 hs, x136_i25 hs, x136_w25 hs, x136_i26 hs, x136_w26 hs, x136_r27 hs, x136_r28 hs, x136_i29 hs, x136_w29 hs, Option.bind_some, xI, xU, xUt, xIt, J_lit, J_add, J_sub, J_mul, J_neg, J_ltc, J_lec, J_eqc, lt_T, lt_F, le_T, le_F, eq_T, eq_F, ↓reduceIte, ite_not, not_true_eq_false, not_false_eq_true, true_or, or_true, false_or, or_false, true_and, and_true, false_and, and_false, up_get, Nat.reduceEqDiff, Int.reduceNeg, eqN_T, eqN_F]
          refine De.call Da ?_
          simp (disch := omega) only [Option.bind_some, xI, xU, xUt, xIt, J_lit, J_add, J_sub, J_mul, J_neg, J_ltc, J_lec, J_eqc, lt_T, lt_F, le_T, le_F, eq_T, eq_F, ↓reduceIte, ite_not, not_true_eq_false, not_false_eq_true, true_or, or_true, false_or, or_false, true_and, and_true, false_and, and_false, up_get, Nat.reduceEqDiff, Int.reduceNeg, eqN_T, eqN_F]
          exact D' (fun k => v' (k + 1))
        · rw [if_neg (show ¬ tok b n (nxB b n B) = 100 + 60 by omega)] at Da RPa
          obtain ⟨mb, Db, RPb, Bb, Fb⟩ := r_sign (q := q) (c := 62) hs hB1 RPa (by decide) (by decide) (by decide)
          rw [if_pos (show tok b n (nxB b n B) = 100 + 62 by omega)] at Db RPb
          obtain ⟨m', D', R'⟩ := fin 0 mb (F1.r.tr (Fa.r.tr Fb.r)) RPb
          refine ⟨m', ?_, R'⟩
          refine S1 (fun k => k) (fun v => r_fact hs hB R1 B1 v (fun v' => ?_))
          rw [if_pos ⟨c1, c2⟩]
          refine De.step ?_
          simp only [j_X11_readAtom_291]
          simp (disch := omega) only [b_X11_readAtom_291, x136_k hs, x136_i0 hs, x136_w0 hs, x136_r1 hs, x136_r2 hs, x136_r3 hs, x136_r4 hs, x136_i5 hs, x136_w5 hs, x136_i6 hs, x136_w6 hs, x136_i7 hs, x136_w7 hs, x136_r8 hs, x136_i9 hs, x136_w9 hs, x136_i10 hs, x136_w10 hs, x136_i11 hs, x136_w11 hs, x136_i12 hs, x136_w12 hs, x136_i13 hs, x136_w13 hs, x136_i14 hs, x136_w14 hs, x136_r15 hs, x136_i16 hs, x136_w16 hs, x136_r17 hs, x136_r18 hs, x136_r19 hs, x136_r20 hs, x136_r21 hs, x136_i22 hs, x136_w22 hs, x136_r23 hs, x136_r24 hs, x136_i25 hs, x136_w25 hs, x136_i26 hs, x136_w26 hs, x136_r27 hs, x136_r28 hs, x136_i29 hs, x136_w29 hs, Option.bind_some, xI, xU, xUt, xIt, J_lit, J_add, J_sub, J_mul, J_neg, J_ltc, J_lec, J_eqc, lt_T, lt_F, le_T, le_F, eq_T, eq_F, ↓reduceIte, ite_not, not_true_eq_false, not_false_eq_true, true_or, or_true, false_or, or_false, true_and, and_true, false_and, and_false, up_get, Nat.reduceEqDiff, Int.reduceNeg, eqN_T, eqN_F]
          refine De.call Da ?_
          simp (disch := omega) only [x136_k hs, x136_i0 hs, x136_w0 hs, x136_r1 hs, x136_r2 hs, x136_r3 hs, x136_r4 hs, x136_i5 hs, x136_w5 hs, x136_i6 hs, x136_w6 hs, x136_i7 hs, x136_w7 hs, x136_r8 hs, x136_i9 hs, x136_w9 hs, x136_i10 hs, x136_w10 hs, x136_i11 hs, x136_w11 hs, x136_i12 hs, x136_w12 hs, x136_i13 hs, x136_w13 hs, x136_i14 hs, x136_w14 hs, x136_r15 hs, x136_i16 hs, x136_w16 hs, x136_r17 hs, x136_r18 hs, x136_r19 hs, x136_r20 hs, x136_r21 hs, x136_i22 hs, x136_w22 hs, x136_r23 hs, x136_r24 hs, x136_i25 hs, x136_w25 hs, x136_i26 hs, x136_w26 hs, x136_r27 hs, x136_r28 hs, x136_i29 hs, x136_w29 hs, Option.bind_some, xI, xU, xUt, xIt, J_lit, J_add, J_sub, J_mul, J_neg, J_ltc, J_lec, J_eqc, lt_T, lt_F, le_T, le_F, eq_T, eq_F, ↓reduceIte, ite_not, not_true_eq_false, not_false_eq_true, true_or, or_true, false_or, or_false, true_and, and_true, false_and, and_false, up_get, Nat.reduceEqDiff, Int.reduceNeg, eqN_T, eqN_F]
          refine De.call Db ?_
          simp (disch := omega) only [Option.bind_some, xI, xU, xUt, xIt, J_lit, J_add, J_sub, J_mul, J_neg, J_ltc, J_lec, J_eqc, lt_T, lt_F, le_T, le_F, eq_T, eq_F, ↓reduceIte, ite_not, not_true_eq_false, not_false_eq_true, true_or, or_true, false_or, or_false, true_and, and_true, false_and, and_false, up_get, Nat.reduceEqDiff, Int.reduceNeg, eqN_T, eqN_F]
          exact D' (fun k => v' (k + 1))
  · refine ⟨false, nxB b n B, s, g, ⟨fun z => absurd z (by decide), fun _ => ⟨hB1.1.1, hB1.1.2.1⟩⟩, fun dp hd S m q L hs h => ?_, fun dp hd S m q hs h => ?_⟩
    · obtain ⟨dp, rfl⟩ : ∃ e, dp = e + 1 := ⟨dp - 1, by omega⟩
      have tk := h.tk
      obtain ⟨m1, D1, C1, F1⟩ := c_next (q := q) hs hB h lt
      have tk1 := C1.tk
      obtain ⟨DX, CR⟩ := c_failR (q := q) (s' := s) (g' := g) hs C1
      refine ⟨up m1 1 3 (nxB b n B), ?_, F1.p.tr CR.1, fun z => absurd z (by decide), CR.2.2⟩
      refine c_atomF hs hB h (by omega) (by omega) (x := 0) (Or.inl rfl) ?_
      refine De.step ?_
      simp only [j_X3_readFact_0]
      simp (disch := omega) only [b_X3_readFact_0, x1_k hs, x1_r0 hs, x1_r1 hs, x1_i2 hs, x1_w2 hs, x1_i3 hs, x1_w3 hs, x1_i4 hs, x1_w4 hs, x1_i5 hs, x1_w5 hs, x1_i6 hs, x1_w6 hs, x1_i7 hs, x1_w7 hs, tk.1, Option.bind_some, xI, xU, xUt, xIt, J_lit, J_add, J_sub, J_mul, J_neg, J_ltc, J_lec, J_eqc, lt_T, lt_F, le_T, le_F, eq_T, eq_F, ↓reduceIte, ite_not, not_true_eq_false, not_false_eq_true, true_or, or_true, false_or, or_false, true_and, and_true, false_and, and_false, up_get, Nat.reduceEqDiff, Int.reduceNeg, eqN_T, eqN_F]
      refine De.step ?_
      simp only [j_X3_readFact_40]
      simp (disch := omega) only [b_X3_readFact_40, x1_k hs, x1_r0 hs, x1_r1 hs, x1_i2 hs, x1_w2 hs, x1_i3 hs, x1_w3 hs, x1_i4 hs, x1_w4 hs, x1_i5 hs, x1_w5 hs, x1_i6 hs, x1_w6 hs, x1_i7 hs, x1_w7 hs, tk.1, Option.bind_some, xI, xU, xUt, xIt, J_lit, J_add, J_sub, J_mul, J_neg, J_ltc, J_lec, J_eqc, lt_T, lt_F, le_T, le_F, eq_T, eq_F, ↓reduceIte, ite_not, not_true_eq_false, not_false_eq_true, true_or, or_true, false_or, or_false, true_and, and_true, false_and, and_false, up_get, Nat.reduceEqDiff, Int.reduceNeg, eqN_T, eqN_F]
      refine De.call D1 ?_
      simp (disch := omega) only [x1_k hs, x1_r0 hs, x1_r1 hs, x1_i2 hs, x1_w2 hs, x1_i3 hs, x1_w3 hs, x1_i4 hs, x1_w4 hs, x1_i5 hs, x1_w5 hs, x1_i6 hs, x1_w6 hs, x1_i7 hs, x1_w7 hs, tk1.1, Option.bind_some, xI, xU, xUt, xIt, J_lit, J_add, J_sub, J_mul, J_neg, J_ltc, J_lec, J_eqc, lt_T, lt_F, le_T, le_F, eq_T, eq_F, ↓reduceIte, ite_not, not_true_eq_false, not_false_eq_true, true_or, or_true, false_or, or_false, true_and, and_true, false_and, and_false, up_get, Nat.reduceEqDiff, Int.reduceNeg, eqN_T, eqN_F]
      refine De.step ?_
      simp only [j_X3_readFact_90]
      simp (disch := omega) only [b_X3_readFact_90, x1_k hs, x1_r0 hs, x1_r1 hs, x1_i2 hs, x1_w2 hs, x1_i3 hs, x1_w3 hs, x1_i4 hs, x1_w4 hs, x1_i5 hs, x1_w5 hs, x1_i6 hs, x1_w6 hs, x1_i7 hs, x1_w7 hs, tk1.1, Option.bind_some, xI, xU, xUt, xIt, J_lit, J_add, J_sub, J_mul, J_neg, J_ltc, J_lec, J_eqc, lt_T, lt_F, le_T, le_F, eq_T, eq_F, ↓reduceIte, ite_not, not_true_eq_false, not_false_eq_true, true_or, or_true, false_or, or_false, true_and, and_true, false_and, and_false, up_get, Nat.reduceEqDiff, Int.reduceNeg, eqN_T, eqN_F]
      refine De.call DX ?_
      simp (disch := omega) only [Option.bind_some, xI, xU, xUt, xIt, J_lit, J_add, J_sub, J_mul, J_neg, J_ltc, J_lec, J_eqc, lt_T, lt_F, le_T, le_F, eq_T, eq_F, ↓reduceIte, ite_not, not_true_eq_false, not_false_eq_true, true_or, or_true, false_or, or_false, true_and, and_true, false_and, and_false, up_get, Nat.reduceEqDiff, Int.reduceNeg, eqN_T, eqN_F]
      exact De.ret _ _
    · obtain ⟨dp, rfl⟩ : ∃ e, dp = e + 1 := ⟨dp - 1, by omega⟩
      obtain ⟨m1, R1, B1, F1, S1⟩ := r_word (q := q) (dp := dp) hs hB h (by omega) (by omega)
      rw [if_neg (by omega)] at S1
      have RP : RPs m1 b n (nxB b n B) s g d := h.fr F1 R1 (by rw [← tw.2.1]; rfl)
      simp only [FqMA]
      obtain ⟨ma, Da, RPa, Ba, Fa⟩ := r_sign (q := q) (c := 60) hs hB1 RP (by decide) (by decide) (by decide)
      rw [if_neg (show ¬ tok b n (nxB b n B) = 100 + 60 by omega)] at Da RPa
      obtain ⟨mb, Db, RPb, Bb, Fb⟩ := r_sign (q := q) (c := 62) hs hB1 RPa (by decide) (by decide) (by decide)
      rw [if_neg (show ¬ tok b n (nxB b n B) = 100 + 62 by omega)] at Db RPb
      refine ⟨mb, ?_, F1.r.tr (Fa.r.tr Fb.r), fun z => absurd z (by decide), fun _ => Bb⟩
      refine S1 (fun k => k) (fun v => r_fact hs hB R1 B1 v (fun v' => ?_))
      rw [if_pos ⟨c1, c2⟩]
      refine De.step ?_
      simp only [j_X11_readAtom_291]
      simp (disch := omega) only [b_X11_readAtom_291, x136_k hs, x136_i0 hs, x136_w0 hs, x136_r1 hs, x136_r2 hs, x136_r3 hs, x136_r4 hs, x136_i5 hs, x136_w5 hs, x136_i6 hs, x136_w6 hs, x136_i7 hs, x136_w7 hs, x136_r8 hs, x136_i9 hs, x136_w9 hs, x136_i10 hs, x136_w10 hs, x136_i11 hs, x136_w11 hs, x136_i12 hs, x136_w12 hs, x136_i13 hs, x136_w13 hs, x136_i14 hs, x136_w14 hs, x136_r15 hs, x136_i16 hs, x136_w16 hs, x136_r17 hs, x136_r18 hs, x136_r19 hs, x136_r20 hs, x136_r21 hs, x136_i22 hs, x136_w22 hs, x136_r23 hs, x136_r24 hs, x136_i25 hs, x136_w25 hs, x136_i26 hs, x136_w26 hs, x136_r27 hs, x136_r28 hs, x136_i29 hs, x136_w29 hs, Option.bind_some, xI, xU, xUt, xIt, J_lit, J_add, J_sub, J_mul, J_neg, J_ltc, J_lec, J_eqc, lt_T, lt_F, le_T, le_F, eq_T, eq_F, ↓reduceIte, ite_not, not_true_eq_false, not_false_eq_true, true_or, or_true, false_or, or_false, true_and, and_true, false_and, and_false, up_get, Nat.reduceEqDiff, Int.reduceNeg, eqN_T, eqN_F]
      refine De.call Da ?_
      simp (disch := omega) only [x136_k hs, x136_i0 hs, x136_w0 hs, x136_r1 hs, x136_r2 hs, x136_r3 hs, x136_r4 hs, x136_i5 hs, x136_w5 hs, x136_i6 hs, x136_w6 hs, x136_i7 hs, x136_w7 hs, x136_r8 hs, x136_i9 hs, x136_w9 hs, x136_i10 hs, x136_w10 hs, x136_i11 hs, x136_w11 hs, x136_i12 hs, x136_w12 hs, x136_i13 hs, x136_w13 hs, x136_i14 hs, x136_w14 hs, x136_r15 hs, x136_i16 hs, x136_w16 hs, x136_r17 hs, x136_r18 hs, x136_r19 hs, x136_r20 hs, x136_r21 hs, x136_i22 hs, x136_w22 hs, x136_r23 hs, x136_r24 hs, x136_i25 hs, x136_w25 hs, x136_i26 hs, x136_w26 hs, x136_r27 hs, x136_r28 hs, x136_i29 hs, x136_w29 hs, Option.bind_some, xI, xU, xUt, xIt, J_lit, J_add, J_sub, J_mul, J_neg, J_ltc, J_lec, J_eqc, lt_T, lt_F, le_T, le_F, eq_T, eq_F, ↓reduceIte, ite_not, not_true_eq_false, not_false_eq_true, true_or, or_true, false_or, or_false, true_and, and_true, false_and, and_false, up_get, Nat.reduceEqDiff, Int.reduceNeg, eqN_T, eqN_F]
      refine De.call Db ?_
      simp (disch := omega) only [bI_f, Option.bind_some, xI, xU, xUt, xIt, J_lit, J_add, J_sub, J_mul, J_neg, J_ltc, J_lec, J_eqc, lt_T, lt_F, le_T, le_F, eq_T, eq_F, ↓reduceIte, ite_not, not_true_eq_false, not_false_eq_true, true_or, or_true, false_or, or_false, true_and, and_true, false_and, and_false, up_get, Nat.reduceEqDiff, Int.reduceNeg, eqN_T, eqN_F]
      exact De.ret _ _
end ATOM2
