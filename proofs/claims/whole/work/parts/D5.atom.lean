/-! an atom, by both -/
def ra2 (n : Nat) (cr : Nat → List Value → xH → xO) (P1 : xH) : xO :=
  (rI P1 136 11 13).bind fun v79 =>
  if ¬ v79 = 6 then
    (rI P1 136 11 13).bind fun v81 =>
    (wV P1 136 11 13 (.int ((v81 + 1)))).bind fun P83 =>
    (kO P83 136 11).bind fun _ =>
    (cr 0 [.ref 136] P83).bind fun r86 => xI r86 fun v88 P85 =>
    if ¬ v88 = 0 then
      (rI P85 136 11 13).bind fun v90 =>
      (wV P85 136 11 13 (.int ((v90 - 1)))).bind fun P92 =>
      (kO P92 136 11).bind fun _ =>
      (f_X11_sign n 0 [.ref 136, .int 41] P92).bind fun r95 => xI r95 fun v97 P94 =>
      if v97 = 0 ∨ v97 = 1 then some (.inl (some (.int v97)), P94) else none
    else
      some (.inl (some (.int 0)), P85)
  else
    some (.inl (some (.int 0)), P1)
def ra4 (n : Nat) (cr : Nat → List Value → xH → xO) (P6 : xH) : xO :=
  (rI P6 136 11 13).bind fun v57 =>
  if ¬ v57 = 6 then
    (rI P6 136 11 13).bind fun v59 =>
    (wV P6 136 11 13 (.int ((v59 + 1)))).bind fun P61 =>
    (kO P61 136 11).bind fun _ =>
    (cr 2 [.ref 136] P61).bind fun r64 => xI r64 fun v66 P63 =>
    if ¬ v66 = 0 then
      (rI P63 136 11 13).bind fun v68 =>
      (wV P63 136 11 13 (.int ((v68 - 1)))).bind fun P70 =>
      (kO P70 136 11).bind fun _ =>
      (f_X11_emits n 0 [.ref 136, .int 300, .int 0] P70).bind fun r73 => xU r73 fun P72 =>
      some (.inl (some (.int 1)), P72)
    else
      some (.inl (some (.int 0)), P63)
  else
    some (.inl (some (.int 0)), P6)
def ra3 (n : Nat) (cr : Nat → List Value → xH → xO) (rec : Nat → List Value → xH → xO) (P6 : xH) : xO :=
  (kO P6 136 11).bind fun _ =>
  (f_X11_letters n 0 [.ref 136] P6).bind fun r12 => xU r12 fun P11 =>
  (kO P11 136 11).bind fun _ =>
  (f_X11_isLetters n 0 [.ref 136, .retAddr ((12 + 1))] P11).bind fun r16 => xI r16 fun v18 P15 =>
  if v18 = 0 then
    (kO P15 136 11).bind fun _ =>
    (f_X11_isLetters n 0 [.ref 136, .retAddr ((13 + 1))] P15).bind fun r21 => xI r21 fun v23 P20 =>
    if v23 = 0 then
      (kO P20 136 11).bind fun _ =>
      (f_X11_isLetters n 0 [.ref 136, .retAddr ((14 + 1))] P20).bind fun r26 => xI r26 fun v28 P25 =>
      if v28 = 0 then
        (kO P25 136 11).bind fun _ =>
        (f_X11_isLetters n 0 [.ref 136, .retAddr ((15 + 1))] P25).bind fun r31 => xI r31 fun v33 P30 =>
        if v33 = 0 then
          (kO P30 136 11).bind fun _ =>
          (f_X11_isLetters n 0 [.ref 136, .retAddr ((16 + 1))] P30).bind fun r36 => xI r36 fun v38 P35 =>
          if v38 = 0 then
            (kO P35 136 11).bind fun _ =>
            (f_X11_isLetters n 0 [.ref 136, .retAddr ((17 + 1))] P35).bind fun r41 => xI r41 fun v43 P40 =>
            if v43 = 0 then
              (kO P40 136 11).bind fun _ =>
              (f_X11_isLetters n 0 [.ref 136, .retAddr ((18 + 1))] P40).bind fun r46 => xI r46 fun v48 P45 =>
              if v48 = 0 then
                rec 212 [.ref 136, .int ((-1))] P45
              else
                rec 212 [.ref 136, .int 6] P45
            else
              rec 212 [.ref 136, .int 5] P40
          else
            rec 212 [.ref 136, .int 4] P35
        else
          rec 212 [.ref 136, .int 3] P30
      else
        rec 212 [.ref 136, .int 2] P25
    else
      rec 212 [.ref 136, .int 1] P20
  else
    rec 212 [.ref 136, .int 0] P15
def ra1 (n : Nat) (cr : Nat → List Value → xH → xO) (rec : Nat → List Value → xH → xO) (P1 : xH) : xO := (kO P1 136 11).bind fun _ => (f_X11_passes n 0 [.ref 136, .retAddr ((11 + 1))] P1).bind fun r7 => xI r7 fun v9 P6 => if v9 = 0 then ra3 n cr rec P6 else ra4 n cr P6
theorem ra_0 (n : Nat) (cr : Nat → List Value → xH → xO) (rec : Nat → List Value → xH → xO) (P : xH) (h : kO P 136 11 = some ()) : b_X11_readAtom_0 n cr rec 136 P = (f_X11_sign n 0 [.ref 136, .int 40] P).bind fun r2 => xI r2 fun v4 P1 => if v4 = 0 then ra1 n cr rec P1 else ra2 n cr P1 := by
  unfold b_X11_readAtom_0
  rw [h]
  rfl
section ATOM
variable {S : xH} {m m' m0 : Nat → Int → Int} {q : Nat → Int → Int64} {b g g' : Int → Int} {n B s s' B' L d A : Int} {ok : Bool}
theorem CPs.tk (h : CPs m b n B s g L) : m 1 5 = tok b n B ∧ m 1 6 = B := ⟨h.2.2.1.2.1, h.2.2.1.2.2.1⟩
theorem tok_rng (hB : Bok b n B) : 0 ≤ tok b n B ∧ tok b n B ≤ 355 := by
  unfold tok
  by_cases c : n ≤ B
  · rw [if_pos c]; omega
  · rw [if_neg c]
    by_cases cd : 48 ≤ b B ∧ b B ≤ 57
    · rw [if_pos cd]; omega
    · rw [if_neg cd]
      by_cases cl : 97 ≤ b B ∧ b B ≤ 122
      · rw [if_pos cl]
        have := nmF_rng (b := b) (B := B) (e := rn b n 97 122 B)
        omega
      · rw [if_neg cl]
        omega
/-- the class stops at a fault at B -/
theorem c_failR (hs : Sk S) (h : CPs m b n B s g L) : De (fun k => f_X3_fail k 0 [.ref 1] (hp S m q)) (.inl (some (.int (J 0)))) (hp S (up m 1 3 B) q) ∧ CRes m (up m 1 3 B) b n L false B s' g' := by
  refine ⟨c_fail hs h.tk.2, fun c j _ a _ _ => if_neg (fun z => a ⟨z.1, by omega, by omega⟩), fun z => absurd z (by decide), fun _ => ⟨up_at _ _ _ _, ?_⟩⟩
  rw [up_a (by decide), h.2.2.2.2.1.1]
  exact h.2.2.2.2.1.2.2
/-- deeper: the reference's counter -/
theorem RPs.dp (h : RPs m b n B s g d) (d' : Int) : RPs (up m 136 13 d') b n B s g d' := by
  obtain ⟨⟨p, R, e⟩, h1, h2, h3⟩ := h
  exact ⟨⟨p, ⟨(up_i (by decide)).trans R.1, (up_i (by decide)).trans R.2.1, R.2.2.1, fun j j0 j1 => by rw [up_a (by decide)]; exact R.2.2.2 j j0 j1⟩, e⟩, up_at _ _ _ _, (up_i (by decide)).trans h2, fun i i0 i1 => by rw [up_a (by decide)]; exact h3 i i0 i1⟩
theorem FrRe.u13 {x : Int} : FrRe m (up m 136 13 x) := fun c j a _ => if_neg (fun z => a ⟨z.1, by omega⟩)
/-- a tag -/
theorem at_tag (hB : Bok b n B) (s0 : 0 ≤ s) (s2 : 2 * s ≤ B) (c1 : 8 ≤ tok b n B) (c2 : tok b n B ≤ 14) (A1 : 1 ≤ A) : ∃ (ok : Bool) (B' s' : Int) (g' : Int → Int), Fct b n B s g ok B' s' g' A ∧
  (∀ (dp : Nat), 1 ≤ dp → ∀ (S : xH) (m : Nat → Int → Int) (q : Nat → Int → Int64) (L : Int), Sk S → CPs m b n B s g L → ∃ m', De (fun k => F_X3_readEither k dp 1 [.ref 1, .int (J d)] (hp S m q)) (.inl (some (.int (J (bI ok))))) (hp S m' q) ∧ CRes m m' b n L ok B' s' g') ∧
  (∀ (dp : Nat), 1 ≤ dp → ∀ (S : xH) (m : Nat → Int → Int) (q : Nat → Int → Int64), Sk S → RPs m b n B s g d → ∃ m', De (fun k => F_X11_readCond k dp 2 [.ref 136] (hp S m q)) (.inl (some (.int (J (bI ok))))) (hp S m' q) ∧ RRes m m' b n d ok B' s' g') := by
  have lt := tok_lt (show tok b n B ≠ 21 by omega)
  have h1 := hB.1
  obtain ⟨kk, hkk, ek⟩ : ∃ kk : Nat, kk < 20 ∧ tok b n B = kk := ⟨(tok b n B).toNat, by omega, by omega⟩
  have tw := ten_wd h1.2.1 hkk ek
  have nx := hB.nx lt
  refine ⟨true, nxB b n B, s + 1, em g s (tok b n B - 8) 0, ⟨fun _ => ⟨nx.1, by omega, by omega, by omega, fun i hi => em_o hi, (Seg.one (by decide) (by decide) (by omega)).mono A1⟩, fun z => absurd z (by decide)⟩, fun dp hd S m q L hs h => ?_, fun dp hd S m q hs h => ?_⟩
  · obtain ⟨dp, rfl⟩ : ∃ e, dp = e + 1 := ⟨dp - 1, by omega⟩
    have tk := h.tk
    have eh : 256 * (0 : Int) + 16 * (tok b n B - 8) + 0 = encS (tok b n B - 8) 0 := by
      unfold encS
      rw [if_pos (by omega)]
      omega
    obtain ⟨m1, D1, C1, F1, w1⟩ := c_add (q := q) (op := 0) (wh := tok b n B - 8) (th := 0) hs h (by omega) (by decide) (by decide) (by omega) (by omega) (by decide) (by decide) eh
    obtain ⟨m2, D2, C2, F2⟩ := c_next (q := q) hs hB C1 lt
    refine ⟨m2, ?_, F1.tr F2.p, fun _ => ⟨C2, (F2 1 3 (by omega)).trans w1⟩, fun z => absurd z (by decide)⟩
    have DF : De (fun k => f_X3_readFact k 0 [.ref 1] (hp S m q)) (.inl (some (.int (J 1)))) (hp S m2 q) := by
      refine De.step ?_
      simp only [j_X3_readFact_0]
      simp (disch := omega) only [b_X3_readFact_0, x1_k hs, x1_r0 hs, x1_r1 hs, x1_i2 hs, x1_w2 hs, x1_i3 hs, x1_w3 hs, x1_i4 hs, x1_w4 hs, x1_i5 hs, x1_w5 hs, x1_i6 hs, x1_w6 hs, x1_i7 hs, x1_w7 hs, x2_k hs, x2_r0 hs, x2_r1 hs, x2_r2 hs, x2_i3 hs, x2_w3 hs, x2_r4 hs, x2_i5 hs, x2_w5 hs, x2_r6 hs, x2_i7 hs, x2_w7 hs, tk.1, Option.bind_some, xI, xU, xUt, xIt, J_lit, J_add, J_sub, J_mul, J_neg, J_ltc, J_lec, J_eqc, lt_T, lt_F, le_T, le_F, eq_T, eq_F, ↓reduceIte, ite_not, not_true_eq_false, not_false_eq_true, true_or, or_true, false_or, or_false, true_and, and_true, false_and, and_false, up_get, Nat.reduceEqDiff, Int.reduceNeg, eqN_T, eqN_F]
      refine De.call D1 ?_
      simp (disch := omega) only [x1_k hs, x1_r0 hs, x1_r1 hs, x1_i2 hs, x1_w2 hs, x1_i3 hs, x1_w3 hs, x1_i4 hs, x1_w4 hs, x1_i5 hs, x1_w5 hs, x1_i6 hs, x1_w6 hs, x1_i7 hs, x1_w7 hs, Option.bind_some, xI, xU, xUt, xIt, J_lit, J_add, J_sub, J_mul, J_neg, J_ltc, J_lec, J_eqc, lt_T, lt_F, le_T, le_F, eq_T, eq_F, ↓reduceIte, ite_not, not_true_eq_false, not_false_eq_true, true_or, or_true, false_or, or_false, true_and, and_true, false_and, and_false, up_get, Nat.reduceEqDiff, Int.reduceNeg, eqN_T, eqN_F]
      refine De.call D2 ?_
      simp (disch := omega) only [Option.bind_some, xI, xU, xUt, xIt, J_lit, J_add, J_sub, J_mul, J_neg, J_ltc, J_lec, J_eqc, lt_T, lt_F, le_T, le_F, eq_T, eq_F, ↓reduceIte, ite_not, not_true_eq_false, not_false_eq_true, true_or, or_true, false_or, or_false, true_and, and_true, false_and, and_false, up_get, Nat.reduceEqDiff, Int.reduceNeg, eqN_T, eqN_F]
      exact De.ret _ _
    simp only [FqA]
    refine De.step ?_
    simp only [j_X3_readAtom_0]
    simp (disch := omega) only [b_X3_readAtom_0, x1_k hs, x1_r0 hs, x1_r1 hs, x1_i2 hs, x1_w2 hs, x1_i3 hs, x1_w3 hs, x1_i4 hs, x1_w4 hs, x1_i5 hs, x1_w5 hs, x1_i6 hs, x1_w6 hs, x1_i7 hs, x1_w7 hs, tk.1, Option.bind_some, xI, xU, xUt, xIt, J_lit, J_add, J_sub, J_mul, J_neg, J_ltc, J_lec, J_eqc, lt_T, lt_F, le_T, le_F, eq_T, eq_F, ↓reduceIte, ite_not, not_true_eq_false, not_false_eq_true, true_or, or_true, false_or, or_false, true_and, and_true, false_and, and_false, up_get, Nat.reduceEqDiff, Int.reduceNeg, eqN_T, eqN_F]
    refine De.step ?_
    simp only [j_X3_readAtom_15]
    simp (disch := omega) only [b_X3_readAtom_15, x1_k hs, x1_r0 hs, x1_r1 hs, x1_i2 hs, x1_w2 hs, x1_i3 hs, x1_w3 hs, x1_i4 hs, x1_w4 hs, x1_i5 hs, x1_w5 hs, x1_i6 hs, x1_w6 hs, x1_i7 hs, x1_w7 hs, tk.1, Option.bind_some, xI, xU, xUt, xIt, J_lit, J_add, J_sub, J_mul, J_neg, J_ltc, J_lec, J_eqc, lt_T, lt_F, le_T, le_F, eq_T, eq_F, ↓reduceIte, ite_not, not_true_eq_false, not_false_eq_true, true_or, or_true, false_or, or_false, true_and, and_true, false_and, and_false, up_get, Nat.reduceEqDiff, Int.reduceNeg, eqN_T, eqN_F]
    refine De.call (De.at (fun k => k) (fun k => Nat.le_refl _) DF) ?_
    simp (disch := omega) only [bI_t, Option.bind_some, xI, xU, xUt, xIt, J_lit, J_add, J_sub, J_mul, J_neg, J_ltc, J_lec, J_eqc, lt_T, lt_F, le_T, le_F, eq_T, eq_F, ↓reduceIte, ite_not, not_true_eq_false, not_false_eq_true, true_or, or_true, false_or, or_false, true_and, and_true, false_and, and_false, up_get, Nat.reduceEqDiff, Int.reduceNeg, eqN_T, eqN_F]
    exact De.ret _ _
  · obtain ⟨dp, rfl⟩ : ∃ e, dp = e + 1 := ⟨dp - 1, by omega⟩
    obtain ⟨m1, R1, B1, F1, S1⟩ := r_word (q := q) (dp := dp) hs hB h (by omega) (by omega)
    rw [if_pos ⟨c1, c2⟩] at S1
    have RP : RPs m1 b n (nxB b n B) s g d := h.fr F1 R1 (by rw [← tw.2.1]; rfl)
    obtain ⟨m2, D2, RP2, F2, -⟩ := r_emits (q := q) hs RP s0 (by omega) (tok b n B - 8) 0
    refine ⟨m2, ?_, F1.r.tr F2, fun _ => RP2, fun z => absurd z (by decide)⟩
    simp only [FqMA]
    refine S1 (fun k => k) (fun v => ?_)
    refine De.step ?_
    simp only [j_X11_readAtom_212]
    simp (disch := omega) only [b_X11_readAtom_212, x136_k hs, x136_i0 hs, x136_w0 hs, x136_r1 hs, x136_r2 hs, x136_r3 hs, x136_r4 hs, x136_i5 hs, x136_w5 hs, x136_i6 hs, x136_w6 hs, x136_i7 hs, x136_w7 hs, x136_r8 hs, x136_i9 hs, x136_w9 hs, x136_i10 hs, x136_w10 hs, x136_i11 hs, x136_w11 hs, x136_i12 hs, x136_w12 hs, x136_i13 hs, x136_w13 hs, x136_i14 hs, x136_w14 hs, x136_r15 hs, x136_i16 hs, x136_w16 hs, x136_r17 hs, x136_r18 hs, x136_r19 hs, x136_r20 hs, x136_r21 hs, x136_i22 hs, x136_w22 hs, x136_r23 hs, x136_r24 hs, x136_i25 hs, x136_w25 hs, x136_i26 hs, x136_w26 hs, x136_r27 hs, x136_r28 hs, x136_i29 hs, x136_w29 hs, Option.bind_some, xI, xU, xUt, xIt, J_lit, J_add, J_sub, J_mul, J_neg, J_ltc, J_lec, J_eqc, lt_T, lt_F, le_T, le_F, eq_T, eq_F, ↓reduceIte, ite_not, not_true_eq_false, not_false_eq_true, true_or, or_true, false_or, or_false, true_and, and_true, false_and, and_false, up_get, Nat.reduceEqDiff, Int.reduceNeg, eqN_T, eqN_F]
    refine De.call D2 ?_
    simp (disch := omega) only [bI_t, Option.bind_some, xI, xU, xUt, xIt, J_lit, J_add, J_sub, J_mul, J_neg, J_ltc, J_lec, J_eqc, lt_T, lt_F, le_T, le_F, eq_T, eq_F, ↓reduceIte, ite_not, not_true_eq_false, not_false_eq_true, true_or, or_true, false_or, or_false, true_and, and_true, false_and, and_false, up_get, Nat.reduceEqDiff, Int.reduceNeg, eqN_T, eqN_F]
    exact De.ret _ _
/-- no atom stands there -/
theorem at_none (hB : Bok b n B) (c : tok b n B < 7 ∨ 20 ≤ tok b n B) (c1 : tok b n B ≠ 140) : ∃ (ok : Bool) (B' s' : Int) (g' : Int → Int), Fct b n B s g ok B' s' g' A ∧
  (∀ (dp : Nat), 1 ≤ dp → ∀ (S : xH) (m : Nat → Int → Int) (q : Nat → Int → Int64) (L : Int), Sk S → CPs m b n B s g L → ∃ m', De (fun k => F_X3_readEither k dp 1 [.ref 1, .int (J d)] (hp S m q)) (.inl (some (.int (J (bI ok))))) (hp S m' q) ∧ CRes m m' b n L ok B' s' g') ∧
  (∀ (dp : Nat), 1 ≤ dp → ∀ (S : xH) (m : Nat → Int → Int) (q : Nat → Int → Int64), Sk S → RPs m b n B s g d → ∃ m', De (fun k => F_X11_readCond k dp 2 [.ref 136] (hp S m q)) (.inl (some (.int (J (bI ok))))) (hp S m' q) ∧ RRes m m' b n d ok B' s' g') := by
  have h1 := hB.1
  have tr := tok_rng hB
  refine ⟨false, B, s, g, ⟨fun z => absurd z (by decide), fun _ => ⟨h1.1, h1.2.1⟩⟩, fun dp hd S m q L hs h => ?_, fun dp hd S m q hs h => ?_⟩
  · obtain ⟨dp, rfl⟩ : ∃ e, dp = e + 1 := ⟨dp - 1, by omega⟩
    have tk := h.tk
    obtain ⟨DX, CR⟩ := c_failR (q := q) (s' := s) (g' := g) hs h
    refine ⟨up m 1 3 B, ?_, CR⟩
    have DF : De (fun k => f_X3_readFact k 0 [.ref 1] (hp S m q)) (.inl (some (.int (J 0)))) (hp S (up m 1 3 B) q) := by
      have D58 : De (fun k => f_X3_readFact k 58 [.ref 1] (hp S m q)) (.inl (some (.int (J 0)))) (hp S (up m 1 3 B) q) := by
        refine De.step ?_
        simp only [j_X3_readFact_58]
        simp (disch := omega) only [b_X3_readFact_58, x1_k hs, x1_r0 hs, x1_r1 hs, x1_i2 hs, x1_w2 hs, x1_i3 hs, x1_w3 hs, x1_i4 hs, x1_w4 hs, x1_i5 hs, x1_w5 hs, x1_i6 hs, x1_w6 hs, x1_i7 hs, x1_w7 hs, Option.bind_some]
        refine De.call DX ?_
        simp (disch := omega) only [Option.bind_some, xI, xU, xUt, xIt, J_lit, J_add, J_sub, J_mul, J_neg, J_ltc, J_lec, J_eqc, lt_T, lt_F, le_T, le_F, eq_T, eq_F, ↓reduceIte, ite_not, not_true_eq_false, not_false_eq_true, true_or, or_true, false_or, or_false, true_and, and_true, false_and, and_false, up_get, Nat.reduceEqDiff, Int.reduceNeg, eqN_T, eqN_F]
        exact De.ret _ _
      have D40 : De (fun k => f_X3_readFact k 40 [.ref 1] (hp S m q)) (.inl (some (.int (J 0)))) (hp S (up m 1 3 B) q) := by
        rcases c with c | c
        · refine De.step ?_
          simp only [j_X3_readFact_40]
          simp (disch := omega) only [b_X3_readFact_40, x1_k hs, x1_r0 hs, x1_r1 hs, x1_i2 hs, x1_w2 hs, x1_i3 hs, x1_w3 hs, x1_i4 hs, x1_w4 hs, x1_i5 hs, x1_w5 hs, x1_i6 hs, x1_w6 hs, x1_i7 hs, x1_w7 hs, tk.1, Option.bind_some, xI, xU, xUt, xIt, J_lit, J_add, J_sub, J_mul, J_neg, J_ltc, J_lec, J_eqc, lt_T, lt_F, le_T, le_F, eq_T, eq_F, ↓reduceIte, ite_not, not_true_eq_false, not_false_eq_true, true_or, or_true, false_or, or_false, true_and, and_true, false_and, and_false, up_get, Nat.reduceEqDiff, Int.reduceNeg, eqN_T, eqN_F]
          exact D58
        · refine De.step ?_
          simp only [j_X3_readFact_40]
          simp (disch := omega) only [b_X3_readFact_40, x1_k hs, x1_r0 hs, x1_r1 hs, x1_i2 hs, x1_w2 hs, x1_i3 hs, x1_w3 hs, x1_i4 hs, x1_w4 hs, x1_i5 hs, x1_w5 hs, x1_i6 hs, x1_w6 hs, x1_i7 hs, x1_w7 hs, tk.1, Option.bind_some, xI, xU, xUt, xIt, J_lit, J_add, J_sub, J_mul, J_neg, J_ltc, J_lec, J_eqc, lt_T, lt_F, le_T, le_F, eq_T, eq_F, ↓reduceIte, ite_not, not_true_eq_false, not_false_eq_true, true_or, or_true, false_or, or_false, true_and, and_true, false_and, and_false, up_get, Nat.reduceEqDiff, Int.reduceNeg, eqN_T, eqN_F]
          exact D58
      rcases c with c | c
      · refine De.step ?_
        simp only [j_X3_readFact_0]
        simp (disch := omega) only [b_X3_readFact_0, x1_k hs, x1_r0 hs, x1_r1 hs, x1_i2 hs, x1_w2 hs, x1_i3 hs, x1_w3 hs, x1_i4 hs, x1_w4 hs, x1_i5 hs, x1_w5 hs, x1_i6 hs, x1_w6 hs, x1_i7 hs, x1_w7 hs, tk.1, Option.bind_some, xI, xU, xUt, xIt, J_lit, J_add, J_sub, J_mul, J_neg, J_ltc, J_lec, J_eqc, lt_T, lt_F, le_T, le_F, eq_T, eq_F, ↓reduceIte, ite_not, not_true_eq_false, not_false_eq_true, true_or, or_true, false_or, or_false, true_and, and_true, false_and, and_false, up_get, Nat.reduceEqDiff, Int.reduceNeg, eqN_T, eqN_F]
        exact D40
      · refine De.step ?_
        simp only [j_X3_readFact_0]
        simp (disch := omega) only [b_X3_readFact_0, x1_k hs, x1_r0 hs, x1_r1 hs, x1_i2 hs, x1_w2 hs, x1_i3 hs, x1_w3 hs, x1_i4 hs, x1_w4 hs, x1_i5 hs, x1_w5 hs, x1_i6 hs, x1_w6 hs, x1_i7 hs, x1_w7 hs, tk.1, Option.bind_some, xI, xU, xUt, xIt, J_lit, J_add, J_sub, J_mul, J_neg, J_ltc, J_lec, J_eqc, lt_T, lt_F, le_T, le_F, eq_T, eq_F, ↓reduceIte, ite_not, not_true_eq_false, not_false_eq_true, true_or, or_true, false_or, or_false, true_and, and_true, false_and, and_false, up_get, Nat.reduceEqDiff, Int.reduceNeg, eqN_T, eqN_F]
        exact D40
    simp only [FqA]
    refine De.step ?_
    simp only [j_X3_readAtom_0]
    simp (disch := omega) only [b_X3_readAtom_0, x1_k hs, x1_r0 hs, x1_r1 hs, x1_i2 hs, x1_w2 hs, x1_i3 hs, x1_w3 hs, x1_i4 hs, x1_w4 hs, x1_i5 hs, x1_w5 hs, x1_i6 hs, x1_w6 hs, x1_i7 hs, x1_w7 hs, tk.1, Option.bind_some, xI, xU, xUt, xIt, J_lit, J_add, J_sub, J_mul, J_neg, J_ltc, J_lec, J_eqc, lt_T, lt_F, le_T, le_F, eq_T, eq_F, ↓reduceIte, ite_not, not_true_eq_false, not_false_eq_true, true_or, or_true, false_or, or_false, true_and, and_true, false_and, and_false, up_get, Nat.reduceEqDiff, Int.reduceNeg, eqN_T, eqN_F]
    refine De.step ?_
    simp only [j_X3_readAtom_15]
    simp (disch := omega) only [b_X3_readAtom_15, x1_k hs, x1_r0 hs, x1_r1 hs, x1_i2 hs, x1_w2 hs, x1_i3 hs, x1_w3 hs, x1_i4 hs, x1_w4 hs, x1_i5 hs, x1_w5 hs, x1_i6 hs, x1_w6 hs, x1_i7 hs, x1_w7 hs, tk.1, Option.bind_some, xI, xU, xUt, xIt, J_lit, J_add, J_sub, J_mul, J_neg, J_ltc, J_lec, J_eqc, lt_T, lt_F, le_T, le_F, eq_T, eq_F, ↓reduceIte, ite_not, not_true_eq_false, not_false_eq_true, true_or, or_true, false_or, or_false, true_and, and_true, false_and, and_false, up_get, Nat.reduceEqDiff, Int.reduceNeg, eqN_T, eqN_F]
    refine De.call (De.at (fun k => k) (fun k => Nat.le_refl _) DF) ?_
    simp (disch := omega) only [bI_f, Option.bind_some, xI, xU, xUt, xIt, J_lit, J_add, J_sub, J_mul, J_neg, J_ltc, J_lec, J_eqc, lt_T, lt_F, le_T, le_F, eq_T, eq_F, ↓reduceIte, ite_not, not_true_eq_false, not_false_eq_true, true_or, or_true, false_or, or_false, true_and, and_true, false_and, and_false, up_get, Nat.reduceEqDiff, Int.reduceNeg, eqN_T, eqN_F]
    exact De.ret _ _
  · obtain ⟨dp, rfl⟩ : ∃ e, dp = e + 1 := ⟨dp - 1, by omega⟩
    obtain ⟨m1, R1, B1, F1, S1⟩ := r_word (q := q) (dp := dp) hs hB h c1 (by omega)
    rw [if_neg (by omega)] at S1
    refine ⟨m1, ?_, F1.r, fun z => absurd z (by decide), fun _ => B1⟩
    simp only [FqMA]
    refine S1 (fun k => k) (fun v => r_fact hs hB R1 B1 v (fun v' => ?_))
    rw [if_neg (by omega)]
    refine De.step ?_
    simp only [j_X11_readAtom_291]
    simp (disch := omega) only [b_X11_readAtom_291, bI_f, Option.bind_some, xI, xU, xUt, xIt, J_lit, J_add, J_sub, J_mul, J_neg, J_ltc, J_lec, J_eqc, lt_T, lt_F, le_T, le_F, eq_T, eq_F, ↓reduceIte, ite_not, not_true_eq_false, not_false_eq_true, true_or, or_true, false_or, or_false, true_and, and_true, false_and, and_false, up_get, Nat.reduceEqDiff, Int.reduceNeg, eqN_T, eqN_F]
    exact De.ret _ _
end ATOM
