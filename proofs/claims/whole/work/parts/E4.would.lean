/-! would answers alike -/
theorem De.uniq {X : Nat → xO} {r r' : xR} {P P' : xH} (h : De X r P) (h' : De X r' P') : r = r' ∧ P = P' := by
  obtain ⟨n0, h⟩ := h
  obtain ⟨n1, h'⟩ := h'
  have a := h (n0 + n1) (by omega)
  have b := h' (n0 + n1) (by omega)
  rw [a] at b
  have c := Option.some.inj b
  exact ⟨congrArg Prod.fst c, congrArg Prod.snd c⟩
section WOULD
variable {S S1 : xH} {m m' m1 m2 : Nat → Int → Int} {q q' q1 : Nat → Int → Int64} {told l x T : Int} {w w' v g g' : Int → Int} {ln sp : Int} {kd nm bg so : Int → Int} {I : xH → Prop} {v' : Int32}
def hvS (w g v : Int → Int) (x : Int) (k : Nat) (told : Int) : Int := if x < (rnS w g 0 k (told, v)).1 then (rnS w g 0 k (told, v)).2 (2151 + 5 * x + 0) else -1
theorem TKi.hi (hs : Sk S) (T : TKi S m q w v g) (F : ∀ b i, 9 ≤ b → b ≤ 110 → m' b i = m b i) (e : ∀ i, i < 5080 → w' i = w i) : TKi S m' q w' v g := by
  obtain ⟨⟨h0, W, WC, NC, R⟩, KC, PL, RR, DW, T0⟩ := T
  have w1 := W.2.1
  have tw := W.1.2.1
  have n1 := NC.1
  have v1 := NC.vok.1
  have R0 : RulC m 10 g := R
  have K := KC.kok (l := 0) (by decide) (by decide)
  have C1 : CX S m' q 46 10 (w 1) w v g := ⟨⟨hs, hs.Net46, hs.Rul, by decide, by decide⟩, W, WC.cg (fun b i _ _ => F b i (by omega) (by omega)), Rnet.congr NC tw (fun i _ _ => F _ _ (by omega) (by omega)) (fun o _ _ => funext fun i => F _ _ (by omega) (by omega)) (fun o _ _ => rfl) rfl (Int.le_refl _) (fun i _ _ => rfl) (fun i _ _ => rfl) (by omega), R0.cg (F _ _ (by omega) (by omega)) (F _ _ (by omega) (by omega)) (fun b i _ _ => F _ _ (by omega) (by omega))⟩
  refine ⟨by rw [e 1 (by decide)]; exact C1.wd (fun i hi => e i (by omega)), (KC.wd (fun i hi => e i (by omega))).cg (fun b i _ _ => F b i (by omega) (by omega)), PL.w tw (by decide) (by decide) K.2.1 (e 0 (by decide)) (fun i _ _ => e i (by omega)) (fun i _ _ => e i (by omega)) (fun i _ _ => e i (by omega)) (fun i _ _ => rfl), ?_, DW.congr tw w1.2 (fun i _ _ => F _ _ (by omega) (by omega)) (fun o _ _ => funext fun i => F _ _ (by omega) (by omega)) (fun o _ _ => rfl) (e 0 (by decide)) (e 1 (by decide)) (fun i _ _ => e i (by omega)) (fun y _ _ => e _ (by omega)) (fun i _ _ => e i (by omega)) rfl, fun z y y0 y1 => ?_⟩
  · rw [F 90 2 (by omega) (by omega), show m' 91 = m 91 from funext fun i => F 91 i (by omega) (by omega), show m' 92 = m 92 from funext fun i => F 92 i (by omega) (by omega)]
    exact RR.w (fun i _ _ => e i (by omega)) rfl (by omega)
  · rw [e 1 (by decide)] at y1
    rw [e _ (by omega)]
    exact T0 z y y0 y1
def FrB (m m' : Nat → Int → Int) : Prop := ∀ b i, (b < 111 ∨ 133 ≤ b) → b ≠ 7 → ¬ (b = 2 ∧ i = 7) → m' b i = m b i
theorem q_would54 (srt : SRT w) (x0 : 0 ≤ x) (x1 : x < 30) (T4 : T ≤ 400) : ∀ (k : Nat) (t : Int) (m : Nat → Int → Int) (q : Nat → Int → Int64) (told : Int) (v : Int → Int), t + k = T → 0 ≤ t → v 0 = t → CX S m q 111 2 told w v g → WkC m w → LIN told w v → Rplc 0 w v → m 46 2 = T → ∃ m' q', De (fun n => f_X10_would n 54 [.ref 0, .int (J x), .int (J t)] (hp S m q)) (.inl (some (.int (J (hvS w g v x k told))))) (hp S m' q') ∧ FrB m m' ∧ ∀ b, (b < 111 ∨ 133 ≤ b) → q' b = q b := by
  intro k
  induction k with
  | zero =>
    intro t m q told v ht t0 hv C KC L PL h46
    obtain ⟨⟨hs, hn, hr, r16, a46⟩, W, WC, NC, R⟩ := id C
    have e18 : m 129 x = hvS w g v x 0 told := by
      unfold hvS
      by_cases c : x < told
      · rw [if_pos (show x < (rnS w g 0 0 (told, v)).1 from c)]
        exact (NC.2.2.2.2.2 x x0 c).1
      · rw [if_neg (show ¬ x < (rnS w g 0 0 (told, v)).1 from c)]
        exact (NC.2.2.2.2.1 x x0 x1).2.1 (by omega)
    refine ⟨m, q, ?_, fun _ _ _ _ _ => rfl, fun _ _ => rfl⟩
    refine De.step ?_
    simp only [j_X10_would_54]
    simp (disch := omega) only [b_X10_would_54, x0_k hs, x0_r0 hs, x0_r1 hs, x0_r2 hs, x0_r3 hs, x9_k hs, x9_r0 hs, x9_r1 hs, x9_r2 hs, x9_r3 hs, x9_r4 hs, x9_r5 hs, x9_r6 hs, x9_r7 hs, x9_i8 hs, x9_w8 hs, x9_i9 hs, x9_w9 hs, x46_k hs, x46_r0 hs, x46_r1 hs, x46_i2 hs, x46_w2 hs, x46_i3 hs, x46_w3 hs, x46_i4 hs, x46_w4 hs, x46_r5 hs, x46_r6 hs, x46_r7 hs, x46_r8 hs, x46_r9 hs, x46_r10 hs, x46_r11 hs, x46_r12 hs, x46_r13 hs, x46_i14 hs, x46_w14 hs, x46_i15 hs, x46_w15 hs, x46_i16 hs, x46_w16 hs, Net0_r10 hn, Net18_g hn, Nat.reduceAdd, h46, e18, Option.bind_some, xI, xU, xUt, xIt, J_lit, J_add, J_sub, J_mul, J_neg, J_ltc, J_lec, J_eqc, lt_T, lt_F, le_T, le_F, eq_T, eq_F, ↓reduceIte, ite_not, not_true_eq_false, not_false_eq_true, true_or, or_true, false_or, or_false, true_and, and_true, false_and, and_false, up_get, Nat.reduceEqDiff, Int.reduceNeg, eqN_T, eqN_F]
    exact De.ret _ _
  | succ k IH =>
    intro t m q told v ht t0 hv C KC L PL h46
    obtain ⟨⟨hs, hn, hr, r16, a46⟩, W, WC, NC, R⟩ := id C
    have K := KC.kok (l := 0) (by decide) (by decide)
    have X : VX told w v g := ⟨_, _, _, _, _, C⟩
    have n1 := NC.1
    by_cases c : m 129 x = -1
    · obtain ⟨X2, L2, P2, s2, -⟩ := nsS_ok R srt K X L (by omega)
      obtain ⟨ma, qa, m2, q2, D1, D2, C2, F2, G2⟩ := q_nsC (l := 0) C KC PL (by decide) (by decide) (by omega)
      have f2 : FrB m m2 := fun b z h1 h2 h3 => F2 b z (by omega) (by omega) (by omega)
      obtain ⟨m', q', D', F', G'⟩ := IH (t + 1) m2 q2 _ _ (by omega) (by omega) (by rw [s2]; omega) C2 (KC.cg (fun b z h1 h2 => f2 b z (by omega) (by omega) (by omega))) L2 P2 ((f2 46 2 (by decide) (by decide) (by decide)).trans h46)
      refine ⟨m', q', ?_, fun b i h1 h2 h3 => (F' b i h1 h2 h3).trans (f2 b i h1 h2 h3), fun b h => (G' b h).trans (G2 b (by omega) (by omega))⟩
      refine De.step ?_
      simp only [j_X10_would_54]
      simp (disch := omega) only [b_X10_would_54, x0_k hs, x0_r0 hs, x0_r1 hs, x0_r2 hs, x0_r3 hs, x9_k hs, x9_r0 hs, x9_r1 hs, x9_r2 hs, x9_r3 hs, x9_r4 hs, x9_r5 hs, x9_r6 hs, x9_r7 hs, x9_i8 hs, x9_w8 hs, x9_i9 hs, x9_w9 hs, x46_k hs, x46_r0 hs, x46_r1 hs, x46_i2 hs, x46_w2 hs, x46_i3 hs, x46_w3 hs, x46_i4 hs, x46_w4 hs, x46_r5 hs, x46_r6 hs, x46_r7 hs, x46_r8 hs, x46_r9 hs, x46_r10 hs, x46_r11 hs, x46_r12 hs, x46_r13 hs, x46_i14 hs, x46_w14 hs, x46_i15 hs, x46_w15 hs, x46_i16 hs, x46_w16 hs, Net0_r10 hn, Net18_g hn, Nat.reduceAdd, h46, c, Net0_k hn, Option.bind_some, xI, xU, xUt, xIt, J_lit, J_add, J_sub, J_mul, J_neg, J_ltc, J_lec, J_eqc, lt_T, lt_F, le_T, le_F, eq_T, eq_F, ↓reduceIte, ite_not, not_true_eq_false, not_false_eq_true, true_or, or_true, false_or, or_false, true_and, and_true, false_and, and_false, up_get, Nat.reduceEqDiff, Int.reduceNeg, eqN_T, eqN_F]
      refine De.call D1 ?_
      simp (disch := omega) only [x0_k hs, x0_r0 hs, x0_r1 hs, x0_r2 hs, x0_r3 hs, Net0_k hn, Option.bind_some, xI, xU, xUt, xIt, J_lit, J_add, J_sub, J_mul, J_neg, J_ltc, J_lec, J_eqc, lt_T, lt_F, le_T, le_F, eq_T, eq_F, ↓reduceIte, ite_not, not_true_eq_false, not_false_eq_true, true_or, or_true, false_or, or_false, true_and, and_true, false_and, and_false, up_get, Nat.reduceEqDiff, Int.reduceNeg, eqN_T, eqN_F]
      refine De.call D2 ?_
      simp (disch := omega) only [Option.bind_some, xI, xU, xUt, xIt, J_lit, J_add, J_sub, J_mul, J_neg, J_ltc, J_lec, J_eqc, lt_T, lt_F, le_T, le_F, eq_T, eq_F, ↓reduceIte, ite_not, not_true_eq_false, not_false_eq_true, true_or, or_true, false_or, or_false, true_and, and_true, false_and, and_false, up_get, Nat.reduceEqDiff, Int.reduceNeg, eqN_T, eqN_F]
      exact D'
    · have lt : x < told := by
        by_cases z : x < told
        · exact z
        · exact absurd ((NC.2.2.2.2.1 x x0 x1).2.1 (by omega)) c
      obtain ⟨a1, a2, a3, -⟩ := NC.2.2.2.2.2 x x0 lt
      have a1' : m 129 x = v (2151 + 5 * x + 0) := a1
      have a2' : -1 ≤ m 129 x := a2
      have a3' : m 129 x ≤ v 0 := a3
      have e : hvS w g v x (k + 1) told = v (2151 + 5 * x + 0) := by
        obtain ⟨-, -, -, tl⟩ := rnS_ok R srt K (k + 1) told v X L (by omega)
        unfold hvS
        rw [if_pos (by omega)]
        exact rnS_h R srt K x0 (k + 1) told v X L (by omega) lt (by omega)
      rw [e, ← a1']
      refine ⟨m, q, ?_, fun _ _ _ _ _ => rfl, fun _ _ => rfl⟩
      refine De.step ?_
      simp only [j_X10_would_54]
      simp (disch := omega) only [b_X10_would_54, x0_k hs, x0_r0 hs, x0_r1 hs, x0_r2 hs, x0_r3 hs, x9_k hs, x9_r0 hs, x9_r1 hs, x9_r2 hs, x9_r3 hs, x9_r4 hs, x9_r5 hs, x9_r6 hs, x9_r7 hs, x9_i8 hs, x9_w8 hs, x9_i9 hs, x9_w9 hs, x46_k hs, x46_r0 hs, x46_r1 hs, x46_i2 hs, x46_w2 hs, x46_i3 hs, x46_w3 hs, x46_i4 hs, x46_w4 hs, x46_r5 hs, x46_r6 hs, x46_r7 hs, x46_r8 hs, x46_r9 hs, x46_r10 hs, x46_r11 hs, x46_r12 hs, x46_r13 hs, x46_i14 hs, x46_w14 hs, x46_i15 hs, x46_w15 hs, x46_i16 hs, x46_w16 hs, Net0_r10 hn, Net18_g hn, Nat.reduceAdd, h46, Option.bind_some, xI, xU, xUt, xIt, J_lit, J_add, J_sub, J_mul, J_neg, J_ltc, J_lec, J_eqc, lt_T, lt_F, le_T, le_F, eq_T, eq_F, ↓reduceIte, ite_not, not_true_eq_false, not_false_eq_true, true_or, or_true, false_or, or_false, true_and, and_true, false_and, and_false, up_get, Nat.reduceEqDiff, Int.reduceNeg, eqN_T, eqN_F]
      exact De.ret _ _
/-- the class's run of the trial -/
theorem q_wouldC (hs : Sk S) (TT : TKi S m q w v g) (srt : SRT w) (RC : RulC m 2 g') (x0 : 0 ≤ x) (x1 : x < 30) (u : Int → Int) : ∃ m' q' told, De (fun n => (f_X10_beginTrial n 0 [.ref 0, .ref 2] (hp S m q)).bind fun r20 => xU r20 fun P19 => f_X10_would n 54 [.ref 0, .int (J x), .int (J 0)] P19) (.inl (some (.int (J (hvS w g' (v0U w v u) x (v 0).toNat told))))) (hp (trS S 2) m' q') ∧ VX told w (v0S w v) g' ∧ LIN told w (v0S w v) ∧ v0S w v 0 = 0 ∧ FrB m m' ∧ ∀ b, (b < 111 ∨ 133 ≤ b) → q' b = q b := by
  have v1 := TT.1.2.2.2.1.vok.1
  have n2 : m 46 2 = v 0 := TT.1.2.2.2.1.1.2.1
  obtain ⟨ma, qa, told, D1, C1, L1, ⟨z0, zp⟩, F1, G1⟩ := q_begin (r := 2) hs TT (Or.inl rfl) RC
  have C2 : CX (trS S 2) ma qa 111 2 told w (v0U w v u) g' := C1.vin (fun i i0 i1 => v0U_in i0 i1)
  have tw := C1.2.1.1.2.1
  have KC : WkC ma w := TT.2.1.cg (fun b i _ _ => F1 b i (by omega))
  have e0 : v0U w v u 0 = 0 := (v0U_in (by decide) (by decide)).trans z0
  obtain ⟨m', q', D', F', G'⟩ := q_would54 (T := v 0) srt x0 x1 v1.2.1 (v 0).toNat 0 ma qa told (v0U w v u) (by omega) (Int.le_refl _) e0 C2 KC (fun y a b => by rw [e0, ← z0]; exact L1 y a b) (Rplc.zero (KC.kok (by decide) (by decide)) e0 (fun p p0 p1 => (v0U_in (by omega) (by omega)).trans (zp p p0 p1))) ((F1 46 2 (by decide)).trans n2)
  refine ⟨m', q', told, ?_, ⟨_, _, _, _, _, C1⟩, L1, z0, fun b i h1 h2 h3 => (F' b i h1 h2 h3).trans (F1 b i h1), fun b h => (G' b h).trans (G1 b h)⟩
  refine De.call D1 ?_
  simp (disch := omega) only [Option.bind_some, xI, xU, xUt, xIt, J_lit, J_add, J_sub, J_mul, J_neg, J_ltc, J_lec, J_eqc, lt_T, lt_F, le_T, le_F, eq_T, eq_F, ↓reduceIte, ite_not, not_true_eq_false, not_false_eq_true, true_or, or_true, false_or, or_false, true_and, and_true, false_and, and_false, up_get, Nat.reduceEqDiff, Int.reduceNeg, eqN_T, eqN_F]
  exact D'
theorem ob_would_okS {v1 : Int32} (hs : Sk S) (hs1 : Sk S1) (hc : De (fun n => f_X10_would n 0 [.ref 0, .int v1] (hp S m q)) (.inl (some (.int v'))) (hp S1 m1 q1)) (hm : De (fun n => f_X11_would n 0 [.ref 136, .int v1] (hp S1 m1 (uq q1 152 0 (Int32.toInt64 v')))) (.inl (some (.int v'))) (hp S1 m2 (uq q1 152 0 (Int32.toInt64 v')))) (ht : m2 136 0 = 0) (hI : I (hp S1 m2 (uq q1 152 0 (Int32.toInt64 v')))) : oB 0 136 152 f_L_would f_X11_would [.int v1] (hp S m q) I := by
  refine ⟨J 0, v', _, _, ?_, x136_k hs1, hm, x136_k hs1, De.eq 1 (fun n => by rw [e_thrown hs1, ht]), fun _ => aJ_out hs1, hI⟩
  show De (fun n => f_L_would n 0 [.ref 0, .int v1, .ref 152] (hp S m q)) _ _
  refine De.step ?_
  simp only [j_L_would_0, b_L_would_0, x0_k hs, Option.bind_some]
  refine De.call hc ?_
  simp only [xIh]
  simp (disch := omega) only [J_lit, x152_s hs1, Option.bind_some]
  exact De.ret _ _
end WOULD
set_option maxHeartbeats 20000000 in
theorem w_would : LawOb Inv 0 136 152 34 := by
  rintro j P hj ⟨S, m, q, rfl, hs, hR, hI⟩ v1
  obtain ⟨x1, rfl, a1, b1⟩ := J_of v1
  have rm := hR.rm hj
  have hr := hR.1
  obtain ⟨⟨w0, w1, w2⟩, ⟨w3, w4, w5, w6⟩, ⟨v0, v1, v2⟩, l0⟩ := hI.small
  obtain ⟨tap, by0, lot0, ⟨par, hid, prt, sto, gan, wrd, wlk, row, rul, tol, plc, net, dwn⟩, kep⟩ := hI.get
  obtain ⟨t1, t2, t3, t4, t5, t6, t7⟩ := tap
  by_cases cw : 0 ≤ x1 ∧ x1 < m 139 1
  · obtain ⟨good, F, gf, FF, CL, RE⟩ := rd_all (m 8) (m 1 2) (fun i => m 139 (5080 + i)) t2 t3 (fun j a c => (t7 j a c).2)
    obtain ⟨m1, D1, F1, e12, g1, f1⟩ := CL S m q hs rfl rfl kep.1
    have fo : ∀ b i, 7 ≤ b → m1 b i = m b i := fun b i hb => F1 b i (by omega) (by omega) (by omega) (by omega) (by omega) (by omega)
    have RX : ∀ (S' : xH) (M : Nat → Int → Int) (qx : Nat → Int → Int64), Sk S' → (∀ b i, 133 ≤ b → M b i = m1 b i) → ∃ m2, De (fun k => f_X11_uses k 0 [.ref 136] (hp S' M qx)) (.inl none) (hp S' (usM M (m 1 2)) qx) ∧ De (fun k => f_X11_reads k 0 [.ref 136] (hp S' (usM M (m 1 2)) qx)) (.inl (some (.int (J (bI good))))) (hp S' m2 qx) ∧ (∀ c j, ¬ (c = 136 ∧ j ≠ 5 ∧ j ≠ 6 ∧ j ≠ 7) → ¬ (c = 139 ∧ 5080 ≤ j) → m2 c j = M c j) ∧ m2 136 9 = 0 ∧ m2 136 0 = 0 ∧ m2 136 14 = (if good = true then -1 else F) ∧ (good = true → ∀ i : Int, 0 ≤ i → i < 841 → m2 139 (5080 + i) = gf i) := by
      intro S' M qx hs' hM
      obtain ⟨m2, D2, F2, w2, r2⟩ := RE S' (usM M (m 1 2)) qx hs' (usM_rp t2 t3 (fun j a c => ⟨by rw [hM 141 j (by decide), fo 141 j (by decide)]; exact (t7 j a c).1.symm, (t7 j a c).2⟩)) (fun i i0 i1 => by rw [usM_o (by omega), hM 139 _ (by decide)]; exact fo 139 _ (by decide))
      exact ⟨m2, d_uses hs' ((hM 136 9 (by decide)).trans ((fo 136 9 (by decide)).trans t1.symm)), D2, fun c j a b => (F2 c j (by omega) b).trans (usM_o (by omega)), (F2 136 9 (by omega) (by omega)).trans usM_9.1, (F2 136 0 (by omega) (by omega)).trans usM_9.2, w2, r2⟩
    have RU0 : ∀ m2 : Nat → Int → Int, (∀ b i, 8 ≤ b → b ≠ 136 → (b = 139 → i < 5080) → ¬ (b = 10 ∧ i = 7) → b ≠ 15 → b ≤ 16 ∨ b = 139 → m2 b i = m b i) → Rrul (m2 10 3) (m2 10 5) (m2 11) (m2 12) (m2 13) (m2 14) (fun k => m2 139 (4239 + k)) := fun m2 h => k_rul rul (fun b i hb => h b i (by omega) (by omega) (by omega) (by omega) (by omega) (by omega))
    -- the class up to the reader
    have C26 : ∀ {R : xR} {P : xH}, De (fun n => (f_X10_needGood n 0 [.int (J (bI good))] (hp S m1 q)).bind fun r13 => xUt r13 fun P12 => (rA P12 0 10 0).bind fun v15 => (rA P12 v15 3 0).bind fun v17 => (kO P12 0 10).bind fun _ => (f_X10_beginTrial n 0 [.ref 0, .ref v17] P12).bind fun r20 => xU r20 fun P19 => f_X10_would n 54 [.ref 0, .int (J x1), .int (J 0)] P19) R P → De (fun n => f_X10_would n 0 [.ref 0, .int (J x1)] (hp S m q)) R P := by
      intro R P D
      refine De.step ?_
      simp only [j_X10_would_0]
      simp (disch := omega) only [b_X10_would_0, x0_k hs, x0_r0 hs, x0_r1 hs, x0_r2 hs, x0_r3 hs, x9_k hs, x9_r0 hs, x9_r1 hs, x9_r2 hs, x9_r3 hs, x9_r4 hs, x9_r5 hs, x9_r6 hs, x9_r7 hs, x9_i8 hs, x9_w8 hs, x9_i9 hs, x9_w9 hs, x16_k hs, x16_r0 hs, x16_r1 hs, x16_r2 hs, x16_i3 hs, x16_w3 hs, w5, Option.bind_some, xI, xU, xUt, xIt, J_lit, J_add, J_sub, J_mul, J_neg, J_ltc, J_lec, J_eqc, lt_T, lt_F, le_T, le_F, eq_T, eq_F, ↓reduceIte, ite_not, not_true_eq_false, not_false_eq_true, true_or, or_true, false_or, or_false, true_and, and_true, false_and, and_false, up_get, Nat.reduceEqDiff, Int.reduceNeg, eqN_T, eqN_F]
      refine De.step ?_
      simp only [j_X10_would_26]
      simp (disch := omega) only [b_X10_would_26, x0_k hs, x0_r0 hs, x0_r1 hs, x0_r2 hs, x0_r3 hs, Option.bind_some]
      refine De.call (De.eq 2 (fun n => by rw [e_needWord hs, e_needIndex_ok (by omega) (by omega) (by omega)]; rfl)) ?_
      simp (disch := omega) only [xUt, x0_k hs, x0_r0 hs, x0_r1 hs, x0_r2 hs, x0_r3 hs, x1_k hs, x1_r0 hs, x1_r1 hs, x1_i2 hs, x1_w2 hs, x1_i3 hs, x1_w3 hs, x1_i4 hs, x1_w4 hs, x1_i5 hs, x1_w5 hs, x1_i6 hs, x1_w6 hs, x1_i7 hs, x1_w7 hs, Option.bind_some]
      refine De.call D1 ?_
      simp only [xI]
      simp only [J_lit]
      exact D
    cases good with
    | false =>
      have ff := FF rfl
      have hs2 : Sk (xth S 1) := hs.grow (Grow.th S 1) hr
      obtain ⟨m2, DU, DR, F2, w9, -, w14, -⟩ := RX (xth S 1) m1 q hs2 (fun _ _ _ => rfl)
      rw [if_neg (by decide)] at w14
      have E : ∀ b i, 8 ≤ b → b ≠ 136 → (b = 139 → i < 5080) → up m2 136 0 2 b i = m b i := fun b i h1 h2 h3 => (up_a h2).trans ((F2 b i (by omega) (by omega)).trans (fo b i (by omega)))
      have w91 : usM m1 (m 1 2) 139 1 = m 139 1 := (usM_o (by decide)).trans (fo 139 1 (by decide))
      refine ob_would_t1 hs hr (m1 := m1) (q1 := q) (m2 := up m2 136 0 2) (b := J 0) ?_ ?_ (up_at _ _ _ _) ⟨_, _, _, rfl, hs2, hR.th 1, ?_⟩
      · refine C26 ?_
        rw [bI_f]
        refine De.call (De.eq 1 (fun n => e_good0 rm n)) ?_
        simp (disch := omega) only [Option.bind_some, xI, xU, xUt, xIt, J_lit, J_add, J_sub, J_mul, J_neg, J_ltc, J_lec, J_eqc, lt_T, lt_F, le_T, le_F, eq_T, eq_F, ↓reduceIte, ite_not, not_true_eq_false, not_false_eq_true, true_or, or_true, false_or, or_false, true_and, and_true, false_and, and_false, up_get, Nat.reduceEqDiff, Int.reduceNeg, eqN_T, eqN_F]
        exact De.ret _ _
      · refine De.step ?_
        simp only [j_X11_would_0]
        simp (disch := omega) only [b_X11_would_0, x136_k hs2, x136_i0 hs2, x136_w0 hs2, x136_r1 hs2, x136_r2 hs2, x136_r3 hs2, x136_r4 hs2, x136_i5 hs2, x136_w5 hs2, x136_i6 hs2, x136_w6 hs2, x136_i7 hs2, x136_w7 hs2, x136_r8 hs2, x136_i9 hs2, x136_w9 hs2, x136_i10 hs2, x136_w10 hs2, x136_i11 hs2, x136_w11 hs2, x136_i12 hs2, x136_w12 hs2, x136_i13 hs2, x136_w13 hs2, x136_i14 hs2, x136_w14 hs2, x136_r15 hs2, x136_i16 hs2, x136_w16 hs2, x136_r17 hs2, x136_r18 hs2, x136_r19 hs2, x136_r20 hs2, x136_r21 hs2, x136_i22 hs2, x136_w22 hs2, x136_r23 hs2, x136_r24 hs2, x136_i25 hs2, x136_w25 hs2, x136_i26 hs2, x136_w26 hs2, x136_r27 hs2, x136_r28 hs2, x136_i29 hs2, x136_w29 hs2, Option.bind_some]
        refine De.call DU ?_
        simp (disch := omega) only [xU, x136_k hs2, x136_i0 hs2, x136_w0 hs2, x136_r1 hs2, x136_r2 hs2, x136_r3 hs2, x136_r4 hs2, x136_i5 hs2, x136_w5 hs2, x136_i6 hs2, x136_w6 hs2, x136_i7 hs2, x136_w7 hs2, x136_r8 hs2, x136_i9 hs2, x136_w9 hs2, x136_i10 hs2, x136_w10 hs2, x136_i11 hs2, x136_w11 hs2, x136_i12 hs2, x136_w12 hs2, x136_i13 hs2, x136_w13 hs2, x136_i14 hs2, x136_w14 hs2, x136_r15 hs2, x136_i16 hs2, x136_w16 hs2, x136_r17 hs2, x136_r18 hs2, x136_r19 hs2, x136_r20 hs2, x136_r21 hs2, x136_i22 hs2, x136_w22 hs2, x136_r23 hs2, x136_r24 hs2, x136_i25 hs2, x136_w25 hs2, x136_i26 hs2, x136_w26 hs2, x136_r27 hs2, x136_r28 hs2, x136_i29 hs2, x136_w29 hs2, Option.bind_some]
        refine De.call (De.eq 4 (fun n => by simp (disch := omega) only [e_noWord hs2, e_in_T, w91, Option.bind_some, xI, xU, xUt, xIt, J_lit, J_add, J_sub, J_mul, J_neg, J_lt, J_le, J_eq, lt_T, lt_F, le_T, le_F, eq_T, eq_F, ↓reduceIte, ite_not, not_true_eq_false, not_false_eq_true, true_or, or_true, false_or, or_false, true_and, and_true, false_and, and_false, up_get, Nat.reduceEqDiff, Int.reduceNeg]; rfl)) ?_
        simp (disch := omega) only [x136_k hs2, x136_i0 hs2, x136_w0 hs2, x136_r1 hs2, x136_r2 hs2, x136_r3 hs2, x136_r4 hs2, x136_i5 hs2, x136_w5 hs2, x136_i6 hs2, x136_w6 hs2, x136_i7 hs2, x136_w7 hs2, x136_r8 hs2, x136_i9 hs2, x136_w9 hs2, x136_i10 hs2, x136_w10 hs2, x136_i11 hs2, x136_w11 hs2, x136_i12 hs2, x136_w12 hs2, x136_i13 hs2, x136_w13 hs2, x136_i14 hs2, x136_w14 hs2, x136_r15 hs2, x136_i16 hs2, x136_w16 hs2, x136_r17 hs2, x136_r18 hs2, x136_r19 hs2, x136_r20 hs2, x136_r21 hs2, x136_i22 hs2, x136_w22 hs2, x136_r23 hs2, x136_r24 hs2, x136_i25 hs2, x136_w25 hs2, x136_i26 hs2, x136_w26 hs2, x136_r27 hs2, x136_r28 hs2, x136_i29 hs2, x136_w29 hs2, Option.bind_some, xI, xU, xUt, xIt, J_lit, J_add, J_sub, J_mul, J_neg, J_ltc, J_lec, J_eqc, lt_T, lt_F, le_T, le_F, eq_T, eq_F, ↓reduceIte, ite_not, not_true_eq_false, not_false_eq_true, true_or, or_true, false_or, or_false, true_and, and_true, false_and, and_false, up_get, Nat.reduceEqDiff, Int.reduceNeg, eqN_T, eqN_F]
        refine De.call (De.eq 1 (fun n => e_throws0 hs2 1 n)) ?_
        simp (disch := omega) only [x136_k hs2, x136_i0 hs2, x136_w0 hs2, x136_r1 hs2, x136_r2 hs2, x136_r3 hs2, x136_r4 hs2, x136_i5 hs2, x136_w5 hs2, x136_i6 hs2, x136_w6 hs2, x136_i7 hs2, x136_w7 hs2, x136_r8 hs2, x136_i9 hs2, x136_w9 hs2, x136_i10 hs2, x136_w10 hs2, x136_i11 hs2, x136_w11 hs2, x136_i12 hs2, x136_w12 hs2, x136_i13 hs2, x136_w13 hs2, x136_i14 hs2, x136_w14 hs2, x136_r15 hs2, x136_i16 hs2, x136_w16 hs2, x136_r17 hs2, x136_r18 hs2, x136_r19 hs2, x136_r20 hs2, x136_r21 hs2, x136_i22 hs2, x136_w22 hs2, x136_r23 hs2, x136_r24 hs2, x136_i25 hs2, x136_w25 hs2, x136_i26 hs2, x136_w26 hs2, x136_r27 hs2, x136_r28 hs2, x136_i29 hs2, x136_w29 hs2, Option.bind_some, xI, xU, xUt, xIt, J_lit, J_add, J_sub, J_mul, J_neg, J_ltc, J_lec, J_eqc, lt_T, lt_F, le_T, le_F, eq_T, eq_F, ↓reduceIte, ite_not, not_true_eq_false, not_false_eq_true, true_or, or_true, false_or, or_false, true_and, and_true, false_and, and_false, up_get, Nat.reduceEqDiff, Int.reduceNeg, eqN_T, eqN_F]
        refine De.call DR ?_
        simp (disch := omega) only [bI_f, Option.bind_some, xI, xU, xUt, xIt, J_lit, J_add, J_sub, J_mul, J_neg, J_ltc, J_lec, J_eqc, lt_T, lt_F, le_T, le_F, eq_T, eq_F, ↓reduceIte, ite_not, not_true_eq_false, not_false_eq_true, true_or, or_true, false_or, or_false, true_and, and_true, false_and, and_false, up_get, Nat.reduceEqDiff, Int.reduceNeg, eqN_T, eqN_F]
        refine De.eq 3 (fun n => ?_)
        rw [j_X11_would_32]
        simp (disch := omega) only [b_X11_would_32, x136_k hs2, x136_i0 hs2, x136_w0 hs2, x136_r1 hs2, x136_r2 hs2, x136_r3 hs2, x136_r4 hs2, x136_i5 hs2, x136_w5 hs2, x136_i6 hs2, x136_w6 hs2, x136_i7 hs2, x136_w7 hs2, x136_r8 hs2, x136_i9 hs2, x136_w9 hs2, x136_i10 hs2, x136_w10 hs2, x136_i11 hs2, x136_w11 hs2, x136_i12 hs2, x136_w12 hs2, x136_i13 hs2, x136_w13 hs2, x136_i14 hs2, x136_w14 hs2, x136_r15 hs2, x136_i16 hs2, x136_w16 hs2, x136_r17 hs2, x136_r18 hs2, x136_r19 hs2, x136_r20 hs2, x136_r21 hs2, x136_i22 hs2, x136_w22 hs2, x136_r23 hs2, x136_r24 hs2, x136_i25 hs2, x136_w25 hs2, x136_i26 hs2, x136_w26 hs2, x136_r27 hs2, x136_r28 hs2, x136_i29 hs2, x136_w29 hs2, e_in_T, e_in_F, e_throws0 hs2, e_throws1 hs2, e_noPlace_ok, e_noPlace_no, e_noPerson_ok, e_noPerson_no, e_noPhone hs2, e_noWord hs2, e_noGang hs2, e_tick hs2, e_phones hs2, e_words hs2, e_of hs2, e_toldOf hs2, e_copyAt, e_phoneAt, e_hadAt, e_ruleAt, e_lineAt, Option.bind_some, xI, xU, xUt, xIt, J_lit, J_add, J_sub, J_mul, J_neg, J_lt, J_le, J_eq, lt_T, lt_F, le_T, le_F, eq_T, eq_F, ↓reduceIte, ite_not, not_true_eq_false, not_false_eq_true, true_or, or_true, false_or, or_false, true_and, and_true, false_and, and_false, up_get, Nat.reduceEqDiff, Int.reduceNeg]
      · refine hI.read (Grow.th S 1) hr ⟨?_, ?_, ?_, ?_, ?_, ?_, fun i i0 i1 => ?_⟩ ((up_i (by decide)).trans ((F2 136 6 (by omega) (by omega)).trans ((fo 136 6 (by decide)).trans by0))) ((up_i (by decide)).trans ((F2 136 7 (by omega) (by omega)).trans ((fo 136 7 (by decide)).trans lot0))) (RU0 _ (fun b i h1 h2 h3 _ _ _ => E b i h1 h2 h3)) (fun b i hb => ?_) (fun _ _ => rfl)
        · rw [up_a (by decide), up_i (by decide), F2 1 2 (by omega) (by omega), e12, w9]
        · rw [up_a (by decide), F2 1 2 (by omega) (by omega), e12]
          decide
        · rw [up_a (by decide), F2 1 2 (by omega) (by omega), e12]
          decide
        · rw [up_a (by decide), up_i (by decide), F2 1 3 (by omega) (by omega), f1 rfl, w14]
        · rw [up_a (by decide), F2 1 3 (by omega) (by omega), f1 rfl]
          omega
        · rw [up_a (by decide), F2 1 3 (by omega) (by omega), f1 rfl]
          omega
        · rw [up_a (by decide), F2 1 2 (by omega) (by omega), e12] at i1
          omega
        · by_cases c5 : b = 5 ∧ i = 0
          · rw [c5.1, c5.2, up_a (by decide), F2 5 0 (by omega) (by omega)]
            exact F1 5 0 (by omega) (by omega) (by omega) (by omega) (by omega) (by omega)
          · by_cases c6 : b = 136
            · rw [c6, show i = 5 by omega, up_i (by decide), F2 136 5 (by omega) (by omega)]
              exact fo 136 5 (by decide)
            · exact E b i (by omega) c6 (by omega)
    | true =>
      obtain ⟨w3, RC⟩ := g1 rfl
      obtain ⟨TT, srt⟩ := hI.tki hs
      have hsT := trS_sk (r := 2) hs (Or.inl rfl)
      -- the class, over any world alike below the second rules
      have CW : ∀ w' : Int → Int, (∀ i, i < 5080 → w' i = m 139 i) → ∃ m' q' told, De (fun n => f_X10_would n 0 [.ref 0, .int (J x1)] (hp S m q)) (.inl (some (.int (J (hvS w' gf (v0U w' (m 137) (m 137)) x1 (m 137 0).toNat told))))) (hp (trS S 2) m' q') ∧ VX told w' (v0S w' (m 137)) gf ∧ LIN told w' (v0S w' (m 137)) ∧ v0S w' (m 137) 0 = 0 ∧ FrB m1 m' ∧ ∀ b, (b < 111 ∨ 133 ≤ b) → q' b = q b := by
        intro w' hw'
        have srt' : SRT w' := fun x y a b c => by
          rw [hw' 1 (by decide)] at c
          rw [hw' _ (by omega), hw' _ (by omega)]
          exact srt x y a b c
        obtain ⟨m', q', told, D, X, L, z, F', G'⟩ := q_wouldC (x := x1) hs (TT.hi hs (fun b i h1 h2 => fo b i (by omega)) hw') srt' RC cw.1 (by omega) (m 137)
        refine ⟨m', q', told, C26 ?_, X, L, z, F', G'⟩
        rw [bI_t]
        refine De.call (De.eq 1 (fun n => e_good1 n _)) ?_
        simp (disch := omega) only [xUt, x0_k hs, x0_r0 hs, x0_r1 hs, x0_r2 hs, x0_r3 hs, x1_k hs, x1_r0 hs, x1_r1 hs, x1_i2 hs, x1_w2 hs, x1_i3 hs, x1_w3 hs, x1_i4 hs, x1_w4 hs, x1_i5 hs, x1_w5 hs, x1_i6 hs, x1_w6 hs, x1_i7 hs, x1_w7 hs, Option.bind_some]
        exact D
      obtain ⟨mC, qC, tc, DC, -, -, -, FC, GC⟩ := CW (m 139) (fun _ _ => rfl)
      obtain ⟨V, eV⟩ : ∃ V, V = J (hvS (m 139) gf (v0U (m 139) (m 137) (m 137)) x1 (m 137 0).toNat tc) := ⟨_, rfl⟩
      rw [← eV] at DC
      have fC : ∀ b i, 133 ≤ b → mC b i = m1 b i := fun b i hb => FC b i (by omega) (by omega) (by omega)
      obtain ⟨m2, DU, DR, F2, w9, w0', w14, r2⟩ := RX (trS S 2) mC (uq qC 152 0 (Int32.toInt64 V)) hsT fC
      rw [if_pos rfl] at w14
      have k7 : m2 137 = m 137 := funext fun i => (F2 137 i (by omega) (by omega)).trans ((fC 137 i (by decide)).trans (fo 137 i (by decide)))
      have k9 : ∀ i, i < 5080 → m2 139 i = m 139 i := fun i hi => (F2 139 i (by omega) (by omega)).trans ((fC 139 i (by decide)).trans (fo 139 i (by decide)))
      obtain ⟨mD, qD, told, DD, X, L, z0, -, -⟩ := CW (m2 139) k9
      have VV : V = J (hvS (m2 139) gf (v0U (m2 139) (m 137) (m 137)) x1 (m 137 0).toNat told) := by
        have := (DC.uniq DD).1
        injection this with this
        injection this with this
        injection this
      obtain ⟨m3, D3, F3, G3⟩ := d_copyM (q := uq qC 152 0 (Int32.toInt64 V)) (m := m2) hsT (Or.inl ⟨rfl, rfl⟩)
      have m39 : up m3 136 6 1 139 = m2 139 := funext fun i => (up_a (by decide)).trans (F3 139 i (by decide))
      have m37 : up m3 136 6 1 137 = m 137 := funext fun i => (up_a (by decide)).trans ((F3 137 i (by decide)).trans (congrFun k7 i))
      have m38 : up m3 136 6 1 138 0 = m 137 0 := by
        rw [up_a (by decide), G3 0, if_pos (by decide)]
        exact congrFun k7 0
      obtain ⟨m5, F5, A5, S5⟩ := q_runs0 (q := uq qC 152 0 (Int32.toInt64 V)) (to := m 137 0) (m := up m3 136 6 1) (v := m 137) hsT m38 v0 v1 (fun z i _ _ => congrFun m37 i)
      rw [m39, m37] at A5
      have z5 : m5 137 0 = 0 := by rw [A5]; exact (v0U_in (by decide) (by decide)).trans z0
      have KK : Kok (m2 139) 0 := (TT.2.1.kok (l := 0) (by decide) (by decide)).wd (by decide) (by decide) (fun i hi => k9 i (by omega))
      have srt2 : SRT (m2 139) := fun x y a b c => by
        rw [k9 1 (by decide)] at c
        rw [k9 _ (by omega), k9 _ (by omega)]
        exact srt x y a b c
      have X1 : VX told (m2 139) (v0U (m2 139) (m 137) (m 137)) gf := X.vin (fun i i0 i1 => v0U_in i0 i1)
      obtain ⟨m6, D6, A6, F6, X6, L6, s6⟩ := q_runs40 (q := uq qC 152 0 (Int32.toInt64 V)) (l := 0) (to := m 137 0) (y := 1) hsT RC srt2 KK (by decide) (by decide) v1 (m 137 0).toNat told m5 (by omega) ((funext fun i => F5 139 i (by decide)).trans m39) (by rw [A5]; exact X1) (fun x a b => by rw [z5, ← z0]; exact L x a b) ⟨(F5 136 6 (by decide)).trans (up_at _ _ _ _), by decide, by decide, fun i i0 i1 => by rw [F5 139 _ (by decide), m39]; exact r2 rfl i i0 i1⟩ ((F5 136 7 (by decide)).trans ((up_i (by decide)).trans ((F3 136 7 (by decide)).trans ((F2 136 7 (by omega) (by omega)).trans ((fC 136 7 (by decide)).trans ((fo 136 7 (by decide)).trans lot0))))))
      rw [A5] at A6 X6 L6 s6
      have wx := hI.wok.2.2 x1 cw.1 cw.2
      have atx : m 139 (761 + 10 * x1 + 2) ≤ m 137 0 := by
        have z1 := wrd.2.2.2.1 x1 2 cw.1 cw.2 (by decide) (by decide)
        have z2 := (wrd.2.2.2.2.1 x1 cw.1 cw.2).1
        simp only at z1 z2
        rw [← z1]
        omega
      have xt : x1 < (rnS (m2 139) gf 0 (m 137 0).toNat (told, v0U (m2 139) (m 137) (m 137))).1 := (L6 x1 cw.1 (by rw [k9 1 (by decide)]; exact cw.2)).2 (by rw [s6, k9 _ (by omega)]; exact atx)
      have VX' : V = J (m6 137 (2151 + 5 * x1 + 0)) := by
        rw [VV, A6]
        unfold hvS
        rw [if_pos xt]
      obtain ⟨m8, D8, F8, G8⟩ := d_copyM (q := uq qC 152 0 (Int32.toInt64 V)) (m := up m6 136 6 0) hsT (Or.inr ⟨rfl, rfl⟩)
      have o8 : ∀ b i, b ≠ 137 → b ≠ 138 → b ≠ 143 → b ≠ 144 → b ≠ 145 → b ≠ 146 → ¬ (b = 136 ∧ i = 6) → m8 b i = m2 b i := fun b i h1 h2 h3 h4 h5 h6 h7 => (F8 b i h1).trans ((if_neg h7).trans ((F6 b i h1 h3 h4 h5 h6).trans ((F5 b i h1).trans ((if_neg h7).trans (F3 b i h2)))))
      have e8 : ∀ b i, 1 ≤ b → b < 111 → b ≠ 7 → ¬ (b = 2 ∧ i = 7) → m8 b i = m1 b i := fun b i h0 h1 h2 h3 => (o8 b i (by omega) (by omega) (by omega) (by omega) (by omega) (by omega) (by omega)).trans ((F2 b i (by omega) (by omega)).trans (FC b i (by omega) h2 h3))
      have c8 : ∀ b i, (b = 140 ∨ 153 ≤ b ∨ (b = 139 ∧ i < 5080) ∨ (b = 136 ∧ (i = 5 ∨ i = 7))) → m8 b i = m b i := fun b i h => (o8 b i (by omega) (by omega) (by omega) (by omega) (by omega) (by omega) (by omega)).trans ((F2 b i (by omega) (by omega)).trans ((fC b i (by omega)).trans (fo b i (by omega))))
      have g8 : ∀ i, 0 ≤ i → i < 2301 → m8 137 i = m 137 i := fun i i0 i1 => by
        rw [G8 i, if_pos ⟨i0, i1⟩, up_a (by decide), F6 138 i (by decide) (by decide) (by decide) (by decide) (by decide), F5 138 i (by decide), up_a (by decide), G3 i, if_pos ⟨i0, i1⟩]
        exact congrFun k7 i
      have w91 : usM mC (m 1 2) 139 1 = m 139 1 := (usM_o (by decide)).trans ((fC 139 1 (by decide)).trans (fo 139 1 (by decide)))
      refine ob_would_okS hs hsT (v' := V) (m1 := mC) (q1 := qC) (m2 := m8) DC ?_ ?_ ⟨_, _, _, rfl, hsT, hR.tr.next, ?_⟩
      · have D32 : De (fun n => f_X11_would n 32 [.ref 136, .int (J x1), .ref 136, .int (J 0)] (hp (trS S 2) m2 (uq qC 152 0 (Int32.toInt64 V)))) (.inl (some (.int V))) (hp (trS S 2) m8 (uq qC 152 0 (Int32.toInt64 V))) := by
          rw [VX']
          rw [VX'] at D3 S5 D6 D8
          refine De.step ?_
          simp only [j_X11_would_32]
          simp (disch := omega) only [b_X11_would_32, x136_k hsT, x136_i0 hsT, x136_w0 hsT, x136_r1 hsT, x136_r2 hsT, x136_r3 hsT, x136_r4 hsT, x136_i5 hsT, x136_w5 hsT, x136_i6 hsT, x136_w6 hsT, x136_i7 hsT, x136_w7 hsT, x136_r8 hsT, x136_i9 hsT, x136_w9 hsT, x136_i10 hsT, x136_w10 hsT, x136_i11 hsT, x136_w11 hsT, x136_i12 hsT, x136_w12 hsT, x136_i13 hsT, x136_w13 hsT, x136_i14 hsT, x136_w14 hsT, x136_r15 hsT, x136_i16 hsT, x136_w16 hsT, x136_r17 hsT, x136_r18 hsT, x136_r19 hsT, x136_r20 hsT, x136_r21 hsT, x136_i22 hsT, x136_w22 hsT, x136_r23 hsT, x136_r24 hsT, x136_i25 hsT, x136_w25 hsT, x136_i26 hsT, x136_w26 hsT, x136_r27 hsT, x136_r28 hsT, x136_i29 hsT, x136_w29 hsT, J_lit, Option.bind_some]
          refine De.call (De.eq 1 (fun n => e_throws0 hsT 2 n)) ?_
          simp (disch := omega) only [x136_k hsT, x136_i0 hsT, x136_w0 hsT, x136_r1 hsT, x136_r2 hsT, x136_r3 hsT, x136_r4 hsT, x136_i5 hsT, x136_w5 hsT, x136_i6 hsT, x136_w6 hsT, x136_i7 hsT, x136_w7 hsT, x136_r8 hsT, x136_i9 hsT, x136_w9 hsT, x136_i10 hsT, x136_w10 hsT, x136_i11 hsT, x136_w11 hsT, x136_i12 hsT, x136_w12 hsT, x136_i13 hsT, x136_w13 hsT, x136_i14 hsT, x136_w14 hsT, x136_r15 hsT, x136_i16 hsT, x136_w16 hsT, x136_r17 hsT, x136_r18 hsT, x136_r19 hsT, x136_r20 hsT, x136_r21 hsT, x136_i22 hsT, x136_w22 hsT, x136_r23 hsT, x136_r24 hsT, x136_i25 hsT, x136_w25 hsT, x136_i26 hsT, x136_w26 hsT, x136_r27 hsT, x136_r28 hsT, x136_i29 hsT, x136_w29 hsT, Option.bind_some, xI, xU, xUt, xIt, J_lit, J_add, J_sub, J_mul, J_neg, J_ltc, J_lec, J_eqc, lt_T, lt_F, le_T, le_F, eq_T, eq_F, ↓reduceIte, ite_not, not_true_eq_false, not_false_eq_true, true_or, or_true, false_or, or_false, true_and, and_true, false_and, and_false, up_get, Nat.reduceEqDiff, Int.reduceNeg, eqN_T, eqN_F]
          refine De.call D3 ?_
          have m38' : m3 138 0 = m 137 0 := (up_a (by decide)).symm.trans m38
          simp (disch := omega) only [xU, x136_k hsT, x136_i0 hsT, x136_w0 hsT, x136_r1 hsT, x136_r2 hsT, x136_r3 hsT, x136_r4 hsT, x136_i5 hsT, x136_w5 hsT, x136_i6 hsT, x136_w6 hsT, x136_i7 hsT, x136_w7 hsT, x136_r8 hsT, x136_i9 hsT, x136_w9 hsT, x136_i10 hsT, x136_w10 hsT, x136_i11 hsT, x136_w11 hsT, x136_i12 hsT, x136_w12 hsT, x136_i13 hsT, x136_w13 hsT, x136_i14 hsT, x136_w14 hsT, x136_r15 hsT, x136_i16 hsT, x136_w16 hsT, x136_r17 hsT, x136_r18 hsT, x136_r19 hsT, x136_r20 hsT, x136_r21 hsT, x136_i22 hsT, x136_w22 hsT, x136_r23 hsT, x136_r24 hsT, x136_i25 hsT, x136_w25 hsT, x136_i26 hsT, x136_w26 hsT, x136_r27 hsT, x136_r28 hsT, x136_i29 hsT, x136_w29 hsT, x138_g hsT, x138_s hsT, x138_l hsT, J_lit, up_a, ne_eq, m38', Option.bind_some, Nat.reduceEqDiff, not_false_eq_true]
          refine De.call (S5 D6) ?_
          simp (disch := omega) only [xU, x136_k hsT, x136_i0 hsT, x136_w0 hsT, x136_r1 hsT, x136_r2 hsT, x136_r3 hsT, x136_r4 hsT, x136_i5 hsT, x136_w5 hsT, x136_i6 hsT, x136_w6 hsT, x136_i7 hsT, x136_w7 hsT, x136_r8 hsT, x136_i9 hsT, x136_w9 hsT, x136_i10 hsT, x136_w10 hsT, x136_i11 hsT, x136_w11 hsT, x136_i12 hsT, x136_w12 hsT, x136_i13 hsT, x136_w13 hsT, x136_i14 hsT, x136_w14 hsT, x136_r15 hsT, x136_i16 hsT, x136_w16 hsT, x136_r17 hsT, x136_r18 hsT, x136_r19 hsT, x136_r20 hsT, x136_r21 hsT, x136_i22 hsT, x136_w22 hsT, x136_r23 hsT, x136_r24 hsT, x136_i25 hsT, x136_w25 hsT, x136_i26 hsT, x136_w26 hsT, x136_r27 hsT, x136_r28 hsT, x136_i29 hsT, x136_w29 hsT, J_lit, Option.bind_some]
          refine De.call (d_hadAt x1 0 _) ?_
          simp (disch := omega) only [xI, x136_k hsT, x136_i0 hsT, x136_w0 hsT, x136_r1 hsT, x136_r2 hsT, x136_r3 hsT, x136_r4 hsT, x136_i5 hsT, x136_w5 hsT, x136_i6 hsT, x136_w6 hsT, x136_i7 hsT, x136_w7 hsT, x136_r8 hsT, x136_i9 hsT, x136_w9 hsT, x136_i10 hsT, x136_w10 hsT, x136_i11 hsT, x136_w11 hsT, x136_i12 hsT, x136_w12 hsT, x136_i13 hsT, x136_w13 hsT, x136_i14 hsT, x136_w14 hsT, x136_r15 hsT, x136_i16 hsT, x136_w16 hsT, x136_r17 hsT, x136_r18 hsT, x136_r19 hsT, x136_r20 hsT, x136_r21 hsT, x136_i22 hsT, x136_w22 hsT, x136_r23 hsT, x136_r24 hsT, x136_i25 hsT, x136_w25 hsT, x136_i26 hsT, x136_w26 hsT, x136_r27 hsT, x136_r28 hsT, x136_i29 hsT, x136_w29 hsT, x137_g hsT, x137_s hsT, x137_l hsT, up_a, ne_eq, Option.bind_some, Nat.reduceEqDiff, not_false_eq_true]
          refine De.call D8 ?_
          simp only [xU]
          exact De.ret _ _
        refine De.step ?_
        simp only [j_X11_would_0]
        simp (disch := omega) only [b_X11_would_0, x136_k hsT, x136_i0 hsT, x136_w0 hsT, x136_r1 hsT, x136_r2 hsT, x136_r3 hsT, x136_r4 hsT, x136_i5 hsT, x136_w5 hsT, x136_i6 hsT, x136_w6 hsT, x136_i7 hsT, x136_w7 hsT, x136_r8 hsT, x136_i9 hsT, x136_w9 hsT, x136_i10 hsT, x136_w10 hsT, x136_i11 hsT, x136_w11 hsT, x136_i12 hsT, x136_w12 hsT, x136_i13 hsT, x136_w13 hsT, x136_i14 hsT, x136_w14 hsT, x136_r15 hsT, x136_i16 hsT, x136_w16 hsT, x136_r17 hsT, x136_r18 hsT, x136_r19 hsT, x136_r20 hsT, x136_r21 hsT, x136_i22 hsT, x136_w22 hsT, x136_r23 hsT, x136_r24 hsT, x136_i25 hsT, x136_w25 hsT, x136_i26 hsT, x136_w26 hsT, x136_r27 hsT, x136_r28 hsT, x136_i29 hsT, x136_w29 hsT, Option.bind_some]
        refine De.call DU ?_
        simp (disch := omega) only [xU, x136_k hsT, x136_i0 hsT, x136_w0 hsT, x136_r1 hsT, x136_r2 hsT, x136_r3 hsT, x136_r4 hsT, x136_i5 hsT, x136_w5 hsT, x136_i6 hsT, x136_w6 hsT, x136_i7 hsT, x136_w7 hsT, x136_r8 hsT, x136_i9 hsT, x136_w9 hsT, x136_i10 hsT, x136_w10 hsT, x136_i11 hsT, x136_w11 hsT, x136_i12 hsT, x136_w12 hsT, x136_i13 hsT, x136_w13 hsT, x136_i14 hsT, x136_w14 hsT, x136_r15 hsT, x136_i16 hsT, x136_w16 hsT, x136_r17 hsT, x136_r18 hsT, x136_r19 hsT, x136_r20 hsT, x136_r21 hsT, x136_i22 hsT, x136_w22 hsT, x136_r23 hsT, x136_r24 hsT, x136_i25 hsT, x136_w25 hsT, x136_i26 hsT, x136_w26 hsT, x136_r27 hsT, x136_r28 hsT, x136_i29 hsT, x136_w29 hsT, Option.bind_some]
        refine De.call (De.eq 4 (fun n => by simp (disch := omega) only [e_noWord hsT, e_in_T, w91, Option.bind_some, xI, xU, xUt, xIt, J_lit, J_add, J_sub, J_mul, J_neg, J_lt, J_le, J_eq, lt_T, lt_F, le_T, le_F, eq_T, eq_F, ↓reduceIte, ite_not, not_true_eq_false, not_false_eq_true, true_or, or_true, false_or, or_false, true_and, and_true, false_and, and_false, up_get, Nat.reduceEqDiff, Int.reduceNeg]; rfl)) ?_
        simp (disch := omega) only [x136_k hsT, x136_i0 hsT, x136_w0 hsT, x136_r1 hsT, x136_r2 hsT, x136_r3 hsT, x136_r4 hsT, x136_i5 hsT, x136_w5 hsT, x136_i6 hsT, x136_w6 hsT, x136_i7 hsT, x136_w7 hsT, x136_r8 hsT, x136_i9 hsT, x136_w9 hsT, x136_i10 hsT, x136_w10 hsT, x136_i11 hsT, x136_w11 hsT, x136_i12 hsT, x136_w12 hsT, x136_i13 hsT, x136_w13 hsT, x136_i14 hsT, x136_w14 hsT, x136_r15 hsT, x136_i16 hsT, x136_w16 hsT, x136_r17 hsT, x136_r18 hsT, x136_r19 hsT, x136_r20 hsT, x136_r21 hsT, x136_i22 hsT, x136_w22 hsT, x136_r23 hsT, x136_r24 hsT, x136_i25 hsT, x136_w25 hsT, x136_i26 hsT, x136_w26 hsT, x136_r27 hsT, x136_r28 hsT, x136_i29 hsT, x136_w29 hsT, Option.bind_some, xI, xU, xUt, xIt, J_lit, J_add, J_sub, J_mul, J_neg, J_ltc, J_lec, J_eqc, lt_T, lt_F, le_T, le_F, eq_T, eq_F, ↓reduceIte, ite_not, not_true_eq_false, not_false_eq_true, true_or, or_true, false_or, or_false, true_and, and_true, false_and, and_false, up_get, Nat.reduceEqDiff, Int.reduceNeg, eqN_T, eqN_F]
        refine De.call (De.eq 1 (fun n => e_throws0 hsT 1 n)) ?_
        simp (disch := omega) only [x136_k hsT, x136_i0 hsT, x136_w0 hsT, x136_r1 hsT, x136_r2 hsT, x136_r3 hsT, x136_r4 hsT, x136_i5 hsT, x136_w5 hsT, x136_i6 hsT, x136_w6 hsT, x136_i7 hsT, x136_w7 hsT, x136_r8 hsT, x136_i9 hsT, x136_w9 hsT, x136_i10 hsT, x136_w10 hsT, x136_i11 hsT, x136_w11 hsT, x136_i12 hsT, x136_w12 hsT, x136_i13 hsT, x136_w13 hsT, x136_i14 hsT, x136_w14 hsT, x136_r15 hsT, x136_i16 hsT, x136_w16 hsT, x136_r17 hsT, x136_r18 hsT, x136_r19 hsT, x136_r20 hsT, x136_r21 hsT, x136_i22 hsT, x136_w22 hsT, x136_r23 hsT, x136_r24 hsT, x136_i25 hsT, x136_w25 hsT, x136_i26 hsT, x136_w26 hsT, x136_r27 hsT, x136_r28 hsT, x136_i29 hsT, x136_w29 hsT, Option.bind_some, xI, xU, xUt, xIt, J_lit, J_add, J_sub, J_mul, J_neg, J_ltc, J_lec, J_eqc, lt_T, lt_F, le_T, le_F, eq_T, eq_F, ↓reduceIte, ite_not, not_true_eq_false, not_false_eq_true, true_or, or_true, false_or, or_false, true_and, and_true, false_and, and_false, up_get, Nat.reduceEqDiff, Int.reduceNeg, eqN_T, eqN_F]
        refine De.call DR ?_
        simp (disch := omega) only [bI_t, Option.bind_some, xI, xU, xUt, xIt, J_lit, J_add, J_sub, J_mul, J_neg, J_ltc, J_lec, J_eqc, lt_T, lt_F, le_T, le_F, eq_T, eq_F, ↓reduceIte, ite_not, not_true_eq_false, not_false_eq_true, true_or, or_true, false_or, or_false, true_and, and_true, false_and, and_false, up_get, Nat.reduceEqDiff, Int.reduceNeg, eqN_T, eqN_F]
        exact D32
      · rw [o8 136 0 (by decide) (by decide) (by decide) (by decide) (by decide) (by decide) (by decide)]
        exact w0'
      · refine (hI.tr (r := 2)).read (Grow.rfl' _) hr ⟨?_, ?_, ?_, ?_, ?_, ?_, fun i i0 i1 => ?_⟩ ?_ ((c8 136 7 (by omega)).trans lot0) (RU0 _ (fun b i h1 h2 h3 h4 h5 h6 => ?_)) (fun b i hb => ?_) (fun b hb => (uq_row (by omega)).trans (GC b (by omega)))
        · rw [e8 1 2 (by decide) (by decide) (by decide) (by decide), e12, o8 136 9 (by decide) (by decide) (by decide) (by decide) (by decide) (by decide) (by decide), w9]
        · rw [e8 1 2 (by decide) (by decide) (by decide) (by decide), e12]
          decide
        · rw [e8 1 2 (by decide) (by decide) (by decide) (by decide), e12]
          decide
        · rw [e8 1 3 (by decide) (by decide) (by decide) (by decide), w3, o8 136 14 (by decide) (by decide) (by decide) (by decide) (by decide) (by decide) (by decide), w14]
        · rw [e8 1 3 (by decide) (by decide) (by decide) (by decide), w3]
          decide
        · rw [e8 1 3 (by decide) (by decide) (by decide) (by decide), w3]
          decide
        · rw [e8 1 2 (by decide) (by decide) (by decide) (by decide), e12] at i1
          omega
        · rw [F8 136 6 (by decide), up_at]
        · by_cases c9 : b = 139
          · rw [c9]
            exact c8 139 i (by omega)
          · exact (e8 b i (by omega) (by omega) (by omega) (by omega)).trans (fo b i (by omega))
        · by_cases c5 : b = 5 ∧ i = 0
          · rw [c5.1, c5.2, e8 5 0 (by decide) (by decide) (by decide) (by decide)]
            exact F1 5 0 (by omega) (by omega) (by omega) (by omega) (by omega) (by omega)
          · by_cases c7 : b = 137
            · rw [c7]
              exact g8 i (by omega) (by omega)
            · by_cases c1 : 9 ≤ b ∧ b ≤ 110
              · exact (e8 b i (by omega) (by omega) (by omega) (by omega)).trans (fo b i (by omega))
              · exact c8 b i (by omega)
  · have hs2 : Sk (xth S 0) := hs.grow (Grow.th S 0) hr
    have u91 : usM (up m 1 2 0) (m 1 2) 139 1 = m 139 1 := (usM_o (by decide)).trans (up_a (by decide))
    have E : ∀ b i, b ≠ 136 → ¬ (b = 1 ∧ i = 2) → up (usM (up m 1 2 0) (m 1 2)) 136 0 1 b i = m b i := fun b i h1 h2 => by rw [up_a h1, usM_o (by omega), up_get, if_neg h2]
    have E6 : ∀ i, i ≠ 0 → i ≠ 9 → i ≠ 10 → i ≠ 11 → up (usM (up m 1 2 0) (m 1 2)) 136 0 1 136 i = m 136 i := fun i h1 h2 h3 h4 => by rw [up_i h1, usM_o (by omega), up_a (by decide)]
    have e12 : up (usM (up m 1 2 0) (m 1 2)) 136 0 1 1 2 = 0 := by rw [up_a (by decide), usM_o (by decide), up_at]
    have e13 : up (usM (up m 1 2 0) (m 1 2)) 136 0 1 1 3 = m 1 3 := E 1 3 (by decide) (by decide)
    refine ob_would_t0 hs hr (m1 := up m 1 2 0) (q1 := q) (m2 := up (usM (up m 1 2 0) (m 1 2)) 136 0 1) (b := J 0) ?_ ?_ (up_at _ _ _ _) ⟨_, _, _, rfl, hs2, hR.th 0, ?_⟩
    · have D26 : De (fun n => f_X10_would n 26 [.ref 0, .int (J x1)] (hp S (up m 1 2 0) q)) (.inr S.1) (hp (xth S 0) (up m 1 2 0) q) := by
        refine De.eq 4 (fun n => ?_)
        have w5' : up m 1 2 0 16 3 = m 139 1 := (up_a (by decide)).trans w5
        rw [j_X10_would_26]
        simp (disch := omega) only [b_X10_would_26, x0_k hs, x0_r0 hs, x0_r1 hs, x0_r2 hs, x0_r3 hs, x9_k hs, x9_r0 hs, x9_r1 hs, x9_r2 hs, x9_r3 hs, x9_r4 hs, x9_r5 hs, x9_r6 hs, x9_r7 hs, x9_i8 hs, x9_w8 hs, x9_i9 hs, x9_w9 hs, x16_k hs, x16_r0 hs, x16_r1 hs, x16_r2 hs, x16_i3 hs, x16_w3 hs, e_needIndex_ok, e_needIndex_no rm, e_needPlace_ok, e_needPlace_no rm, e_needWithin_ok, e_needWithin_no rm, e_needSpace_ok, e_needSpace_no rm, e_needPhone hs, e_needWord hs, e_needWhat_ok, e_needWhat_no rm, e_needTickZero hs, tE_hp _ _ _ _ rm.1 rm.2, w5', Option.bind_some, xI, xU, xUt, xIt, J_lit, J_add, J_sub, J_mul, J_neg, J_lt, J_le, J_eq, lt_T, lt_F, le_T, le_F, eq_T, eq_F, ↓reduceIte, ite_not, not_true_eq_false, not_false_eq_true, true_or, or_true, false_or, or_false, true_and, and_true, false_and, and_false, up_get, Nat.reduceEqDiff, Int.reduceNeg]
      by_cases c0 : x1 < 0
      · refine De.step ?_
        simp only [j_X10_would_0]
        simp (disch := omega) only [b_X10_would_0, x0_k hs, x0_r0 hs, x0_r1 hs, x0_r2 hs, x0_r3 hs, x1_k hs, x1_r0 hs, x1_r1 hs, x1_i2 hs, x1_w2 hs, x1_i3 hs, x1_w3 hs, x1_i4 hs, x1_w4 hs, x1_i5 hs, x1_w5 hs, x1_i6 hs, x1_w6 hs, x1_i7 hs, x1_w7 hs, Option.bind_some, xI, xU, xUt, xIt, J_lit, J_add, J_sub, J_mul, J_neg, J_ltc, J_lec, J_eqc, lt_T, lt_F, le_T, le_F, eq_T, eq_F, ↓reduceIte, ite_not, not_true_eq_false, not_false_eq_true, true_or, or_true, false_or, or_false, true_and, and_true, false_and, and_false, up_get, Nat.reduceEqDiff, Int.reduceNeg, eqN_T, eqN_F]
        exact D26
      · refine De.step ?_
        simp only [j_X10_would_0]
        simp (disch := omega) only [b_X10_would_0, x0_k hs, x0_r0 hs, x0_r1 hs, x0_r2 hs, x0_r3 hs, x1_k hs, x1_r0 hs, x1_r1 hs, x1_i2 hs, x1_w2 hs, x1_i3 hs, x1_w3 hs, x1_i4 hs, x1_w4 hs, x1_i5 hs, x1_w5 hs, x1_i6 hs, x1_w6 hs, x1_i7 hs, x1_w7 hs, x9_k hs, x9_r0 hs, x9_r1 hs, x9_r2 hs, x9_r3 hs, x9_r4 hs, x9_r5 hs, x9_r6 hs, x9_r7 hs, x9_i8 hs, x9_w8 hs, x9_i9 hs, x9_w9 hs, x16_k hs, x16_r0 hs, x16_r1 hs, x16_r2 hs, x16_i3 hs, x16_w3 hs, w5, Option.bind_some, xI, xU, xUt, xIt, J_lit, J_add, J_sub, J_mul, J_neg, J_ltc, J_lec, J_eqc, lt_T, lt_F, le_T, le_F, eq_T, eq_F, ↓reduceIte, ite_not, not_true_eq_false, not_false_eq_true, true_or, or_true, false_or, or_false, true_and, and_true, false_and, and_false, up_get, Nat.reduceEqDiff, Int.reduceNeg, eqN_T, eqN_F]
        exact D26
    · have h9 : up m 1 2 0 136 9 = m 1 2 := (up_a (by decide)).trans t1.symm
      refine De.step ?_
      simp only [j_X11_would_0]
      simp (disch := omega) only [b_X11_would_0, x136_k hs2, x136_i0 hs2, x136_w0 hs2, x136_r1 hs2, x136_r2 hs2, x136_r3 hs2, x136_r4 hs2, x136_i5 hs2, x136_w5 hs2, x136_i6 hs2, x136_w6 hs2, x136_i7 hs2, x136_w7 hs2, x136_r8 hs2, x136_i9 hs2, x136_w9 hs2, x136_i10 hs2, x136_w10 hs2, x136_i11 hs2, x136_w11 hs2, x136_i12 hs2, x136_w12 hs2, x136_i13 hs2, x136_w13 hs2, x136_i14 hs2, x136_w14 hs2, x136_r15 hs2, x136_i16 hs2, x136_w16 hs2, x136_r17 hs2, x136_r18 hs2, x136_r19 hs2, x136_r20 hs2, x136_r21 hs2, x136_i22 hs2, x136_w22 hs2, x136_r23 hs2, x136_r24 hs2, x136_i25 hs2, x136_w25 hs2, x136_i26 hs2, x136_w26 hs2, x136_r27 hs2, x136_r28 hs2, x136_i29 hs2, x136_w29 hs2, Option.bind_some]
      refine De.call (d_uses hs2 h9) ?_
      simp (disch := omega) only [xU, x136_k hs2, x136_i0 hs2, x136_w0 hs2, x136_r1 hs2, x136_r2 hs2, x136_r3 hs2, x136_r4 hs2, x136_i5 hs2, x136_w5 hs2, x136_i6 hs2, x136_w6 hs2, x136_i7 hs2, x136_w7 hs2, x136_r8 hs2, x136_i9 hs2, x136_w9 hs2, x136_i10 hs2, x136_w10 hs2, x136_i11 hs2, x136_w11 hs2, x136_i12 hs2, x136_w12 hs2, x136_i13 hs2, x136_w13 hs2, x136_i14 hs2, x136_w14 hs2, x136_r15 hs2, x136_i16 hs2, x136_w16 hs2, x136_r17 hs2, x136_r18 hs2, x136_r19 hs2, x136_r20 hs2, x136_r21 hs2, x136_i22 hs2, x136_w22 hs2, x136_r23 hs2, x136_r24 hs2, x136_i25 hs2, x136_w25 hs2, x136_i26 hs2, x136_w26 hs2, x136_r27 hs2, x136_r28 hs2, x136_i29 hs2, x136_w29 hs2, Option.bind_some]
      refine De.call (De.eq 4 (fun n => by simp (disch := omega) only [e_noWord hs2, e_in_F, u91, Option.bind_some, xI, xU, xUt, xIt, J_lit, J_add, J_sub, J_mul, J_neg, J_lt, J_le, J_eq, lt_T, lt_F, le_T, le_F, eq_T, eq_F, ↓reduceIte, ite_not, not_true_eq_false, not_false_eq_true, true_or, or_true, false_or, or_false, true_and, and_true, false_and, and_false, up_get, Nat.reduceEqDiff, Int.reduceNeg]; rfl)) ?_
      simp (disch := omega) only [x136_k hs2, x136_i0 hs2, x136_w0 hs2, x136_r1 hs2, x136_r2 hs2, x136_r3 hs2, x136_r4 hs2, x136_i5 hs2, x136_w5 hs2, x136_i6 hs2, x136_w6 hs2, x136_i7 hs2, x136_w7 hs2, x136_r8 hs2, x136_i9 hs2, x136_w9 hs2, x136_i10 hs2, x136_w10 hs2, x136_i11 hs2, x136_w11 hs2, x136_i12 hs2, x136_w12 hs2, x136_i13 hs2, x136_w13 hs2, x136_i14 hs2, x136_w14 hs2, x136_r15 hs2, x136_i16 hs2, x136_w16 hs2, x136_r17 hs2, x136_r18 hs2, x136_r19 hs2, x136_r20 hs2, x136_r21 hs2, x136_i22 hs2, x136_w22 hs2, x136_r23 hs2, x136_r24 hs2, x136_i25 hs2, x136_w25 hs2, x136_i26 hs2, x136_w26 hs2, x136_r27 hs2, x136_r28 hs2, x136_i29 hs2, x136_w29 hs2, Option.bind_some, xI, xU, xUt, xIt, J_lit, J_add, J_sub, J_mul, J_neg, J_ltc, J_lec, J_eqc, lt_T, lt_F, le_T, le_F, eq_T, eq_F, ↓reduceIte, ite_not, not_true_eq_false, not_false_eq_true, true_or, or_true, false_or, or_false, true_and, and_true, false_and, and_false, up_get, Nat.reduceEqDiff, Int.reduceNeg, eqN_T, eqN_F]
      refine De.call (De.eq 1 (fun n => e_throws1 hs2 1 n)) ?_
      simp (disch := omega) only [Option.bind_some, xI, xU, xUt, xIt, J_lit, J_add, J_sub, J_mul, J_neg, J_ltc, J_lec, J_eqc, lt_T, lt_F, le_T, le_F, eq_T, eq_F, ↓reduceIte, ite_not, not_true_eq_false, not_false_eq_true, true_or, or_true, false_or, or_false, true_and, and_true, false_and, and_false, up_get, Nat.reduceEqDiff, Int.reduceNeg, eqN_T, eqN_F]
      exact De.ret _ _
    · refine hI.read (Grow.th S 0) hr ⟨?_, ?_, ?_, ?_, ?_, ?_, fun i i0 i1 => ?_⟩ ((E6 6 (by decide) (by decide) (by decide) (by decide)).trans by0) ((E6 7 (by decide) (by decide) (by decide) (by decide)).trans lot0) (k_rul rul (fun b i hb => E b i (by omega) (by omega))) (fun b i hb => ?_) (fun _ _ => rfl)
      · rw [e12, up_i (by decide)]
        exact usM_9.1.symm
      · rw [e12]
        decide
      · rw [e12]
        decide
      · rw [e13, E6 14 (by decide) (by decide) (by decide) (by decide)]
        exact t4
      · rw [e13]
        exact t5
      · rw [e13]
        exact t6
      · rw [e12] at i1
        omega
      · by_cases c6 : b = 136
        · rw [c6, show i = 5 by omega]
          exact E6 5 (by decide) (by decide) (by decide) (by decide)
        · exact E b i c6 (by omega)

