/-! rules answers alike -/
section RULES
variable {S S' : xH} {m m' m1 m2 m0 : Nat → Int → Int} {q q1 : Nat → Int → Int64} {b g : Int → Int} {n : Int}
theorem e_good1 (n : Nat) (P : xH) : f_X10_needGood (n + 1) 0 [.int (J 1)] P = some (.inl none, P) := by
  rw [j_X10_needGood_0]
  simp (disch := omega) only [b_X10_needGood_0, Option.bind_some, xI, xU, xUt, xIt, J_lit, J_add, J_sub, J_mul, J_neg, J_ltc, J_lec, J_eqc, lt_T, lt_F, le_T, le_F, eq_T, eq_F, ↓reduceIte, ite_not, not_true_eq_false, not_false_eq_true, true_or, or_true, false_or, or_false, true_and, and_true, false_and, and_false, up_get, Nat.reduceEqDiff, Int.reduceNeg, eqN_T, eqN_F]
theorem e_good0 (rm : RmS S) (n : Nat) : f_X10_needGood (n + 1) 0 [.int (J 0)] (hp S m q) = some (.inr S.1, hp (xth S 1) m q) := by
  rw [j_X10_needGood_0]
  simp (disch := omega) only [b_X10_needGood_0, tE_hp _ _ _ _ rm.1 rm.2, Option.bind_some, xI, xU, xUt, xIt, J_lit, J_add, J_sub, J_mul, J_neg, J_ltc, J_lec, J_eqc, lt_T, lt_F, le_T, le_F, eq_T, eq_F, ↓reduceIte, ite_not, not_true_eq_false, not_false_eq_true, true_or, or_true, false_or, or_false, true_and, and_true, false_and, and_false, up_get, Nat.reduceEqDiff, Int.reduceNeg, eqN_T, eqN_F]
theorem e_tz0 (hs : Sk S) (h : m 46 2 = 0) (n : Nat) : f_X10_needTickZero (n + 1) 0 [.ref 0] (hp S m q) = some (.inl none, hp S m q) := by
  rw [e_needTickZero hs n, h]
  rfl
theorem e_tz1 (hs : Sk S) (rm : RmS S) (h0 : 0 < m 46 2) (h1 : m 46 2 ≤ 400) (n : Nat) : f_X10_needTickZero (n + 1) 0 [.ref 0] (hp S m q) = some (.inr S.1, hp (xth S 3) m q) := by
  rw [e_needTickZero hs n]
  simp (disch := omega) only [tE_hp _ _ _ _ rm.1 rm.2, Option.bind_some, xI, xU, xUt, xIt, J_lit, J_add, J_sub, J_mul, J_neg, J_ltc, J_lec, J_eqc, lt_T, lt_F, le_T, le_F, eq_T, eq_F, ↓reduceIte, ite_not, not_true_eq_false, not_false_eq_true, true_or, or_true, false_or, or_false, true_and, and_true, false_and, and_false, up_get, Nat.reduceEqDiff, Int.reduceNeg, eqN_T, eqN_F]
/-- what the reference does with the tape before it reads -/
def usM (m : Nat → Int → Int) (n : Int) : Nat → Int → Int := up (up (up (up m 136 0 0) 136 11 n) 136 9 0) 136 10 0
theorem d_uses (hs : Sk S) (h9 : m 136 9 = n) : De (fun k => f_X11_uses k 0 [.ref 136] (hp S m q)) (.inl none) (hp S (usM m n) q) := by
  unfold usM
  refine De.step ?_
  simp only [j_X11_uses_0]
  simp (disch := omega) only [b_X11_uses_0, x136_k hs, x136_i0 hs, x136_w0 hs, x136_r1 hs, x136_r2 hs, x136_r3 hs, x136_r4 hs, x136_i5 hs, x136_w5 hs, x136_i6 hs, x136_w6 hs, x136_i7 hs, x136_w7 hs, x136_r8 hs, x136_i9 hs, x136_w9 hs, x136_i10 hs, x136_w10 hs, x136_i11 hs, x136_w11 hs, x136_i12 hs, x136_w12 hs, x136_i13 hs, x136_w13 hs, x136_i14 hs, x136_w14 hs, x136_r15 hs, x136_i16 hs, x136_w16 hs, x136_r17 hs, x136_r18 hs, x136_r19 hs, x136_r20 hs, x136_r21 hs, x136_i22 hs, x136_w22 hs, x136_r23 hs, x136_r24 hs, x136_i25 hs, x136_w25 hs, x136_i26 hs, x136_w26 hs, x136_r27 hs, x136_r28 hs, x136_i29 hs, x136_w29 hs, h9, Option.bind_some, xI, xU, xUt, xIt, J_lit, J_add, J_sub, J_mul, J_neg, J_ltc, J_lec, J_eqc, lt_T, lt_F, le_T, le_F, eq_T, eq_F, ↓reduceIte, ite_not, not_true_eq_false, not_false_eq_true, true_or, or_true, false_or, or_false, true_and, and_true, false_and, and_false, up_get, Nat.reduceEqDiff, Int.reduceNeg, eqN_T, eqN_F]
  exact De.ret _ _
theorem usM_o {c : Nat} {j : Int} (h : ¬ (c = 136 ∧ (j = 0 ∨ j = 9 ∨ j = 10 ∨ j = 11))) : usM m n c j = m c j := by
  unfold usM
  rw [up_get, if_neg (by omega), up_get, if_neg (by omega), up_get, if_neg (by omega), up_get, if_neg (by omega)]
theorem usM_rp (n0 : 0 ≤ n) (n4 : n ≤ 400) (hb : ∀ j, 0 ≤ j → j < n → m 141 j = b j ∧ -128 ≤ b j ∧ b j < 128) : Rp (usM m n) b n 0 := by
  refine ⟨up_at _ _ _ _, ?_, ⟨Int.le_refl _, n0, n4⟩, fun j j0 j1 => ?_⟩
  · unfold usM
    rw [up_i (by decide), up_i (by decide), up_at]
  · rw [usM_o (by omega)]
    exact hb j j0 j1
theorem usM_9 : usM m n 136 9 = 0 ∧ usM m n 136 0 = 0 := by
  unfold usM
  refine ⟨?_, ?_⟩
  · rw [up_i (by decide), up_at]
  · rw [up_i (by decide), up_i (by decide), up_i (by decide), up_at]
/-- a call that read the tape -/
theorem InvM.read (hI : InvM S m q) (gr : Grow S S') (hr : 153 ≤ S.1) (T : Rtap (m2 1 2) (m2 1 3) (m2 8) (m2 136 9) (m2 136 14) (m2 141)) (h6 : m2 136 6 = 0) (h7 : m2 136 7 = 0) (RU : Rrul (m2 10 3) (m2 10 5) (m2 11) (m2 12) (m2 13) (m2 14) (fun k => m2 139 (4239 + k))) (e : ∀ b i, (b = 136 ∧ i = 5) ∨ (b = 5 ∧ i = 0) ∨ (b = 139 ∧ i < 4239) ∨ (b = 137 ∧ 0 ≤ i ∧ i < 2301) ∨ b = 140 ∨ b = 9 ∨ (16 ≤ b ∧ b ≤ 110) ∨ 153 ≤ b → m2 b i = m b i) (eq : ∀ b, b ≤ 110 ∨ 153 ≤ b → q1 b = q b) : InvM S' m2 q1 := by
  obtain ⟨⟨-, w0, -⟩, ⟨-, w1, -⟩, ⟨-, v0, -⟩, l0⟩ := hI.small
  obtain ⟨tap, by0, lot0, ⟨par, hid, prt, sto, gan, wrd, wlk, row, rul, tol, plc, net, dwn⟩, kep⟩ := hI.get
  exact InvM.mk ⟨T, h6, h7, ⟨k_par par (fun b i hb => e b i (by omega)), k_hid hid (fun b i hb => e b i (by omega)), k_prt prt (fun b i hb => e b i (by omega)), k_sto sto (fun b i hb => e b i (by omega)), k_gan gan (fun b i hb => e b i (by omega)), k_wrd wrd (fun b i hb => e b i (by omega)) (by rw [e 137 0 (by omega)]; omega), k_wlk wlk (fun b i hb => e b i (by omega)), k_row row v0 (fun b i hb => e b i (by omega)), RU, k_tol tol (fun b i hb => e b i (by omega)), k_plc plc w0 l0 (fun b i hb => e b i (by omega)), k_net net w0 w1 (fun b i hb => e b i (by omega)) (fun b h1 h2 => eq b (by omega)), k_dwn dwn w0 w1 (fun b i hb => e b i (by omega)) (fun b h1 h2 => eq b (by omega))⟩, k_kep kep gr hr (fun b i hb => e b i (by omega)) (fun b hb => eq b (by omega))⟩
theorem q_rul48 (hs : Sk S) {x : Int} (hx : m0 139 5080 = x) : ∀ (k i : Nat) (m : Nat → Int → Int), i + k = 841 → (∀ b j, b ≠ 139 → m b j = m0 b j) → (∀ j, m 139 j = if 4239 ≤ j ∧ j < 4239 + i then m0 139 (j + 841) else m0 139 j) → ∃ m', De (fun n => f_X11_rules n 48 [.ref 136, .int (J i)] (hp S m q)) (.inl (some (.int (J x)))) (hp S m' q) ∧ (∀ b j, b ≠ 139 → m' b j = m0 b j) ∧ ∀ j, m' 139 j = if 4239 ≤ j ∧ j < 5080 then m0 139 (j + 841) else m0 139 j := by
  intro k
  induction k with
  | zero =>
    intro i m hi F G
    have G' : ∀ j, m 139 j = if 4239 ≤ j ∧ j < 5080 then m0 139 (j + 841) else m0 139 j := fun j => by rw [G j, show (4239 + i : Int) = 5080 by omega]
    have g0 : m 139 (4239 + 841 * 0) = x := by
      rw [G' _, if_pos (by decide)]
      exact hx
    refine ⟨m, ?_, F, G'⟩
    refine De.step ?_
    simp only [j_X11_rules_48]
    simp (disch := omega) only [b_X11_rules_48, x136_k hs, x136_i0 hs, x136_w0 hs, x136_r1 hs, x136_r2 hs, x136_r3 hs, x136_r4 hs, x136_i5 hs, x136_w5 hs, x136_i6 hs, x136_w6 hs, x136_i7 hs, x136_w7 hs, x136_r8 hs, x136_i9 hs, x136_w9 hs, x136_i10 hs, x136_w10 hs, x136_i11 hs, x136_w11 hs, x136_i12 hs, x136_w12 hs, x136_i13 hs, x136_w13 hs, x136_i14 hs, x136_w14 hs, x136_r15 hs, x136_i16 hs, x136_w16 hs, x136_r17 hs, x136_r18 hs, x136_r19 hs, x136_r20 hs, x136_r21 hs, x136_i22 hs, x136_w22 hs, x136_r23 hs, x136_r24 hs, x136_i25 hs, x136_w25 hs, x136_i26 hs, x136_w26 hs, x136_r27 hs, x136_r28 hs, x136_i29 hs, x136_w29 hs, Option.bind_some, xI, xU, xUt, xIt, J_lit, J_add, J_sub, J_mul, J_neg, J_ltc, J_lec, J_eqc, lt_T, lt_F, le_T, le_F, eq_T, eq_F, ↓reduceIte, ite_not, not_true_eq_false, not_false_eq_true, true_or, or_true, false_or, or_false, true_and, and_true, false_and, and_false, up_get, Nat.reduceEqDiff, Int.reduceNeg, eqN_T, eqN_F]
    refine De.call (De.eq 1 (fun n => e_ruleAt n 0 _)) ?_
    simp (disch := omega) only [x139_g hs, x139_s hs, x139_l hs, g0, Option.bind_some, xI, xU, xUt, xIt, J_lit, J_add, J_sub, J_mul, J_neg, J_ltc, J_lec, J_eqc, lt_T, lt_F, le_T, le_F, eq_T, eq_F, ↓reduceIte, ite_not, not_true_eq_false, not_false_eq_true, true_or, or_true, false_or, or_false, true_and, and_true, false_and, and_false, up_get, Nat.reduceEqDiff, Int.reduceNeg, eqN_T, eqN_F]
    exact De.ret _ _
  | succ k IH =>
    intro i m hi F G
    have g1 : m 139 (4239 + 841 * 1 + i) = m0 139 (4239 + 841 * 1 + i) := by rw [G _, if_neg (by omega)]
    obtain ⟨m', D', F', G'⟩ := IH (i + 1) (up m 139 (4239 + 841 * 0 + i) (m0 139 (4239 + 841 * 1 + i))) (by omega) (fun b j h => (up_a h).trans (F b j h)) (fun j => by
      by_cases c : j = 4239 + 841 * 0 + i
      · rw [c, up_at, if_pos (by omega)]
        congr 1
        omega
      · rw [up_i c, G j]
        by_cases d : 4239 ≤ j ∧ j < 4239 + i
        · rw [if_pos d, if_pos (by omega)]
        · rw [if_neg d, if_neg (by omega)])
    refine ⟨m', ?_, F', G'⟩
    refine De.step ?_
    simp only [j_X11_rules_48]
    simp (disch := omega) only [b_X11_rules_48, x136_k hs, x136_i0 hs, x136_w0 hs, x136_r1 hs, x136_r2 hs, x136_r3 hs, x136_r4 hs, x136_i5 hs, x136_w5 hs, x136_i6 hs, x136_w6 hs, x136_i7 hs, x136_w7 hs, x136_r8 hs, x136_i9 hs, x136_w9 hs, x136_i10 hs, x136_w10 hs, x136_i11 hs, x136_w11 hs, x136_i12 hs, x136_w12 hs, x136_i13 hs, x136_w13 hs, x136_i14 hs, x136_w14 hs, x136_r15 hs, x136_i16 hs, x136_w16 hs, x136_r17 hs, x136_r18 hs, x136_r19 hs, x136_r20 hs, x136_r21 hs, x136_i22 hs, x136_w22 hs, x136_r23 hs, x136_r24 hs, x136_i25 hs, x136_w25 hs, x136_i26 hs, x136_w26 hs, x136_r27 hs, x136_r28 hs, x136_i29 hs, x136_w29 hs, Option.bind_some, xI, xU, xUt, xIt, J_lit, J_add, J_sub, J_mul, J_neg, J_ltc, J_lec, J_eqc, lt_T, lt_F, le_T, le_F, eq_T, eq_F, ↓reduceIte, ite_not, not_true_eq_false, not_false_eq_true, true_or, or_true, false_or, or_false, true_and, and_true, false_and, and_false, up_get, Nat.reduceEqDiff, Int.reduceNeg, eqN_T, eqN_F]
    refine De.call (De.eq 1 (fun n => e_ruleAt n 0 _)) ?_
    simp (disch := omega) only [x136_k hs, x136_i0 hs, x136_w0 hs, x136_r1 hs, x136_r2 hs, x136_r3 hs, x136_r4 hs, x136_i5 hs, x136_w5 hs, x136_i6 hs, x136_w6 hs, x136_i7 hs, x136_w7 hs, x136_r8 hs, x136_i9 hs, x136_w9 hs, x136_i10 hs, x136_w10 hs, x136_i11 hs, x136_w11 hs, x136_i12 hs, x136_w12 hs, x136_i13 hs, x136_w13 hs, x136_i14 hs, x136_w14 hs, x136_r15 hs, x136_i16 hs, x136_w16 hs, x136_r17 hs, x136_r18 hs, x136_r19 hs, x136_r20 hs, x136_r21 hs, x136_i22 hs, x136_w22 hs, x136_r23 hs, x136_r24 hs, x136_i25 hs, x136_w25 hs, x136_i26 hs, x136_w26 hs, x136_r27 hs, x136_r28 hs, x136_i29 hs, x136_w29 hs, Option.bind_some, xI, xU, xUt, xIt, J_lit, J_add, J_sub, J_mul, J_neg, J_ltc, J_lec, J_eqc, lt_T, lt_F, le_T, le_F, eq_T, eq_F, ↓reduceIte, ite_not, not_true_eq_false, not_false_eq_true, true_or, or_true, false_or, or_false, true_and, and_true, false_and, and_false, up_get, Nat.reduceEqDiff, Int.reduceNeg, eqN_T, eqN_F]
    refine De.call (De.eq 1 (fun n => e_ruleAt n 1 _)) ?_
    simp (disch := omega) only [x139_g hs, x139_s hs, x139_l hs, g1, Option.bind_some, xI, xU, xUt, xIt, J_lit, J_add, J_sub, J_mul, J_neg, J_ltc, J_lec, J_eqc, lt_T, lt_F, le_T, le_F, eq_T, eq_F, ↓reduceIte, ite_not, not_true_eq_false, not_false_eq_true, true_or, or_true, false_or, or_false, true_and, and_true, false_and, and_false, up_get, Nat.reduceEqDiff, Int.reduceNeg, eqN_T, eqN_F]
    exact D'
end RULES
set_option maxHeartbeats 20000000 in
theorem w_rules : LawOb Inv 0 136 152 4 := by
  rintro j P hj ⟨S, m, q, rfl, hs, hR, hI⟩
  have rm := hR.rm hj
  have hr := hR.1
  obtain ⟨⟨w0, w1, w2⟩, ⟨w3, w4, w5, w6⟩, ⟨v0, v1, v2⟩, l0⟩ := hI.small
  obtain ⟨tap, by0, lot0, ⟨par, hid, prt, sto, gan, wrd, wlk, row, rul, tol, plc, net, dwn⟩, kep⟩ := hI.get
  obtain ⟨t1, t2, t3, t4, t5, t6, t7⟩ := tap
  obtain ⟨good, F, gf, FF, CL, RE⟩ := rd_all (m 8) (m 1 2) (fun i => m 139 (5080 + i)) t2 t3 (fun j a c => (t7 j a c).2)
  obtain ⟨m1, D1, F1, e12, g1, f1⟩ := CL S m q hs rfl rfl kep.1
  have fo : ∀ b i, 8 ≤ b → m1 b i = m b i := fun b i hb => F1 b i (by omega) (by omega) (by omega) (by omega) (by omega) (by omega)
  have RX : ∀ (S' : xH) (M : Nat → Int → Int) (qx : Nat → Int → Int64), Sk S' → (∀ b i, 16 ≤ b → M b i = m1 b i) → ∃ m2, De (fun k => f_X11_uses k 0 [.ref 136] (hp S' M qx)) (.inl none) (hp S' (usM M (m 1 2)) qx) ∧ De (fun k => f_X11_reads k 0 [.ref 136] (hp S' (usM M (m 1 2)) qx)) (.inl (some (.int (J (bI good))))) (hp S' m2 qx) ∧ (∀ c j, ¬ (c = 136 ∧ j ≠ 5 ∧ j ≠ 6 ∧ j ≠ 7) → ¬ (c = 139 ∧ 5080 ≤ j) → m2 c j = M c j) ∧ m2 136 9 = 0 ∧ m2 136 0 = 0 ∧ m2 136 14 = (if good = true then -1 else F) ∧ (good = true → ∀ i : Int, 0 ≤ i → i < 841 → m2 139 (5080 + i) = gf i) := by
    intro S' M qx hs' hM
    obtain ⟨m2, D2, F2, w2, r2⟩ := RE S' (usM M (m 1 2)) qx hs' (usM_rp t2 t3 (fun j a c => ⟨by rw [hM 141 j (by decide), fo 141 j (by decide)]; exact (t7 j a c).1.symm, (t7 j a c).2⟩)) (fun i i0 i1 => by rw [usM_o (by omega), hM 139 _ (by decide)]; exact fo 139 _ (by decide))
    exact ⟨m2, d_uses hs' ((hM 136 9 (by decide)).trans ((fo 136 9 (by decide)).trans t1.symm)), D2, fun c j a b => (F2 c j (by omega) b).trans (usM_o (by omega)), (F2 136 9 (by omega) (by omega)).trans usM_9.1, (F2 136 0 (by omega) (by omega)).trans usM_9.2, w2, r2⟩
  have RU0 : ∀ m2 : Nat → Int → Int, (∀ b i, 8 ≤ b → b ≠ 136 → (b = 139 → i < 5080) → m2 b i = m b i) → Rrul (m2 10 3) (m2 10 5) (m2 11) (m2 12) (m2 13) (m2 14) (fun k => m2 139 (4239 + k)) := fun m2 h => k_rul rul (fun b i hb => h b i (by omega) (by omega) (by omega))
  cases good with
  | false =>
    have ff := FF rfl
    have hs2 : Sk (xth S 1) := hs.grow (Grow.th S 1) hr
    obtain ⟨m2, DU, DR, F2, w9, -, w14, -⟩ := RX (xth S 1) m1 q hs2 (fun _ _ _ => rfl)
    rw [if_neg (by decide)] at w14
    have E : ∀ b i, 8 ≤ b → b ≠ 136 → (b = 139 → i < 5080) → up m2 136 0 1 b i = m b i := fun b i h1 h2 h3 => (up_a h2).trans ((F2 b i (by omega) (by omega)).trans (fo b i h1))
    refine ob_rules_t1 hs hr (m1 := m1) (q1 := q) (m2 := up m2 136 0 1) (b := J 0) ?_ ?_ (up_at _ _ _ _) ⟨_, _, _, rfl, hs2, hR.th 1, ?_⟩
    · refine De.step ?_
      simp only [j_X10_rules_0]
      simp (disch := omega) only [b_X10_rules_0, x0_k hs, x0_r0 hs, x0_r1 hs, x0_r2 hs, x0_r3 hs, x1_k hs, x1_r0 hs, x1_r1 hs, x1_i2 hs, x1_w2 hs, x1_i3 hs, x1_w3 hs, x1_i4 hs, x1_w4 hs, x1_i5 hs, x1_w5 hs, x1_i6 hs, x1_w6 hs, x1_i7 hs, x1_w7 hs, Option.bind_some]
      refine De.call D1 ?_
      simp (disch := omega) only [bI_f, Option.bind_some, xI, xU, xUt, xIt, J_lit, J_add, J_sub, J_mul, J_neg, J_ltc, J_lec, J_eqc, lt_T, lt_F, le_T, le_F, eq_T, eq_F, ↓reduceIte, ite_not, not_true_eq_false, not_false_eq_true, true_or, or_true, false_or, or_false, true_and, and_true, false_and, and_false, up_get, Nat.reduceEqDiff, Int.reduceNeg, eqN_T, eqN_F]
      refine De.call (De.eq 1 (fun n => e_good0 rm n)) ?_
      simp (disch := omega) only [Option.bind_some, xI, xU, xUt, xIt, J_lit, J_add, J_sub, J_mul, J_neg, J_ltc, J_lec, J_eqc, lt_T, lt_F, le_T, le_F, eq_T, eq_F, ↓reduceIte, ite_not, not_true_eq_false, not_false_eq_true, true_or, or_true, false_or, or_false, true_and, and_true, false_and, and_false, up_get, Nat.reduceEqDiff, Int.reduceNeg, eqN_T, eqN_F]
      exact De.ret _ _
    · refine De.step ?_
      simp only [j_X11_rules_0]
      simp (disch := omega) only [b_X11_rules_0, x136_k hs2, x136_i0 hs2, x136_w0 hs2, x136_r1 hs2, x136_r2 hs2, x136_r3 hs2, x136_r4 hs2, x136_i5 hs2, x136_w5 hs2, x136_i6 hs2, x136_w6 hs2, x136_i7 hs2, x136_w7 hs2, x136_r8 hs2, x136_i9 hs2, x136_w9 hs2, x136_i10 hs2, x136_w10 hs2, x136_i11 hs2, x136_w11 hs2, x136_i12 hs2, x136_w12 hs2, x136_i13 hs2, x136_w13 hs2, x136_i14 hs2, x136_w14 hs2, x136_r15 hs2, x136_i16 hs2, x136_w16 hs2, x136_r17 hs2, x136_r18 hs2, x136_r19 hs2, x136_r20 hs2, x136_r21 hs2, x136_i22 hs2, x136_w22 hs2, x136_r23 hs2, x136_r24 hs2, x136_i25 hs2, x136_w25 hs2, x136_i26 hs2, x136_w26 hs2, x136_r27 hs2, x136_r28 hs2, x136_i29 hs2, x136_w29 hs2, Option.bind_some]
      refine De.call DU ?_
      simp (disch := omega) only [x136_k hs2, x136_i0 hs2, x136_w0 hs2, x136_r1 hs2, x136_r2 hs2, x136_r3 hs2, x136_r4 hs2, x136_i5 hs2, x136_w5 hs2, x136_i6 hs2, x136_w6 hs2, x136_i7 hs2, x136_w7 hs2, x136_r8 hs2, x136_i9 hs2, x136_w9 hs2, x136_i10 hs2, x136_w10 hs2, x136_i11 hs2, x136_w11 hs2, x136_i12 hs2, x136_w12 hs2, x136_i13 hs2, x136_w13 hs2, x136_i14 hs2, x136_w14 hs2, x136_r15 hs2, x136_i16 hs2, x136_w16 hs2, x136_r17 hs2, x136_r18 hs2, x136_r19 hs2, x136_r20 hs2, x136_r21 hs2, x136_i22 hs2, x136_w22 hs2, x136_r23 hs2, x136_r24 hs2, x136_i25 hs2, x136_w25 hs2, x136_i26 hs2, x136_w26 hs2, x136_r27 hs2, x136_r28 hs2, x136_i29 hs2, x136_w29 hs2, Option.bind_some, xI, xU, xUt, xIt, J_lit, J_add, J_sub, J_mul, J_neg, J_ltc, J_lec, J_eqc, lt_T, lt_F, le_T, le_F, eq_T, eq_F, ↓reduceIte, ite_not, not_true_eq_false, not_false_eq_true, true_or, or_true, false_or, or_false, true_and, and_true, false_and, and_false, up_get, Nat.reduceEqDiff, Int.reduceNeg, eqN_T, eqN_F]
      refine De.call DR ?_
      simp (disch := omega) only [bI_f, Option.bind_some, xI, xU, xUt, xIt, J_lit, J_add, J_sub, J_mul, J_neg, J_ltc, J_lec, J_eqc, lt_T, lt_F, le_T, le_F, eq_T, eq_F, ↓reduceIte, ite_not, not_true_eq_false, not_false_eq_true, true_or, or_true, false_or, or_false, true_and, and_true, false_and, and_false, up_get, Nat.reduceEqDiff, Int.reduceNeg, eqN_T, eqN_F]
      refine De.eq 3 (fun n => ?_)
      rw [j_X11_rules_17]
      simp (disch := omega) only [b_X11_rules_17, x136_k hs2, x136_i0 hs2, x136_w0 hs2, x136_r1 hs2, x136_r2 hs2, x136_r3 hs2, x136_r4 hs2, x136_i5 hs2, x136_w5 hs2, x136_i6 hs2, x136_w6 hs2, x136_i7 hs2, x136_w7 hs2, x136_r8 hs2, x136_i9 hs2, x136_w9 hs2, x136_i10 hs2, x136_w10 hs2, x136_i11 hs2, x136_w11 hs2, x136_i12 hs2, x136_w12 hs2, x136_i13 hs2, x136_w13 hs2, x136_i14 hs2, x136_w14 hs2, x136_r15 hs2, x136_i16 hs2, x136_w16 hs2, x136_r17 hs2, x136_r18 hs2, x136_r19 hs2, x136_r20 hs2, x136_r21 hs2, x136_i22 hs2, x136_w22 hs2, x136_r23 hs2, x136_r24 hs2, x136_i25 hs2, x136_w25 hs2, x136_i26 hs2, x136_w26 hs2, x136_r27 hs2, x136_r28 hs2, x136_i29 hs2, x136_w29 hs2, e_in_T, e_in_F, e_throws0 hs2, e_throws1 hs2, e_noPlace_ok, e_noPlace_no, e_noPerson_ok, e_noPerson_no, e_noPhone hs2, e_noWord hs2, e_noGang hs2, e_tick hs2, e_phones hs2, e_words hs2, e_of hs2, e_toldOf hs2, e_copyAt, e_phoneAt, e_hadAt, e_ruleAt, e_lineAt, Option.bind_some, xI, xU, xUt, xIt, J_lit, J_add, J_sub, J_mul, J_neg, J_lt, J_le, J_eq, lt_T, lt_F, le_T, le_F, eq_T, eq_F, ↓reduceIte, ite_not, not_true_eq_false, not_false_eq_true, true_or, or_true, false_or, or_false, true_and, and_true, false_and, and_false, up_get, Nat.reduceEqDiff, Int.reduceNeg]
    · refine hI.read (Grow.th S 1) hr ⟨?_, ?_, ?_, ?_, ?_, ?_, fun i i0 i1 => ?_⟩ ((up_i (by decide)).trans ((F2 136 6 (by omega) (by omega)).trans ((fo 136 6 (by decide)).trans by0))) ((up_i (by decide)).trans ((F2 136 7 (by omega) (by omega)).trans ((fo 136 7 (by decide)).trans lot0))) (RU0 _ E) (fun b i hb => ?_) (fun _ _ => rfl)
      · rw [up_a (by decide), up_i (by decide), F2 1 2 (by omega) (by omega), e12, w9]
      · rw [up_a (by decide), F2 1 2 (by omega) (by omega), e12]
        decide
      · rw [up_a (by decide), F2 1 2 (by omega) (by omega), e12]
        decide
      · rw [up_a (by decide), up_i (by decide), F2 1 3 (by omega) (by omega), f1 rfl, w14]
      · rw [up_a (by decide), F2 1 3 (by omega) (by omega), f1 rfl]
        omega
      · rw [up_a (by decide), F2 1 3 (by omega) (by omega), f1 rfl]
        omega
      · rw [up_a (by decide), F2 1 2 (by omega) (by omega), e12] at i1
        omega
      · by_cases c5 : b = 5 ∧ i = 0
        · rw [c5.1, c5.2, up_a (by decide), F2 5 0 (by omega) (by omega)]
          exact F1 5 0 (by omega) (by omega) (by omega) (by omega) (by omega) (by omega)
        · by_cases c6 : b = 136
          · rw [c6, show i = 5 by omega, up_i (by decide), F2 136 5 (by omega) (by omega)]
            exact fo 136 5 (by decide)
          · exact E b i (by omega) c6 (by omega)
  | true =>
    obtain ⟨w3, RC⟩ := g1 rfl
    by_cases ct : 0 < m 137 0
    · have hs2 : Sk (xth S 3) := hs.grow (Grow.th S 3) hr
      obtain ⟨m2, DU, DR, F2, w9, -, w14, -⟩ := RX (xth S 3) m1 q hs2 (fun _ _ _ => rfl)
      rw [if_pos rfl] at w14
      have v46 : m1 46 2 = m 137 0 := (fo 46 2 (by decide)).trans v2
      have v7 : m2 137 0 = m 137 0 := (F2 137 0 (by omega) (by omega)).trans (fo 137 0 (by decide))
      have E : ∀ b i, 8 ≤ b → b ≠ 136 → (b = 139 → i < 5080) → up m2 136 0 2 b i = m b i := fun b i h1 h2 h3 => (up_a h2).trans ((F2 b i (by omega) (by omega)).trans (fo b i h1))
      refine ob_rules_t3 hs hr (m1 := m1) (q1 := q) (m2 := up m2 136 0 2) (b := J 0) ?_ ?_ (up_at _ _ _ _) ⟨_, _, _, rfl, hs2, hR.th 3, ?_⟩
      · refine De.step ?_
        simp only [j_X10_rules_0]
        simp (disch := omega) only [b_X10_rules_0, x0_k hs, x0_r0 hs, x0_r1 hs, x0_r2 hs, x0_r3 hs, x1_k hs, x1_r0 hs, x1_r1 hs, x1_i2 hs, x1_w2 hs, x1_i3 hs, x1_w3 hs, x1_i4 hs, x1_w4 hs, x1_i5 hs, x1_w5 hs, x1_i6 hs, x1_w6 hs, x1_i7 hs, x1_w7 hs, Option.bind_some]
        refine De.call D1 ?_
        simp (disch := omega) only [bI_t, Option.bind_some, xI, xU, xUt, xIt, J_lit, J_add, J_sub, J_mul, J_neg, J_ltc, J_lec, J_eqc, lt_T, lt_F, le_T, le_F, eq_T, eq_F, ↓reduceIte, ite_not, not_true_eq_false, not_false_eq_true, true_or, or_true, false_or, or_false, true_and, and_true, false_and, and_false, up_get, Nat.reduceEqDiff, Int.reduceNeg, eqN_T, eqN_F]
        refine De.call (De.eq 1 (fun n => e_good1 n _)) ?_
        simp (disch := omega) only [x0_k hs, x0_r0 hs, x0_r1 hs, x0_r2 hs, x0_r3 hs, Option.bind_some, xI, xU, xUt, xIt, J_lit, J_add, J_sub, J_mul, J_neg, J_ltc, J_lec, J_eqc, lt_T, lt_F, le_T, le_F, eq_T, eq_F, ↓reduceIte, ite_not, not_true_eq_false, not_false_eq_true, true_or, or_true, false_or, or_false, true_and, and_true, false_and, and_false, up_get, Nat.reduceEqDiff, Int.reduceNeg, eqN_T, eqN_F]
        refine De.call (De.eq 1 (fun n => e_tz1 hs rm (by omega) (by omega) n)) ?_
        simp (disch := omega) only [Option.bind_some, xI, xU, xUt, xIt, J_lit, J_add, J_sub, J_mul, J_neg, J_ltc, J_lec, J_eqc, lt_T, lt_F, le_T, le_F, eq_T, eq_F, ↓reduceIte, ite_not, not_true_eq_false, not_false_eq_true, true_or, or_true, false_or, or_false, true_and, and_true, false_and, and_false, up_get, Nat.reduceEqDiff, Int.reduceNeg, eqN_T, eqN_F]
        exact De.ret _ _
      · refine De.step ?_
        simp only [j_X11_rules_0]
        simp (disch := omega) only [b_X11_rules_0, x136_k hs2, x136_i0 hs2, x136_w0 hs2, x136_r1 hs2, x136_r2 hs2, x136_r3 hs2, x136_r4 hs2, x136_i5 hs2, x136_w5 hs2, x136_i6 hs2, x136_w6 hs2, x136_i7 hs2, x136_w7 hs2, x136_r8 hs2, x136_i9 hs2, x136_w9 hs2, x136_i10 hs2, x136_w10 hs2, x136_i11 hs2, x136_w11 hs2, x136_i12 hs2, x136_w12 hs2, x136_i13 hs2, x136_w13 hs2, x136_i14 hs2, x136_w14 hs2, x136_r15 hs2, x136_i16 hs2, x136_w16 hs2, x136_r17 hs2, x136_r18 hs2, x136_r19 hs2, x136_r20 hs2, x136_r21 hs2, x136_i22 hs2, x136_w22 hs2, x136_r23 hs2, x136_r24 hs2, x136_i25 hs2, x136_w25 hs2, x136_i26 hs2, x136_w26 hs2, x136_r27 hs2, x136_r28 hs2, x136_i29 hs2, x136_w29 hs2, Option.bind_some]
        refine De.call DU ?_
        simp (disch := omega) only [x136_k hs2, x136_i0 hs2, x136_w0 hs2, x136_r1 hs2, x136_r2 hs2, x136_r3 hs2, x136_r4 hs2, x136_i5 hs2, x136_w5 hs2, x136_i6 hs2, x136_w6 hs2, x136_i7 hs2, x136_w7 hs2, x136_r8 hs2, x136_i9 hs2, x136_w9 hs2, x136_i10 hs2, x136_w10 hs2, x136_i11 hs2, x136_w11 hs2, x136_i12 hs2, x136_w12 hs2, x136_i13 hs2, x136_w13 hs2, x136_i14 hs2, x136_w14 hs2, x136_r15 hs2, x136_i16 hs2, x136_w16 hs2, x136_r17 hs2, x136_r18 hs2, x136_r19 hs2, x136_r20 hs2, x136_r21 hs2, x136_i22 hs2, x136_w22 hs2, x136_r23 hs2, x136_r24 hs2, x136_i25 hs2, x136_w25 hs2, x136_i26 hs2, x136_w26 hs2, x136_r27 hs2, x136_r28 hs2, x136_i29 hs2, x136_w29 hs2, Option.bind_some, xI, xU, xUt, xIt, J_lit, J_add, J_sub, J_mul, J_neg, J_ltc, J_lec, J_eqc, lt_T, lt_F, le_T, le_F, eq_T, eq_F, ↓reduceIte, ite_not, not_true_eq_false, not_false_eq_true, true_or, or_true, false_or, or_false, true_and, and_true, false_and, and_false, up_get, Nat.reduceEqDiff, Int.reduceNeg, eqN_T, eqN_F]
        refine De.call DR ?_
        simp (disch := omega) only [bI_t, Option.bind_some, xI, xU, xUt, xIt, J_lit, J_add, J_sub, J_mul, J_neg, J_ltc, J_lec, J_eqc, lt_T, lt_F, le_T, le_F, eq_T, eq_F, ↓reduceIte, ite_not, not_true_eq_false, not_false_eq_true, true_or, or_true, false_or, or_false, true_and, and_true, false_and, and_false, up_get, Nat.reduceEqDiff, Int.reduceNeg, eqN_T, eqN_F]
        refine De.eq 6 (fun n => ?_)
        rw [j_X11_rules_17]
        simp (disch := omega) only [b_X11_rules_17, x136_k hs2, x136_i0 hs2, x136_w0 hs2, x136_r1 hs2, x136_r2 hs2, x136_r3 hs2, x136_r4 hs2, x136_i5 hs2, x136_w5 hs2, x136_i6 hs2, x136_w6 hs2, x136_i7 hs2, x136_w7 hs2, x136_r8 hs2, x136_i9 hs2, x136_w9 hs2, x136_i10 hs2, x136_w10 hs2, x136_i11 hs2, x136_w11 hs2, x136_i12 hs2, x136_w12 hs2, x136_i13 hs2, x136_w13 hs2, x136_i14 hs2, x136_w14 hs2, x136_r15 hs2, x136_i16 hs2, x136_w16 hs2, x136_r17 hs2, x136_r18 hs2, x136_r19 hs2, x136_r20 hs2, x136_r21 hs2, x136_i22 hs2, x136_w22 hs2, x136_r23 hs2, x136_r24 hs2, x136_i25 hs2, x136_w25 hs2, x136_i26 hs2, x136_w26 hs2, x136_r27 hs2, x136_r28 hs2, x136_i29 hs2, x136_w29 hs2, e_in_T, e_in_F, e_throws0 hs2, e_throws1 hs2, e_noPlace_ok, e_noPlace_no, e_noPerson_ok, e_noPerson_no, e_noPhone hs2, e_noWord hs2, e_noGang hs2, e_tick hs2, e_phones hs2, e_words hs2, e_of hs2, e_toldOf hs2, e_copyAt, e_phoneAt, e_hadAt, e_ruleAt, e_lineAt, v7, Option.bind_some, xI, xU, xUt, xIt, J_lit, J_add, J_sub, J_mul, J_neg, J_lt, J_le, J_eq, lt_T, lt_F, le_T, le_F, eq_T, eq_F, ↓reduceIte, ite_not, not_true_eq_false, not_false_eq_true, true_or, or_true, false_or, or_false, true_and, and_true, false_and, and_false, up_get, Nat.reduceEqDiff, Int.reduceNeg]
        rw [j_X11_rules_37]
        simp (disch := omega) only [b_X11_rules_37, x136_k hs2, x136_i0 hs2, x136_w0 hs2, x136_r1 hs2, x136_r2 hs2, x136_r3 hs2, x136_r4 hs2, x136_i5 hs2, x136_w5 hs2, x136_i6 hs2, x136_w6 hs2, x136_i7 hs2, x136_w7 hs2, x136_r8 hs2, x136_i9 hs2, x136_w9 hs2, x136_i10 hs2, x136_w10 hs2, x136_i11 hs2, x136_w11 hs2, x136_i12 hs2, x136_w12 hs2, x136_i13 hs2, x136_w13 hs2, x136_i14 hs2, x136_w14 hs2, x136_r15 hs2, x136_i16 hs2, x136_w16 hs2, x136_r17 hs2, x136_r18 hs2, x136_r19 hs2, x136_r20 hs2, x136_r21 hs2, x136_i22 hs2, x136_w22 hs2, x136_r23 hs2, x136_r24 hs2, x136_i25 hs2, x136_w25 hs2, x136_i26 hs2, x136_w26 hs2, x136_r27 hs2, x136_r28 hs2, x136_i29 hs2, x136_w29 hs2, e_in_T, e_in_F, e_throws0 hs2, e_throws1 hs2, e_noPlace_ok, e_noPlace_no, e_noPerson_ok, e_noPerson_no, e_noPhone hs2, e_noWord hs2, e_noGang hs2, e_tick hs2, e_phones hs2, e_words hs2, e_of hs2, e_toldOf hs2, e_copyAt, e_phoneAt, e_hadAt, e_ruleAt, e_lineAt, Option.bind_some, xI, xU, xUt, xIt, J_lit, J_add, J_sub, J_mul, J_neg, J_lt, J_le, J_eq, lt_T, lt_F, le_T, le_F, eq_T, eq_F, ↓reduceIte, ite_not, not_true_eq_false, not_false_eq_true, true_or, or_true, false_or, or_false, true_and, and_true, false_and, and_false, up_get, Nat.reduceEqDiff, Int.reduceNeg]
      · refine hI.read (Grow.th S 3) hr ⟨?_, ?_, ?_, ?_, ?_, ?_, fun i i0 i1 => ?_⟩ ((up_i (by decide)).trans ((F2 136 6 (by omega) (by omega)).trans ((fo 136 6 (by decide)).trans by0))) ((up_i (by decide)).trans ((F2 136 7 (by omega) (by omega)).trans ((fo 136 7 (by decide)).trans lot0))) (RU0 _ E) (fun b i hb => ?_) (fun _ _ => rfl)
        · rw [up_a (by decide), up_i (by decide), F2 1 2 (by omega) (by omega), e12, w9]
        · rw [up_a (by decide), F2 1 2 (by omega) (by omega), e12]
          decide
        · rw [up_a (by decide), F2 1 2 (by omega) (by omega), e12]
          decide
        · rw [up_a (by decide), up_i (by decide), F2 1 3 (by omega) (by omega), w3, w14]
        · rw [up_a (by decide), F2 1 3 (by omega) (by omega), w3]
          decide
        · rw [up_a (by decide), F2 1 3 (by omega) (by omega), w3]
          decide
        · rw [up_a (by decide), F2 1 2 (by omega) (by omega), e12] at i1
          omega
        · by_cases c5 : b = 5 ∧ i = 0
          · rw [c5.1, c5.2, up_a (by decide), F2 5 0 (by omega) (by omega)]
            exact F1 5 0 (by omega) (by omega) (by omega) (by omega) (by omega) (by omega)
          · by_cases c6 : b = 136
            · rw [c6, show i = 5 by omega, up_i (by decide), F2 136 5 (by omega) (by omega)]
              exact fo 136 5 (by decide)
            · exact E b i (by omega) c6 (by omega)
    · have v46 : m1 46 2 = 0 := by
        rw [fo 46 2 (by decide), v2]
        omega
      have DB := q_RulBecome (q := q) (m := m1) hs.Rul hs.Rul2 (Or.inr (by decide))
      have b103 : bRul m1 10 2 10 3 = gf 0 := by
        unfold bRul
        rw [up_i (by decide), up_at]
        exact RC.1
      have DC : De (fun k => f_X10_rules k 0 [.ref 0] (hp S m q)) (.inl (some (.int (J (gf 0))))) (hp S (bRul m1 10 2) q) := by
        refine De.step ?_
        simp only [j_X10_rules_0]
        simp (disch := omega) only [b_X10_rules_0, x0_k hs, x0_r0 hs, x0_r1 hs, x0_r2 hs, x0_r3 hs, x1_k hs, x1_r0 hs, x1_r1 hs, x1_i2 hs, x1_w2 hs, x1_i3 hs, x1_w3 hs, x1_i4 hs, x1_w4 hs, x1_i5 hs, x1_w5 hs, x1_i6 hs, x1_w6 hs, x1_i7 hs, x1_w7 hs, Option.bind_some]
        refine De.call D1 ?_
        simp (disch := omega) only [bI_t, Option.bind_some, xI, xU, xUt, xIt, J_lit, J_add, J_sub, J_mul, J_neg, J_ltc, J_lec, J_eqc, lt_T, lt_F, le_T, le_F, eq_T, eq_F, ↓reduceIte, ite_not, not_true_eq_false, not_false_eq_true, true_or, or_true, false_or, or_false, true_and, and_true, false_and, and_false, up_get, Nat.reduceEqDiff, Int.reduceNeg, eqN_T, eqN_F]
        refine De.call (De.eq 1 (fun n => e_good1 n _)) ?_
        simp (disch := omega) only [x0_k hs, x0_r0 hs, x0_r1 hs, x0_r2 hs, x0_r3 hs, Option.bind_some, xI, xU, xUt, xIt, J_lit, J_add, J_sub, J_mul, J_neg, J_ltc, J_lec, J_eqc, lt_T, lt_F, le_T, le_F, eq_T, eq_F, ↓reduceIte, ite_not, not_true_eq_false, not_false_eq_true, true_or, or_true, false_or, or_false, true_and, and_true, false_and, and_false, up_get, Nat.reduceEqDiff, Int.reduceNeg, eqN_T, eqN_F]
        refine De.call (De.eq 1 (fun n => e_tz0 hs v46 n)) ?_
        simp (disch := omega) only [x0_k hs, x0_r0 hs, x0_r1 hs, x0_r2 hs, x0_r3 hs, x1_k hs, x1_r0 hs, x1_r1 hs, x1_i2 hs, x1_w2 hs, x1_i3 hs, x1_w3 hs, x1_i4 hs, x1_w4 hs, x1_i5 hs, x1_w5 hs, x1_i6 hs, x1_w6 hs, x1_i7 hs, x1_w7 hs, x9_k hs, x9_r0 hs, x9_r1 hs, x9_r2 hs, x9_r3 hs, x9_r4 hs, x9_r5 hs, x9_r6 hs, x9_r7 hs, x9_i8 hs, x9_w8 hs, x9_i9 hs, x9_w9 hs, x10_k hs, x10_r0 hs, x10_r1 hs, x10_r2 hs, x10_i3 hs, x10_w3 hs, x10_r4 hs, x10_i5 hs, x10_w5 hs, x10_r6 hs, x10_i7 hs, x10_w7 hs, Option.bind_some, xI, xU, xUt, xIt, J_lit, J_add, J_sub, J_mul, J_neg, J_ltc, J_lec, J_eqc, lt_T, lt_F, le_T, le_F, eq_T, eq_F, ↓reduceIte, ite_not, not_true_eq_false, not_false_eq_true, true_or, or_true, false_or, or_false, true_and, and_true, false_and, and_false, up_get, Nat.reduceEqDiff, Int.reduceNeg, eqN_T, eqN_F]
        refine De.call DB ?_
        simp (disch := omega) only [x0_k hs, x0_r0 hs, x0_r1 hs, x0_r2 hs, x0_r3 hs, x9_k hs, x9_r0 hs, x9_r1 hs, x9_r2 hs, x9_r3 hs, x9_r4 hs, x9_r5 hs, x9_r6 hs, x9_r7 hs, x9_i8 hs, x9_w8 hs, x9_i9 hs, x9_w9 hs, x10_k hs, x10_r0 hs, x10_r1 hs, x10_r2 hs, x10_i3 hs, x10_w3 hs, x10_r4 hs, x10_i5 hs, x10_w5 hs, x10_r6 hs, x10_i7 hs, x10_w7 hs, b103, Option.bind_some, xI, xU, xUt, xIt, J_lit, J_add, J_sub, J_mul, J_neg, J_ltc, J_lec, J_eqc, lt_T, lt_F, le_T, le_F, eq_T, eq_F, ↓reduceIte, ite_not, not_true_eq_false, not_false_eq_true, true_or, or_true, false_or, or_false, true_and, and_true, false_and, and_false, up_get, Nat.reduceEqDiff, Int.reduceNeg, eqN_T, eqN_F]
        exact De.ret _ _
      have bo : ∀ b i, (b < 10 ∨ 16 ≤ b) → bRul m1 10 2 b i = m1 b i := fun b i h => bRul_out h
      obtain ⟨m2, DU, DR, F2, w9, w0', w14, r2⟩ := RX S (bRul m1 10 2) (uq q 152 0 (Int32.toInt64 (J (gf 0)))) hs (fun b i h => bo b i (Or.inr h))
      rw [if_pos rfl] at w14
      have v7 : m2 137 0 = 0 := by
        rw [F2 137 0 (by omega) (by omega), bo 137 0 (by decide), fo 137 0 (by decide)]
        omega
      have r0 : m2 139 5080 = gf 0 := r2 rfl 0 (by decide) (by decide)
      obtain ⟨m3, D3, F3, G3⟩ := q_rul48 (q := uq q 152 0 (Int32.toInt64 (J (gf 0)))) (m0 := m2) hs r0 841 0 m2 (by decide) (fun _ _ _ => rfl) (fun j => (if_neg (by omega)).symm)
      have E : ∀ b i, 16 ≤ b → b ≠ 136 → (b = 139 → i < 4239) → m3 b i = m b i := fun b i h1 h2 h3 => by
        by_cases c9 : b = 139
        · rw [c9, G3 i, if_neg (by omega), F2 139 i (by omega) (by omega), bo 139 i (by decide)]
          exact fo 139 i (by decide)
        · exact (F3 b i c9).trans ((F2 b i (by omega) (by omega)).trans ((bo b i (by omega)).trans (fo b i (by omega))))
      have k6 : ∀ i, (i = 5 ∨ i = 6 ∨ i = 7) → m3 136 i = m 136 i := fun i hi => (F3 136 i (by decide)).trans ((F2 136 i (by omega) (by omega)).trans ((bo 136 i (by decide)).trans (fo 136 i (by decide))))
      have e1 : ∀ i, m3 1 i = m1 1 i := fun i => (F3 1 i (by decide)).trans ((F2 1 i (by omega) (by omega)).trans (bo 1 i (by decide)))
      refine ob_rules_ok hs (v := J (gf 0)) (m1 := bRul m1 10 2) (q1 := q) (m2 := m3) DC ?_ ?_ ⟨_, _, _, rfl, hs, hR.next, ?_⟩
      · refine De.step ?_
        simp only [j_X11_rules_0]
        simp (disch := omega) only [b_X11_rules_0, x136_k hs, x136_i0 hs, x136_w0 hs, x136_r1 hs, x136_r2 hs, x136_r3 hs, x136_r4 hs, x136_i5 hs, x136_w5 hs, x136_i6 hs, x136_w6 hs, x136_i7 hs, x136_w7 hs, x136_r8 hs, x136_i9 hs, x136_w9 hs, x136_i10 hs, x136_w10 hs, x136_i11 hs, x136_w11 hs, x136_i12 hs, x136_w12 hs, x136_i13 hs, x136_w13 hs, x136_i14 hs, x136_w14 hs, x136_r15 hs, x136_i16 hs, x136_w16 hs, x136_r17 hs, x136_r18 hs, x136_r19 hs, x136_r20 hs, x136_r21 hs, x136_i22 hs, x136_w22 hs, x136_r23 hs, x136_r24 hs, x136_i25 hs, x136_w25 hs, x136_i26 hs, x136_w26 hs, x136_r27 hs, x136_r28 hs, x136_i29 hs, x136_w29 hs, Option.bind_some]
        refine De.call DU ?_
        simp (disch := omega) only [x136_k hs, x136_i0 hs, x136_w0 hs, x136_r1 hs, x136_r2 hs, x136_r3 hs, x136_r4 hs, x136_i5 hs, x136_w5 hs, x136_i6 hs, x136_w6 hs, x136_i7 hs, x136_w7 hs, x136_r8 hs, x136_i9 hs, x136_w9 hs, x136_i10 hs, x136_w10 hs, x136_i11 hs, x136_w11 hs, x136_i12 hs, x136_w12 hs, x136_i13 hs, x136_w13 hs, x136_i14 hs, x136_w14 hs, x136_r15 hs, x136_i16 hs, x136_w16 hs, x136_r17 hs, x136_r18 hs, x136_r19 hs, x136_r20 hs, x136_r21 hs, x136_i22 hs, x136_w22 hs, x136_r23 hs, x136_r24 hs, x136_i25 hs, x136_w25 hs, x136_i26 hs, x136_w26 hs, x136_r27 hs, x136_r28 hs, x136_i29 hs, x136_w29 hs, Option.bind_some, xI, xU, xUt, xIt, J_lit, J_add, J_sub, J_mul, J_neg, J_ltc, J_lec, J_eqc, lt_T, lt_F, le_T, le_F, eq_T, eq_F, ↓reduceIte, ite_not, not_true_eq_false, not_false_eq_true, true_or, or_true, false_or, or_false, true_and, and_true, false_and, and_false, up_get, Nat.reduceEqDiff, Int.reduceNeg, eqN_T, eqN_F]
        refine De.call DR ?_
        simp (disch := omega) only [bI_t, Option.bind_some, xI, xU, xUt, xIt, J_lit, J_add, J_sub, J_mul, J_neg, J_ltc, J_lec, J_eqc, lt_T, lt_F, le_T, le_F, eq_T, eq_F, ↓reduceIte, ite_not, not_true_eq_false, not_false_eq_true, true_or, or_true, false_or, or_false, true_and, and_true, false_and, and_false, up_get, Nat.reduceEqDiff, Int.reduceNeg, eqN_T, eqN_F]
        refine De.cg 6 (fun n => ?_) (De.sh 4 D3)
        rw [j_X11_rules_17]
        simp (disch := omega) only [b_X11_rules_17, x136_k hs, x136_i0 hs, x136_w0 hs, x136_r1 hs, x136_r2 hs, x136_r3 hs, x136_r4 hs, x136_i5 hs, x136_w5 hs, x136_i6 hs, x136_w6 hs, x136_i7 hs, x136_w7 hs, x136_r8 hs, x136_i9 hs, x136_w9 hs, x136_i10 hs, x136_w10 hs, x136_i11 hs, x136_w11 hs, x136_i12 hs, x136_w12 hs, x136_i13 hs, x136_w13 hs, x136_i14 hs, x136_w14 hs, x136_r15 hs, x136_i16 hs, x136_w16 hs, x136_r17 hs, x136_r18 hs, x136_r19 hs, x136_r20 hs, x136_r21 hs, x136_i22 hs, x136_w22 hs, x136_r23 hs, x136_r24 hs, x136_i25 hs, x136_w25 hs, x136_i26 hs, x136_w26 hs, x136_r27 hs, x136_r28 hs, x136_i29 hs, x136_w29 hs, e_in_T, e_in_F, e_throws0 hs, e_throws1 hs, e_noPlace_ok, e_noPlace_no, e_noPerson_ok, e_noPerson_no, e_noPhone hs, e_noWord hs, e_noGang hs, e_tick hs, e_phones hs, e_words hs, e_of hs, e_toldOf hs, e_copyAt, e_phoneAt, e_hadAt, e_ruleAt, e_lineAt, v7, Option.bind_some, xI, xU, xUt, xIt, J_lit, J_add, J_sub, J_mul, J_neg, J_lt, J_le, J_eq, lt_T, lt_F, le_T, le_F, eq_T, eq_F, ↓reduceIte, ite_not, not_true_eq_false, not_false_eq_true, true_or, or_true, false_or, or_false, true_and, and_true, false_and, and_false, up_get, Nat.reduceEqDiff, Int.reduceNeg]
        rw [j_X11_rules_37]
        simp (disch := omega) only [b_X11_rules_37, x136_k hs, x136_i0 hs, x136_w0 hs, x136_r1 hs, x136_r2 hs, x136_r3 hs, x136_r4 hs, x136_i5 hs, x136_w5 hs, x136_i6 hs, x136_w6 hs, x136_i7 hs, x136_w7 hs, x136_r8 hs, x136_i9 hs, x136_w9 hs, x136_i10 hs, x136_w10 hs, x136_i11 hs, x136_w11 hs, x136_i12 hs, x136_w12 hs, x136_i13 hs, x136_w13 hs, x136_i14 hs, x136_w14 hs, x136_r15 hs, x136_i16 hs, x136_w16 hs, x136_r17 hs, x136_r18 hs, x136_r19 hs, x136_r20 hs, x136_r21 hs, x136_i22 hs, x136_w22 hs, x136_r23 hs, x136_r24 hs, x136_i25 hs, x136_w25 hs, x136_i26 hs, x136_w26 hs, x136_r27 hs, x136_r28 hs, x136_i29 hs, x136_w29 hs, e_in_T, e_in_F, e_throws0 hs, e_throws1 hs, e_noPlace_ok, e_noPlace_no, e_noPerson_ok, e_noPerson_no, e_noPhone hs, e_noWord hs, e_noGang hs, e_tick hs, e_phones hs, e_words hs, e_of hs, e_toldOf hs, e_copyAt, e_phoneAt, e_hadAt, e_ruleAt, e_lineAt, Option.bind_some, xI, xU, xUt, xIt, J_lit, J_add, J_sub, J_mul, J_neg, J_lt, J_le, J_eq, lt_T, lt_F, le_T, le_F, eq_T, eq_F, ↓reduceIte, ite_not, not_true_eq_false, not_false_eq_true, true_or, or_true, false_or, or_false, true_and, and_true, false_and, and_false, up_get, Nat.reduceEqDiff, Int.reduceNeg]
        all_goals rfl
      · rw [F3 136 0 (by decide)]
        exact w0'
      · refine hI.read (Grow.rfl' S) hr ⟨?_, ?_, ?_, ?_, ?_, ?_, fun i i0 i1 => ?_⟩ ((k6 6 (by omega)).trans by0) ((k6 7 (by omega)).trans lot0) ?_ (fun b i hb => ?_) (fun b hb => uq_row (by omega))
        · rw [e1 2, e12, F3 136 9 (by decide), w9]
        · rw [e1 2, e12]
          decide
        · rw [e1 2, e12]
          decide
        · rw [e1 3, w3, F3 136 14 (by decide), w14]
        · rw [e1 3, w3]
          decide
        · rw [e1 3, w3]
          decide
        · rw [e1 2, e12] at i1
          omega
        · have c14 : ∀ b i, 10 ≤ b → b ≤ 14 → m3 b i = bRul m1 10 2 b i := fun b i h1 h2 => (F3 b i (by omega)).trans (F2 b i (by omega) (by omega))
          refine Rrul.cg RC ?_ ?_ (fun k k0 k1 => ?_) (fun k k0 k1 => ?_) (fun k k0 k1 => ?_) (fun k k0 k1 => ?_) (fun i i0 i1 => ?_)
          · rw [c14 10 3 (by decide) (by decide), b103]
            exact RC.1.symm
          · rw [c14 10 5 (by decide) (by decide)]
            unfold bRul
            rw [up_at]
          · rw [c14 11 k (by decide) (by decide)]
            unfold bRul
            rw [up_a (by decide), up_a (by decide), cpr_ne (by decide), cpr_ne (by decide), cpr_ne (by decide), cpr_at k0 k1]
          · rw [c14 12 k (by decide) (by decide)]
            unfold bRul
            rw [up_a (by decide), up_a (by decide), cpr_ne (by decide), cpr_ne (by decide), cpr_at k0 k1, cpr_ne (by decide)]
          · rw [c14 13 k (by decide) (by decide)]
            unfold bRul
            rw [up_a (by decide), up_a (by decide), cpr_ne (by decide), cpr_at k0 k1, cpr_ne (by decide), cpr_ne (by decide)]
          · rw [c14 14 k (by decide) (by decide)]
            unfold bRul
            rw [up_a (by decide), up_a (by decide), cpr_at k0 k1, cpr_ne (by decide), cpr_ne (by decide), cpr_ne (by decide)]
          · show m3 139 (4239 + i) = gf i
            rw [G3 _, if_pos (by omega), show 4239 + i + 841 = 5080 + i by omega]
            exact r2 rfl i i0 i1
        · by_cases c5 : b = 5 ∧ i = 0
          · rw [c5.1, c5.2, F3 5 0 (by decide), F2 5 0 (by omega) (by omega), bo 5 0 (by decide)]
            exact F1 5 0 (by omega) (by omega) (by omega) (by omega) (by omega) (by omega)
          · by_cases c6 : b = 136
            · rw [c6, show i = 5 by omega]
              exact k6 5 (by omega)
            · by_cases c9 : b = 9
              · rw [c9]
                exact (F3 9 i (by decide)).trans ((F2 9 i (by omega) (by omega)).trans ((bo 9 i (by decide)).trans (fo 9 i (by decide))))
              · exact E b i (by omega) c6 (by omega)

