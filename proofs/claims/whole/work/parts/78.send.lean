/-! send -/
theorem fq_X0_choose (n : Nat) (as : List Value) (P : xH) : f_X0_choose n 0 as P = F_X0_choose n 30 0 as P := if_pos rfl
theorem fq_X11_sends (n : Nat) (as : List Value) (P : xH) : f_X11_sends n 0 as P = F_X11_sends n 30 0 as P := if_pos rfl
theorem sav_in {l o f d told sp gp st t : Int} (h1 : 0 ≤ l ∧ l ≤ 100 ∧ 0 ≤ o ∧ o ≤ 100 ∧ 0 ≤ f ∧ f ≤ 20 ∧ 1 ≤ d ∧ d ≤ 1000 ∧ 0 ≤ told ∧ told ≤ 400) (h2 : 0 ≤ sp ∧ sp ≤ 15 ∧ 0 ≤ gp ∧ gp ≤ 15 ∧ 1 ≤ st ∧ st ≤ 100 ∧ 0 ≤ t ∧ t ≤ 400) : 0 ≤ (sav l o f d told sp gp st t).toInt ∧ (sav l o f d told sp gp st t).toInt ≤ 1000000 := by
  have dd := dst_in (a := gp) (b := sp) (by omega) (by omega) (by omega) (by omega)
  have g0 : 0 ≤ (d + st - 1) / st := Int.ediv_nonneg (by omega) (by omega)
  have g1 : (d + st - 1) / st ≤ d + st - 1 := Int.ediv_le_self _ (by omega)
  unfold sav
  rw [stp_dst (by omega) (by omega) (by omega) (by omega), J_add, J_add, J_sub, J_mul, J_sub]
  generalize (d + st - 1) / st = z at *
  have f1 : f * (t + dst gp sp + z - told) ≤ f * 2000 := Int.mul_le_mul_of_nonneg_left (by omega) (by omega)
  have f2 : f * (-400) ≤ f * (t + dst gp sp + z - told) := Int.mul_le_mul_of_nonneg_left (by omega) (by omega)
  generalize f * (t + dst gp sp + z - told) = y at *
  rw [J_max (by omega) (by omega) (by omega) (by omega), J_mul]
  have l1 : l * max (o - y) 0 ≤ l * 8100 := Int.mul_le_mul_of_nonneg_left (by omega) (by omega)
  have l2 : 0 ≤ l * max (o - y) 0 := Int.mul_nonneg (by omega) (by omega)
  rw [toInt_J (by omega) (by omega)]
  omega
/-- either the same, or nothing found yet -/
def Rst (a b : St) : Prop := a = b ∨ (a.1 = -1 ∧ b.1 = -1)
theorem chS_eq {sz : Int → Int → Int} {R G : Nat} (hG : G ≤ 4) (h : ∀ g s : Int, 0 ≤ g → g < G → 0 ≤ s → s < R → 0 ≤ sz g s ∧ sz g s ≤ 1000000) : ∀ (k : Nat) (g : Int) (tk : Int32) (sum : Int) (tr : Int → Int) (a b : St), 0 ≤ g → g + k = G → 0 ≤ sum → sum ≤ 1000000 * g → Rst a b → chS sz R k g tk sum tr a = chS sz R k g tk sum tr b := by
  intro k
  induction k with
  | zero =>
    intro g tk sum tr a b g0 gk s0 s1 hr
    rcases hr with rfl | ⟨h1, h2⟩
    · rfl
    · have hh : ¬ J sum ≤ J (-1) := by rw [J_lec (by omega)]; omega
      rw [chS, chS, h1, h2, if_neg hh, if_neg hh]
  | succ k IH =>
    intro g tk sum tr a b g0 gk s0 s1 hr
    rw [chS, chS]
    refine IH _ _ _ _ _ _ (by omega) (by omega) s0 (by omega) ?_
    have L : ∀ (r : Nat) (s : Int) (a b : St), 0 ≤ s → s + r = R → Rst a b → Rst (lpS (fun s z => if (tk >>> (J s &&& J 31)) &&& J 1 = J 0 then chS sz R k (g + 1) (tk ||| (J 1 <<< (J s &&& J 31))) (sum + sz g s) (ups tr g s) z else z) r s a) (lpS (fun s z => if (tk >>> (J s &&& J 31)) &&& J 1 = J 0 then chS sz R k (g + 1) (tk ||| (J 1 <<< (J s &&& J 31))) (sum + sz g s) (ups tr g s) z else z) r s b) := by
      intro r
      induction r with
      | zero => intro s a b s0 sr hr; exact hr
      | succ r IR =>
        intro s a b s0' sr hr
        rw [lpS, lpS]
        refine IR _ _ _ (by omega) (by omega) ?_
        have := h g s g0 (by omega) s0' (by omega)
        by_cases c : (tk >>> (J s &&& J 31)) &&& J 1 = J 0
        · rw [if_pos c, if_pos c]
          exact Or.inl (IH _ _ _ _ _ _ (by omega) (by omega) (by omega) (by omega) hr)
        · rw [if_neg c, if_neg c]
          exact hr
    exact L R 0 a b (by omega) (by omega) hr
section SENDF
variable {S : xH} {m : Nat → Int → Int} {q : Nat → Int → Int64}
def szS (m : Nat → Int → Int) : Int → Int → Int := fun g s => (sav (m 139 (1082 + 6 * s + 1)) (m 139 (1082 + 6 * s + 2)) (m 139 (1082 + 6 * s + 3)) (m 139 (1082 + 6 * s + 4)) (m 139 (1082 + 6 * s + 5)) (m 139 (1082 + 6 * s)) (m 139 (1112 + 2 * g)) (m 139 (1112 + 2 * g + 1)) (m 137 0)).toInt
theorem chS_any (hI : InvM S m q) (z : Int → Int) : (chS (szS m) (m 139 9).toNat (m 139 10).toNat 0 (J 0) 0 (fun _ => 0) (-1, z)) = (chS (szS m) (m 139 9).toNat (m 139 10).toNat 0 (J 0) 0 (fun _ => 0) (-1, fun _ => 0)) := by
  obtain ⟨-, -, ⟨v0, v1, -⟩, -⟩ := hI.small
  obtain ⟨tap, by0, lot0, ⟨par, hid, prt, sto, gan, -⟩, kep⟩ := hI.get
  obtain ⟨gan1, gan2, gan3, gan4⟩ := gan
  obtain ⟨sto1, sto2, sto3, sto4⟩ := sto
  refine chS_eq (G := (m 139 10).toNat) (by omega) (fun g s g0 g1 s0 s1 => ?_) _ _ _ _ _ _ _ (by omega) (by omega) (by omega) (by omega) (Or.inr ⟨rfl, rfl⟩)
  obtain ⟨⟨f1, f2⟩, f3⟩ := gan4 g (by omega) (by omega)
  obtain ⟨⟨h1, h2, h3, h4, h5, h6⟩, h7⟩ := sto4 s (by omega) (by omega)
  unfold szS
  rw [← h1, ← h2, ← h3, ← h4, ← h5, ← h6, ← f1, ← f2]
  exact sav_in (by omega) (by omega)
/-- the class's best sending -/
theorem q_findBestC (hs : Sk S) (hI : InvM S m q) : ∃ m', De (fun n => f_X0_findBest n 0 [.ref 99, .int (J (m 137 0))] (hp S m q)) (.inl none) (hp S m' q) ∧ FrC m m' ∧ m' 99 7 = (chS (szS m) (m 139 9).toNat (m 139 10).toNat 0 (J 0) 0 (fun _ => 0) (-1, fun _ => 0)).1 ∧ ∀ i : Int, 0 ≤ i → i < m 139 10 → m' 110 i = (chS (szS m) (m 139 9).toNat (m 139 10).toNat 0 (J 0) 0 (fun _ => 0) (-1, fun _ => 0)).2 i := by
  obtain ⟨-, -, ⟨v0, v1, -⟩, -⟩ := hI.small
  obtain ⟨tap, by0, lot0, ⟨par, hid, prt, sto, gan, -⟩, kep⟩ := hI.get
  obtain ⟨gan1, gan2, gan3, gan4⟩ := gan
  obtain ⟨sto1, sto2, sto3, sto4⟩ := sto
  obtain ⟨m', D, F, -, A, B⟩ := q_choose (S := S) (q := q) (m0 := up m 99 7 (-1)) (t := m 137 0) (G := (m 139 10).toNat) (R := (m 139 9).toNat) (sz := szS m) hs (by rw [up_i (by omega)]; omega) (by rw [up_i (by omega)]; omega) (by omega) (by omega) (fun m1 F g s g0 g1 s0 s1 n => by
    have r : ∀ b, b ≠ 99 → b ≠ 109 → b ≠ 110 → m1 b = m b := fun b u1 u2 u3 => funext fun i => (F b i u2 u3 (by omega)).trans (up_a u1)
    obtain ⟨⟨f1, f2⟩, f3⟩ := gan4 g (by omega) (by omega)
    obtain ⟨⟨h1, h2, h3, h4, h5, h6⟩, h7⟩ := sto4 s (by omega) (by omega)
    rw [e_savedByC hs g0 (by omega) s0 (by omega) (by rw [r 107 (by decide) (by decide) (by decide)]; omega) (by rw [r 107 (by decide) (by decide) (by decide)]; omega) (by rw [r 101 (by decide) (by decide) (by decide)]; omega) (by rw [r 101 (by decide) (by decide) (by decide)]; omega) (by rw [r 108 (by decide) (by decide) (by decide)]; omega) (by rw [r 108 (by decide) (by decide) (by decide)]; omega) (by rw [r 105 (by decide) (by decide) (by decide)]; omega) (by rw [r 105 (by decide) (by decide) (by decide)]; omega)]
    rw [r 101 (by decide) (by decide) (by decide), r 102 (by decide) (by decide) (by decide), r 103 (by decide) (by decide) (by decide), r 104 (by decide) (by decide) (by decide), r 105 (by decide) (by decide) (by decide), r 106 (by decide) (by decide) (by decide), r 107 (by decide) (by decide) (by decide), r 108 (by decide) (by decide) (by decide), h1, h2, h3, h4, h5, h6, f1, f2]
    unfold szS
    rw [J_toInt]) (m 139 10).toNat 30 0 (J 0) 0 (fun _ => 0) (up m 99 7 (-1)) (-1, m 110) (by omega) (by omega) (by omega) (fun _ _ _ _ _ => rfl) (up_at _ _ _ _) (fun i _ _ => by rw [up_a (by decide)]) (fun i i0 i1 => absurd i1 (by omega))
  rw [chS_any hI] at A B
  refine ⟨m', ?_, fun b i u1 u2 u3 => by rw [F b i u1 u2 u3, up_get, if_neg u3], A, fun i i0 i1 => B i i0 (by omega)⟩
  have D3 := De.call (K := fun n r4 => xU r4 fun P3 => some (.inl none, P3)) (D.sh 1) (De.ret _ _)
  refine De.cg 2 (fun n => ?_) D3
  rw [j_X0_findBest_0]
  simp (disch := omega) only [b_X0_findBest_0, x99_k hs, x99_r0 hs, x99_r1 hs, x99_r2 hs, x99_r3 hs, x99_r4 hs, x99_i5 hs, x99_w5 hs, x99_i6 hs, x99_w6 hs, x99_i7 hs, x99_w7 hs, fq_X0_choose, Option.bind_some, xI, xU, xUt, xIt, J_lit, J_add, J_sub, J_mul, J_neg, J_ltc, J_lec, J_eqc, lt_T, lt_F, le_T, le_F, eq_T, eq_F, ↓reduceIte, ite_not, not_true_eq_false, not_false_eq_true, true_or, or_true, false_or, or_false, true_and, and_true, false_and, and_false, up_get, Nat.reduceEqDiff, Int.reduceNeg, eqN_T, eqN_F]
/-- the reference's -/
theorem q_sendsM (hs : Sk S) {m1 : Nat → Int → Int} (hI : InvM S m q) {q' : Nat → Int → Int64} (e9 : m1 139 = m 139) (e7 : m1 137 = m 137) : ∃ m', De (fun n => f_X11_sends n 0 [.ref 136, .int (J 0), .int (J 0), .int (J 0)] (hp S (up m1 136 29 (-1)) q')) (.inl none) (hp S m' q') ∧ FrM m1 m' ∧ m' 136 29 = (chS (szS m) (m 139 9).toNat (m 139 10).toNat 0 (J 0) 0 (fun _ => 0) (-1, fun _ => 0)).1 ∧ ∀ i : Int, 0 ≤ i → i < m 139 10 → m' 151 i = (chS (szS m) (m 139 9).toNat (m 139 10).toNat 0 (J 0) 0 (fun _ => 0) (-1, fun _ => 0)).2 i := by
  obtain ⟨-, -, ⟨v0, v1, -⟩, -⟩ := hI.small
  obtain ⟨tap, by0, lot0, ⟨par, hid, prt, sto, gan, -⟩, kep⟩ := hI.get
  obtain ⟨gan1, gan2, gan3, gan4⟩ := gan
  obtain ⟨sto1, sto2, sto3, sto4⟩ := sto
  obtain ⟨m', D, F, -, A, B⟩ := q_sends (S := S) (q := q') (m0 := up m1 136 29 (-1)) (G := (m 139 10).toNat) (R := (m 139 9).toNat) (sz := szS m) hs (by rw [up_a (by decide), e9]; omega) (by rw [up_a (by decide), e9]; omega) (by omega) (by omega) (fun m2 F g s g0 g1 s0 s1 n => by
    have r : ∀ b, b ≠ 136 → b ≠ 150 → b ≠ 151 → m2 b = m1 b := fun b u1 u2 u3 => funext fun i => (F b i u2 u3 (by omega)).trans (up_a u1)
    have r9 := (r 139 (by decide) (by decide) (by decide)).trans e9
    have r7 := (r 137 (by decide) (by decide) (by decide)).trans e7
    obtain ⟨⟨f1, f2⟩, f3⟩ := gan4 g (by omega) (by omega)
    obtain ⟨⟨h1, h2, h3, h4, h5, h6⟩, h7⟩ := sto4 s (by omega) (by omega)
    rw [e_savedByM hs g0 (by omega) s0 (by omega) (by rw [r9]; omega) (by rw [r9]; omega) (by rw [r9]; omega) (by rw [r9]; omega) (by rw [r9]; omega) (by rw [r9]; omega) (by rw [r9]; omega) (by rw [r9]; omega), r9, r7]
    unfold szS
    rw [J_toInt]) (m 139 10).toNat 30 0 (J 0) 0 (fun _ => 0) (up m1 136 29 (-1)) (-1, m1 151) (by omega) (by omega) (by omega) (fun _ _ _ _ _ => rfl) (up_at _ _ _ _) (fun i _ _ => by rw [up_a (by decide)]) (fun i i0 i1 => absurd i1 (by omega))
  rw [chS_any hI] at A B
  refine ⟨m', ?_, fun b i u1 u2 u3 => by rw [F b i u1 u2 u3, up_get, if_neg u3], A, fun i i0 i1 => B i i0 (by omega)⟩
  simp only [fq_X11_sends]
  exact D
end SENDF

theorem w_send : LawOb Inv 0 136 152 30 := by
  rintro j P hj ⟨S, m, q, rfl, hs, hR, hI⟩ v1
  obtain ⟨x1, rfl, a1, b1⟩ := J_of v1
  have rm := hR.rm hj
  have hr := hR.1
  obtain ⟨⟨w0, w1, w2⟩, ⟨w3, w4, w5, w6⟩, ⟨v0, v1, v2⟩, l0⟩ := hI.small
  obtain ⟨tap, by0, lot0, ⟨par, hid, prt, sto, gan, wrd, wlk, row, rul, tol, plc, net, dwn⟩, kep⟩ := hI.get
  obtain ⟨gan1, gan2, gan3, gan4⟩ := gan
  by_cases c1 : x1 = -1 ∨ (0 ≤ x1 ∧ x1 < m 139 10)
  · obtain ⟨mc, D, F, A, B⟩ := q_findBestC (q := q) hs hI
    have rc : ∀ b, b ≠ 99 → b ≠ 109 → b ≠ 110 → mc b = m b := fun b u1 u2 u3 => funext fun i => F b i u2 u3 (by omega)
    obtain ⟨mm, D2, F2, A2, B2⟩ := q_sendsM (q := q) (m1 := up mc 136 0 0) (q' := uq q 152 0 (Int32.toInt64 (if x1 = -1 then J (chS (szS m) (m 139 9).toNat (m 139 10).toNat 0 (J 0) 0 (fun _ => 0) (-1, fun _ => 0)).1 else J ((chS (szS m) (m 139 9).toNat (m 139 10).toNat 0 (J 0) 0 (fun _ => 0) (-1, fun _ => 0)).2 x1)))) hs hI ((up_row (by decide)).trans (rc 139 (by decide) (by decide) (by decide))) ((up_row (by decide)).trans (rc 137 (by decide) (by decide) (by decide)))
    have g6 : mc 99 6 = m 99 6 := F 99 6 (by decide) (by decide) (by omega)
    have u9 : (up mc 136 0 0) 139 = m 139 := (up_row (by decide)).trans (rc 139 (by decide) (by decide) (by decide))
    refine ob_send_ok hs (v := (if x1 = -1 then J (chS (szS m) (m 139 9).toNat (m 139 10).toNat 0 (J 0) 0 (fun _ => 0) (-1, fun _ => 0)).1 else J ((chS (szS m) (m 139 9).toNat (m 139 10).toNat 0 (J 0) 0 (fun _ => 0) (-1, fun _ => 0)).2 x1))) (m1 := mc) (q1 := q) (m2 := mm) ?_ ?_ ((F2 136 0 (by decide) (by decide) (by omega)).trans (up_at _ _ _ _)) ⟨_, _, _, rfl, hs, hR.next, hI.free (Grow.rfl' S) hr (fun b i hb => by
      unfold Free at hb
      rw [F2 b i (by omega) (by omega) (by omega), up_get, if_neg (by omega), F b i (by omega) (by omega) (by omega)]) (fun b hb => uq_row (by omega))⟩
    · have T : De (fun n => f_X10_send n 19 [.ref 0, .int (J x1)] (hp S m q)) (.inl (some (.int (if x1 = -1 then J (chS (szS m) (m 139 9).toNat (m 139 10).toNat 0 (J 0) 0 (fun _ => 0) (-1, fun _ => 0)).1 else J ((chS (szS m) (m 139 9).toNat (m 139 10).toNat 0 (J 0) 0 (fun _ => 0) (-1, fun _ => 0)).2 x1))))) (hp S mc q) := by
        refine De.stepk 12 ?_
        simp (disch := omega) only [j_X10_send_19, b_X10_send_19, x0_k hs, x0_r0 hs, x0_r1 hs, x0_r2 hs, x0_r3 hs, x9_k hs, x9_r0 hs, x9_r1 hs, x9_r2 hs, x9_r3 hs, x9_r4 hs, x9_r5 hs, x9_r6 hs, x9_r7 hs, x9_i8 hs, x9_w8 hs, x9_i9 hs, x9_w9 hs, x46_k hs, x46_r0 hs, x46_r1 hs, x46_i2 hs, x46_w2 hs, x46_i3 hs, x46_w3 hs, x46_i4 hs, x46_w4 hs, x46_r5 hs, x46_r6 hs, x46_r7 hs, x46_r8 hs, x46_r9 hs, x46_r10 hs, x46_r11 hs, x46_r12 hs, x46_r13 hs, x46_i14 hs, x46_w14 hs, x46_i15 hs, x46_w15 hs, x46_i16 hs, x46_w16 hs, x99_k hs, x99_r0 hs, x99_r1 hs, x99_r2 hs, x99_r3 hs, x99_r4 hs, x99_i5 hs, x99_w5 hs, x99_i6 hs, x99_w6 hs, x99_i7 hs, x99_w7 hs, v2, Option.bind_some, xI, xU, xUt, xIt, J_lit, J_add, J_sub, J_mul, J_neg, J_ltc, J_lec, J_eqc, lt_T, lt_F, le_T, le_F, eq_T, eq_F, ↓reduceIte, ite_not, not_true_eq_false, not_false_eq_true, true_or, or_true, false_or, or_false, true_and, and_true, false_and, and_false, up_get, Nat.reduceEqDiff, Int.reduceNeg, eqN_T, eqN_F]
        refine De.call (D.sh 11) ?_
        by_cases c : x1 = -1
        · rw [if_pos c]
          simp (disch := omega) only [x0_k hs, x0_r0 hs, x0_r1 hs, x0_r2 hs, x0_r3 hs, x9_k hs, x9_r0 hs, x9_r1 hs, x9_r2 hs, x9_r3 hs, x9_r4 hs, x9_r5 hs, x9_r6 hs, x9_r7 hs, x9_i8 hs, x9_w8 hs, x9_i9 hs, x9_w9 hs, x46_k hs, x46_r0 hs, x46_r1 hs, x46_i2 hs, x46_w2 hs, x46_i3 hs, x46_w3 hs, x46_i4 hs, x46_w4 hs, x46_r5 hs, x46_r6 hs, x46_r7 hs, x46_r8 hs, x46_r9 hs, x46_r10 hs, x46_r11 hs, x46_r12 hs, x46_r13 hs, x46_i14 hs, x46_w14 hs, x46_i15 hs, x46_w15 hs, x46_i16 hs, x46_w16 hs, x99_k hs, x99_r0 hs, x99_r1 hs, x99_r2 hs, x99_r3 hs, x99_r4 hs, x99_i5 hs, x99_w5 hs, x99_i6 hs, x99_w6 hs, x99_i7 hs, x99_w7 hs, A, Option.bind_some, xI, xU, xUt, xIt, J_lit, J_add, J_sub, J_mul, J_neg, J_ltc, J_lec, J_eqc, lt_T, lt_F, le_T, le_F, eq_T, eq_F, ↓reduceIte, ite_not, not_true_eq_false, not_false_eq_true, true_or, or_true, false_or, or_false, true_and, and_true, false_and, and_false, up_get, Nat.reduceEqDiff, Int.reduceNeg, eqN_T, eqN_F]
          exact De.ret _ _
        · rw [if_neg c]
          have := B x1 (by omega) (by omega)
          simp (disch := omega) only [x0_k hs, x0_r0 hs, x0_r1 hs, x0_r2 hs, x0_r3 hs, x9_k hs, x9_r0 hs, x9_r1 hs, x9_r2 hs, x9_r3 hs, x9_r4 hs, x9_r5 hs, x9_r6 hs, x9_r7 hs, x9_i8 hs, x9_w8 hs, x9_i9 hs, x9_w9 hs, x46_k hs, x46_r0 hs, x46_r1 hs, x46_i2 hs, x46_w2 hs, x46_i3 hs, x46_w3 hs, x46_i4 hs, x46_w4 hs, x46_r5 hs, x46_r6 hs, x46_r7 hs, x46_r8 hs, x46_r9 hs, x46_r10 hs, x46_r11 hs, x46_r12 hs, x46_r13 hs, x46_i14 hs, x46_w14 hs, x46_i15 hs, x46_w15 hs, x46_i16 hs, x46_w16 hs, x99_k hs, x99_r0 hs, x99_r1 hs, x99_r2 hs, x99_r3 hs, x99_r4 hs, x99_i5 hs, x99_w5 hs, x99_i6 hs, x99_w6 hs, x99_i7 hs, x99_w7 hs, x110_g hs, x110_s hs, x110_l hs, this, Option.bind_some, xI, xU, xUt, xIt, J_lit, J_add, J_sub, J_mul, J_neg, J_ltc, J_lec, J_eqc, lt_T, lt_F, le_T, le_F, eq_T, eq_F, ↓reduceIte, ite_not, not_true_eq_false, not_false_eq_true, true_or, or_true, false_or, or_false, true_and, and_true, false_and, and_false, up_get, Nat.reduceEqDiff, Int.reduceNeg, eqN_T, eqN_F]
          exact De.ret _ _
      by_cases c : x1 = -1
      · refine De.cg 1 (fun n => ?_) T
        rw [j_X10_send_0]
        simp (disch := omega) only [b_X10_send_0, Option.bind_some, xI, xU, xUt, xIt, J_lit, J_add, J_sub, J_mul, J_neg, J_ltc, J_lec, J_eqc, lt_T, lt_F, le_T, le_F, eq_T, eq_F, ↓reduceIte, ite_not, not_true_eq_false, not_false_eq_true, true_or, or_true, false_or, or_false, true_and, and_true, false_and, and_false, up_get, Nat.reduceEqDiff, Int.reduceNeg, eqN_T, eqN_F]
      · refine De.cg 6 (fun n => ?_) (T.sh 5)
        rw [j_X10_send_0]
        simp (disch := omega) only [b_X10_send_0, x0_k hs, x0_r0 hs, x0_r1 hs, x0_r2 hs, x0_r3 hs, x9_k hs, x9_r0 hs, x9_r1 hs, x9_r2 hs, x9_r3 hs, x9_r4 hs, x9_r5 hs, x9_r6 hs, x9_r7 hs, x9_i8 hs, x9_w8 hs, x9_i9 hs, x9_w9 hs, x99_k hs, x99_r0 hs, x99_r1 hs, x99_r2 hs, x99_r3 hs, x99_r4 hs, x99_i5 hs, x99_w5 hs, x99_i6 hs, x99_w6 hs, x99_i7 hs, x99_w7 hs, e_needIndex_ok, e_needIndex_no rm, e_needPlace_ok, e_needPlace_no rm, e_needWithin_ok, e_needWithin_no rm, e_needSpace_ok, e_needSpace_no rm, e_needPhone hs, e_needWord hs, e_needWhat_ok, e_needWhat_no rm, e_needTickZero hs, tE_hp _ _ _ _ rm.1 rm.2, Option.bind_some, xI, xU, xUt, xIt, J_lit, J_add, J_sub, J_mul, J_neg, J_ltc, J_lec, J_eqc, lt_T, lt_F, le_T, le_F, eq_T, eq_F, ↓reduceIte, ite_not, not_true_eq_false, not_false_eq_true, true_or, or_true, false_or, or_false, true_and, and_true, false_and, and_false, up_get, Nat.reduceEqDiff, Int.reduceNeg, eqN_T, eqN_F]
    · have hx : (up mc 136 0 0) 139 10 = m 139 10 := by rw [u9]
      have T : De (fun n => f_X11_send n 24 [.ref 136, .int (J x1), .ref 136, .int (J 0)] (hp S (up mc 136 0 0) (uq q 152 0 (Int32.toInt64 (if x1 = -1 then J (chS (szS m) (m 139 9).toNat (m 139 10).toNat 0 (J 0) 0 (fun _ => 0) (-1, fun _ => 0)).1 else J ((chS (szS m) (m 139 9).toNat (m 139 10).toNat 0 (J 0) 0 (fun _ => 0) (-1, fun _ => 0)).2 x1)))))) (.inl (some (.int (if x1 = -1 then J (chS (szS m) (m 139 9).toNat (m 139 10).toNat 0 (J 0) 0 (fun _ => 0) (-1, fun _ => 0)).1 else J ((chS (szS m) (m 139 9).toNat (m 139 10).toNat 0 (J 0) 0 (fun _ => 0) (-1, fun _ => 0)).2 x1))))) (hp S mm (uq q 152 0 (Int32.toInt64 (if x1 = -1 then J (chS (szS m) (m 139 9).toNat (m 139 10).toNat 0 (J 0) 0 (fun _ => 0) (-1, fun _ => 0)).1 else J ((chS (szS m) (m 139 9).toNat (m 139 10).toNat 0 (J 0) 0 (fun _ => 0) (-1, fun _ => 0)).2 x1))))) := by
        refine De.stepk 12 ?_
        simp (disch := omega) only [j_X11_send_24, b_X11_send_24, x136_k hs, x136_i0 hs, x136_w0 hs, x136_r1 hs, x136_r2 hs, x136_r3 hs, x136_r4 hs, x136_i5 hs, x136_w5 hs, x136_i6 hs, x136_w6 hs, x136_i7 hs, x136_w7 hs, x136_r8 hs, x136_i9 hs, x136_w9 hs, x136_i10 hs, x136_w10 hs, x136_i11 hs, x136_w11 hs, x136_i12 hs, x136_w12 hs, x136_i13 hs, x136_w13 hs, x136_i14 hs, x136_w14 hs, x136_r15 hs, x136_i16 hs, x136_w16 hs, x136_r17 hs, x136_r18 hs, x136_r19 hs, x136_r20 hs, x136_r21 hs, x136_i22 hs, x136_w22 hs, x136_r23 hs, x136_r24 hs, x136_i25 hs, x136_w25 hs, x136_i26 hs, x136_w26 hs, x136_r27 hs, x136_r28 hs, x136_i29 hs, x136_w29 hs, e_in_T, e_in_F, e_throws0 hs, e_throws1 hs, e_noPlace_ok, e_noPlace_no, e_noPerson_ok, e_noPerson_no, e_noPhone hs, e_noWord hs, e_noGang hs, e_tick hs, e_phones hs, e_words hs, e_of hs, e_toldOf hs, e_copyAt, e_phoneAt, e_hadAt, e_ruleAt, e_lineAt, Option.bind_some, xI, xU, J_lit, J_neg, J_eqc, eq_T, eq_F, ↓reduceIte, ite_not, not_true_eq_false, not_false_eq_true, Int.reduceNeg]
        refine De.call (D2.sh 11) ?_
        by_cases c : x1 = -1
        · rw [if_pos c]
          simp (disch := omega) only [x136_k hs, x136_i0 hs, x136_w0 hs, x136_r1 hs, x136_r2 hs, x136_r3 hs, x136_r4 hs, x136_i5 hs, x136_w5 hs, x136_i6 hs, x136_w6 hs, x136_i7 hs, x136_w7 hs, x136_r8 hs, x136_i9 hs, x136_w9 hs, x136_i10 hs, x136_w10 hs, x136_i11 hs, x136_w11 hs, x136_i12 hs, x136_w12 hs, x136_i13 hs, x136_w13 hs, x136_i14 hs, x136_w14 hs, x136_r15 hs, x136_i16 hs, x136_w16 hs, x136_r17 hs, x136_r18 hs, x136_r19 hs, x136_r20 hs, x136_r21 hs, x136_i22 hs, x136_w22 hs, x136_r23 hs, x136_r24 hs, x136_i25 hs, x136_w25 hs, x136_i26 hs, x136_w26 hs, x136_r27 hs, x136_r28 hs, x136_i29 hs, x136_w29 hs, A2, Option.bind_some, xI, xU, xUt, xIt, J_lit, J_add, J_sub, J_mul, J_neg, J_ltc, J_lec, J_eqc, lt_T, lt_F, le_T, le_F, eq_T, eq_F, ↓reduceIte, ite_not, not_true_eq_false, not_false_eq_true, true_or, or_true, false_or, or_false, true_and, and_true, false_and, and_false, up_get, Nat.reduceEqDiff, Int.reduceNeg, eqN_T, eqN_F]
          exact De.ret _ _
        · rw [if_neg c]
          have := B2 x1 (by omega) (by omega)
          simp (disch := omega) only [x136_k hs, x136_i0 hs, x136_w0 hs, x136_r1 hs, x136_r2 hs, x136_r3 hs, x136_r4 hs, x136_i5 hs, x136_w5 hs, x136_i6 hs, x136_w6 hs, x136_i7 hs, x136_w7 hs, x136_r8 hs, x136_i9 hs, x136_w9 hs, x136_i10 hs, x136_w10 hs, x136_i11 hs, x136_w11 hs, x136_i12 hs, x136_w12 hs, x136_i13 hs, x136_w13 hs, x136_i14 hs, x136_w14 hs, x136_r15 hs, x136_i16 hs, x136_w16 hs, x136_r17 hs, x136_r18 hs, x136_r19 hs, x136_r20 hs, x136_r21 hs, x136_i22 hs, x136_w22 hs, x136_r23 hs, x136_r24 hs, x136_i25 hs, x136_w25 hs, x136_i26 hs, x136_w26 hs, x136_r27 hs, x136_r28 hs, x136_i29 hs, x136_w29 hs, x151_g hs, x151_s hs, x151_l hs, this, Option.bind_some, xI, xU, xUt, xIt, J_lit, J_add, J_sub, J_mul, J_neg, J_ltc, J_lec, J_eqc, lt_T, lt_F, le_T, le_F, eq_T, eq_F, ↓reduceIte, ite_not, not_true_eq_false, not_false_eq_true, true_or, or_true, false_or, or_false, true_and, and_true, false_and, and_false, up_get, Nat.reduceEqDiff, Int.reduceNeg, eqN_T, eqN_F]
          exact De.ret _ _
      by_cases c : x1 = -1
      · refine De.cg 1 (fun n => ?_) T
        rw [j_X11_send_0]
        simp (disch := omega) only [b_X11_send_0, x136_k hs, x136_i0 hs, x136_w0 hs, x136_r1 hs, x136_r2 hs, x136_r3 hs, x136_r4 hs, x136_i5 hs, x136_w5 hs, x136_i6 hs, x136_w6 hs, x136_i7 hs, x136_w7 hs, x136_r8 hs, x136_i9 hs, x136_w9 hs, x136_i10 hs, x136_w10 hs, x136_i11 hs, x136_w11 hs, x136_i12 hs, x136_w12 hs, x136_i13 hs, x136_w13 hs, x136_i14 hs, x136_w14 hs, x136_r15 hs, x136_i16 hs, x136_w16 hs, x136_r17 hs, x136_r18 hs, x136_r19 hs, x136_r20 hs, x136_r21 hs, x136_i22 hs, x136_w22 hs, x136_r23 hs, x136_r24 hs, x136_i25 hs, x136_w25 hs, x136_i26 hs, x136_w26 hs, x136_r27 hs, x136_r28 hs, x136_i29 hs, x136_w29 hs, Option.bind_some, xI, xU, J_lit, J_neg, J_eqc, eq_T, eq_F, ↓reduceIte, ite_not, not_true_eq_false, not_false_eq_true, Int.reduceNeg]
      · refine De.cg 6 (fun n => ?_) (T.sh 5)
        rw [j_X11_send_0]
        simp (disch := omega) only [b_X11_send_0, x136_k hs, x136_i0 hs, x136_w0 hs, x136_r1 hs, x136_r2 hs, x136_r3 hs, x136_r4 hs, x136_i5 hs, x136_w5 hs, x136_i6 hs, x136_w6 hs, x136_i7 hs, x136_w7 hs, x136_r8 hs, x136_i9 hs, x136_w9 hs, x136_i10 hs, x136_w10 hs, x136_i11 hs, x136_w11 hs, x136_i12 hs, x136_w12 hs, x136_i13 hs, x136_w13 hs, x136_i14 hs, x136_w14 hs, x136_r15 hs, x136_i16 hs, x136_w16 hs, x136_r17 hs, x136_r18 hs, x136_r19 hs, x136_r20 hs, x136_r21 hs, x136_i22 hs, x136_w22 hs, x136_r23 hs, x136_r24 hs, x136_i25 hs, x136_w25 hs, x136_i26 hs, x136_w26 hs, x136_r27 hs, x136_r28 hs, x136_i29 hs, x136_w29 hs, e_in_T, e_in_F, e_throws0 hs, e_throws1 hs, e_noPlace_ok, e_noPlace_no, e_noPerson_ok, e_noPerson_no, e_noPhone hs, e_noWord hs, e_noGang hs, e_tick hs, e_phones hs, e_words hs, e_of hs, e_toldOf hs, e_copyAt, e_phoneAt, e_hadAt, e_ruleAt, e_lineAt, hx, Option.bind_some, xI, xU, J_lit, J_neg, J_eqc, eq_T, eq_F, ↓reduceIte, ite_not, not_true_eq_false, not_false_eq_true, Int.reduceNeg]
  · have hs2 : Sk (xth S 0) := hs.grow (Grow.th S 0) hr
    exact ob_send_t0 hs hr (m1 := m) (q1 := q) (m2 := up (up m 136 0 0) 136 0 1) (b := J 0) (De.eq 12 (fun n => by
      simp (disch := omega) only [j_X10_send_0, b_X10_send_0, x0_k hs, x0_r0 hs, x0_r1 hs, x0_r2 hs, x0_r3 hs, x9_k hs, x9_r0 hs, x9_r1 hs, x9_r2 hs, x9_r3 hs, x9_r4 hs, x9_r5 hs, x9_r6 hs, x9_r7 hs, x9_i8 hs, x9_w8 hs, x9_i9 hs, x9_w9 hs, x99_k hs, x99_r0 hs, x99_r1 hs, x99_r2 hs, x99_r3 hs, x99_r4 hs, x99_i5 hs, x99_w5 hs, x99_i6 hs, x99_w6 hs, x99_i7 hs, x99_w7 hs, e_needIndex_ok, e_needIndex_no rm, e_needPlace_ok, e_needPlace_no rm, e_needWithin_ok, e_needWithin_no rm, e_needSpace_ok, e_needSpace_no rm, e_needPhone hs, e_needWord hs, e_needWhat_ok, e_needWhat_no rm, e_needTickZero hs, tE_hp _ _ _ _ rm.1 rm.2, Option.bind_some, xI, xU, xUt, xIt, J_lit, J_add, J_sub, J_mul, J_neg, J_lt, J_le, J_eq, lt_T, lt_F, le_T, le_F, eq_T, eq_F, ↓reduceIte, ite_not, not_true_eq_false, not_false_eq_true, true_or, or_true, false_or, or_false, true_and, and_true, false_and, and_false, up_get, Nat.reduceEqDiff, Int.reduceNeg]
      try simp (disch := omega) only [j_X10_send_19, b_X10_send_19, x0_k hs, x0_r0 hs, x0_r1 hs, x0_r2 hs, x0_r3 hs, x9_k hs, x9_r0 hs, x9_r1 hs, x9_r2 hs, x9_r3 hs, x9_r4 hs, x9_r5 hs, x9_r6 hs, x9_r7 hs, x9_i8 hs, x9_w8 hs, x9_i9 hs, x9_w9 hs, x99_k hs, x99_r0 hs, x99_r1 hs, x99_r2 hs, x99_r3 hs, x99_r4 hs, x99_i5 hs, x99_w5 hs, x99_i6 hs, x99_w6 hs, x99_i7 hs, x99_w7 hs, e_needIndex_ok, e_needIndex_no rm, e_needPlace_ok, e_needPlace_no rm, e_needWithin_ok, e_needWithin_no rm, e_needSpace_ok, e_needSpace_no rm, e_needPhone hs, e_needWord hs, e_needWhat_ok, e_needWhat_no rm, e_needTickZero hs, tE_hp _ _ _ _ rm.1 rm.2, Option.bind_some, xI, xU, xUt, xIt, J_lit, J_add, J_sub, J_mul, J_neg, J_lt, J_le, J_eq, lt_T, lt_F, le_T, le_F, eq_T, eq_F, ↓reduceIte, ite_not, not_true_eq_false, not_false_eq_true, true_or, or_true, false_or, or_false, true_and, and_true, false_and, and_false, up_get, Nat.reduceEqDiff, Int.reduceNeg])) (De.eq 12 (fun n => by
      simp (disch := omega) only [j_X11_send_0, b_X11_send_0, x136_k hs2, x136_i0 hs2, x136_w0 hs2, x136_r1 hs2, x136_r2 hs2, x136_r3 hs2, x136_r4 hs2, x136_i5 hs2, x136_w5 hs2, x136_i6 hs2, x136_w6 hs2, x136_i7 hs2, x136_w7 hs2, x136_r8 hs2, x136_i9 hs2, x136_w9 hs2, x136_i10 hs2, x136_w10 hs2, x136_i11 hs2, x136_w11 hs2, x136_i12 hs2, x136_w12 hs2, x136_i13 hs2, x136_w13 hs2, x136_i14 hs2, x136_w14 hs2, x136_r15 hs2, x136_i16 hs2, x136_w16 hs2, x136_r17 hs2, x136_r18 hs2, x136_r19 hs2, x136_r20 hs2, x136_r21 hs2, x136_i22 hs2, x136_w22 hs2, x136_r23 hs2, x136_r24 hs2, x136_i25 hs2, x136_w25 hs2, x136_i26 hs2, x136_w26 hs2, x136_r27 hs2, x136_r28 hs2, x136_i29 hs2, x136_w29 hs2, x139_g hs2, x139_s hs2, x139_l hs2, e_in_T, e_in_F, e_throws0 hs2, e_throws1 hs2, e_noPlace_ok, e_noPlace_no, e_noPerson_ok, e_noPerson_no, e_noPhone hs2, e_noWord hs2, e_noGang hs2, e_tick hs2, e_phones hs2, e_words hs2, e_of hs2, e_toldOf hs2, e_copyAt, e_phoneAt, e_hadAt, e_ruleAt, e_lineAt, Option.bind_some, xI, xU, xUt, xIt, J_lit, J_add, J_sub, J_mul, J_neg, J_lt, J_le, J_eq, lt_T, lt_F, le_T, le_F, eq_T, eq_F, ↓reduceIte, ite_not, not_true_eq_false, not_false_eq_true, true_or, or_true, false_or, or_false, true_and, and_true, false_and, and_false, up_get, Nat.reduceEqDiff, Int.reduceNeg]
      try simp (disch := omega) only [j_X11_send_24, b_X11_send_24, x136_k hs2, x136_i0 hs2, x136_w0 hs2, x136_r1 hs2, x136_r2 hs2, x136_r3 hs2, x136_r4 hs2, x136_i5 hs2, x136_w5 hs2, x136_i6 hs2, x136_w6 hs2, x136_i7 hs2, x136_w7 hs2, x136_r8 hs2, x136_i9 hs2, x136_w9 hs2, x136_i10 hs2, x136_w10 hs2, x136_i11 hs2, x136_w11 hs2, x136_i12 hs2, x136_w12 hs2, x136_i13 hs2, x136_w13 hs2, x136_i14 hs2, x136_w14 hs2, x136_r15 hs2, x136_i16 hs2, x136_w16 hs2, x136_r17 hs2, x136_r18 hs2, x136_r19 hs2, x136_r20 hs2, x136_r21 hs2, x136_i22 hs2, x136_w22 hs2, x136_r23 hs2, x136_r24 hs2, x136_i25 hs2, x136_w25 hs2, x136_i26 hs2, x136_w26 hs2, x136_r27 hs2, x136_r28 hs2, x136_i29 hs2, x136_w29 hs2, x139_g hs2, x139_s hs2, x139_l hs2, e_in_T, e_in_F, e_throws0 hs2, e_throws1 hs2, e_noPlace_ok, e_noPlace_no, e_noPerson_ok, e_noPerson_no, e_noPhone hs2, e_noWord hs2, e_noGang hs2, e_tick hs2, e_phones hs2, e_words hs2, e_of hs2, e_toldOf hs2, e_copyAt, e_phoneAt, e_hadAt, e_ruleAt, e_lineAt, Option.bind_some, xI, xU, xUt, xIt, J_lit, J_add, J_sub, J_mul, J_neg, J_lt, J_le, J_eq, lt_T, lt_F, le_T, le_F, eq_T, eq_F, ↓reduceIte, ite_not, not_true_eq_false, not_false_eq_true, true_or, or_true, false_or, or_false, true_and, and_true, false_and, and_false, up_get, Nat.reduceEqDiff, Int.reduceNeg])) (up_at _ _ _ _) (Inv.thr hI hs hR 0 1)
