/-! the class looks at a copy -/
theorem J_shl1' {p : Int} (p0 : 0 ≤ p) (p1 : p < 31) : J 1 <<< (J p &&& J 31) = J ((2 ^ p.toNat : Nat) : Int) := by rw [J_shl1 p0 p1, J_nI]
theorem e_cell (n : Nat) (p x : Int) (P : xH) : f_X1_cell (n + 1) 0 [.int (J p), .int (J x)] P = some (.inl (some (.int (J (30 * p + x)))), P) := by
  simp only [j_X1_cell_0, b_X1_cell_0, J_lit, J_mul, J_add, Int.mul_comm p 30]
/-- the words of the class, by the reference's numbers -/
def WrdC (m : Nat → Int → Int) (w : Int → Int) : Prop := m 16 3 = w 1 ∧ (∀ x : Int, 0 ≤ x → x < w 1 → m 18 x = w (761 + 10 * x + 0) ∧ m 19 x = w (761 + 10 * x + 1) ∧ m 20 x = w (761 + 10 * x + 2) ∧ m 21 x = w (761 + 10 * x + 3) ∧ m 25 x = w (761 + 10 * x + 7) ∧ m 26 x = w (761 + 10 * x + 8)) ∧ ∀ x : Int, 0 ≤ x → x < 30 → 0 ≤ m 27 x ∧ m 27 x < 1073741824 ∧ ∀ u : Int, 0 ≤ u → u < 30 → ((m 27 x).toNat.testBit u.toNat = true ↔ u < w 1 ∧ w (761 + 10 * u + 8) = x)
theorem WrdC.cg {m m' : Nat → Int → Int} {w : Int → Int} (h : WrdC m w) (e : ∀ b i, 16 ≤ b → b ≤ 28 → m' b i = m b i) : WrdC m' w := by
  unfold WrdC at *
  rw [e 16 3 (by omega) (by omega)]
  simp only [e 18 _ (by omega) (by omega), e 19 _ (by omega) (by omega), e 20 _ (by omega) (by omega), e 21 _ (by omega) (by omega), e 25 _ (by omega) (by omega), e 26 _ (by omega) (by omega), e 27 _ (by omega) (by omega)]
  exact h
theorem InvM.wrdC {S : xH} {m : Nat → Int → Int} {q : Nat → Int → Int64} (h : InvM S m q) : WrdC m (m 139) := by
  have hw := h.word
  obtain ⟨tap, by0, lot0, ⟨par, hid, prt, sto, gan, wrd, wlk, row, rul, tol, plc, net, dwn⟩, kep⟩ := h.get
  refine ⟨wrd.1, fun x x0 x1 => ?_, wrd.2.2.2.2.2.2.2⟩
  obtain ⟨⟨f0, f1, f2, f3, f4, f5, f6, f7, f8, f9⟩, -⟩ := hw x x0 x1
  exact ⟨f0, f1, f2, f3, f7, f8⟩
def NetC (m : Nat → Int → Int) (q : Nat → Int → Int64) (a : Nat) (told : Int) (w v : Int → Int) : Prop := Rnet (fun o => m (a + o)) (fun o => q (a + o)) told w v
def ldF (m : Nat → Int → Int) (a r : Nat) (p x : Int) : Nat → Int → Int := up (up (up (up (up (up m r 7 ((2 ^ (m 18 x).toNat : Nat) : Int)) (r + 5) 0 (m a 2 - m 20 x)) (r + 5) 1 (m (a + 12) (30 * p + x))) (r + 5) 2 (m (a + 17) x)) (r + 5) 3 (m (a + 3) p)) (r + 5) 4 (m (a + 11) (30 * p + x))
theorem ldF_out {m : Nat → Int → Int} {a r b : Nat} {p x i : Int} (h1 : b ≠ r + 5) (h2 : ¬ (b = r ∧ i = 7)) : ldF m a r p x b i = m b i := by
  unfold ldF
  rw [up_a h1, up_a h1, up_a h1, up_a h1, up_a h1, up_get, if_neg h2]
section LOAD
variable {S : xH} {m : Nat → Int → Int} {q : Nat → Int → Int64} {a r : Nat} {told p x : Int} {w v g : Int → Int}
theorem e_load (hs : Sk S) (hn : NetS S a 16 r) (hr : RulS S r) (r16 : r + 6 ≤ 16) (a46 : 46 ≤ a) (p0 : 0 ≤ p) (p1 : p < 10) (x0 : 0 ≤ x) (x1 : x < 30) (k0 : 0 ≤ m 18 x) (k1 : m 18 x < 31) (n : Nat) : f_X1_loadFacts (n + 2) 0 [.ref a, .int (J p), .int (J x)] (hp S m q) = some (.inl none, hp S (ldF m a r p x) q) := by
  rw [j_X1_loadFacts_0]
  unfold b_X1_loadFacts_0 ldF
  rw [if_pos (by rw [kJ1, J_neg, J_eqc (by omega)]; omega), e_cell, Option.bind_some]
  show (rA (hp S m q) a 1 1).bind _ = _
  simp (disch := omega) only [x16_k hs, x16_r0 hs, x16_r1 hs, x16_r2 hs, x16_i3 hs, x16_w3 hs, x17_m0 hs, x17_m1 hs, x17_m2 hs, x17_m3 hs, x17_m4 hs, x17_m5 hs, x17_m6 hs, x17_m7 hs, x17_m8 hs, x17_l hs, x18_g hs, x18_s hs, x18_l hs, x20_g hs, x20_s hs, x20_l hs, Net0_r0 hn, Net0_r1 hn, Net0_i2 hn, Net0_r5 hn, Net0_r6 hn, Net0_r9 hn, Net1_m1 hn, Net3_g hn, Net10_m0 hn, Net10_m1 hn, Net11_g hn, Net12_g hn, Net17_g hn, Rul0_w7 hr, Rul0_r6 hr, Rul5_s hr, J_shl1', J_lit, J_sub, Option.bind_some, up_a, ne_eq]
theorem ld_facts (W : Wok w) (WC : WrdC m w) (NC : NetC m q a told w v) (r16 : r + 6 ≤ 16) (a46 : 46 ≤ a) (p0 : 0 ≤ p) (p1 : p < w 0) (x0 : 0 ≤ x) (x1 : x < told) (h : v (51 + 7 * (30 * p + x) + 0) = 1) : FacC (ldF m a r p x) r (tgN w x) (fcV w v p x) := by
  have V := NC.vok
  have t0 := V.1
  have tw := W.1.2.1
  have w1 := W.2.1
  obtain ⟨n1, n2, n3, n4, n5, n6⟩ := NC
  obtain ⟨⟨c1, c2, c3, c4, c5, c6, c7⟩, c8⟩ := n2 p p0 p1
  obtain ⟨b1, b2, b3, b4⟩ := (n4 p x p0 (by omega) x0 (by omega)).2 h
  obtain ⟨d1, -⟩ := n5 x x0 (by omega)
  obtain ⟨f0, f1, f2, -⟩ := WC.2.1 x x0 (by omega)
  have sp : cntp v x 10 = cntp v x (w 0).toNat := by
    have e := cntp_stop (v := v) (x := x) (w 0).toNat (10 - (w 0).toNat) (fun p p0 p1 z => by
      have := ((n4 p x (by omega) (by omega) x0 (by omega)).2 z).1
      omega)
    rwa [show (w 0).toNat + (10 - (w 0).toNat) = 10 by omega] at e
  refine ⟨fun i i0 i1 => ?_, ?_, tgN_lt W x0 (by omega), fcV_ok W V p0 (by omega) x0 (by omega) h⟩
  · unfold ldF fcV
    simp only [up_get, true_and]
    by_cases e0 : i = 0
    · rw [if_neg (by omega), if_neg (by omega), if_neg (by omega), if_neg (by omega), if_pos e0, if_pos e0, f2]
      exact congrArg (fun z => z - _) n1.2.1
    · by_cases e1 : i = 1
      · rw [if_neg (by omega), if_neg (by omega), if_neg (by omega), if_pos e1, if_neg e0, if_pos e1]
        exact b2.2.1
      · by_cases e2 : i = 2
        · rw [if_neg (by omega), if_neg (by omega), if_pos e2, if_neg e0, if_neg e1, if_pos e2]
          exact d1.trans sp
        · by_cases e3 : i = 3
          · rw [if_neg (by omega), if_pos e3, if_neg e0, if_neg e1, if_neg e2, if_pos e3]
            exact c2
          · rw [if_pos (by omega), if_neg e0, if_neg e1, if_neg e2, if_neg e3]
            exact b2.1
  · unfold ldF tgN
    rw [up_a (by omega), up_a (by omega), up_a (by omega), up_a (by omega), up_a (by omega), up_at, f0]
theorem RulC.cg {m m' : Nat → Int → Int} (h : RulC m r g) (e1 : m' r 3 = m r 3) (e2 : m' r 5 = m r 5) (e3 : ∀ b i, r < b → b < r + 5 → m' b i = m b i) : RulC m' r g := by
  unfold RulC at *
  rw [e1, e2, show m' (r + 1) = m (r + 1) from funext fun i => e3 _ i (by omega) (by omega), show m' (r + 2) = m (r + 2) from funext fun i => e3 _ i (by omega) (by omega), show m' (r + 3) = m (r + 3) from funext fun i => e3 _ i (by omega) (by omega), show m' (r + 4) = m (r + 4) from funext fun i => e3 _ i (by omega) (by omega)]
  exact h
theorem RulC.ld (h : RulC m r g) : RulC (ldF m a r p x) r g := h.cg (ldF_out (by omega) (by omega)) (ldF_out (by omega) (by omega)) (fun b i b0 b1 => ldF_out (by omega) (by omega))
/-- the class's mark of a copy -/
theorem q_mrkC (hs : Sk S) (hn : NetS S a 16 r) (hr : RulS S r) (r16 : r + 6 ≤ 16) (a46 : 46 ≤ a) (W : Wok w) (WC : WrdC m w) (NC : NetC m q a told w v) (R : RulC m r g) (p0 : 0 ≤ p) (p1 : p < w 0) (x0 : 0 ≤ x) (x1 : x < told) (h : v (51 + 7 * (30 * p + x) + 0) = 1) : (∀ n, f_X1_loadFacts (n + 2) 0 [.ref a, .int (J p), .int (J x)] (hp S m q) = some (.inl none, hp S (ldF m a r p x) q)) ∧ De (fun n => f_X5_mark n 0 [.ref r] (hp S (ldF m a r p x) q)) (.inl (some (.int (J (mrk w v g p x))))) (hp S (ldF m a r p x) q) ∧ De (fun n => f_X5_lets n 0 [.ref r] (hp S (ldF m a r p x) q)) (.inl (some (.int (J (if lts w v g p x = true then 1 else 0))))) (hp S (ldF m a r p x) q) := by
  have V := NC.vok
  have t0 := V.1
  have tw := W.1.2.1
  have w1 := W.2.1
  have k := (W.2.2 x x0 (by omega)).1
  obtain ⟨f0, -⟩ := WC.2.1 x x0 (by omega)
  have F := ld_facts (q := q) W WC NC r16 a46 p0 p1 x0 x1 h
  refine ⟨fun n => e_load hs hn hr r16 a46 p0 (by omega) x0 (by omega) (by omega) (by omega) n, q_markC hr R.ld F, ?_⟩
  have Q := q_letsC (q := q) hr (R.ld (a := a) (p := p) (x := x)) F
  have f1 : fcV w v p x 1 = v (51 + 7 * (30 * p + x) + 2) := rfl
  have e : (if fcV w v p x 1 < 12 ∧ (anS g (tgN w x) (fcV w v p x) 1 (g 0).toNat || !kdS g 1 (g 0).toNat) = true then (1 : Int) else 0) = if lts w v g p x = true then 1 else 0 := by
    unfold lts
    rw [f1]
    by_cases c : v (51 + 7 * (30 * p + x) + 2) < 12
    · simp only [c, true_and, decide_true, Bool.true_and]
    · simp only [c, false_and, decide_false, Bool.false_and, Bool.false_eq_true]
  rw [e] at Q
  exact Q
end LOAD
