/-! the best of all offers: the class's two loops and the reference's one -/
def Bst (A B : Nat → Bool) (ka kb : Nat → Int) (N M : Nat) (w m : Int) : Prop := (w = -1 ∧ (∀ x, x < N → A x = false) ∧ ∀ x, x < M → B x = false) ∨ ∃ y : Nat, w = y ∧ ((A y = true ∧ y < N ∧ m = ka y) ∨ (B y = true ∧ y < M ∧ m = kb y)) ∧ (∀ x, x < N → A x = true → ka x < m ∨ (ka x = m ∧ y ≤ x)) ∧ ∀ x, x < M → B x = true → kb x < m ∨ (kb x = m ∧ y ≤ x)
section BST
variable {A B : Nat → Bool} {ka kb : Nat → Int} {N M : Nat} {w m w' m' : Int}
theorem Bst.swap (h : Bst A B ka kb N M w m) : Bst B A kb ka M N w m := by
  rcases h with ⟨h1, h2, h3⟩ | ⟨y, h1, h2, h3, h4⟩
  · exact Or.inl ⟨h1, h3, h2⟩
  · exact Or.inr ⟨y, h1, h2.symm, h4, h3⟩
theorem Bst.no (h : Bst A B ka kb N M w m) (hA : A N = true → ¬ (w = -1 ∨ m < ka N ∨ (ka N = m ∧ (N : Int) < w))) : Bst A B ka kb (N + 1) M w m := by
  rcases h with ⟨h1, h2, h3⟩ | ⟨y, h1, h2, h3, h4⟩
  · refine Or.inl ⟨h1, fun x hx => ?_, h3⟩
    by_cases c : x = N
    · rw [c]
      by_cases d : A N = true
      · exact absurd (Or.inl h1) (hA d)
      · exact Bool.eq_false_iff.mpr d
    · exact h2 x (by omega)
  · refine Or.inr ⟨y, h1, ?_, fun x hx hx2 => ?_, h4⟩
    · rcases h2 with ⟨a, b, c⟩ | ⟨a, b, c⟩
      · exact Or.inl ⟨a, by omega, c⟩
      · exact Or.inr ⟨a, b, c⟩
    · by_cases c : x = N
      · rw [c] at hx2 ⊢
        have := hA hx2
        omega
      · exact h3 x (by omega) hx2
theorem Bst.yes (h : Bst A B ka kb N M w m) (hA : A N = true) (hc : w = -1 ∨ m < ka N ∨ (ka N = m ∧ (N : Int) < w)) : Bst A B ka kb (N + 1) M N (ka N) := by
  refine Or.inr ⟨N, rfl, Or.inl ⟨hA, by omega, rfl⟩, ?_, ?_⟩
  · intro x hx hx2
    by_cases c : x = N
    · rw [c]
      omega
    · rcases h with ⟨h1, h2, h3⟩ | ⟨y, h1, h2, h3, h4⟩
      · rw [h2 x (by omega)] at hx2
        exact absurd hx2 (by decide)
      · have := h3 x (by omega) hx2
        omega
  · intro x hx hx2
    rcases h with ⟨h1, h2, h3⟩ | ⟨y, h1, h2, h3, h4⟩
    · rw [h3 x hx] at hx2
      exact absurd hx2 (by decide)
    · have := h4 x hx hx2
      omega
theorem Bst.uniq (h : Bst A B ka kb N M w m) (h' : Bst A B ka kb N M w' m') : w = w' := by
  have key : ∀ {w m w' m' : Int}, Bst A B ka kb N M w m → Bst A B ka kb N M w' m' → (w = -1 ∧ w' = -1) ∨ (∃ y y' : Nat, w = y ∧ w' = y' ∧ (m < m' ∨ (m = m' ∧ y' ≤ y))) := by
    intro w m w' m' h h'
    rcases h with ⟨h1, h2, h3⟩ | ⟨y, h1, h2, h3, h4⟩
    · rcases h' with ⟨g1, g2, g3⟩ | ⟨y', g1, g2, g3, g4⟩
      · exact Or.inl ⟨h1, g1⟩
      · exfalso
        rcases g2 with ⟨a, b, -⟩ | ⟨a, b, -⟩
        · rw [h2 y' b] at a
          exact absurd a (by decide)
        · rw [h3 y' b] at a
          exact absurd a (by decide)
    · rcases h' with ⟨g1, g2, g3⟩ | ⟨y', g1, g2, g3, g4⟩
      · exfalso
        rcases h2 with ⟨a, b, -⟩ | ⟨a, b, -⟩
        · rw [g2 y b] at a
          exact absurd a (by decide)
        · rw [g3 y b] at a
          exact absurd a (by decide)
      · refine Or.inr ⟨y, y', h1, g1, ?_⟩
        rcases h2 with ⟨a, b, c⟩ | ⟨a, b, c⟩
        · rw [c]
          exact g3 y b a
        · rw [c]
          exact g4 y b a
  rcases key h h' with ⟨a, b⟩ | ⟨y, y', a, b, c⟩
  · rw [a, b]
  · rcases key h' h with ⟨a', b'⟩ | ⟨z, z', a', b', c'⟩
    · rw [a', b']
    · omega
end BST
def rfS (w v g : Int → Int) (pa pb : Int) (da db : Nat) : Nat → Int × Int
  | 0 => (-1, 0)
  | n + 1 => if (if v (51 + 7 * (30 * pa + n) + 0) = 1 then ctS w v g pa pb db n else ctS w v g pb pa da n) = true then (if (rfS w v g pa pb da db n).1 < 0 ∨ (rfS w v g pa pb da db n).2 < mrk w v g (if v (51 + 7 * (30 * pa + n) + 0) = 1 then pa else pb) n then ((n : Int), mrk w v g (if v (51 + 7 * (30 * pa + n) + 0) = 1 then pa else pb) n) else rfS w v g pa pb da db n) else rfS w v g pa pb da db n
section RFS
variable {w v g : Int → Int} {pa pb : Int} {da db d : Nat} {st : Int × Int × Int}
theorem ctS_1 {gi ta x : Int} (h : ctS w v g gi ta d x = true) : v (51 + 7 * (30 * gi + x) + 0) = 1 ∧ v (51 + 7 * (30 * ta + x) + 0) = 0 ∧ lts w v g gi x = true := by
  unfold ctS at h
  simp only [Bool.and_eq_true, decide_eq_true_eq] at h
  exact ⟨h.1, h.2.1, h.2.2.2.1⟩
theorem obS_1 (h : st.1 = -1) : ∀ n : Nat, Bst (fun x => ctS w v g pa pb db x) (fun x => ctS w v g pb pa da x) (fun x => mrk w v g pa x) (fun x => mrk w v g pb x) n 0 (obS w v g pa pb db st n).1 (obS w v g pa pb db st n).2.1
  | 0 => Or.inl ⟨h, fun x hx => absurd hx (by omega), fun x hx => absurd hx (by omega)⟩
  | n + 1 => by
    have ih := obS_1 h n
    rw [obS]
    split
    · rename_i c
      exact ih.yes c.1 c.2
    · rename_i c
      exact ih.no (fun a b => c ⟨a, b⟩)
theorem obS_2 (h : Bst (fun x => ctS w v g pa pb db x) (fun x => ctS w v g pb pa da x) (fun x => mrk w v g pa x) (fun x => mrk w v g pb x) 30 0 st.1 st.2.1) : ∀ n : Nat, Bst (fun x => ctS w v g pa pb db x) (fun x => ctS w v g pb pa da x) (fun x => mrk w v g pa x) (fun x => mrk w v g pb x) 30 n (obS w v g pb pa da st n).1 (obS w v g pb pa da st n).2.1
  | 0 => h
  | n + 1 => by
    have ih := obS_2 h n
    rw [obS]
    split
    · rename_i c
      exact (ih.swap.yes c.1 c.2).swap
    · rename_i c
      exact (ih.swap.no (fun a b => c ⟨a, b⟩)).swap
theorem rfS_lt : ∀ n : Nat, -1 ≤ (rfS w v g pa pb da db n).1 ∧ (rfS w v g pa pb da db n).1 < n
  | 0 => ⟨by simp [rfS], by simp [rfS]⟩
  | n + 1 => by
    have ih := rfS_lt n
    have key : ∀ (c1 c2 : Prop) [Decidable c1] [Decidable c2] (k : Int), -1 ≤ (if c1 then (if c2 then ((n : Int), k) else rfS w v g pa pb da db n) else rfS w v g pa pb da db n).1 ∧ (if c1 then (if c2 then ((n : Int), k) else rfS w v g pa pb da db n) else rfS w v g pa pb da db n).1 < ((n + 1 : Nat) : Int) := by
      intro c1 c2 _ _ k
      by_cases h1 : c1
      · by_cases h2 : c2
        · simp only [h1, h2, if_true]
          omega
        · simp only [h1, h2, if_true, if_false]
          omega
      · simp only [h1, if_false]
        omega
    rw [rfS]
    exact key _ _ _
theorem rfS_b : ∀ n : Nat, Bst (fun x => ctS w v g pa pb db x) (fun x => ctS w v g pb pa da x) (fun x => mrk w v g pa x) (fun x => mrk w v g pb x) n n (rfS w v g pa pb da db n).1 (rfS w v g pa pb da db n).2
  | 0 => Or.inl ⟨rfl, fun x hx => absurd hx (by omega), fun x hx => absurd hx (by omega)⟩
  | n + 1 => by
    have ih := rfS_b n
    have lt := rfS_lt (w := w) (v := v) (g := g) (pa := pa) (pb := pb) (da := da) (db := db) n
    rw [rfS]
    by_cases h : v (51 + 7 * (30 * pa + n) + 0) = 1
    · rw [if_pos h, if_pos h]
      have nb : ctS w v g pb pa da n = true → False := fun z => by
        have := (ctS_1 z).2.1
        omega
      split
      · rename_i c
        split
        · rename_i e
          exact ((ih.yes (N := n) c (show _ ∨ _ < mrk w v g pa n ∨ (mrk w v g pa n = _ ∧ (n : Int) < _) by omega)).swap.no (fun z => absurd z (fun q => nb q))).swap
        · rename_i e
          exact ((ih.no (fun _ => show ¬ (_ ∨ _ < mrk w v g pa n ∨ (mrk w v g pa n = _ ∧ (n : Int) < _)) by omega)).swap.no (fun z => absurd z (fun q => nb q))).swap
      · rename_i c
        exact ((ih.no (fun z => absurd z c)).swap.no (fun z => absurd z (fun q => nb q))).swap
    · rw [if_neg h, if_neg h]
      have na : ctS w v g pa pb db n = true → False := fun z => h (ctS_1 z).1
      split
      · rename_i c
        split
        · rename_i e
          exact ((ih.no (fun z => absurd z (fun q => na q))).swap.yes (N := n) c (show _ ∨ _ < mrk w v g pb n ∨ (mrk w v g pb n = _ ∧ (n : Int) < _) by omega)).swap
        · rename_i e
          exact ((ih.no (fun z => absurd z (fun q => na q))).swap.no (fun _ => show ¬ (_ ∨ _ < mrk w v g pb n ∨ (mrk w v g pb n = _ ∧ (n : Int) < _)) by omega)).swap
      · rename_i c
        exact ((ih.no (fun z => absurd z (fun q => na q))).swap.no (fun z => absurd z c)).swap
/-- both find the same -/
theorem best_eq (h : st.1 = -1) : (obS w v g pb pa da (obS w v g pa pb db st 30) 30).1 = (rfS w v g pa pb da db 30).1 := (obS_2 (obS_1 h 30) 30).uniq (rfS_b 30)
/-- who gives -/
theorem obS_g (gi ta : Int) : ∀ n : Nat, obS w v g gi ta d st n = st ∨ ∃ y : Nat, y < n ∧ (obS w v g gi ta d st n).1 = y ∧ (obS w v g gi ta d st n).2.2 = gi ∧ ctS w v g gi ta d y = true
  | 0 => Or.inl rfl
  | n + 1 => by
    have ih := obS_g gi ta n
    rw [obS]
    split
    · rename_i c
      exact Or.inr ⟨n, by omega, rfl, rfl, c.1⟩
    · rcases ih with h | ⟨y, h1, h2⟩
      · exact Or.inl h
      · exact Or.inr ⟨y, by omega, h2⟩
theorem best_g (h : st.1 = -1) (hb : (obS w v g pb pa da (obS w v g pa pb db st 30) 30).1 ≠ -1) : ∃ y : Nat, y < 30 ∧ (obS w v g pb pa da (obS w v g pa pb db st 30) 30).1 = y ∧ (((obS w v g pb pa da (obS w v g pa pb db st 30) 30).2.2 = pa ∧ ctS w v g pa pb db y = true) ∨ ((obS w v g pb pa da (obS w v g pa pb db st 30) 30).2.2 = pb ∧ ctS w v g pb pa da y = true)) := by
  rcases obS_g (w := w) (v := v) (g := g) (d := da) (st := obS w v g pa pb db st 30) pb pa 30 with e | ⟨y, h1, h2, h3, h4⟩
  · rw [e] at hb ⊢
    rcases obS_g (w := w) (v := v) (g := g) (d := db) (st := st) pa pb 30 with e2 | ⟨y, h1, h2, h3, h4⟩
    · rw [e2] at hb
      exact absurd h hb
    · exact ⟨y, h1, h2, Or.inl ⟨h3, h4⟩⟩
  · exact ⟨y, h1, h2, Or.inr ⟨h3, h4⟩⟩
end RFS
section OFFER0
variable {S : xH} {m m' m0 : Nat → Int → Int} {q q' : Nat → Int → Int64} {a r : Nat} {told gi ta x me : Int} {w v v' g : Int → Int} {d : Nat}
theorem q_offer (C : CX S m q a r told w v g) (g0 : 0 ≤ gi) (g1 : gi < w 0) (t0 : 0 ≤ ta) (t1 : ta < w 0) (hd : m (a + 21) ta = d) (h0 : StO (m a 14, m a 15, m a 16)) : ∃ m', De (fun n => f_X1_offerBest n 0 [.ref a, .int (J gi), .int (J ta)] (hp S m q)) (.inl none) (hp S m' q) ∧ FrO a r m m' ∧ m' a 14 = (obS w v g gi ta d (m a 14, m a 15, m a 16) 30).1 ∧ m' a 15 = (obS w v g gi ta d (m a 14, m a 15, m a 16) 30).2.1 ∧ m' a 16 = (obS w v g gi ta d (m a 14, m a 15, m a 16) 30).2.2 := by
  obtain ⟨⟨hs, hn, hr, r16, a46⟩, W, WC, NC, R⟩ := id C
  have tw := W.1.2.1
  have w1 := W.2.1
  have n1 := NC.1
  have rm := W.1.2.2 ta t0 t1
  have og := NC.on (p := gi) (x := 0) g0 (by omega) (by decide) (by decide)
  have ot := NC.on (p := ta) (x := 0) t0 (by omega) (by decide) (by decide)
  have ol := opN_lt (A := (m (a + 16) gi).toNat) (B := (m (a + 16) ta).toNat) (D := d) (by omega)
  have jo := J_open (m (a + 16) gi).toNat (m (a + 16) ta).toNat d
  rw [Int.toNat_of_nonneg og.1.1, Int.toNat_of_nonneg ot.1.1] at jo
  have o30 : obS w v g gi ta d (m a 14, m a 15, m a 16) told.toNat = obS w v g gi ta d (m a 14, m a 15, m a 16) 30 := by
    have := obS_stop (w := w) (v := v) (g := g) (gi := gi) (ta := ta) (d := d) (st := (m a 14, m a 15, m a 16)) told.toNat (30 - told.toNat) (fun x a b => ctS_has (fun z => by
      have := ((NC.vok.2.2 gi x g0 (by omega) (by omega) (by omega)).2 z).1
      omega))
    rw [show told.toNat + (30 - told.toNat) = 30 by omega] at this
    exact this.symm
  have Df := d_isFull C t0 t1
  by_cases c0 : opN (m (a + 16) gi).toNat (m (a + 16) ta).toNat d = 0
  · rw [c0, Int.natCast_zero] at jo
    have none : obS w v g gi ta d (m a 14, m a 15, m a 16) 30 = (m a 14, m a 15, m a 16) := by
      have := obS_stop (w := w) (v := v) (g := g) (gi := gi) (ta := ta) (d := d) (st := (m a 14, m a 15, m a 16)) 0 30 (fun x x0 x1 => by
        have tb := congrArg (fun n => n.testBit x.toNat) c0
        simp only [opN_tb, Nat.zero_testBit] at tb
        have bg := (NC.on (p := gi) (x := x) g0 (by omega) (by omega) (by omega)).2
        have bt := (NC.on (p := ta) (x := x) t0 (by omega) (by omega) (by omega)).2
        unfold ctS
        cases h1 : (m (a + 16) gi).toNat.testBit x.toNat
        · rw [h1, if_neg (by decide)] at bg
          rw [decide_eq_false (by omega), Bool.false_and]
        · cases h2 : (m (a + 16) ta).toNat.testBit x.toNat
          · cases h3 : d.testBit x.toNat
            · rw [h1, h2, h3] at tb
              exact absurd tb (by decide)
            · simp only [Bool.not_true, Bool.false_and, Bool.and_false]
          · rw [h2, if_pos rfl] at bt
            rw [decide_eq_false (show ¬ v (51 + 7 * (30 * ta + x) + 0) = 0 by omega), Bool.false_and, Bool.and_false])
      exact this
    rw [none]
    refine ⟨m, ?_, fun _ _ _ _ _ => rfl, rfl, rfl, rfl⟩
    refine De.step ?_
    simp only [j_X1_offerBest_0]
    simp (disch := omega) only [b_X1_offerBest_0, ↓bnd (Net0_r8 hn), ↓bnd (Net16_g hn g0 (show gi < 10 by omega)), ↓bnd (Net16_g hn t0 (show ta < 10 by omega)), ↓bnd (Net0_r13 hn), ↓bnd (Net21_g hn t0 (show ta < 10 by omega)), hd, jo, Option.bind_some, xI, xU, xUt, xIt, J_lit, J_add, J_sub, J_mul, J_neg, J_ltc, J_lec, J_eqc, lt_T, lt_F, le_T, le_F, eq_T, eq_F, ↓reduceIte, ite_not, not_true_eq_false, not_false_eq_true, true_or, or_true, false_or, or_false, true_and, and_true, false_and, and_false, up_get, Nat.reduceEqDiff, Int.reduceNeg, eqN_T, eqN_F]
    exact De.ret _ _
  · by_cases f : w (11 + 3 * ta + 1) ≤ cntw v ta 30
    · rw [if_pos f] at Df
      have L := lsO_in (w := w) (v := v) (p := ta) R 30
      have ex := lsO_ex (w := w) (v := v) (g := g) (p := ta) 30 (by omega)
      have hl := L.2.2.2.2 ex
      have lt := ((NC.vok.2.2 ta _ t0 (by omega) ex L.2.1).2 hl).1.2
      obtain ⟨m1, D1, F1⟩ := q_leastC C t0 t1
      obtain ⟨-, W1, WC1, NC1, R1⟩ := C.fr F1
      obtain ⟨E1, E2, -⟩ := q_mrkC (x := (lsO w v g ta 30).1) hs hn hr r16 a46 W1 WC1 NC1 R1 t0 t1 ex lt hl
      have em : meS w v g ta = mrk w v g ta (lsO w v g ta 30).1 := if_pos f
      have FO : FrO a r m (ldF m1 a r ta (lsO w v g ta 30).1) := fun b i h1 h2 h3 => (ldF_out h1 h2).trans (F1 b i h1 h2)
      have l : ∀ z, ldF m1 a r ta (lsO w v g ta 30).1 a z = m a z := fun z => (ldF_out (by omega) (by omega)).trans (F1 _ _ (by omega) (by omega))
      obtain ⟨m', D, F', G'⟩ := q_offer_l (st := (m a 14, m a 15, m a 16)) C g0 g1 t0 t1 hd h0 told.toNat 0 (ldF m1 a r ta (lsO w v g ta 30).1) (by omega) FO ⟨l _, l _, l _⟩
      rw [o30] at G'
      rw [em] at D
      refine ⟨m', ?_, F', G'⟩
      refine De.step ?_
      simp only [j_X1_offerBest_0]
      simp (disch := omega) only [b_X1_offerBest_0, ↓bnd (Net0_r8 hn), ↓bnd (Net16_g hn g0 (show gi < 10 by omega)), ↓bnd (Net16_g hn t0 (show ta < 10 by omega)), ↓bnd (Net0_r13 hn), ↓bnd (Net21_g hn t0 (show ta < 10 by omega)), ↓bnd (Net0_k hn), hd, jo, Option.bind_some, xI, xU, xUt, xIt, J_lit, J_add, J_sub, J_mul, J_neg, J_ltc, J_lec, J_eqc, lt_T, lt_F, le_T, le_F, eq_T, eq_F, ↓reduceIte, ite_not, not_true_eq_false, not_false_eq_true, true_or, or_true, false_or, or_false, true_and, and_true, false_and, and_false, up_get, Nat.reduceEqDiff, Int.reduceNeg, eqN_T, eqN_F]
      refine De.call Df ?_
      simp (disch := omega) only [Net0_k hn, Option.bind_some, xI, xU, xUt, xIt, J_lit, J_add, J_sub, J_mul, J_neg, J_ltc, J_lec, J_eqc, lt_T, lt_F, le_T, le_F, eq_T, eq_F, ↓reduceIte, ite_not, not_true_eq_false, not_false_eq_true, true_or, or_true, false_or, or_false, true_and, and_true, false_and, and_false, up_get, Nat.reduceEqDiff, Int.reduceNeg, eqN_T, eqN_F]
      refine De.call D1 ?_
      simp (disch := omega) only [Net0_k hn, Option.bind_some, xI, xU, xUt, xIt, J_lit, J_add, J_sub, J_mul, J_neg, J_ltc, J_lec, J_eqc, lt_T, lt_F, le_T, le_F, eq_T, eq_F, ↓reduceIte, ite_not, not_true_eq_false, not_false_eq_true, true_or, or_true, false_or, or_false, true_and, and_true, false_and, and_false, up_get, Nat.reduceEqDiff, Int.reduceNeg, eqN_T, eqN_F]
      refine De.call (De.eq 2 E1) ?_
      simp (disch := omega) only [xU, Net0_r1 hn, Rul0_k hr, Option.bind_some, xI, xU, xUt, xIt, J_lit, J_add, J_sub, J_mul, J_neg, J_ltc, J_lec, J_eqc, lt_T, lt_F, le_T, le_F, eq_T, eq_F, ↓reduceIte, ite_not, not_true_eq_false, not_false_eq_true, true_or, or_true, false_or, or_false, true_and, and_true, false_and, and_false, up_get, Nat.reduceEqDiff, Int.reduceNeg, eqN_T, eqN_F]
      refine De.call E2 ?_
      simp (disch := omega) only [Option.bind_some, xI, xU, xUt, xIt, J_lit, J_add, J_sub, J_mul, J_neg, J_ltc, J_lec, J_eqc, lt_T, lt_F, le_T, le_F, eq_T, eq_F, ↓reduceIte, ite_not, not_true_eq_false, not_false_eq_true, true_or, or_true, false_or, or_false, true_and, and_true, false_and, and_false, up_get, Nat.reduceEqDiff, Int.reduceNeg, eqN_T, eqN_F]
      exact D
    · rw [if_neg f] at Df
      have em : meS w v g ta = -1 := if_neg f
      obtain ⟨m', D, F', G'⟩ := q_offer_l (st := (m a 14, m a 15, m a 16)) C g0 g1 t0 t1 hd h0 told.toNat 0 m (by omega) (fun _ _ _ _ _ => rfl) ⟨rfl, rfl, rfl⟩
      rw [o30] at G'
      rw [em] at D
      refine ⟨m', ?_, F', G'⟩
      refine De.step ?_
      simp only [j_X1_offerBest_0]
      simp (disch := omega) only [b_X1_offerBest_0, ↓bnd (Net0_r8 hn), ↓bnd (Net16_g hn g0 (show gi < 10 by omega)), ↓bnd (Net16_g hn t0 (show ta < 10 by omega)), ↓bnd (Net0_r13 hn), ↓bnd (Net21_g hn t0 (show ta < 10 by omega)), ↓bnd (Net0_k hn), hd, jo, Option.bind_some, xI, xU, xUt, xIt, J_lit, J_add, J_sub, J_mul, J_neg, J_ltc, J_lec, J_eqc, lt_T, lt_F, le_T, le_F, eq_T, eq_F, ↓reduceIte, ite_not, not_true_eq_false, not_false_eq_true, true_or, or_true, false_or, or_false, true_and, and_true, false_and, and_false, up_get, Nat.reduceEqDiff, Int.reduceNeg, eqN_T, eqN_F]
      refine De.call Df ?_
      simp (disch := omega) only [Option.bind_some, xI, xU, xUt, xIt, J_lit, J_add, J_sub, J_mul, J_neg, J_ltc, J_lec, J_eqc, lt_T, lt_F, le_T, le_F, eq_T, eq_F, ↓reduceIte, ite_not, not_true_eq_false, not_false_eq_true, true_or, or_true, false_or, or_false, true_and, and_true, false_and, and_false, up_get, Nat.reduceEqDiff, Int.reduceNeg, eqN_T, eqN_F]
      exact D
end OFFER0
