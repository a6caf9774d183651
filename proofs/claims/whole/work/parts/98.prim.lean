/-! what a net does, step by step, keeps the relation -/
theorem cntw_ex {v v' : Int → Int} {p : Int} : ∀ n : Nat, (∀ k : Int, 0 ≤ k → k < n → v' (51 + 7 * (30 * p + k) + 0) = v (51 + 7 * (30 * p + k) + 0)) → cntw v' p n = cntw v p n
  | 0, _ => rfl
  | n + 1, h => by rw [cntw, cntw, cntw_ex n (fun k k0 k1 => h k k0 (by omega)), h n (by omega) (by omega)]
theorem cntp_ex {v v' : Int → Int} {x : Int} : ∀ n : Nat, (∀ k : Int, 0 ≤ k → k < n → v' (51 + 7 * (30 * k + x) + 0) = v (51 + 7 * (30 * k + x) + 0)) → cntp v' x n = cntp v x n
  | 0, _ => rfl
  | n + 1, h => by rw [cntp, cntp, cntp_ex n (fun k k0 k1 => h k k0 (by omega)), h n (by omega) (by omega)]
/-- one copy more or less -/
theorem cntw_at {v v' : Int → Int} {p x : Int} (x0 : 0 ≤ x) (e : ∀ k : Int, 0 ≤ k → k ≠ x → v' (51 + 7 * (30 * p + k) + 0) = v (51 + 7 * (30 * p + k) + 0)) : ∀ n : Nat, cntw v' p n = cntw v p n + (if x < n then (if v' (51 + 7 * (30 * p + x) + 0) = 1 then 1 else 0) - (if v (51 + 7 * (30 * p + x) + 0) = 1 then 1 else 0) else 0)
  | 0 => by rw [cntw, cntw, if_neg (by omega)]; rfl
  | n + 1 => by
    rw [cntw, cntw, cntw_at x0 e n]
    by_cases c : (n : Int) = x
    · rw [if_neg (show ¬ x < (n : Int) by omega), if_pos (show x < ((n + 1 : Nat) : Int) by omega), c]
      omega
    · rw [e n (by omega) c]
      by_cases d : x < n
      · rw [if_pos d, if_pos (show x < ((n + 1 : Nat) : Int) by omega)]
        omega
      · rw [if_neg d, if_neg (show ¬ x < ((n + 1 : Nat) : Int) by omega)]
        omega
theorem cntp_at {v v' : Int → Int} {p x : Int} (p0 : 0 ≤ p) (e : ∀ k : Int, 0 ≤ k → k ≠ p → v' (51 + 7 * (30 * k + x) + 0) = v (51 + 7 * (30 * k + x) + 0)) : ∀ n : Nat, cntp v' x n = cntp v x n + (if p < n then (if v' (51 + 7 * (30 * p + x) + 0) = 1 then 1 else 0) - (if v (51 + 7 * (30 * p + x) + 0) = 1 then 1 else 0) else 0)
  | 0 => by rw [cntp, cntp, if_neg (by omega)]; rfl
  | n + 1 => by
    rw [cntp, cntp, cntp_at p0 e n]
    by_cases c : (n : Int) = p
    · rw [if_neg (show ¬ p < (n : Int) by omega), if_pos (show p < ((n + 1 : Nat) : Int) by omega), c]
      omega
    · rw [e n (by omega) c]
      by_cases d : p < n
      · rw [if_pos d, if_pos (show p < ((n + 1 : Nat) : Int) by omega)]
        omega
      · rw [if_neg d, if_neg (show ¬ p < ((n + 1 : Nat) : Int) by omega)]
        omega
section PRIM
variable {N N' : Nat → Int → Int} {D D' : Nat → Int → Int64} {told : Int} {w v v' : Int → Int}
/-- the copy of x on p comes (z = 1, with its facts) or goes (z = 0) -/
theorem Rnet.copy (h : Rnet N D told w v) (hw0 : 0 ≤ w 0 ∧ w 0 ≤ 10) (hw1 : w 1 ≤ 30) {p x : Int} (p0 : 0 ≤ p) (p1 : p < w 0) (x0 : 0 ≤ x) (x1 : x < told)
    (eO : ∀ i : Int, 2 ≤ i → i ≤ 4 → N' 0 i = N 0 i)
    (eS : ∀ (o : Nat) (i : Int), 0 ≤ i → i < 10 → 2 ≤ o → o ≤ 9 → o ≠ 4 → N' o i = N o i)
    (eH : ∀ (o : Nat) (i : Int), 0 ≤ i → i < 30 → 18 ≤ o → o ≤ 19 → N' o i = N o i)
    (eD : ∀ i : Int, 0 ≤ i → i < 30 → D' 20 i = D 20 i)
    (eC : ∀ (o : Nat) (i : Int), 0 ≤ i → i < 300 → i ≠ 30 * p + x → 11 ≤ o → o ≤ 14 → N' o i = N o i)
    (eL : ∀ i : Int, 0 ≤ i → i < 300 → i ≠ 30 * p + x → D' 15 i = D 15 i)
    (e16 : ∀ i : Int, 0 ≤ i → i < 10 → i ≠ p → N' 16 i = N 16 i)
    (b16 : 0 ≤ N' 16 p ∧ N' 16 p < 1073741824 ∧ ∀ y : Int, 0 ≤ y → y < 30 → y ≠ x → (N' 16 p).toNat.testBit y.toNat = (N 16 p).toNat.testBit y.toNat)
    (hz : v' (51 + 7 * (30 * p + x) + 0) = if (N' 16 p).toNat.testBit x.toNat = true then 1 else 0)
    (e4 : ∀ i : Int, 0 ≤ i → i < 10 → N' 4 i = N 4 i + (if i = p then (if v' (51 + 7 * (30 * p + x) + 0) = 1 then 1 else 0) - (if v (51 + 7 * (30 * p + x) + 0) = 1 then 1 else 0) else 0))
    (e17 : ∀ i : Int, 0 ≤ i → i < 30 → N' 17 i = N 17 i + (if i = x then (if v' (51 + 7 * (30 * p + x) + 0) = 1 then 1 else 0) - (if v (51 + 7 * (30 * p + x) + 0) = 1 then 1 else 0) else 0))
    (ev : ∀ i, (i < 51 + 7 * (30 * p + x) ∨ 51 + 7 * (30 * p + x) + 7 ≤ i) → v' i = v i)
    (hf : v' (51 + 7 * (30 * p + x) + 0) = 1 → (N' 11 (30 * p + x) = v' (51 + 7 * (30 * p + x) + 1) ∧ N' 12 (30 * p + x) = v' (51 + 7 * (30 * p + x) + 2) ∧ N' 13 (30 * p + x) = v' (51 + 7 * (30 * p + x) + 3) ∧ N' 14 (30 * p + x) = v' (51 + 7 * (30 * p + x) + 4)) ∧ (0 ≤ N' 11 (30 * p + x) ∧ N' 11 (30 * p + x) ≤ 9999) ∧ Rpth (D' 15 (30 * p + x)) (v' (51 + 7 * (30 * p + x) + 5)) (v' (51 + 7 * (30 * p + x) + 6)) (N' 12 (30 * p + x)) (w 0)) :
    Rnet N' D' told w v' := by
  obtain ⟨h1, h2, h3, h4, h5, h6⟩ := h
  have v0 : v' 0 = v 0 := ev 0 (by omega)
  have cx : ∀ p' x' k : Int, 0 ≤ p' → p' < 10 → 0 ≤ x' → x' < 30 → 0 ≤ k → k < 7 → (p' ≠ p ∨ x' ≠ x) → v' (51 + 7 * (30 * p' + x') + k) = v (51 + 7 * (30 * p' + x') + k) := fun p' x' k _ _ _ _ _ _ c => ev _ (by omega)
  refine ⟨?_, fun p' a b => ?_, fun p' a b => ?_, fun p' x' a b c d => ?_, fun x' a b => ?_, fun x' a b => ?_⟩
  · rw [eO 2 (by omega) (by omega), eO 3 (by omega) (by omega), eO 4 (by omega) (by omega), v0]
    exact h1
  · rw [eS 2 p' a (by omega) (by omega) (by omega) (by omega), eS 3 p' a (by omega) (by omega) (by omega) (by omega), eS 5 p' a (by omega) (by omega) (by omega) (by omega), eS 6 p' a (by omega) (by omega) (by omega) (by omega), eS 7 p' a (by omega) (by omega) (by omega) (by omega), eS 8 p' a (by omega) (by omega) (by omega) (by omega), eS 9 p' a (by omega) (by omega) (by omega) (by omega), ev _ (by omega), ev _ (by omega), ev _ (by omega), ev _ (by omega), ev _ (by omega)]
    exact h2 p' a b
  · obtain ⟨z1, z2, z3, z4⟩ := h3 p' a b
    rw [eS 7 p' a b (by omega) (by omega) (by omega), eS 8 p' a b (by omega) (by omega) (by omega), eS 9 p' a b (by omega) (by omega) (by omega), e4 p' a b, z1]
    by_cases c : p' = p
    · subst c
      refine ⟨?_, b16.1, b16.2.1, z4⟩
      have A := cntw_at (v := v) (v' := v') (p := p') x0 (fun k k0 k1 => (by
        by_cases k2 : k < 30
        · exact cx p' k 0 a b k0 k2 (by omega) (by omega) (Or.inr k1)
        · exact ev _ (by omega))) 30
      rw [if_pos (show x < ((30 : Nat) : Int) by omega)] at A
      rw [if_pos rfl]
      exact A.symm
    · rw [e16 p' a b c, if_neg c, Int.add_zero]
      exact ⟨(cntw_ex 30 (fun k k0 k1 => cx p' k 0 a b k0 (by omega) (by omega) (by omega) (Or.inl c))).symm, z2, z3, z4⟩
  · by_cases e : p' = p ∧ x' = x
    · obtain ⟨rfl, rfl⟩ := e
      exact ⟨hz, fun z => ⟨⟨p1, x1⟩, hf z⟩⟩
    · have e' : p' ≠ p ∨ x' ≠ x := by omega
      have tb : (N' 16 p').toNat.testBit x'.toNat = (N 16 p').toNat.testBit x'.toNat := by
        by_cases c1 : p' = p
        · subst c1
          exact b16.2.2 x' c d (by omega)
        · rw [e16 p' a b c1]
      rw [tb, eC 11 _ (by omega) (by omega) (by omega) (by omega) (by omega), eC 12 _ (by omega) (by omega) (by omega) (by omega) (by omega), eC 13 _ (by omega) (by omega) (by omega) (by omega) (by omega), eC 14 _ (by omega) (by omega) (by omega) (by omega) (by omega), eL _ (by omega) (by omega) (by omega), cx p' x' 0 a b c d (by omega) (by omega) e', cx p' x' 1 a b c d (by omega) (by omega) e', cx p' x' 2 a b c d (by omega) (by omega) e', cx p' x' 3 a b c d (by omega) (by omega) e', cx p' x' 4 a b c d (by omega) (by omega) e', cx p' x' 5 a b c d (by omega) (by omega) e', cx p' x' 6 a b c d (by omega) (by omega) e']
      exact h4 p' x' a b c d
  · obtain ⟨z1, z2⟩ := h5 x' a b
    rw [eH 18 x' a b (by omega) (by omega), eH 19 x' a b (by omega) (by omega), e17 x' a b, z1]
    refine ⟨?_, z2⟩
    by_cases c : x' = x
    · subst c
      have A := cntp_at (v := v) (v' := v') (x := x') p0 (fun k k0 k1 => (by
        by_cases k2 : k < 10
        · exact cx k x' 0 k0 k2 a b (by omega) (by omega) (Or.inl k1)
        · exact ev _ (by omega))) 10
      rw [if_pos (show p < ((10 : Nat) : Int) by omega)] at A
      rw [if_pos rfl]
      exact A.symm
    · rw [if_neg c, Int.add_zero]
      exact (cntp_ex 10 (fun k k0 k1 => cx k x' 0 k0 (by omega) a b (by omega) (by omega) (Or.inr c))).symm
  · rw [eH 18 x' a (by omega) (by omega) (by omega), eH 19 x' a (by omega) (by omega) (by omega), eD x' a (by omega), v0, ev _ (by omega), ev _ (by omega), ev _ (by omega), ev _ (by omega)]
    exact h6 x' a b
/-- the numbers of the phones, and the tick -/
theorem Rnet.stat (h : Rnet N D told w v) (hw0 : 0 ≤ w 0 ∧ w 0 ≤ 10) (hw1 : w 1 ≤ 30)
    (eO : N' 0 3 = N 0 3 ∧ N' 0 4 = N 0 4 ∧ N' 0 2 = v' 0) (ht : v 0 ≤ v' 0 ∧ v' 0 ≤ 400)
    (eR : ∀ (o : Nat) (i : Int), 0 ≤ i → ((4 ≤ o ∧ o ≤ 6 ∧ i < 10) ∨ (11 ≤ o ∧ o ≤ 14 ∧ i < 300) ∨ (o = 16 ∧ i < 10) ∨ (17 ≤ o ∧ o ≤ 19 ∧ i < 30)) → N' o i = N o i)
    (eD : ∀ (o : Nat) (i : Int), 0 ≤ i → ((o = 15 ∧ i < 300) ∨ (o = 20 ∧ i < 30)) → D' o i = D o i)
    (ev : ∀ i, 51 ≤ i → v' i = v i)
    (h2' : ∀ p : Int, 0 ≤ p → p < w 0 → (N' 2 p = v' (1 + 5 * p + 0) ∧ N' 3 p = v' (1 + 5 * p + 1) ∧ N' 7 p = v' (1 + 5 * p + 2) ∧ N' 8 p = v' (1 + 5 * p + 3) ∧ N' 9 p = v' (1 + 5 * p + 4)) ∧ (0 ≤ N' 2 p ∧ N' 2 p ≤ 15 ∧ 0 ≤ N' 3 p ∧ N' 3 p ≤ 1000))
    (h3' : ∀ p : Int, w 0 ≤ p → p < 10 → N' 7 p = N 7 p ∧ N' 8 p = N 8 p ∧ N' 9 p = N 9 p) : Rnet N' D' told w v' := by
  obtain ⟨h1, h2, h3, h4, h5, h6⟩ := h
  refine ⟨by omega, fun p a b => ?_, fun p a b => ?_, fun p x a b c d => ?_, fun x a b => ?_, fun x a b => ?_⟩
  · obtain ⟨⟨z1, z2, z3, z4, z5⟩, z6⟩ := h2' p a b
    have z := h2 p a b
    rw [eR 5 p a (by omega), eR 6 p a (by omega)]
    exact ⟨⟨z1, z2, z.1.2.2.1, z.1.2.2.2.1, z3, z4, z5⟩, z6⟩
  · obtain ⟨z1, z2, z3, z4⟩ := h3 p a b
    rw [eR 4 p a (by omega), eR 16 p a (by omega)]
    refine ⟨z1.trans (cntw_ex 30 (fun k k0 k1 => ev _ (by omega))).symm, z2, z3, fun c => ?_⟩
    have y := h3' p c b
    have y2 := z4 c
    omega
  · rw [eR 16 p a (by omega), eR 11 _ (by omega) (by omega), eR 12 _ (by omega) (by omega), eR 13 _ (by omega) (by omega), eR 14 _ (by omega) (by omega), eD 15 _ (by omega) (by omega), ev _ (by omega), ev _ (by omega), ev _ (by omega), ev _ (by omega), ev _ (by omega), ev _ (by omega), ev _ (by omega)]
    exact h4 p x a b c d
  · rw [eR 17 x a (by omega), eR 18 x a (by omega), eR 19 x a (by omega)]
    obtain ⟨z1, z2⟩ := h5 x a b
    exact ⟨z1.trans (cntp_ex 10 (fun k k0 k1 => ev _ (by omega))).symm, z2⟩
  · rw [eR 18 x a (by omega), eR 19 x a (by omega), eD 20 x a (by omega), ev (2151 + 5 * x + 0) (by omega), ev (2151 + 5 * x + 4) (by omega), ev (2151 + 5 * x + 2) (by omega), ev (2151 + 5 * x + 3) (by omega)]
    obtain ⟨z1, z2, z3, z4⟩ := h6 x a b
    exact ⟨z1, z2, by omega, z4⟩
/-- the tent has it -/
theorem Rnet.hads (h : Rnet N D told w v) (hw0 : 0 ≤ w 0 ∧ w 0 ≤ 10) (hw1 : w 1 ≤ 30) {x : Int} (x0 : 0 ≤ x) (x1 : x < told)
    (eO : ∀ i : Int, 2 ≤ i → i ≤ 4 → N' 0 i = N 0 i)
    (eR : ∀ (o : Nat) (i : Int), 0 ≤ i → ((2 ≤ o ∧ o ≤ 9 ∧ i < 10) ∨ (11 ≤ o ∧ o ≤ 14 ∧ i < 300) ∨ (o = 16 ∧ i < 10) ∨ (o = 17 ∧ i < 30)) → N' o i = N o i)
    (eL : ∀ i : Int, 0 ≤ i → i < 300 → D' 15 i = D 15 i)
    (eH : ∀ (o : Nat) (i : Int), 0 ≤ i → i < 30 → i ≠ x → 18 ≤ o → o ≤ 19 → N' o i = N o i)
    (eD : ∀ i : Int, 0 ≤ i → i < 30 → i ≠ x → D' 20 i = D 20 i)
    (ev : ∀ i, (i < 2151 + 5 * x ∨ 2151 + 5 * x + 5 ≤ i) → v' i = v i)
    (hx : N' 18 x = v' (2151 + 5 * x + 0) ∧ 0 ≤ N' 18 x ∧ N' 18 x ≤ v 0 ∧ N' 19 x = v' (2151 + 5 * x + 4) ∧ Rpth (D' 20 x) (v' (2151 + 5 * x + 2)) (v' (2151 + 5 * x + 3)) (N' 19 x) (w 0)) : Rnet N' D' told w v' := by
  obtain ⟨h1, h2, h3, h4, h5, h6⟩ := h
  have v0 : v' 0 = v 0 := ev 0 (by omega)
  refine ⟨?_, fun p a b => ?_, fun p a b => ?_, fun p y a b c d => ?_, fun y a b => ?_, fun y a b => ?_⟩
  · rw [eO 2 (by omega) (by omega), eO 3 (by omega) (by omega), eO 4 (by omega) (by omega), v0]
    exact h1
  · rw [eR 2 p a (by omega), eR 3 p a (by omega), eR 5 p a (by omega), eR 6 p a (by omega), eR 7 p a (by omega), eR 8 p a (by omega), eR 9 p a (by omega), ev _ (by omega), ev _ (by omega), ev _ (by omega), ev _ (by omega), ev _ (by omega)]
    exact h2 p a b
  · rw [eR 4 p a (by omega), eR 16 p a (by omega), eR 7 p a (by omega), eR 8 p a (by omega), eR 9 p a (by omega)]
    obtain ⟨z1, z2⟩ := h3 p a b
    exact ⟨z1.trans (cntw_ex 30 (fun k k0 k1 => ev _ (by omega))).symm, z2⟩
  · rw [eR 16 p a (by omega), eR 11 _ (by omega) (by omega), eR 12 _ (by omega) (by omega), eR 13 _ (by omega) (by omega), eR 14 _ (by omega) (by omega), eL _ (by omega) (by omega), ev _ (by omega), ev _ (by omega), ev _ (by omega), ev _ (by omega), ev _ (by omega), ev _ (by omega), ev _ (by omega)]
    exact h4 p y a b c d
  · obtain ⟨z1, z2, z3⟩ := h5 y a b
    rw [eR 17 y a (by omega)]
    refine ⟨z1.trans (cntp_ex 10 (fun k k0 k1 => ev _ (by omega))).symm, fun z => ?_, fun z => ?_⟩
    · rw [eH 18 y a b (by omega) (by omega) (by omega)]
      exact z2 z
    · by_cases c : y = x
      · subst c
        omega
      · rw [eH 18 y a b c (by omega) (by omega)] at z
        rw [eH 19 y a b c (by omega) (by omega)]
        exact z3 z
  · by_cases c : y = x
    · subst c
      rw [v0]
      exact ⟨hx.1, by omega, hx.2.2.1, fun _ => hx.2.2.2⟩
    · rw [eH 18 y a (by omega) c (by omega) (by omega), eH 19 y a (by omega) c (by omega) (by omega), eD y a (by omega) c, v0, ev _ (by omega), ev _ (by omega), ev _ (by omega), ev _ (by omega)]
      exact h6 y a b
/-- the next word is told -/
theorem Rnet.tell (h : Rnet N D told w v) (hw0 : 0 ≤ w 0 ∧ w 0 ≤ 10) (hw1 : w 1 ≤ 30) (ht : told < w 1)
    (eO : N' 0 2 = N 0 2 ∧ N' 0 3 = N 0 3 ∧ N' 0 4 = told + 1)
    (eR : ∀ (o : Nat) (i : Int), 0 ≤ i → ((2 ≤ o ∧ o ≤ 9 ∧ i < 10) ∨ (11 ≤ o ∧ o ≤ 14 ∧ i < 300) ∨ (o = 16 ∧ i < 10) ∨ (17 ≤ o ∧ o ≤ 19 ∧ i < 30)) → N' o i = N o i)
    (ev : ∀ i, i ≠ 2151 + 5 * told → v' i = v i) (hx : v' (2151 + 5 * told) = -1) : Rnet N' D (told + 1) w v' := by
  obtain ⟨h1, h2, h3, h4, h5, h6⟩ := h
  have v0 : v' 0 = v 0 := ev 0 (by omega)
  refine ⟨by omega, fun p a b => ?_, fun p a b => ?_, fun p y a b c d => ?_, fun y a b => ?_, fun y a b => ?_⟩
  · rw [eR 2 p a (by omega), eR 3 p a (by omega), eR 5 p a (by omega), eR 6 p a (by omega), eR 7 p a (by omega), eR 8 p a (by omega), eR 9 p a (by omega), ev _ (by omega), ev _ (by omega), ev _ (by omega), ev _ (by omega), ev _ (by omega)]
    exact h2 p a b
  · rw [eR 4 p a (by omega), eR 16 p a (by omega), eR 7 p a (by omega), eR 8 p a (by omega), eR 9 p a (by omega)]
    obtain ⟨z1, z2⟩ := h3 p a b
    exact ⟨z1.trans (cntw_ex 30 (fun k k0 k1 => ev _ (by omega))).symm, z2⟩
  · rw [eR 16 p a (by omega), eR 11 _ (by omega) (by omega), eR 12 _ (by omega) (by omega), eR 13 _ (by omega) (by omega), eR 14 _ (by omega) (by omega), ev _ (by omega), ev _ (by omega), ev _ (by omega), ev _ (by omega), ev _ (by omega), ev _ (by omega), ev _ (by omega)]
    obtain ⟨z1, z2⟩ := h4 p y a b c d
    refine ⟨z1, fun z => ?_⟩
    obtain ⟨y1, y2⟩ := z2 z
    exact ⟨⟨y1.1, by omega⟩, y2⟩
  · obtain ⟨z1, z2, z3⟩ := h5 y a b
    rw [eR 17 y a (by omega), eR 18 y a (by omega), eR 19 y a (by omega)]
    exact ⟨z1.trans (cntp_ex 10 (fun k k0 k1 => ev _ (by omega))).symm, fun z => z2 (by omega), z3⟩
  · rw [eR 18 y a (by omega), eR 19 y a (by omega), v0]
    by_cases c : y = told
    · subst c
      have z := (h5 y a (by omega)).2.1 (by omega)
      rw [Int.add_zero, hx, z]
      exact ⟨rfl, by omega, by omega, fun q => absurd q (by omega)⟩
    · rw [ev _ (by omega), ev _ (by omega), ev _ (by omega), ev _ (by omega)]
      exact h6 y a (by omega)
end PRIM
