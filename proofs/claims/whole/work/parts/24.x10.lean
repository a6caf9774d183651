def L_X10 (p : Nat) : List xC := (((([] ++ (.inr (3, F_X3 (p + 0 + 1)) :: L_X3 (p + 0 + 1))) ++ (.inr (7, F_X7 (p + 8 + 1)) :: L_X7 (p + 8 + 1))) ++ (.inr (1, F_X1 (p + 110 + 1) (p + 15) (p + 9)) :: L_X1 (p + 110 + 1))) ++ (.inr (6, F_X6 (p + 132 + 1) (p + 15) (p + 45)) :: L_X6 (p + 132 + 1)))
def F_X10 (p : Nat) : List Value := [.ref (p + 0), .ref (p + 8), .ref (p + 110), .ref (p + 132), .null]
set_option maxRecDepth 100000 in
theorem len_X10 (p : Nat) : (L_X10 p).length = 135 := rfl
set_option maxHeartbeats 2000000 in
set_option maxRecDepth 10000 in
theorem i_X10 {P : xH} {a : Nat} (ha : P.2.2 a = .inr (10, xdef 10)) (hlt : a < P.1) (r1 : P.1 + 135 ≤ 601024) (r2 : P.2.1 + 7404 ≤ 7293034) : ∃ Q, (∀ n, f_X10_init (n + 35) 0 [.ref a] P = some (.inl none, Q)) ∧ xMk P a 10 (F_X10 P.1) (L_X10 P.1) 7404 Q := by
  have k0 := xMk.nil ha
  have z0 : P.1 = P.1 + 0 := rfl
  have y0 : P.2.1 = P.2.1 + 0 := rfl
  obtain ⟨S1, s1, t1⟩ := i_X3 (P := xnew P (xN 3) (.inr (3, xdef 3))) (a := P.1) (xnew_at _ _ _) (Nat.lt_succ_self _) (show P.1 + 1 + 7 ≤ _ by omega) (show P.2.1 + 8 + 644 ≤ _ by omega)
  obtain ⟨Q1, e1, p1⟩ := st_O (k := 0) k0.2.2.1 (show a < P.1 by omega) (by first | decide | (simp only [List.length_set]; decide)) t1
  have k1 := k0.then p1 hlt
  have z1 : Q1.1 = P.1 + 8 := by
    have := p1.1
    simp only [List.length_cons, List.length_nil, len_X5, len_X9, len_X8, len_X4, len_X2, len_X0, len_X6, len_X1, len_X3, len_X7] at this
    omega
  have y1 : Q1.2.1 = P.2.1 + 652 := by
    have : Q1.2.1 = P.2.1 + 652 := p1.2.1
    omega
  try simp only [xnew_fst] at k1
  obtain ⟨S2, s2, t2⟩ := i_X7 (P := xnew Q1 (xN 7) (.inr (7, xdef 7))) (a := Q1.1) (xnew_at _ _ _) (Nat.lt_succ_self _) (show Q1.1 + 1 + 101 ≤ _ by omega) (show Q1.2.1 + 10 + 4948 ≤ _ by omega)
  obtain ⟨Q2, e2, p2⟩ := st_O (k := 1) k1.2.2.1 (show a < Q1.1 by omega) (by first | decide | (simp only [List.length_set]; decide)) t2
  have k2 := k1.then p2 hlt
  have z2 : Q2.1 = P.1 + 110 := by
    have := p2.1
    simp only [List.length_cons, List.length_nil, len_X5, len_X9, len_X8, len_X4, len_X2, len_X0, len_X6, len_X1, len_X3, len_X7] at this
    omega
  have y2 : Q2.2.1 = P.2.1 + 5610 := by
    have : Q2.2.1 = Q1.2.1 + 4958 := p2.2.1
    omega
  try simp only [z1, xnew_fst] at k2
  have r3_v17 : rA (xnew Q2 (xN 1) (.inr (1, xdef 1))) a 10 1 = some (P.1 + 8) := rA_at (by rw [xnew_ne _ _ _ (by omega)]; exact k2.2.2.1) rfl
  have r3_v19 : rA (xnew Q2 (xN 1) (.inr (1, xdef 1))) (P.1 + 8) 7 1 = some (P.1 + 15) := rA_at (by rw [xnew_ne _ _ _ (by omega)]; exact k2.2.2.2.1 8 (show 8 < 110 by decide)) rfl
  have r3_v21 : rA (xnew Q2 (xN 1) (.inr (1, xdef 1))) a 10 1 = some (P.1 + 8) := rA_at (by rw [xnew_ne _ _ _ (by omega)]; exact k2.2.2.1) rfl
  have r3_v23 : rA (xnew Q2 (xN 1) (.inr (1, xdef 1))) (P.1 + 8) 7 0 = some (P.1 + 9) := rA_at (by rw [xnew_ne _ _ _ (by omega)]; exact k2.2.2.2.1 8 (show 8 < 110 by decide)) rfl
  obtain ⟨S3, s3, t3⟩ := i_X1 (P := xnew Q2 (xN 1) (.inr (1, xdef 1))) (a := Q2.1) (a1 := P.1 + 15) (a2 := P.1 + 9) (xnew_at _ _ _) (Nat.lt_succ_self _) (show Q2.1 + 1 + 21 ≤ _ by omega) (show Q2.2.1 + 17 + 1732 ≤ _ by omega)
  obtain ⟨Q3, e3, p3⟩ := st_O (k := 2) k2.2.2.1 (show a < Q2.1 by omega) (by first | decide | (simp only [List.length_set]; decide)) t3
  have k3 := k2.then p3 hlt
  have z3 : Q3.1 = P.1 + 132 := by
    have := p3.1
    simp only [List.length_cons, List.length_nil, len_X5, len_X9, len_X8, len_X4, len_X2, len_X0, len_X6, len_X1, len_X3, len_X7] at this
    omega
  have y3 : Q3.2.1 = P.2.1 + 7359 := by
    have : Q3.2.1 = Q2.2.1 + 1749 := p3.2.1
    omega
  try simp only [z2, xnew_fst] at k3
  have r4_v32 : rA (xnew Q3 (xN 6) (.inr (6, xdef 6))) a 10 1 = some (P.1 + 8) := rA_at (by rw [xnew_ne _ _ _ (by omega)]; exact k3.2.2.1) rfl
  have r4_v34 : rA (xnew Q3 (xN 6) (.inr (6, xdef 6))) (P.1 + 8) 7 1 = some (P.1 + 15) := rA_at (by rw [xnew_ne _ _ _ (by omega)]; exact k3.2.2.2.1 8 (show 8 < 132 by decide)) rfl
  have r4_v36 : rA (xnew Q3 (xN 6) (.inr (6, xdef 6))) a 10 1 = some (P.1 + 8) := rA_at (by rw [xnew_ne _ _ _ (by omega)]; exact k3.2.2.1) rfl
  have r4_v38 : rA (xnew Q3 (xN 6) (.inr (6, xdef 6))) (P.1 + 8) 7 3 = some (P.1 + 45) := rA_at (by rw [xnew_ne _ _ _ (by omega)]; exact k3.2.2.2.1 8 (show 8 < 132 by decide)) rfl
  obtain ⟨S4, s4, t4⟩ := i_X6 (P := xnew Q3 (xN 6) (.inr (6, xdef 6))) (a := Q3.1) (a1 := P.1 + 15) (a2 := P.1 + 45) (xnew_at _ _ _) (Nat.lt_succ_self _) (show Q3.1 + 1 + 2 ≤ _ by omega) (show Q3.2.1 + 5 + 40 ≤ _ by omega)
  obtain ⟨Q4, e4, p4⟩ := st_O (k := 3) k3.2.2.1 (show a < Q3.1 by omega) (by first | decide | (simp only [List.length_set]; decide)) t4
  have k4 := k3.then p4 hlt
  have z4 : Q4.1 = P.1 + 135 := by
    have := p4.1
    simp only [List.length_cons, List.length_nil, len_X5, len_X9, len_X8, len_X4, len_X2, len_X0, len_X6, len_X1, len_X3, len_X7] at this
    omega
  have y4 : Q4.2.1 = P.2.1 + 7404 := by
    have : Q4.2.1 = Q3.2.1 + 45 := p4.2.1
    omega
  try simp only [z3, xnew_fst] at k4
  refine ⟨Q4, fun n => ?_, ?_⟩
  · show b_X10_init_0 (n + 34) (f_X10_init (n + 34)) a P = _
    unfold b_X10_init_0
    rw [nO_ok 3 (show P.1 + 1 ≤ _ by omega) (show P.2.1 + 8 ≤ _ by omega), Option.bind_some, s1 (n + 32), Option.bind_some, xU_mk, e1, Option.bind_some, nO_ok 7 (show Q1.1 + 1 ≤ _ by omega) (show Q1.2.1 + 10 ≤ _ by omega), Option.bind_some, s2 (n + 0), Option.bind_some, xU_mk, e2, Option.bind_some, nO_ok 1 (show Q2.1 + 1 ≤ _ by omega) (show Q2.2.1 + 17 ≤ _ by omega), Option.bind_some, r3_v17, Option.bind_some, r3_v19, Option.bind_some, Option.bind_some, r3_v23, Option.bind_some, s3 (n + 1), Option.bind_some, xU_mk, e3, Option.bind_some, nO_ok 6 (show Q3.1 + 1 ≤ _ by omega) (show Q3.2.1 + 5 ≤ _ by omega), Option.bind_some, r4_v32, Option.bind_some, r4_v34, Option.bind_some, Option.bind_some, r4_v38, Option.bind_some, s4 (n + 33), Option.bind_some, xU_mk, e4, Option.bind_some]
  · exact k4
