theorem i32_nat {i : Nat} (h : i < 2 ^ 31) : (Int32.ofNat i).toInt = (i : Int) ∧ (Int32.ofNat i).toNatClampNeg = i ∧ ¬ Int32.ofNat i < 0 := by
  have e : (Int32.ofNat i).toInt = (i : Int) := Int32.toInt_ofNat_of_lt h
  refine ⟨e, ?_, fun q => ?_⟩
  · show (Int32.ofNat i).toInt.toNat = i
    rw [e]
    rfl
  · have q := Int32.lt_iff_toInt_lt.mp q
    rw [e] at q
    have : (0 : Int32).toInt = 0 := rfl
    omega
/-- Arrays.fill of ints -/
theorem fill_loop {b N : Nat} {v : Int32} (hN : N ≤ 100000) : ∀ (k i : Nat) (P : xH) (f : Nat → Int32), i + k = N → P.2.2 b = .inl (.int, N, .inl f) → ∃ Q : xH, (∀ n, f_J7_fill_53178 (n + k + 1) 5 [.ref b, .int v, .int (Int32.ofNat i), .int (Int32.ofNat N)] P = some (.inl none, Q)) ∧ Q.1 = P.1 ∧ Q.2.1 = P.2.1 ∧ Q.2.2 b = .inl (.int, N, .inl (fun j => if i ≤ j ∧ j < N then v else f j)) ∧ ∀ j, j ≠ b → Q.2.2 j = P.2.2 j := by
  intro k
  induction k with
  | zero =>
    intro i P f hi hP
    refine ⟨P, fun n => ?_, rfl, rfl, ?_, fun _ _ => rfl⟩
    · show b_J7_fill_53178_5 (n + 0) (f_J7_fill_53178 (n + 0)) b v (Int32.ofNat i) (Int32.ofNat N) P = _
      unfold b_J7_fill_53178_5
      rw [show i = N by omega, if_pos (Int32.le_refl _)]
    · rw [hP]
      congr 3
      refine congrArg Sum.inl (funext fun j => ?_)
      rw [if_neg (by omega)]
  | succ k ih =>
    intro i P f hi hP
    obtain ⟨a1, a2, a3⟩ := i32_nat (i := i) (by omega)
    obtain ⟨b1, -, -⟩ := i32_nat (i := N) (by omega)
    obtain ⟨Q, q1, q2, q3, q4, q5⟩ := ih (i + 1) (xput P b (.inl (.int, N, .inl (upd f i v)))) (upd f i v) (by omega) (xput_at _ _ _)
    refine ⟨Q, fun n => ?_, q2, q3, ?_, fun j hj => (q5 j hj).trans (xput_ne _ _ hj)⟩
    · show b_J7_fill_53178_5 (n + (k + 1)) (f_J7_fill_53178 (n + (k + 1))) b v (Int32.ofNat i) (Int32.ofNat N) P = _
      unfold b_J7_fill_53178_5
      rw [if_neg (by rw [Int32.le_iff_toInt_le, a1, b1]; omega)]
      have e : sI P b (Int32.ofNat i) v = some (xput P b (.inl (.int, N, .inl (upd f i v)))) := by
        unfold sI
        rw [hP]
        simp only [a2]
        exact if_neg (fun q => q.elim a3 (by omega))
      rw [e, Option.bind_some, show Int32.ofNat i + 1 = Int32.ofNat (i + 1) from (Int32.ofNat_add i 1).symm]
      have := q1 n
      rwa [show n + k + 1 = n + (k + 1) by omega] at this
    · rw [q4]
      congr 3
      refine congrArg Sum.inl (funext fun j => ?_)
      by_cases e : j = i
      · subst e
        rw [if_neg (by omega), if_pos (by omega)]
        simp [upd]
      · by_cases e2 : i + 1 ≤ j ∧ j < N
        · rw [if_pos e2, if_pos (by omega)]
        · rw [if_neg e2, if_neg (by omega)]
          simp [upd, e]
def vSh (N : Nat) (v : Int32) : xC := .inl (.int, N, .inl (fun j => if 0 ≤ j ∧ j < N then v else 0))
theorem fill_ok {P : xH} {b N : Nat} {v : Int32} (hN : N ≤ 100000) (h : P.2.2 b = aSh .int N) : ∃ Q : xH, (∀ n, f_J7_fill_53178 (n + N + 2) 0 [.ref b, .int v] P = some (.inl none, Q)) ∧ Q.1 = P.1 ∧ Q.2.1 = P.2.1 ∧ Q.2.2 b = vSh N v ∧ ∀ j, j ≠ b → Q.2.2 j = P.2.2 j := by
  obtain ⟨Q, q1, q2⟩ := fill_loop (b := b) (N := N) (v := v) hN N 0 P (fun _ => 0) (by omega) h
  refine ⟨Q, fun n => ?_, q2⟩
  show b_J7_fill_53178_0 (n + N + 1) (f_J7_fill_53178 (n + N + 1)) b v P = _
  unfold b_J7_fill_53178_0
  have e : aL P b = some (Int32.ofNat N) := by
    unfold aL
    rw [h]
    rfl
  rw [e, Option.bind_some]
  exact q1 n
theorem xMk.upd {P Q R : xH} {a ci m i : Nat} {fs : List Value} {L : List xC} {c : xC} (h : xMk P a ci fs L m Q) (hlt : a < P.1) (hi : i < L.length) (g1 : R.1 = Q.1) (g2 : R.2.1 = Q.2.1) (g3 : R.2.2 (P.1 + i) = c) (g4 : ∀ j, j ≠ P.1 + i → R.2.2 j = Q.2.2 j) : xMk P a ci fs (L.set i c) m R := by
  obtain ⟨h1, h2, h3, h4, h5, h6⟩ := h
  refine ⟨by rw [List.length_set]; omega, by omega, (g4 a (by omega)).trans h3, fun j hj => ?_, fun j q1 q2 => (g4 j (by omega)).trans (h5 j q1 q2), fun j q1 => ?_⟩
  · rw [List.length_set] at hj
    by_cases e : j = i
    · subst e
      rw [g3]
      simp [List.getD, hj]
    · rw [g4 _ (by omega), h4 j hj]
      simp [List.getD, List.getElem?_set_ne (fun q => e q.symm)]
  · rw [List.length_set] at q1
    exact (g4 j (by omega)).trans (h6 j q1)
theorem xU_mk (P : xH) (k : xH → xO) : xU (.inl none, P) k = k P := rfl
theorem xnew_fst (P : xH) (n : Nat) (c : xC) : (xnew P n c).1 = P.1 + 1 := rfl
def L_X1 (p : Nat) : List xC := [mSh 8 (p + 0), aSh .int 10, aSh .int 10, aSh .int 10, aSh .int 10, aSh .int 10, aSh .int 10, aSh .int 10, aSh .int 10, mSh 4 (p + 9), aSh .int 300, aSh .int 300, aSh .int 300, aSh .int 300, jSh 300, aSh .int 10, aSh .int 30, vSh 30 (-1), aSh .int 30, jSh 30, aSh .int 10]
def F_X1 (p : Nat) (a1 a2 : Nat) : List Value := [.ref a1, .ref a2, .int 0, .int 0, .int 0, .ref (p + 0), .ref (p + 9), .ref (p + 14), .ref (p + 15), .ref (p + 16), .ref (p + 17), .ref (p + 18), .ref (p + 19), .ref (p + 20), .int 0, .int 0, .int 0]
set_option maxHeartbeats 1000000 in
theorem i_X1 {P : xH} {a a1 a2 : Nat} (ha : P.2.2 a = .inr (1, xdef 1)) (hlt : a < P.1) (r1 : P.1 + 21 ≤ 601024) (r2 : P.2.1 + 1732 ≤ 7293034) : ∃ Q, (∀ n, f_X1_init (n + 33) 0 [.ref a, .ref a1, .ref a2] P = some (.inl none, Q)) ∧ xMk P a 1 (F_X1 P.1 a1 a2) (L_X1 P.1) 1732 Q := by
  have k0 := xMk.nil ha
  obtain ⟨Q1, e1, p1⟩ := st_M (k := 5) 8 10 (N := 8) (D := 10) rfl rfl k0.2.2.1 (show _ < _ by have := k0.1; simp only [List.length_cons, List.length_append, List.length_nil, List.length_replicate] at this; omega) (by first | decide | (simp only [List.length_set]; decide)) (by decide) (by decide) (by decide) (by decide) (show _ + 1 + 8 ≤ _ by have := k0.1; simp only [List.length_cons, List.length_append, List.length_nil, List.length_replicate] at this; omega) (show _ + 8 + 8 * 10 ≤ _ by have := k0.2.1; omega)
  have z0 := k0.1
  have k1 := k0.then p1 hlt
  obtain ⟨Q2, e2, p2⟩ := st_M (k := 6) 4 300 (N := 4) (D := 300) rfl rfl k1.2.2.1 (show _ < _ by have := k1.1; simp only [List.length_cons, List.length_append, List.length_nil, List.length_replicate] at this; omega) (by first | decide | (simp only [List.length_set]; decide)) (by decide) (by decide) (by decide) (by decide) (show _ + 1 + 4 ≤ _ by have := k1.1; simp only [List.length_cons, List.length_append, List.length_nil, List.length_replicate] at this; omega) (show _ + 4 + 4 * 300 ≤ _ by have := k1.2.1; omega)
  have z1 := k1.1
  have k2 := k1.then p2 hlt
  obtain ⟨Q3, e3, p3⟩ := st_J (k := 7) 300 (N := 300) rfl k2.2.2.1 (show _ < _ by have := k2.1; simp only [List.length_cons, List.length_append, List.length_nil, List.length_replicate] at this; omega) (by first | decide | (simp only [List.length_set]; decide)) (by decide) (by decide) (show _ + 1 ≤ _ by have := k2.1; simp only [List.length_cons, List.length_append, List.length_nil, List.length_replicate] at this; omega) (show _ + 300 ≤ _ by have := k2.2.1; omega)
  have z2 := k2.1
  have k3 := k2.then p3 hlt
  obtain ⟨Q4, e4, p4⟩ := st_I (k := 8) 10 (N := 10) rfl k3.2.2.1 (show _ < _ by have := k3.1; simp only [List.length_cons, List.length_append, List.length_nil, List.length_replicate] at this; omega) (by first | decide | (simp only [List.length_set]; decide)) (by decide) (by decide) (show _ + 1 ≤ _ by have := k3.1; simp only [List.length_cons, List.length_append, List.length_nil, List.length_replicate] at this; omega) (show _ + 10 ≤ _ by have := k3.2.1; omega)
  have z3 := k3.1
  have k4 := k3.then p4 hlt
  obtain ⟨Q5, e5, p5⟩ := st_I (k := 9) 30 (N := 30) rfl k4.2.2.1 (show _ < _ by have := k4.1; simp only [List.length_cons, List.length_append, List.length_nil, List.length_replicate] at this; omega) (by first | decide | (simp only [List.length_set]; decide)) (by decide) (by decide) (show _ + 1 ≤ _ by have := k4.1; simp only [List.length_cons, List.length_append, List.length_nil, List.length_replicate] at this; omega) (show _ + 30 ≤ _ by have := k4.2.1; omega)
  have z4 := k4.1
  have k5 := k4.then p5 hlt
  obtain ⟨Q6, e6, p6⟩ := st_I (k := 10) 30 (N := 30) rfl k5.2.2.1 (show _ < _ by have := k5.1; simp only [List.length_cons, List.length_append, List.length_nil, List.length_replicate] at this; omega) (by first | decide | (simp only [List.length_set]; decide)) (by decide) (by decide) (show _ + 1 ≤ _ by have := k5.1; simp only [List.length_cons, List.length_append, List.length_nil, List.length_replicate] at this; omega) (show _ + 30 ≤ _ by have := k5.2.1; omega)
  have z5 := k5.1
  have k6 := k5.then p6 hlt
  obtain ⟨Q7, e7, p7⟩ := st_I (k := 11) 30 (N := 30) rfl k6.2.2.1 (show _ < _ by have := k6.1; simp only [List.length_cons, List.length_append, List.length_nil, List.length_replicate] at this; omega) (by first | decide | (simp only [List.length_set]; decide)) (by decide) (by decide) (show _ + 1 ≤ _ by have := k6.1; simp only [List.length_cons, List.length_append, List.length_nil, List.length_replicate] at this; omega) (show _ + 30 ≤ _ by have := k6.2.1; omega)
  have z6 := k6.1
  have k7 := k6.then p7 hlt
  obtain ⟨Q8, e8, p8⟩ := st_J (k := 12) 30 (N := 30) rfl k7.2.2.1 (show _ < _ by have := k7.1; simp only [List.length_cons, List.length_append, List.length_nil, List.length_replicate] at this; omega) (by first | decide | (simp only [List.length_set]; decide)) (by decide) (by decide) (show _ + 1 ≤ _ by have := k7.1; simp only [List.length_cons, List.length_append, List.length_nil, List.length_replicate] at this; omega) (show _ + 30 ≤ _ by have := k7.2.1; omega)
  have z7 := k7.1
  have k8 := k7.then p8 hlt
  obtain ⟨Q9, e9, p9⟩ := st_I (k := 13) 10 (N := 10) rfl k8.2.2.1 (show _ < _ by have := k8.1; simp only [List.length_cons, List.length_append, List.length_nil, List.length_replicate] at this; omega) (by first | decide | (simp only [List.length_set]; decide)) (by decide) (by decide) (show _ + 1 ≤ _ by have := k8.1; simp only [List.length_cons, List.length_append, List.length_nil, List.length_replicate] at this; omega) (show _ + 10 ≤ _ by have := k8.2.1; omega)
  have z8 := k8.1
  have k9 := k8.then p9 hlt
  obtain ⟨Q10, e10, p10⟩ := st_V (k := 0) (.ref a1) k9.2.2.1 (show _ < _ by have := k9.1; simp only [List.length_cons, List.length_append, List.length_nil, List.length_replicate] at this; omega) (by first | decide | (simp only [List.length_set]; decide))
  have z9 := k9.1
  have k10 := k9.then p10 hlt
  obtain ⟨Q11, e11, p11⟩ := st_V (k := 1) (.ref a2) k10.2.2.1 (show _ < _ by have := k10.1; simp only [List.length_cons, List.length_append, List.length_nil, List.length_replicate] at this; omega) (by first | decide | (simp only [List.length_set]; decide))
  have z10 := k10.1
  have k11 := k10.then p11 hlt
  simp only [List.length_cons, List.length_append, List.length_nil, List.length_replicate] at z0 z1 z2 z3 z4 z5 z6 z7 z8 z9 z10
  simp only [z1, z2, z3, z4, z5, z6, z7, z8, z9, z10] at k11
  have hf : Q11.2.2 (P.1 + 17) = aSh .int 30 := k11.2.2.2.1 17 (show 17 < 21 by decide)
  obtain ⟨R, g0, g1, g2, g3, g4⟩ := fill_ok (v := -1) (by decide) hf
  have hr : rA Q11 a 1 10 = some (P.1 + 17) := rA_at k11.2.2.1 rfl
  refine ⟨R, fun n => ?_, ?_⟩
  · show b_X1_init_0 (n + 32) (f_X1_init (n + 32)) a a1 a2 P = _
    unfold b_X1_init_0
    rw [e1, e2, e3, e4, e5, e6, e7, e8, e9, e10, Option.bind_some, e11, Option.bind_some, hr, Option.bind_some, g0 n, Option.bind_some, xU_mk]
  · exact k11.upd hlt (show 17 < 21 by decide) g1 g2 g3 g4
theorem len_X5 (p : Nat) : (L_X5 p).length = 5 := rfl
theorem len_X9 (p : Nat) : (L_X9 p).length = 12 := rfl
theorem len_X8 (p : Nat) : (L_X8 p).length = 16 := rfl
theorem len_X4 (p : Nat) : (L_X4 p).length = 2 := rfl
theorem len_X2 (p : Nat) : (L_X2 p).length = 5 := rfl
theorem len_X0 (p : Nat) : (L_X0 p).length = 11 := rfl
theorem len_X6 (p : Nat) : (L_X6 p).length = 2 := rfl
theorem len_X1 (p : Nat) : (L_X1 p).length = 21 := rfl
def L_X3 (p : Nat) : List xC := ((([] ++ (.inr (5, F_X5 (p + 0 + 1)) :: L_X5 (p + 0 + 1))) ++ [aSh .byte 400]) ++ [])
def F_X3 (p : Nat) : List Value := [.ref (p + 0), .ref (p + 6), .int 0, .int ((-1)), .int 0, .int 0, .int 0, .int 0]
theorem len_X3 (p : Nat) : (L_X3 p).length = 7 := rfl
set_option maxHeartbeats 2000000 in
set_option maxRecDepth 10000 in
theorem i_X3 {P : xH} {a : Nat} (ha : P.2.2 a = .inr (3, xdef 3)) (hlt : a < P.1) (r1 : P.1 + 7 ≤ 601024) (r2 : P.2.1 + 644 ≤ 7293034) : ∃ Q, (∀ n, f_X3_init (n + 2) 0 [.ref a] P = some (.inl none, Q)) ∧ xMk P a 3 (F_X3 P.1) (L_X3 P.1) 644 Q := by
  have k0 := xMk.nil ha
  have z0 : P.1 = P.1 + 0 := rfl
  have y0 : P.2.1 = P.2.1 + 0 := rfl
  obtain ⟨S1, s1, t1⟩ := i_X5 (P := xnew P (xN 5) (.inr (5, xdef 5))) (a := P.1) (xnew_at _ _ _) (Nat.lt_succ_self _) (show P.1 + 1 + 5 ≤ _ by omega) (show P.2.1 + 8 + 236 ≤ _ by omega)
  obtain ⟨Q1, e1, p1⟩ := st_O (k := 0) k0.2.2.1 (show a < P.1 by omega) (by first | decide | (simp only [List.length_set]; decide)) t1
  have k1 := k0.then p1 hlt
  have z1 : Q1.1 = P.1 + 6 := by
    have := p1.1
    simp only [List.length_cons, List.length_nil, len_X5, len_X9, len_X8, len_X4, len_X2, len_X0, len_X6, len_X1] at this
    omega
  have y1 : Q1.2.1 = P.2.1 + 244 := by
    have : Q1.2.1 = P.2.1 + 244 := p1.2.1
    omega
  try simp only [xnew_fst] at k1
  obtain ⟨Q2, e2, p2⟩ := st_B (k := 1) 400 (N := 400) rfl k1.2.2.1 (show a < Q1.1 by omega) (by first | decide | (simp only [List.length_set]; decide)) (by decide) (by decide) (show Q1.1 + 1 ≤ _ by omega) (show Q1.2.1 + 400 ≤ _ by omega)
  have k2 := k1.then p2 hlt
  have z2 : Q2.1 = P.1 + 7 := by
    have := p2.1
    simp only [List.length_cons, List.length_nil, len_X5, len_X9, len_X8, len_X4, len_X2, len_X0, len_X6, len_X1] at this
    omega
  have y2 : Q2.2.1 = P.2.1 + 644 := by
    have : Q2.2.1 = Q1.2.1 + 400 := p2.2.1
    omega
  try simp only [z1, xnew_fst] at k2
  obtain ⟨Q3, e3, p3⟩ := st_V (k := 3) (.int ((-1))) k2.2.2.1 (show a < Q2.1 by omega) (by first | decide | (simp only [List.length_set]; decide))
  have k3 := k2.then p3 hlt
  have z3 : Q3.1 = P.1 + 7 := by
    have := p3.1
    simp only [List.length_cons, List.length_nil, len_X5, len_X9, len_X8, len_X4, len_X2, len_X0, len_X6, len_X1] at this
    omega
  have y3 : Q3.2.1 = P.2.1 + 644 := by
    have : Q3.2.1 = Q2.2.1 + 0 := p3.2.1
    omega
  try simp only [z2, xnew_fst] at k3
  refine ⟨Q3, fun n => ?_, ?_⟩
  · show b_X3_init_0 (n + 1) (f_X3_init (n + 1)) a P = _
    unfold b_X3_init_0
    rw [nO_ok 5 (show P.1 + 1 ≤ _ by omega) (show P.2.1 + 8 ≤ _ by omega), Option.bind_some, s1 (n + 0), Option.bind_some, xU_mk, e1, Option.bind_some, e2, e3, Option.bind_some]
  · exact k3
def L_X7 (p : Nat) : List xC := ((((((((([] ++ (.inr (5, F_X5 (p + 0 + 1)) :: L_X5 (p + 0 + 1))) ++ (.inr (9, F_X9 (p + 6 + 1)) :: L_X9 (p + 6 + 1))) ++ (.inr (8, F_X8 (p + 19 + 1)) :: L_X8 (p + 19 + 1))) ++ (.inr (1, F_X1 (p + 36 + 1) (p + 6) (p + 0)) :: L_X1 (p + 36 + 1))) ++ (.inr (1, F_X1 (p + 58 + 1) (p + 6) (p + 0)) :: L_X1 (p + 58 + 1))) ++ (.inr (4, F_X4 (p + 80 + 1)) :: L_X4 (p + 80 + 1))) ++ (.inr (2, F_X2 (p + 83 + 1)) :: L_X2 (p + 83 + 1))) ++ (.inr (0, F_X0 (p + 89 + 1)) :: L_X0 (p + 89 + 1))) ++ [])
def F_X7 (p : Nat) : List Value := [.ref (p + 0), .ref (p + 6), .ref (p + 19), .ref (p + 36), .ref (p + 58), .ref (p + 80), .ref (p + 83), .ref (p + 89), .int 1, .int 0]
theorem len_X7 (p : Nat) : (L_X7 p).length = 101 := rfl
set_option maxHeartbeats 2000000 in
set_option maxRecDepth 10000 in
theorem i_X7 {P : xH} {a : Nat} (ha : P.2.2 a = .inr (7, xdef 7)) (hlt : a < P.1) (r1 : P.1 + 101 ≤ 601024) (r2 : P.2.1 + 4948 ≤ 7293034) : ∃ Q, (∀ n, f_X7_init (n + 34) 0 [.ref a] P = some (.inl none, Q)) ∧ xMk P a 7 (F_X7 P.1) (L_X7 P.1) 4948 Q := by
  have k0 := xMk.nil ha
  have z0 : P.1 = P.1 + 0 := rfl
  have y0 : P.2.1 = P.2.1 + 0 := rfl
  obtain ⟨S1, s1, t1⟩ := i_X5 (P := xnew P (xN 5) (.inr (5, xdef 5))) (a := P.1) (xnew_at _ _ _) (Nat.lt_succ_self _) (show P.1 + 1 + 5 ≤ _ by omega) (show P.2.1 + 8 + 236 ≤ _ by omega)
  obtain ⟨Q1, e1, p1⟩ := st_O (k := 0) k0.2.2.1 (show a < P.1 by omega) (by first | decide | (simp only [List.length_set]; decide)) t1
  have k1 := k0.then p1 hlt
  have z1 : Q1.1 = P.1 + 6 := by
    have := p1.1
    simp only [List.length_cons, List.length_nil, len_X5, len_X9, len_X8, len_X4, len_X2, len_X0, len_X6, len_X1, len_X3] at this
    omega
  have y1 : Q1.2.1 = P.2.1 + 244 := by
    have : Q1.2.1 = P.2.1 + 244 := p1.2.1
    omega
  try simp only [xnew_fst] at k1
  obtain ⟨S2, s2, t2⟩ := i_X9 (P := xnew Q1 (xN 9) (.inr (9, xdef 9))) (a := Q1.1) (xnew_at _ _ _) (Nat.lt_succ_self _) (show Q1.1 + 1 + 12 ≤ _ by omega) (show Q1.2.1 + 4 + 339 ≤ _ by omega)
  obtain ⟨Q2, e2, p2⟩ := st_O (k := 1) k1.2.2.1 (show a < Q1.1 by omega) (by first | decide | (simp only [List.length_set]; decide)) t2
  have k2 := k1.then p2 hlt
  have z2 : Q2.1 = P.1 + 19 := by
    have := p2.1
    simp only [List.length_cons, List.length_nil, len_X5, len_X9, len_X8, len_X4, len_X2, len_X0, len_X6, len_X1, len_X3] at this
    omega
  have y2 : Q2.2.1 = P.2.1 + 587 := by
    have : Q2.2.1 = Q1.2.1 + 343 := p2.2.1
    omega
  try simp only [z1, xnew_fst] at k2
  obtain ⟨S3, s3, t3⟩ := i_X8 (P := xnew Q2 (xN 8) (.inr (8, xdef 8))) (a := Q2.1) (xnew_at _ _ _) (Nat.lt_succ_self _) (show Q2.1 + 1 + 16 ≤ _ by omega) (show Q2.2.1 + 4 + 736 ≤ _ by omega)
  obtain ⟨Q3, e3, p3⟩ := st_O (k := 2) k2.2.2.1 (show a < Q2.1 by omega) (by first | decide | (simp only [List.length_set]; decide)) t3
  have k3 := k2.then p3 hlt
  have z3 : Q3.1 = P.1 + 36 := by
    have := p3.1
    simp only [List.length_cons, List.length_nil, len_X5, len_X9, len_X8, len_X4, len_X2, len_X0, len_X6, len_X1, len_X3] at this
    omega
  have y3 : Q3.2.1 = P.2.1 + 1327 := by
    have : Q3.2.1 = Q2.2.1 + 740 := p3.2.1
    omega
  try simp only [z2, xnew_fst] at k3
  have r4_v24 : rA (xnew Q3 (xN 1) (.inr (1, xdef 1))) a 7 1 = some (P.1 + 6) := rA_at (by rw [xnew_ne _ _ _ (by omega)]; exact k3.2.2.1) rfl
  have r4_v26 : rA (xnew Q3 (xN 1) (.inr (1, xdef 1))) a 7 0 = some (P.1 + 0) := rA_at (by rw [xnew_ne _ _ _ (by omega)]; exact k3.2.2.1) rfl
  obtain ⟨S4, s4, t4⟩ := i_X1 (P := xnew Q3 (xN 1) (.inr (1, xdef 1))) (a := Q3.1) (a1 := P.1 + 6) (a2 := P.1 + 0) (xnew_at _ _ _) (Nat.lt_succ_self _) (show Q3.1 + 1 + 21 ≤ _ by omega) (show Q3.2.1 + 17 + 1732 ≤ _ by omega)
  obtain ⟨Q4, e4, p4⟩ := st_O (k := 3) k3.2.2.1 (show a < Q3.1 by omega) (by first | decide | (simp only [List.length_set]; decide)) t4
  have k4 := k3.then p4 hlt
  have z4 : Q4.1 = P.1 + 58 := by
    have := p4.1
    simp only [List.length_cons, List.length_nil, len_X5, len_X9, len_X8, len_X4, len_X2, len_X0, len_X6, len_X1, len_X3] at this
    omega
  have y4 : Q4.2.1 = P.2.1 + 3076 := by
    have : Q4.2.1 = Q3.2.1 + 1749 := p4.2.1
    omega
  try simp only [z3, xnew_fst] at k4
  have r5_v35 : rA (xnew Q4 (xN 1) (.inr (1, xdef 1))) a 7 1 = some (P.1 + 6) := rA_at (by rw [xnew_ne _ _ _ (by omega)]; exact k4.2.2.1) rfl
  have r5_v37 : rA (xnew Q4 (xN 1) (.inr (1, xdef 1))) a 7 0 = some (P.1 + 0) := rA_at (by rw [xnew_ne _ _ _ (by omega)]; exact k4.2.2.1) rfl
  obtain ⟨S5, s5, t5⟩ := i_X1 (P := xnew Q4 (xN 1) (.inr (1, xdef 1))) (a := Q4.1) (a1 := P.1 + 6) (a2 := P.1 + 0) (xnew_at _ _ _) (Nat.lt_succ_self _) (show Q4.1 + 1 + 21 ≤ _ by omega) (show Q4.2.1 + 17 + 1732 ≤ _ by omega)
  obtain ⟨Q5, e5, p5⟩ := st_O (k := 4) k4.2.2.1 (show a < Q4.1 by omega) (by first | decide | (simp only [List.length_set]; decide)) t5
  have k5 := k4.then p5 hlt
  have z5 : Q5.1 = P.1 + 80 := by
    have := p5.1
    simp only [List.length_cons, List.length_nil, len_X5, len_X9, len_X8, len_X4, len_X2, len_X0, len_X6, len_X1, len_X3] at this
    omega
  have y5 : Q5.2.1 = P.2.1 + 4825 := by
    have : Q5.2.1 = Q4.2.1 + 1749 := p5.2.1
    omega
  try simp only [z4, xnew_fst] at k5
  obtain ⟨S6, s6, t6⟩ := i_X4 (P := xnew Q5 (xN 4) (.inr (4, xdef 4))) (a := Q5.1) (xnew_at _ _ _) (Nat.lt_succ_self _) (show Q5.1 + 1 + 2 ≤ _ by omega) (show Q5.2.1 + 3 + 16 ≤ _ by omega)
  obtain ⟨Q6, e6, p6⟩ := st_O (k := 5) k5.2.2.1 (show a < Q5.1 by omega) (by first | decide | (simp only [List.length_set]; decide)) t6
  have k6 := k5.then p6 hlt
  have z6 : Q6.1 = P.1 + 83 := by
    have := p6.1
    simp only [List.length_cons, List.length_nil, len_X5, len_X9, len_X8, len_X4, len_X2, len_X0, len_X6, len_X1, len_X3] at this
    omega
  have y6 : Q6.2.1 = P.2.1 + 4844 := by
    have : Q6.2.1 = Q5.2.1 + 19 := p6.2.1
    omega
  try simp only [z5, xnew_fst] at k6
  obtain ⟨S7, s7, t7⟩ := i_X2 (P := xnew Q6 (xN 2) (.inr (2, xdef 2))) (a := Q6.1) (xnew_at _ _ _) (Nat.lt_succ_self _) (show Q6.1 + 1 + 5 ≤ _ by omega) (show Q6.2.1 + 9 + 35 ≤ _ by omega)
  obtain ⟨Q7, e7, p7⟩ := st_O (k := 6) k6.2.2.1 (show a < Q6.1 by omega) (by first | decide | (simp only [List.length_set]; decide)) t7
  have k7 := k6.then p7 hlt
  have z7 : Q7.1 = P.1 + 89 := by
    have := p7.1
    simp only [List.length_cons, List.length_nil, len_X5, len_X9, len_X8, len_X4, len_X2, len_X0, len_X6, len_X1, len_X3] at this
    omega
  have y7 : Q7.2.1 = P.2.1 + 4888 := by
    have : Q7.2.1 = Q6.2.1 + 44 := p7.2.1
    omega
  try simp only [z6, xnew_fst] at k7
  obtain ⟨S8, s8, t8⟩ := i_X0 (P := xnew Q7 (xN 0) (.inr (0, xdef 0))) (a := Q7.1) (xnew_at _ _ _) (Nat.lt_succ_self _) (show Q7.1 + 1 + 11 ≤ _ by omega) (show Q7.2.1 + 8 + 52 ≤ _ by omega)
  obtain ⟨Q8, e8, p8⟩ := st_O (k := 7) k7.2.2.1 (show a < Q7.1 by omega) (by first | decide | (simp only [List.length_set]; decide)) t8
  have k8 := k7.then p8 hlt
  have z8 : Q8.1 = P.1 + 101 := by
    have := p8.1
    simp only [List.length_cons, List.length_nil, len_X5, len_X9, len_X8, len_X4, len_X2, len_X0, len_X6, len_X1, len_X3] at this
    omega
  have y8 : Q8.2.1 = P.2.1 + 4948 := by
    have : Q8.2.1 = Q7.2.1 + 60 := p8.2.1
    omega
  try simp only [z7, xnew_fst] at k8
  obtain ⟨Q9, e9, p9⟩ := st_V (k := 8) (.int 1) k8.2.2.1 (show a < Q8.1 by omega) (by first | decide | (simp only [List.length_set]; decide))
  have k9 := k8.then p9 hlt
  have z9 : Q9.1 = P.1 + 101 := by
    have := p9.1
    simp only [List.length_cons, List.length_nil, len_X5, len_X9, len_X8, len_X4, len_X2, len_X0, len_X6, len_X1, len_X3] at this
    omega
  have y9 : Q9.2.1 = P.2.1 + 4948 := by
    have : Q9.2.1 = Q8.2.1 + 0 := p9.2.1
    omega
  try simp only [z8, xnew_fst] at k9
  refine ⟨Q9, fun n => ?_, ?_⟩
  · show b_X7_init_0 (n + 33) (f_X7_init (n + 33)) a P = _
    unfold b_X7_init_0
    rw [nO_ok 5 (show P.1 + 1 ≤ _ by omega) (show P.2.1 + 8 ≤ _ by omega), Option.bind_some, s1 (n + 32), Option.bind_some, xU_mk, e1, Option.bind_some, nO_ok 9 (show Q1.1 + 1 ≤ _ by omega) (show Q1.2.1 + 4 ≤ _ by omega), Option.bind_some, s2 (n + 32), Option.bind_some, xU_mk, e2, Option.bind_some, nO_ok 8 (show Q2.1 + 1 ≤ _ by omega) (show Q2.2.1 + 4 ≤ _ by omega), Option.bind_some, s3 (n + 32), Option.bind_some, xU_mk, e3, Option.bind_some, nO_ok 1 (show Q3.1 + 1 ≤ _ by omega) (show Q3.2.1 + 17 ≤ _ by omega), Option.bind_some, r4_v24, Option.bind_some, r4_v26, Option.bind_some, s4 (n + 0), Option.bind_some, xU_mk, e4, Option.bind_some, nO_ok 1 (show Q4.1 + 1 ≤ _ by omega) (show Q4.2.1 + 17 ≤ _ by omega), Option.bind_some, r5_v35, Option.bind_some, r5_v37, Option.bind_some, s5 (n + 0), Option.bind_some, xU_mk, e5, Option.bind_some, nO_ok 4 (show Q5.1 + 1 ≤ _ by omega) (show Q5.2.1 + 3 ≤ _ by omega), Option.bind_some, s6 (n + 32), Option.bind_some, xU_mk, e6, Option.bind_some, nO_ok 2 (show Q6.1 + 1 ≤ _ by omega) (show Q6.2.1 + 9 ≤ _ by omega), Option.bind_some, s7 (n + 32), Option.bind_some, xU_mk, e7, Option.bind_some, nO_ok 0 (show Q7.1 + 1 ≤ _ by omega) (show Q7.2.1 + 8 ≤ _ by omega), Option.bind_some, s8 (n + 32), Option.bind_some, xU_mk, e8, Option.bind_some, e9, Option.bind_some]
  · exact k9
