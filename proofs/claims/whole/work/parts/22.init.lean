def mSh (n b : Nat) : xC := .inl (.array .int, n, .inr (.inr (fun i => if i < n then some (b + 1 + i) else none)))
/-- what each cell is, behind the three constructors: the class 0 to 135, the reference 136 to 151, the law's row 152 -/
def sTab : List xC := [.inr (10, [.ref 1, .ref 9, .ref 111, .ref 133, .null]),
  .inr (3, [.ref 2, .ref 8, .int 0, .int 0, .int 0, .int 0, .int 0, .int 0]),
  .inr (5, [.ref 3, .ref 4, .ref 5, .int 0, .ref 6, .int 0, .ref 7, .int 0]),
  aSh .int 10,
  aSh .int 10,
  aSh .int 11,
  aSh .int 200,
  aSh .int 5,
  aSh .byte 400,
  .inr (7, [.ref 10, .ref 16, .ref 29, .ref 46, .ref 68, .ref 90, .ref 93, .ref 99, .int 0, .int 0]),
  .inr (5, [.ref 11, .ref 12, .ref 13, .int 0, .ref 14, .int 0, .ref 15, .int 0]),
  aSh .int 10,
  aSh .int 10,
  aSh .int 11,
  aSh .int 200,
  aSh .int 5,
  .inr (9, [.ref 17, .ref 27, .ref 28, .int 0]),
  mSh 9 17,
  aSh .int 30,
  aSh .int 30,
  aSh .int 30,
  aSh .int 30,
  aSh .int 30,
  aSh .int 30,
  aSh .int 30,
  aSh .int 30,
  aSh .int 30,
  aSh .int 30,
  aSh .int 30,
  .inr (8, [.ref 30, .ref 35, .ref 40, .ref 45]),
  mSh 4 30,
  aSh .int 60,
  aSh .int 60,
  aSh .int 60,
  aSh .int 60,
  mSh 4 35,
  aSh .int 60,
  aSh .int 60,
  aSh .int 60,
  aSh .int 60,
  mSh 4 40,
  aSh .int 60,
  aSh .int 60,
  aSh .int 60,
  aSh .int 60,
  aSh .int 4,
  .inr (1, [.ref 16, .ref 10, .int 0, .int 0, .int 0, .ref 47, .ref 56, .ref 61, .ref 62, .ref 63, .ref 64, .ref 65, .ref 66, .ref 67, .int 0, .int 0, .int 0]),
  mSh 8 47,
  aSh .int 10,
  aSh .int 10,
  aSh .int 10,
  aSh .int 10,
  aSh .int 10,
  aSh .int 10,
  aSh .int 10,
  aSh .int 10,
  mSh 4 56,
  aSh .int 300,
  aSh .int 300,
  aSh .int 300,
  aSh .int 300,
  jSh 300,
  aSh .int 10,
  aSh .int 30,
  aSh .int 30,
  aSh .int 30,
  jSh 30,
  aSh .int 10,
  .inr (1, [.ref 16, .ref 10, .int 0, .int 0, .int 0, .ref 69, .ref 78, .ref 83, .ref 84, .ref 85, .ref 86, .ref 87, .ref 88, .ref 89, .int 0, .int 0, .int 0]),
  mSh 8 69,
  aSh .int 10,
  aSh .int 10,
  aSh .int 10,
  aSh .int 10,
  aSh .int 10,
  aSh .int 10,
  aSh .int 10,
  aSh .int 10,
  mSh 4 78,
  aSh .int 300,
  aSh .int 300,
  aSh .int 300,
  aSh .int 300,
  jSh 300,
  aSh .int 10,
  aSh .int 30,
  aSh .int 30,
  aSh .int 30,
  jSh 30,
  aSh .int 10,
  .inr (4, [.ref 91, .ref 92, .int 0]),
  aSh .int 8,
  aSh .int 8,
  .inr (2, [.ref 94, .ref 95, .ref 96, .ref 97, .ref 98, .int 0, .int 0, .int 0, .int 0]),
  aSh .int 7,
  aSh .int 7,
  aSh .int 7,
  aSh .int 7,
  aSh .int 7,
  .inr (0, [.ref 100, .ref 107, .ref 108, .ref 109, .ref 110, .int 0, .int 0, .int 0]),
  mSh 6 100,
  aSh .int 5,
  aSh .int 5,
  aSh .int 5,
  aSh .int 5,
  aSh .int 5,
  aSh .int 5,
  aSh .int 4,
  aSh .int 4,
  aSh .int 4,
  aSh .int 4,
  .inr (1, [.ref 16, .ref 10, .int 0, .int 0, .int 0, .ref 112, .ref 121, .ref 126, .ref 127, .ref 128, .ref 129, .ref 130, .ref 131, .ref 132, .int 0, .int 0, .int 0]),
  mSh 8 112,
  aSh .int 10,
  aSh .int 10,
  aSh .int 10,
  aSh .int 10,
  aSh .int 10,
  aSh .int 10,
  aSh .int 10,
  aSh .int 10,
  mSh 4 121,
  aSh .int 300,
  aSh .int 300,
  aSh .int 300,
  aSh .int 300,
  jSh 300,
  aSh .int 10,
  aSh .int 30,
  aSh .int 30,
  aSh .int 30,
  jSh 30,
  aSh .int 10,
  .inr (6, [.ref 16, .ref 46, .ref 134, .ref 135, .int 0]),
  aSh .int 30,
  aSh .int 10,
  .inr (11, [.int 0, .ref 137, .ref 138, .ref 139, .ref 140, .int 0, .int 0, .int 0, .ref 141, .int 0, .int 0, .int 0, .int 0, .int 0, .int 0, .ref 142, .int 0, .ref 143, .ref 144, .ref 145, .ref 146, .ref 147, .int 0, .ref 148, .ref 149, .int 0, .int 0, .ref 150, .ref 151, .int 0]),
  aSh .int 2301,
  aSh .int 2301,
  aSh .int 5921,
  aSh .int 7381,
  aSh .byte 400,
  aSh .int 5,
  aSh .boolean 7,
  aSh .int 5,
  aSh .boolean 400,
  aSh .boolean 60,
  aSh .int 30,
  aSh .int 7,
  aSh .int 7,
  aSh .int 4,
  aSh .int 4,
  jSh 1]
def sOf (a : Nat) : xC := sTab.getD a (.inr (99, []))
abbrev xno : xC := .inr (99, [])
/-- from P to Q: the cells L are new, of m slots; the object a has the fields fs -/
def xMk (P : xH) (a ci : Nat) (fs : List Value) (L : List xC) (m : Nat) (Q : xH) : Prop :=
  Q.1 = P.1 + L.length ∧ Q.2.1 = P.2.1 + m ∧ Q.2.2 a = .inr (ci, fs) ∧ (∀ j, j < L.length → Q.2.2 (P.1 + j) = L.getD j xno) ∧ (∀ j, j ≠ a → j < P.1 → Q.2.2 j = P.2.2 j) ∧ ∀ j, P.1 + L.length ≤ j → Q.2.2 j = P.2.2 j
theorem xMk.nil {P : xH} {a ci : Nat} {fs : List Value} (ha : P.2.2 a = .inr (ci, fs)) : xMk P a ci fs [] 0 P := ⟨rfl, rfl, ha, nofun, fun _ _ _ => rfl, fun _ _ => rfl⟩
theorem xMk.then {P Q R : xH} {a ci m m' : Nat} {fs fs' : List Value} {L L' : List xC} (h : xMk P a ci fs L m Q) (g : xMk Q a ci fs' L' m' R) (hlt : a < P.1) : xMk P a ci fs' (L ++ L') (m + m') R := by
  obtain ⟨h1, h2, h3, h4, h5, h6⟩ := h
  obtain ⟨g1, g2, g3, g4, g5, g6⟩ := g
  rw [h1] at g1 g4 g5 g6
  refine ⟨by rw [List.length_append]; omega, by omega, g3, fun j hj => ?_, fun j q1 q2 => ?_, fun j q1 => ?_⟩
  · rw [List.length_append] at hj
    by_cases e : j < L.length
    · rw [g5 (P.1 + j) (by omega) (by omega), h4 j e]
      simp [List.getD, List.getElem?_append_left e]
    · have := g4 (j - L.length) (by omega)
      rw [show P.1 + L.length + (j - L.length) = P.1 + j by omega] at this
      rw [this]
      simp [List.getD, List.getElem?_append_right (Nat.not_lt.mp e)]
  · rw [g5 j q1 (by omega)]
    exact h5 j q1 q2
  · rw [List.length_append] at q1
    rw [g6 j (by omega)]
    exact h6 j (by omega)
/-- a store alone -/
theorem st_V {P : xH} {a ci k : Nat} {fs : List Value} (v : Value) (ha : P.2.2 a = .inr (ci, fs)) (hlt : a < P.1) (hk : k < fs.length) : ∃ Q, wV P a ci k v = some Q ∧ xMk P a ci (fs.set k v) [] 0 Q := by
  refine ⟨xput P a (.inr (ci, fs.set k v)), ?_, rfl, rfl, xput_at _ _ _, nofun, fun j hj _ => xput_ne _ _ hj, fun j hj => ?_⟩
  · unfold wV
    rw [ha]
    exact if_pos ⟨rfl, hk⟩
  · exact xput_ne _ _ (by simp only [List.length_nil] at hj; omega)
theorem st_one {P : xH} {a ci k : Nat} {fs : List Value} {n : Nat} {c : xC} (ha : P.2.2 a = .inr (ci, fs)) (hlt : a < P.1) (hk : k < fs.length) : ∃ Q, wV (xnew P n c) a ci k (.ref P.1) = some Q ∧ xMk P a ci (fs.set k (.ref P.1)) [c] n Q := by
  have h1 : (xnew P n c).2.2 a = .inr (ci, fs) := by rw [xnew_ne P n c (by omega)]; exact ha
  refine ⟨xput (xnew P n c) a (.inr (ci, fs.set k (.ref P.1))), ?_, rfl, rfl, xput_at _ _ _, fun j hj => ?_, fun j h2 h3 => ?_, fun j h2 => ?_⟩
  · unfold wV
    rw [h1]
    exact if_pos ⟨rfl, hk⟩
  · simp only [List.length_cons, List.length_nil] at hj
    rw [show j = 0 by omega, Nat.add_zero, xput_ne _ _ (by omega)]
    exact xnew_at P n c
  · rw [xput_ne _ _ h2, xnew_ne P n c (by omega)]
  · simp only [List.length_cons, List.length_nil] at h2
    rw [xput_ne _ _ (by omega), xnew_ne P n c (by omega)]
theorem st_I {P : xH} {a ci k : Nat} {fs : List Value} {N : Nat} (n : Int32) (hN : n.toNatClampNeg = N) (ha : P.2.2 a = .inr (ci, fs)) (hlt : a < P.1) (hk : k < fs.length) (h0 : ¬ n < 0) (h9 : N ≤ 100000) (r1 : P.1 + 1 ≤ 601024) (r2 : P.2.1 + N ≤ 7293034) :
    ∃ Q, (∀ K : xH → xO, ((nI' P n).bind fun P1 => (wV P1 a ci k (.ref P.1)).bind K) = K Q) ∧ xMk P a ci (fs.set k (.ref P.1)) [aSh .int N] N Q := by
  subst hN
  obtain ⟨Q, e, h⟩ := st_one (n := n.toNatClampNeg) (c := aSh .int n.toNatClampNeg) ha hlt hk
  refine ⟨Q, fun K => ?_, h⟩
  unfold nI'
  rw [if_neg (by rintro (q | q | q | q); exact h0 q; all_goals omega), Option.bind_some]
  show (wV (xnew P _ (aSh .int _)) a ci k (.ref P.1)).bind K = _
  rw [e, Option.bind_some]
theorem st_B {P : xH} {a ci k : Nat} {fs : List Value} {N : Nat} (n : Int32) (hN : n.toNatClampNeg = N) (ha : P.2.2 a = .inr (ci, fs)) (hlt : a < P.1) (hk : k < fs.length) (h0 : ¬ n < 0) (h9 : N ≤ 100000) (r1 : P.1 + 1 ≤ 601024) (r2 : P.2.1 + N ≤ 7293034) :
    ∃ Q, (∀ K : xH → xO, ((nB' P n).bind fun P1 => (wV P1 a ci k (.ref P.1)).bind K) = K Q) ∧ xMk P a ci (fs.set k (.ref P.1)) [aSh .byte N] N Q := by
  subst hN
  obtain ⟨Q, e, h⟩ := st_one (n := n.toNatClampNeg) (c := aSh .byte n.toNatClampNeg) ha hlt hk
  refine ⟨Q, fun K => ?_, h⟩
  unfold nB'
  rw [if_neg (by rintro (q | q | q | q); exact h0 q; all_goals omega), Option.bind_some]
  show (wV (xnew P _ (aSh .byte _)) a ci k (.ref P.1)).bind K = _
  rw [e, Option.bind_some]
theorem st_Z {P : xH} {a ci k : Nat} {fs : List Value} {N : Nat} (n : Int32) (hN : n.toNatClampNeg = N) (ha : P.2.2 a = .inr (ci, fs)) (hlt : a < P.1) (hk : k < fs.length) (h0 : ¬ n < 0) (h9 : N ≤ 100000) (r1 : P.1 + 1 ≤ 601024) (r2 : P.2.1 + N ≤ 7293034) :
    ∃ Q, (∀ K : xH → xO, ((nZ' P n).bind fun P1 => (wV P1 a ci k (.ref P.1)).bind K) = K Q) ∧ xMk P a ci (fs.set k (.ref P.1)) [aSh .boolean N] N Q := by
  subst hN
  obtain ⟨Q, e, h⟩ := st_one (n := n.toNatClampNeg) (c := aSh .boolean n.toNatClampNeg) ha hlt hk
  refine ⟨Q, fun K => ?_, h⟩
  unfold nZ'
  rw [if_neg (by rintro (q | q | q | q); exact h0 q; all_goals omega), Option.bind_some]
  show (wV (xnew P _ (aSh .boolean _)) a ci k (.ref P.1)).bind K = _
  rw [e, Option.bind_some]
theorem st_J {P : xH} {a ci k : Nat} {fs : List Value} {N : Nat} (n : Int32) (hN : n.toNatClampNeg = N) (ha : P.2.2 a = .inr (ci, fs)) (hlt : a < P.1) (hk : k < fs.length) (h0 : ¬ n < 0) (h9 : N ≤ 100000) (r1 : P.1 + 1 ≤ 601024) (r2 : P.2.1 + N ≤ 7293034) :
    ∃ Q, (∀ K : xH → xO, ((nJ' P n).bind fun P1 => (wV P1 a ci k (.ref P.1)).bind K) = K Q) ∧ xMk P a ci (fs.set k (.ref P.1)) [jSh N] N Q := by
  subst hN
  obtain ⟨Q, e, h⟩ := st_one (n := n.toNatClampNeg) (c := jSh n.toNatClampNeg) ha hlt hk
  refine ⟨Q, fun K => ?_, h⟩
  unfold nJ'
  rw [if_neg (by rintro (q | q | q | q); exact h0 q; all_goals omega), Option.bind_some]
  show (wV (xnew P _ (jSh _)) a ci k (.ref P.1)).bind K = _
  rw [e, Option.bind_some]
theorem st_M {P : xH} {a ci k : Nat} {fs : List Value} {N D : Nat} (n d : Int32) (hN : n.toNatClampNeg = N) (hD : d.toNatClampNeg = D) (ha : P.2.2 a = .inr (ci, fs)) (hlt : a < P.1) (hk : k < fs.length) (h0 : ¬ n < 0) (h1 : ¬ d < 0) (h9 : N ≤ 100000) (h8 : D ≤ 100000) (r1 : P.1 + 1 + N ≤ 601024) (r2 : P.2.1 + N + N * D ≤ 7293034) :
    ∃ Q, (∀ K : xH → xO, ((nM' P n d).bind fun P1 => (wV P1 a ci k (.ref P.1)).bind K) = K Q) ∧ xMk P a ci (fs.set k (.ref P.1)) (mSh N P.1 :: List.replicate N (aSh .int D)) (N + N * D) Q := by
  subst hN
  subst hD
  have e1 : (xmna P n.toNatClampNeg d.toNatClampNeg).2.2 a = .inr (ci, fs) := by
    show (if a = P.1 then _ else if P.1 < a ∧ _ then _ else P.2.2 a) = _
    rw [if_neg (by omega), if_neg (by omega)]
    exact ha
  refine ⟨xput (xmna P n.toNatClampNeg d.toNatClampNeg) a (.inr (ci, fs.set k (.ref P.1))), fun K => ?_, ?_, by show P.2.1 + n.toNatClampNeg + _ = _; omega, xput_at _ _ _, fun j hj => ?_, fun j h2 h3 => ?_, fun j h2 => ?_⟩
  · unfold nM'
    rw [if_neg (by rintro (q | q | q | q | q | q); exact h0 q; exact h1 q; all_goals omega), Option.bind_some]
    have e2 : wV (xmna P n.toNatClampNeg d.toNatClampNeg) a ci k (.ref P.1) = some (xput (xmna P n.toNatClampNeg d.toNatClampNeg) a (.inr (ci, fs.set k (.ref P.1)))) := by
      unfold wV
      rw [e1]
      exact if_pos ⟨rfl, hk⟩
    rw [e2, Option.bind_some]
  · simp only [List.length_cons, List.length_replicate]
    show P.1 + 1 + n.toNatClampNeg = _
    omega
  · simp only [List.length_cons, List.length_replicate] at hj
    rw [xput_ne _ _ (by omega)]
    show (if P.1 + j = P.1 then _ else if P.1 < P.1 + j ∧ P.1 + j < P.1 + 1 + n.toNatClampNeg then _ else _) = _
    cases j with
    | zero =>
      rw [if_pos (by omega)]
      rfl
    | succ j =>
      rw [if_neg (by omega), if_pos (by omega)]
      have hj2 : j < n.toNatClampNeg := by omega
      simp [List.getD, List.getElem?_replicate, hj2, aSh]
  · rw [xput_ne _ _ h2]
    show (if j = P.1 then _ else if P.1 < j ∧ _ then _ else P.2.2 j) = _
    rw [if_neg (by omega), if_neg (by omega)]
  · simp only [List.length_cons, List.length_replicate] at h2
    rw [xput_ne _ _ (by omega)]
    show (if j = P.1 then _ else if P.1 < j ∧ j < P.1 + 1 + n.toNatClampNeg then _ else P.2.2 j) = _
    rw [if_neg (by omega), if_neg (by omega)]
theorem nO_ok {P : xH} (ci : Nat) (r1 : P.1 + 1 ≤ 601024) (r2 : P.2.1 + xN ci ≤ 7293034) : nO P ci = some (xnew P (xN ci) (.inr (ci, xdef ci))) := if_pos ⟨r1, r2⟩
/-- a new object, made by its constructor, and its reference put into a field -/
theorem st_O {P P3 : xH} {a ci k c' m : Nat} {fs fs' : List Value} {L : List xC} (ha : P.2.2 a = .inr (ci, fs)) (hlt : a < P.1) (hk : k < fs.length) (h : xMk (xnew P (xN c') (.inr (c', xdef c'))) P.1 c' fs' L m P3) : ∃ Q, wV P3 a ci k (.ref P.1) = some Q ∧ xMk P a ci (fs.set k (.ref P.1)) (.inr (c', fs') :: L) (xN c' + m) Q := by
  obtain ⟨h1, h2, h3, h4, h5, h6⟩ := h
  have e1 : (xnew P (xN c') (.inr (c', xdef c'))).1 = P.1 + 1 := rfl
  have e2 : (xnew P (xN c') (.inr (c', xdef c'))).2.1 = P.2.1 + xN c' := rfl
  rw [e1] at h1 h4 h5 h6
  rw [e2] at h2
  have h7 : P3.2.2 a = .inr (ci, fs) := by
    rw [h5 a (by omega) (by omega), xnew_ne P _ _ (by omega)]
    exact ha
  refine ⟨xput P3 a (.inr (ci, fs.set k (.ref P.1))), ?_, ?_, ?_, xput_at _ _ _, fun j hj => ?_, fun j q1 q2 => ?_, fun j q1 => ?_⟩
  · unfold wV
    rw [h7]
    exact if_pos ⟨rfl, hk⟩
  · rw [List.length_cons]
    show P3.1 = _
    omega
  · show P3.2.1 = _
    omega
  · rw [List.length_cons] at hj
    rw [xput_ne _ _ (by omega)]
    cases j with
    | zero => exact h3
    | succ j =>
      have := h4 j (by omega)
      rw [show P.1 + 1 + j = P.1 + (j + 1) by omega] at this
      rw [this]
      simp [List.getD]
  · rw [xput_ne _ _ q1, h5 j (by omega) (by omega), xnew_ne P _ _ (by omega)]
  · rw [List.length_cons] at q1
    rw [xput_ne _ _ (by omega), h6 j (by omega), xnew_ne P _ _ (by omega)]
theorem rA_at {P : xH} {o ci k r : Nat} {fs : List Value} (h : P.2.2 o = .inr (ci, fs)) (hk : fs[k]? = some (.ref r)) : rA P o ci k = some r := by
  unfold rA
  rw [h]
  simp only [hk, if_true]
def L_X5 (p : Nat) : List xC := [aSh .int 10, aSh .int 10, aSh .int 11, aSh .int 200, aSh .int 5]
def F_X5 (p : Nat) : List Value := [.ref (p + 0), .ref (p + 1), .ref (p + 2), .int 0, .ref (p + 3), .int 0, .ref (p + 4), .int 0]
theorem i_X5 {P : xH} {a : Nat} (ha : P.2.2 a = .inr (5, xdef 5)) (hlt : a < P.1) (r1 : P.1 + 5 ≤ 601024) (r2 : P.2.1 + 236 ≤ 7293034) : ∃ Q, (∀ n, f_X5_init (n + 1) 0 [.ref a] P = some (.inl none, Q)) ∧ xMk P a 5 (F_X5 P.1) (L_X5 P.1) 236 Q := by
  have k0 := xMk.nil ha
  obtain ⟨Q1, e1, p1⟩ := st_I (k := 0) 10 (N := 10) rfl k0.2.2.1 (show _ < _ by have := k0.1; simp only [List.length_cons, List.length_append, List.length_nil, List.length_replicate] at this; omega) (by first | decide | (simp only [List.length_set]; decide)) (by decide) (by decide) (show _ + 1 ≤ _ by have := k0.1; simp only [List.length_cons, List.length_append, List.length_nil, List.length_replicate] at this; omega) (show _ + 10 ≤ _ by have := k0.2.1; omega)
  have z0 := k0.1
  have k1 := k0.then p1 hlt
  obtain ⟨Q2, e2, p2⟩ := st_I (k := 1) 10 (N := 10) rfl k1.2.2.1 (show _ < _ by have := k1.1; simp only [List.length_cons, List.length_append, List.length_nil, List.length_replicate] at this; omega) (by first | decide | (simp only [List.length_set]; decide)) (by decide) (by decide) (show _ + 1 ≤ _ by have := k1.1; simp only [List.length_cons, List.length_append, List.length_nil, List.length_replicate] at this; omega) (show _ + 10 ≤ _ by have := k1.2.1; omega)
  have z1 := k1.1
  have k2 := k1.then p2 hlt
  obtain ⟨Q3, e3, p3⟩ := st_I (k := 2) 11 (N := 11) rfl k2.2.2.1 (show _ < _ by have := k2.1; simp only [List.length_cons, List.length_append, List.length_nil, List.length_replicate] at this; omega) (by first | decide | (simp only [List.length_set]; decide)) (by decide) (by decide) (show _ + 1 ≤ _ by have := k2.1; simp only [List.length_cons, List.length_append, List.length_nil, List.length_replicate] at this; omega) (show _ + 11 ≤ _ by have := k2.2.1; omega)
  have z2 := k2.1
  have k3 := k2.then p3 hlt
  obtain ⟨Q4, e4, p4⟩ := st_I (k := 4) 200 (N := 200) rfl k3.2.2.1 (show _ < _ by have := k3.1; simp only [List.length_cons, List.length_append, List.length_nil, List.length_replicate] at this; omega) (by first | decide | (simp only [List.length_set]; decide)) (by decide) (by decide) (show _ + 1 ≤ _ by have := k3.1; simp only [List.length_cons, List.length_append, List.length_nil, List.length_replicate] at this; omega) (show _ + 200 ≤ _ by have := k3.2.1; omega)
  have z3 := k3.1
  have k4 := k3.then p4 hlt
  obtain ⟨Q5, e5, p5⟩ := st_I (k := 6) 5 (N := 5) rfl k4.2.2.1 (show _ < _ by have := k4.1; simp only [List.length_cons, List.length_append, List.length_nil, List.length_replicate] at this; omega) (by first | decide | (simp only [List.length_set]; decide)) (by decide) (by decide) (show _ + 1 ≤ _ by have := k4.1; simp only [List.length_cons, List.length_append, List.length_nil, List.length_replicate] at this; omega) (show _ + 5 ≤ _ by have := k4.2.1; omega)
  have z4 := k4.1
  have k5 := k4.then p5 hlt
  refine ⟨Q5, fun n => ?_, ?_⟩
  · show b_X5_init_0 n (f_X5_init n) a  P = _
    unfold b_X5_init_0
    rw [e1, e2, e3, e4, e5]
  · simp only [List.length_cons, List.length_append, List.length_nil, List.length_replicate] at z0 z1 z2 z3 z4
    simp only [z1, z2, z3, z4] at k5
    exact k5
def L_X9 (p : Nat) : List xC := [mSh 9 (p + 0), aSh .int 30, aSh .int 30, aSh .int 30, aSh .int 30, aSh .int 30, aSh .int 30, aSh .int 30, aSh .int 30, aSh .int 30, aSh .int 30, aSh .int 30]
def F_X9 (p : Nat) : List Value := [.ref (p + 0), .ref (p + 10), .ref (p + 11), .int 0]
theorem i_X9 {P : xH} {a : Nat} (ha : P.2.2 a = .inr (9, xdef 9)) (hlt : a < P.1) (r1 : P.1 + 12 ≤ 601024) (r2 : P.2.1 + 339 ≤ 7293034) : ∃ Q, (∀ n, f_X9_init (n + 1) 0 [.ref a] P = some (.inl none, Q)) ∧ xMk P a 9 (F_X9 P.1) (L_X9 P.1) 339 Q := by
  have k0 := xMk.nil ha
  obtain ⟨Q1, e1, p1⟩ := st_M (k := 0) 9 30 (N := 9) (D := 30) rfl rfl k0.2.2.1 (show _ < _ by have := k0.1; simp only [List.length_cons, List.length_append, List.length_nil, List.length_replicate] at this; omega) (by first | decide | (simp only [List.length_set]; decide)) (by decide) (by decide) (by decide) (by decide) (show _ + 1 + 9 ≤ _ by have := k0.1; simp only [List.length_cons, List.length_append, List.length_nil, List.length_replicate] at this; omega) (show _ + 9 + 9 * 30 ≤ _ by have := k0.2.1; omega)
  have z0 := k0.1
  have k1 := k0.then p1 hlt
  obtain ⟨Q2, e2, p2⟩ := st_I (k := 1) 30 (N := 30) rfl k1.2.2.1 (show _ < _ by have := k1.1; simp only [List.length_cons, List.length_append, List.length_nil, List.length_replicate] at this; omega) (by first | decide | (simp only [List.length_set]; decide)) (by decide) (by decide) (show _ + 1 ≤ _ by have := k1.1; simp only [List.length_cons, List.length_append, List.length_nil, List.length_replicate] at this; omega) (show _ + 30 ≤ _ by have := k1.2.1; omega)
  have z1 := k1.1
  have k2 := k1.then p2 hlt
  obtain ⟨Q3, e3, p3⟩ := st_I (k := 2) 30 (N := 30) rfl k2.2.2.1 (show _ < _ by have := k2.1; simp only [List.length_cons, List.length_append, List.length_nil, List.length_replicate] at this; omega) (by first | decide | (simp only [List.length_set]; decide)) (by decide) (by decide) (show _ + 1 ≤ _ by have := k2.1; simp only [List.length_cons, List.length_append, List.length_nil, List.length_replicate] at this; omega) (show _ + 30 ≤ _ by have := k2.2.1; omega)
  have z2 := k2.1
  have k3 := k2.then p3 hlt
  refine ⟨Q3, fun n => ?_, ?_⟩
  · show b_X9_init_0 n (f_X9_init n) a  P = _
    unfold b_X9_init_0
    rw [e1, e2, e3]
  · simp only [List.length_cons, List.length_append, List.length_nil, List.length_replicate] at z0 z1 z2
    simp only [z1, z2] at k3
    exact k3
def L_X8 (p : Nat) : List xC := [mSh 4 (p + 0), aSh .int 60, aSh .int 60, aSh .int 60, aSh .int 60, mSh 4 (p + 5), aSh .int 60, aSh .int 60, aSh .int 60, aSh .int 60, mSh 4 (p + 10), aSh .int 60, aSh .int 60, aSh .int 60, aSh .int 60, aSh .int 4]
def F_X8 (p : Nat) : List Value := [.ref (p + 0), .ref (p + 5), .ref (p + 10), .ref (p + 15)]
theorem i_X8 {P : xH} {a : Nat} (ha : P.2.2 a = .inr (8, xdef 8)) (hlt : a < P.1) (r1 : P.1 + 16 ≤ 601024) (r2 : P.2.1 + 736 ≤ 7293034) : ∃ Q, (∀ n, f_X8_init (n + 1) 0 [.ref a] P = some (.inl none, Q)) ∧ xMk P a 8 (F_X8 P.1) (L_X8 P.1) 736 Q := by
  have k0 := xMk.nil ha
  obtain ⟨Q1, e1, p1⟩ := st_M (k := 0) 4 60 (N := 4) (D := 60) rfl rfl k0.2.2.1 (show _ < _ by have := k0.1; simp only [List.length_cons, List.length_append, List.length_nil, List.length_replicate] at this; omega) (by first | decide | (simp only [List.length_set]; decide)) (by decide) (by decide) (by decide) (by decide) (show _ + 1 + 4 ≤ _ by have := k0.1; simp only [List.length_cons, List.length_append, List.length_nil, List.length_replicate] at this; omega) (show _ + 4 + 4 * 60 ≤ _ by have := k0.2.1; omega)
  have z0 := k0.1
  have k1 := k0.then p1 hlt
  obtain ⟨Q2, e2, p2⟩ := st_M (k := 1) 4 60 (N := 4) (D := 60) rfl rfl k1.2.2.1 (show _ < _ by have := k1.1; simp only [List.length_cons, List.length_append, List.length_nil, List.length_replicate] at this; omega) (by first | decide | (simp only [List.length_set]; decide)) (by decide) (by decide) (by decide) (by decide) (show _ + 1 + 4 ≤ _ by have := k1.1; simp only [List.length_cons, List.length_append, List.length_nil, List.length_replicate] at this; omega) (show _ + 4 + 4 * 60 ≤ _ by have := k1.2.1; omega)
  have z1 := k1.1
  have k2 := k1.then p2 hlt
  obtain ⟨Q3, e3, p3⟩ := st_M (k := 2) 4 60 (N := 4) (D := 60) rfl rfl k2.2.2.1 (show _ < _ by have := k2.1; simp only [List.length_cons, List.length_append, List.length_nil, List.length_replicate] at this; omega) (by first | decide | (simp only [List.length_set]; decide)) (by decide) (by decide) (by decide) (by decide) (show _ + 1 + 4 ≤ _ by have := k2.1; simp only [List.length_cons, List.length_append, List.length_nil, List.length_replicate] at this; omega) (show _ + 4 + 4 * 60 ≤ _ by have := k2.2.1; omega)
  have z2 := k2.1
  have k3 := k2.then p3 hlt
  obtain ⟨Q4, e4, p4⟩ := st_I (k := 3) 4 (N := 4) rfl k3.2.2.1 (show _ < _ by have := k3.1; simp only [List.length_cons, List.length_append, List.length_nil, List.length_replicate] at this; omega) (by first | decide | (simp only [List.length_set]; decide)) (by decide) (by decide) (show _ + 1 ≤ _ by have := k3.1; simp only [List.length_cons, List.length_append, List.length_nil, List.length_replicate] at this; omega) (show _ + 4 ≤ _ by have := k3.2.1; omega)
  have z3 := k3.1
  have k4 := k3.then p4 hlt
  refine ⟨Q4, fun n => ?_, ?_⟩
  · show b_X8_init_0 n (f_X8_init n) a  P = _
    unfold b_X8_init_0
    rw [e1, e2, e3, e4]
  · simp only [List.length_cons, List.length_append, List.length_nil, List.length_replicate] at z0 z1 z2 z3
    simp only [z1, z2, z3] at k4
    exact k4
def L_X4 (p : Nat) : List xC := [aSh .int 8, aSh .int 8]
def F_X4 (p : Nat) : List Value := [.ref (p + 0), .ref (p + 1), .int 0]
theorem i_X4 {P : xH} {a : Nat} (ha : P.2.2 a = .inr (4, xdef 4)) (hlt : a < P.1) (r1 : P.1 + 2 ≤ 601024) (r2 : P.2.1 + 16 ≤ 7293034) : ∃ Q, (∀ n, f_X4_init (n + 1) 0 [.ref a] P = some (.inl none, Q)) ∧ xMk P a 4 (F_X4 P.1) (L_X4 P.1) 16 Q := by
  have k0 := xMk.nil ha
  obtain ⟨Q1, e1, p1⟩ := st_I (k := 0) 8 (N := 8) rfl k0.2.2.1 (show _ < _ by have := k0.1; simp only [List.length_cons, List.length_append, List.length_nil, List.length_replicate] at this; omega) (by first | decide | (simp only [List.length_set]; decide)) (by decide) (by decide) (show _ + 1 ≤ _ by have := k0.1; simp only [List.length_cons, List.length_append, List.length_nil, List.length_replicate] at this; omega) (show _ + 8 ≤ _ by have := k0.2.1; omega)
  have z0 := k0.1
  have k1 := k0.then p1 hlt
  obtain ⟨Q2, e2, p2⟩ := st_I (k := 1) 8 (N := 8) rfl k1.2.2.1 (show _ < _ by have := k1.1; simp only [List.length_cons, List.length_append, List.length_nil, List.length_replicate] at this; omega) (by first | decide | (simp only [List.length_set]; decide)) (by decide) (by decide) (show _ + 1 ≤ _ by have := k1.1; simp only [List.length_cons, List.length_append, List.length_nil, List.length_replicate] at this; omega) (show _ + 8 ≤ _ by have := k1.2.1; omega)
  have z1 := k1.1
  have k2 := k1.then p2 hlt
  refine ⟨Q2, fun n => ?_, ?_⟩
  · show b_X4_init_0 n (f_X4_init n) a  P = _
    unfold b_X4_init_0
    rw [e1, e2]
  · simp only [List.length_cons, List.length_append, List.length_nil, List.length_replicate] at z0 z1
    simp only [z1] at k2
    exact k2
def L_X2 (p : Nat) : List xC := [aSh .int 7, aSh .int 7, aSh .int 7, aSh .int 7, aSh .int 7]
def F_X2 (p : Nat) : List Value := [.ref (p + 0), .ref (p + 1), .ref (p + 2), .ref (p + 3), .ref (p + 4), .int 0, .int 10, .int 0, .int 0]
theorem i_X2 {P : xH} {a : Nat} (ha : P.2.2 a = .inr (2, xdef 2)) (hlt : a < P.1) (r1 : P.1 + 5 ≤ 601024) (r2 : P.2.1 + 35 ≤ 7293034) : ∃ Q, (∀ n, f_X2_init (n + 1) 0 [.ref a] P = some (.inl none, Q)) ∧ xMk P a 2 (F_X2 P.1) (L_X2 P.1) 35 Q := by
  have k0 := xMk.nil ha
  obtain ⟨Q1, e1, p1⟩ := st_I (k := 0) 7 (N := 7) rfl k0.2.2.1 (show _ < _ by have := k0.1; simp only [List.length_cons, List.length_append, List.length_nil, List.length_replicate] at this; omega) (by first | decide | (simp only [List.length_set]; decide)) (by decide) (by decide) (show _ + 1 ≤ _ by have := k0.1; simp only [List.length_cons, List.length_append, List.length_nil, List.length_replicate] at this; omega) (show _ + 7 ≤ _ by have := k0.2.1; omega)
  have z0 := k0.1
  have k1 := k0.then p1 hlt
  obtain ⟨Q2, e2, p2⟩ := st_I (k := 1) 7 (N := 7) rfl k1.2.2.1 (show _ < _ by have := k1.1; simp only [List.length_cons, List.length_append, List.length_nil, List.length_replicate] at this; omega) (by first | decide | (simp only [List.length_set]; decide)) (by decide) (by decide) (show _ + 1 ≤ _ by have := k1.1; simp only [List.length_cons, List.length_append, List.length_nil, List.length_replicate] at this; omega) (show _ + 7 ≤ _ by have := k1.2.1; omega)
  have z1 := k1.1
  have k2 := k1.then p2 hlt
  obtain ⟨Q3, e3, p3⟩ := st_I (k := 2) 7 (N := 7) rfl k2.2.2.1 (show _ < _ by have := k2.1; simp only [List.length_cons, List.length_append, List.length_nil, List.length_replicate] at this; omega) (by first | decide | (simp only [List.length_set]; decide)) (by decide) (by decide) (show _ + 1 ≤ _ by have := k2.1; simp only [List.length_cons, List.length_append, List.length_nil, List.length_replicate] at this; omega) (show _ + 7 ≤ _ by have := k2.2.1; omega)
  have z2 := k2.1
  have k3 := k2.then p3 hlt
  obtain ⟨Q4, e4, p4⟩ := st_I (k := 3) 7 (N := 7) rfl k3.2.2.1 (show _ < _ by have := k3.1; simp only [List.length_cons, List.length_append, List.length_nil, List.length_replicate] at this; omega) (by first | decide | (simp only [List.length_set]; decide)) (by decide) (by decide) (show _ + 1 ≤ _ by have := k3.1; simp only [List.length_cons, List.length_append, List.length_nil, List.length_replicate] at this; omega) (show _ + 7 ≤ _ by have := k3.2.1; omega)
  have z3 := k3.1
  have k4 := k3.then p4 hlt
  obtain ⟨Q5, e5, p5⟩ := st_I (k := 4) 7 (N := 7) rfl k4.2.2.1 (show _ < _ by have := k4.1; simp only [List.length_cons, List.length_append, List.length_nil, List.length_replicate] at this; omega) (by first | decide | (simp only [List.length_set]; decide)) (by decide) (by decide) (show _ + 1 ≤ _ by have := k4.1; simp only [List.length_cons, List.length_append, List.length_nil, List.length_replicate] at this; omega) (show _ + 7 ≤ _ by have := k4.2.1; omega)
  have z4 := k4.1
  have k5 := k4.then p5 hlt
  obtain ⟨Q6, e6, p6⟩ := st_V (k := 6) (.int 10) k5.2.2.1 (show _ < _ by have := k5.1; simp only [List.length_cons, List.length_append, List.length_nil, List.length_replicate] at this; omega) (by first | decide | (simp only [List.length_set]; decide))
  have z5 := k5.1
  have k6 := k5.then p6 hlt
  refine ⟨Q6, fun n => ?_, ?_⟩
  · show b_X2_init_0 n (f_X2_init n) a  P = _
    unfold b_X2_init_0
    rw [e1, e2, e3, e4, e5, e6, Option.bind_some]
  · simp only [List.length_cons, List.length_append, List.length_nil, List.length_replicate] at z0 z1 z2 z3 z4 z5
    simp only [z1, z2, z3, z4, z5] at k6
    exact k6
def L_X0 (p : Nat) : List xC := [mSh 6 (p + 0), aSh .int 5, aSh .int 5, aSh .int 5, aSh .int 5, aSh .int 5, aSh .int 5, aSh .int 4, aSh .int 4, aSh .int 4, aSh .int 4]
def F_X0 (p : Nat) : List Value := [.ref (p + 0), .ref (p + 7), .ref (p + 8), .ref (p + 9), .ref (p + 10), .int 0, .int 0, .int 0]
theorem i_X0 {P : xH} {a : Nat} (ha : P.2.2 a = .inr (0, xdef 0)) (hlt : a < P.1) (r1 : P.1 + 11 ≤ 601024) (r2 : P.2.1 + 52 ≤ 7293034) : ∃ Q, (∀ n, f_X0_init (n + 1) 0 [.ref a] P = some (.inl none, Q)) ∧ xMk P a 0 (F_X0 P.1) (L_X0 P.1) 52 Q := by
  have k0 := xMk.nil ha
  obtain ⟨Q1, e1, p1⟩ := st_M (k := 0) 6 5 (N := 6) (D := 5) rfl rfl k0.2.2.1 (show _ < _ by have := k0.1; simp only [List.length_cons, List.length_append, List.length_nil, List.length_replicate] at this; omega) (by first | decide | (simp only [List.length_set]; decide)) (by decide) (by decide) (by decide) (by decide) (show _ + 1 + 6 ≤ _ by have := k0.1; simp only [List.length_cons, List.length_append, List.length_nil, List.length_replicate] at this; omega) (show _ + 6 + 6 * 5 ≤ _ by have := k0.2.1; omega)
  have z0 := k0.1
  have k1 := k0.then p1 hlt
  obtain ⟨Q2, e2, p2⟩ := st_I (k := 1) 4 (N := 4) rfl k1.2.2.1 (show _ < _ by have := k1.1; simp only [List.length_cons, List.length_append, List.length_nil, List.length_replicate] at this; omega) (by first | decide | (simp only [List.length_set]; decide)) (by decide) (by decide) (show _ + 1 ≤ _ by have := k1.1; simp only [List.length_cons, List.length_append, List.length_nil, List.length_replicate] at this; omega) (show _ + 4 ≤ _ by have := k1.2.1; omega)
  have z1 := k1.1
  have k2 := k1.then p2 hlt
  obtain ⟨Q3, e3, p3⟩ := st_I (k := 2) 4 (N := 4) rfl k2.2.2.1 (show _ < _ by have := k2.1; simp only [List.length_cons, List.length_append, List.length_nil, List.length_replicate] at this; omega) (by first | decide | (simp only [List.length_set]; decide)) (by decide) (by decide) (show _ + 1 ≤ _ by have := k2.1; simp only [List.length_cons, List.length_append, List.length_nil, List.length_replicate] at this; omega) (show _ + 4 ≤ _ by have := k2.2.1; omega)
  have z2 := k2.1
  have k3 := k2.then p3 hlt
  obtain ⟨Q4, e4, p4⟩ := st_I (k := 3) 4 (N := 4) rfl k3.2.2.1 (show _ < _ by have := k3.1; simp only [List.length_cons, List.length_append, List.length_nil, List.length_replicate] at this; omega) (by first | decide | (simp only [List.length_set]; decide)) (by decide) (by decide) (show _ + 1 ≤ _ by have := k3.1; simp only [List.length_cons, List.length_append, List.length_nil, List.length_replicate] at this; omega) (show _ + 4 ≤ _ by have := k3.2.1; omega)
  have z3 := k3.1
  have k4 := k3.then p4 hlt
  obtain ⟨Q5, e5, p5⟩ := st_I (k := 4) 4 (N := 4) rfl k4.2.2.1 (show _ < _ by have := k4.1; simp only [List.length_cons, List.length_append, List.length_nil, List.length_replicate] at this; omega) (by first | decide | (simp only [List.length_set]; decide)) (by decide) (by decide) (show _ + 1 ≤ _ by have := k4.1; simp only [List.length_cons, List.length_append, List.length_nil, List.length_replicate] at this; omega) (show _ + 4 ≤ _ by have := k4.2.1; omega)
  have z4 := k4.1
  have k5 := k4.then p5 hlt
  refine ⟨Q5, fun n => ?_, ?_⟩
  · show b_X0_init_0 n (f_X0_init n) a  P = _
    unfold b_X0_init_0
    rw [e1, e2, e3, e4, e5]
  · simp only [List.length_cons, List.length_append, List.length_nil, List.length_replicate] at z0 z1 z2 z3 z4
    simp only [z1, z2, z3, z4] at k5
    exact k5
def L_X6 (p : Nat) : List xC := [aSh .int 30, aSh .int 10]
def F_X6 (p : Nat) (a1 : Nat) (a2 : Nat) : List Value := [.ref a1, .ref a2, .ref (p + 0), .ref (p + 1), .int 0]
theorem i_X6 {P : xH} {a : Nat} {a1 : Nat} {a2 : Nat} (ha : P.2.2 a = .inr (6, xdef 6)) (hlt : a < P.1) (r1 : P.1 + 2 ≤ 601024) (r2 : P.2.1 + 40 ≤ 7293034) : ∃ Q, (∀ n, f_X6_init (n + 1) 0 [.ref a, .ref a1, .ref a2] P = some (.inl none, Q)) ∧ xMk P a 6 (F_X6 P.1 a1 a2) (L_X6 P.1) 40 Q := by
  have k0 := xMk.nil ha
  obtain ⟨Q1, e1, p1⟩ := st_I (k := 2) 30 (N := 30) rfl k0.2.2.1 (show _ < _ by have := k0.1; simp only [List.length_cons, List.length_append, List.length_nil, List.length_replicate] at this; omega) (by first | decide | (simp only [List.length_set]; decide)) (by decide) (by decide) (show _ + 1 ≤ _ by have := k0.1; simp only [List.length_cons, List.length_append, List.length_nil, List.length_replicate] at this; omega) (show _ + 30 ≤ _ by have := k0.2.1; omega)
  have z0 := k0.1
  have k1 := k0.then p1 hlt
  obtain ⟨Q2, e2, p2⟩ := st_I (k := 3) 10 (N := 10) rfl k1.2.2.1 (show _ < _ by have := k1.1; simp only [List.length_cons, List.length_append, List.length_nil, List.length_replicate] at this; omega) (by first | decide | (simp only [List.length_set]; decide)) (by decide) (by decide) (show _ + 1 ≤ _ by have := k1.1; simp only [List.length_cons, List.length_append, List.length_nil, List.length_replicate] at this; omega) (show _ + 10 ≤ _ by have := k1.2.1; omega)
  have z1 := k1.1
  have k2 := k1.then p2 hlt
  obtain ⟨Q3, e3, p3⟩ := st_V (k := 0) (.ref a1) k2.2.2.1 (show _ < _ by have := k2.1; simp only [List.length_cons, List.length_append, List.length_nil, List.length_replicate] at this; omega) (by first | decide | (simp only [List.length_set]; decide))
  have z2 := k2.1
  have k3 := k2.then p3 hlt
  obtain ⟨Q4, e4, p4⟩ := st_V (k := 1) (.ref a2) k3.2.2.1 (show _ < _ by have := k3.1; simp only [List.length_cons, List.length_append, List.length_nil, List.length_replicate] at this; omega) (by first | decide | (simp only [List.length_set]; decide))
  have z3 := k3.1
  have k4 := k3.then p4 hlt
  refine ⟨Q4, fun n => ?_, ?_⟩
  · show b_X6_init_0 n (f_X6_init n) a a1 a2 P = _
    unfold b_X6_init_0
    rw [e1, e2, e3, Option.bind_some, e4, Option.bind_some]
  · simp only [List.length_cons, List.length_append, List.length_nil, List.length_replicate] at z0 z1 z2 z3
    simp only [z1, z2, z3] at k4
    exact k4
