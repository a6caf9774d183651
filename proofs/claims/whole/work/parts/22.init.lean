def mSh (n b : Nat) : xC := .inl (.array .int, n, .inr (.inr (fun i => if i < n then some (b + 1 + i) else none)))
/-- what each cell is, behind the three constructors: the class 0 to 135, the reference 136 to 151, the law's row 152 -/
def sTab : List xC := [.inr (10, [.ref 1, .ref 9, .ref 111, .ref 133, .null]),
  .inr (3, [.ref 2, .ref 8, .int 0, .int 0, .int 0, .int 0, .int 0, .int 0]),
  .inr (5, [.ref 3, .ref 4, .ref 5, .int 0, .ref 6, .int 0, .ref 7, .int 0]),
  aSh .int 10,
  aSh .int 10,
  aSh .int 11,
  aSh .int 200,
  aSh .int 5,
  aSh .byte 400,
  .inr (7, [.ref 10, .ref 16, .ref 29, .ref 46, .ref 68, .ref 90, .ref 93, .ref 99, .int 0, .int 0]),
  .inr (5, [.ref 11, .ref 12, .ref 13, .int 0, .ref 14, .int 0, .ref 15, .int 0]),
  aSh .int 10,
  aSh .int 10,
  aSh .int 11,
  aSh .int 200,
  aSh .int 5,
  .inr (9, [.ref 17, .ref 27, .ref 28, .int 0]),
  mSh 9 17,
  aSh .int 30,
  aSh .int 30,
  aSh .int 30,
  aSh .int 30,
  aSh .int 30,
  aSh .int 30,
  aSh .int 30,
  aSh .int 30,
  aSh .int 30,
  aSh .int 30,
  aSh .int 30,
  .inr (8, [.ref 30, .ref 35, .ref 40, .ref 45]),
  mSh 4 30,
  aSh .int 60,
  aSh .int 60,
  aSh .int 60,
  aSh .int 60,
  mSh 4 35,
  aSh .int 60,
  aSh .int 60,
  aSh .int 60,
  aSh .int 60,
  mSh 4 40,
  aSh .int 60,
  aSh .int 60,
  aSh .int 60,
  aSh .int 60,
  aSh .int 4,
  .inr (1, [.ref 16, .ref 10, .int 0, .int 0, .int 0, .ref 47, .ref 56, .ref 61, .ref 62, .ref 63, .ref 64, .ref 65, .ref 66, .ref 67, .int 0, .int 0, .int 0]),
  mSh 8 47,
  aSh .int 10,
  aSh .int 10,
  aSh .int 10,
  aSh .int 10,
  aSh .int 10,
  aSh .int 10,
  aSh .int 10,
  aSh .int 10,
  mSh 4 56,
  aSh .int 300,
  aSh .int 300,
  aSh .int 300,
  aSh .int 300,
  jSh 300,
  aSh .int 10,
  aSh .int 30,
  aSh .int 30,
  aSh .int 30,
  jSh 30,
  aSh .int 10,
  .inr (1, [.ref 16, .ref 10, .int 0, .int 0, .int 0, .ref 69, .ref 78, .ref 83, .ref 84, .ref 85, .ref 86, .ref 87, .ref 88, .ref 89, .int 0, .int 0, .int 0]),
  mSh 8 69,
  aSh .int 10,
  aSh .int 10,
  aSh .int 10,
  aSh .int 10,
  aSh .int 10,
  aSh .int 10,
  aSh .int 10,
  aSh .int 10,
  mSh 4 78,
  aSh .int 300,
  aSh .int 300,
  aSh .int 300,
  aSh .int 300,
  jSh 300,
  aSh .int 10,
  aSh .int 30,
  aSh .int 30,
  aSh .int 30,
  jSh 30,
  aSh .int 10,
  .inr (4, [.ref 91, .ref 92, .int 0]),
  aSh .int 8,
  aSh .int 8,
  .inr (2, [.ref 94, .ref 95, .ref 96, .ref 97, .ref 98, .int 0, .int 0, .int 0, .int 0]),
  aSh .int 7,
  aSh .int 7,
  aSh .int 7,
  aSh .int 7,
  aSh .int 7,
  .inr (0, [.ref 100, .ref 107, .ref 108, .ref 109, .ref 110, .int 0, .int 0, .int 0]),
  mSh 6 100,
  aSh .int 5,
  aSh .int 5,
  aSh .int 5,
  aSh .int 5,
  aSh .int 5,
  aSh .int 5,
  aSh .int 4,
  aSh .int 4,
  aSh .int 4,
  aSh .int 4,
  .inr (1, [.ref 16, .ref 10, .int 0, .int 0, .int 0, .ref 112, .ref 121, .ref 126, .ref 127, .ref 128, .ref 129, .ref 130, .ref 131, .ref 132, .int 0, .int 0, .int 0]),
  mSh 8 112,
  aSh .int 10,
  aSh .int 10,
  aSh .int 10,
  aSh .int 10,
  aSh .int 10,
  aSh .int 10,
  aSh .int 10,
  aSh .int 10,
  mSh 4 121,
  aSh .int 300,
  aSh .int 300,
  aSh .int 300,
  aSh .int 300,
  jSh 300,
  aSh .int 10,
  aSh .int 30,
  aSh .int 30,
  aSh .int 30,
  jSh 30,
  aSh .int 10,
  .inr (6, [.ref 16, .ref 46, .ref 134, .ref 135, .int 0]),
  aSh .int 30,
  aSh .int 10,
  .inr (11, [.int 0, .ref 137, .ref 138, .ref 139, .ref 140, .int 0, .int 0, .int 0, .ref 141, .int 0, .int 0, .int 0, .int 0, .int 0, .int 0, .ref 142, .int 0, .ref 143, .ref 144, .ref 145, .ref 146, .ref 147, .int 0, .ref 148, .ref 149, .int 0, .int 0, .ref 150, .ref 151, .int 0]),
  aSh .int 2301,
  aSh .int 2301,
  aSh .int 5921,
  aSh .int 7381,
  aSh .byte 400,
  aSh .int 5,
  aSh .boolean 7,
  aSh .int 5,
  aSh .boolean 400,
  aSh .boolean 60,
  aSh .int 30,
  aSh .int 7,
  aSh .int 7,
  aSh .int 4,
  aSh .int 4,
  jSh 1]
def sOf (a : Nat) : xC := sTab.getD a (.inr (99, []))
/-- one new array, and its reference put into a field -/
def xSt (P : xH) (a ci k : Nat) (fs : List Value) (N m : Nat) (w : Nat → xC) (Q : xH) : Prop :=
  Q.1 = P.1 + N ∧ Q.2.1 = P.2.1 + m ∧ Q.2.2 a = .inr (ci, fs.set k (.ref P.1)) ∧ (∀ j, j < N → Q.2.2 (P.1 + j) = w j) ∧ (∀ j, j ≠ a → j < P.1 → Q.2.2 j = P.2.2 j) ∧ ∀ j, P.1 + N ≤ j → Q.2.2 j = P.2.2 j
theorem xSt_one {P : xH} {a ci k : Nat} {fs : List Value} {n : Nat} {c : xC} (ha : P.2.2 a = .inr (ci, fs)) (hlt : a < P.1) (hk : k < fs.length) : ∃ Q, wV (xnew P n c) a ci k (.ref P.1) = some Q ∧ xSt P a ci k fs 1 n (fun _ => c) Q := by
  have h1 : (xnew P n c).2.2 a = .inr (ci, fs) := by rw [xnew_ne P n c (by omega)]; exact ha
  refine ⟨xput (xnew P n c) a (.inr (ci, fs.set k (.ref P.1))), ?_, rfl, rfl, xput_at _ _ _, fun j hj => ?_, fun j h2 h3 => ?_, fun j h2 => ?_⟩
  · unfold wV
    rw [h1]
    exact if_pos ⟨rfl, hk⟩
  · rw [show P.1 + j = P.1 by omega, xput_ne _ _ (by omega)]
    exact xnew_at P n c
  · rw [xput_ne _ _ h2, xnew_ne P n c (by omega)]
  · rw [xput_ne _ _ (by omega), xnew_ne P n c (by omega)]
theorem st_I {P : xH} {a ci k : Nat} {fs : List Value} {N : Nat} (n : Int32) (hN : n.toNatClampNeg = N) (ha : P.2.2 a = .inr (ci, fs)) (hlt : a < P.1) (hk : k < fs.length) (h0 : ¬ n < 0) (h9 : N ≤ 100000) (r1 : P.1 + 1 ≤ 601024) (r2 : P.2.1 + N ≤ 7293034) :
    ∃ Q, (∀ K : xH → xO, ((nI' P n).bind fun P1 => (wV P1 a ci k (.ref P.1)).bind K) = K Q) ∧ xSt P a ci k fs 1 N (fun _ => aSh .int N) Q := by
  subst hN
  obtain ⟨Q, e, h⟩ := xSt_one (n := n.toNatClampNeg) (c := aSh .int n.toNatClampNeg) ha hlt hk
  refine ⟨Q, fun K => ?_, h⟩
  unfold nI'
  rw [if_neg (by rintro (q | q | q | q); exact h0 q; all_goals omega), Option.bind_some]
  show (wV (xnew P _ (aSh .int _)) a ci k (.ref P.1)).bind K = _
  rw [e, Option.bind_some]
theorem st_B {P : xH} {a ci k : Nat} {fs : List Value} {N : Nat} (n : Int32) (hN : n.toNatClampNeg = N) (ha : P.2.2 a = .inr (ci, fs)) (hlt : a < P.1) (hk : k < fs.length) (h0 : ¬ n < 0) (h9 : N ≤ 100000) (r1 : P.1 + 1 ≤ 601024) (r2 : P.2.1 + N ≤ 7293034) :
    ∃ Q, (∀ K : xH → xO, ((nB' P n).bind fun P1 => (wV P1 a ci k (.ref P.1)).bind K) = K Q) ∧ xSt P a ci k fs 1 N (fun _ => aSh .byte N) Q := by
  subst hN
  obtain ⟨Q, e, h⟩ := xSt_one (n := n.toNatClampNeg) (c := aSh .byte n.toNatClampNeg) ha hlt hk
  refine ⟨Q, fun K => ?_, h⟩
  unfold nB'
  rw [if_neg (by rintro (q | q | q | q); exact h0 q; all_goals omega), Option.bind_some]
  show (wV (xnew P _ (aSh .byte _)) a ci k (.ref P.1)).bind K = _
  rw [e, Option.bind_some]
theorem st_Z {P : xH} {a ci k : Nat} {fs : List Value} {N : Nat} (n : Int32) (hN : n.toNatClampNeg = N) (ha : P.2.2 a = .inr (ci, fs)) (hlt : a < P.1) (hk : k < fs.length) (h0 : ¬ n < 0) (h9 : N ≤ 100000) (r1 : P.1 + 1 ≤ 601024) (r2 : P.2.1 + N ≤ 7293034) :
    ∃ Q, (∀ K : xH → xO, ((nZ' P n).bind fun P1 => (wV P1 a ci k (.ref P.1)).bind K) = K Q) ∧ xSt P a ci k fs 1 N (fun _ => aSh .boolean N) Q := by
  subst hN
  obtain ⟨Q, e, h⟩ := xSt_one (n := n.toNatClampNeg) (c := aSh .boolean n.toNatClampNeg) ha hlt hk
  refine ⟨Q, fun K => ?_, h⟩
  unfold nZ'
  rw [if_neg (by rintro (q | q | q | q); exact h0 q; all_goals omega), Option.bind_some]
  show (wV (xnew P _ (aSh .boolean _)) a ci k (.ref P.1)).bind K = _
  rw [e, Option.bind_some]
theorem st_J {P : xH} {a ci k : Nat} {fs : List Value} {N : Nat} (n : Int32) (hN : n.toNatClampNeg = N) (ha : P.2.2 a = .inr (ci, fs)) (hlt : a < P.1) (hk : k < fs.length) (h0 : ¬ n < 0) (h9 : N ≤ 100000) (r1 : P.1 + 1 ≤ 601024) (r2 : P.2.1 + N ≤ 7293034) :
    ∃ Q, (∀ K : xH → xO, ((nJ' P n).bind fun P1 => (wV P1 a ci k (.ref P.1)).bind K) = K Q) ∧ xSt P a ci k fs 1 N (fun _ => jSh N) Q := by
  subst hN
  obtain ⟨Q, e, h⟩ := xSt_one (n := n.toNatClampNeg) (c := jSh n.toNatClampNeg) ha hlt hk
  refine ⟨Q, fun K => ?_, h⟩
  unfold nJ'
  rw [if_neg (by rintro (q | q | q | q); exact h0 q; all_goals omega), Option.bind_some]
  show (wV (xnew P _ (jSh _)) a ci k (.ref P.1)).bind K = _
  rw [e, Option.bind_some]
theorem st_M {P : xH} {a ci k : Nat} {fs : List Value} {N D : Nat} (n d : Int32) (hN : n.toNatClampNeg = N) (hD : d.toNatClampNeg = D) (ha : P.2.2 a = .inr (ci, fs)) (hlt : a < P.1) (hk : k < fs.length) (h0 : ¬ n < 0) (h1 : ¬ d < 0) (h9 : N ≤ 100000) (h8 : D ≤ 100000) (r1 : P.1 + 1 + N ≤ 601024) (r2 : P.2.1 + N + N * D ≤ 7293034) :
    ∃ Q, (∀ K : xH → xO, ((nM' P n d).bind fun P1 => (wV P1 a ci k (.ref P.1)).bind K) = K Q) ∧ xSt P a ci k fs (1 + N) (N + N * D) (fun j => if j = 0 then mSh N P.1 else aSh .int D) Q := by
  subst hN
  subst hD
  have e1 : (xmna P n.toNatClampNeg d.toNatClampNeg).2.2 a = .inr (ci, fs) := by
    show (if a = P.1 then _ else if P.1 < a ∧ _ then _ else P.2.2 a) = _
    rw [if_neg (by omega), if_neg (by omega)]
    exact ha
  refine ⟨xput (xmna P n.toNatClampNeg d.toNatClampNeg) a (.inr (ci, fs.set k (.ref P.1))), fun K => ?_, by show P.1 + 1 + n.toNatClampNeg = _; omega, by show P.2.1 + n.toNatClampNeg + _ = _; omega, xput_at _ _ _, fun j hj => ?_, fun j h2 h3 => ?_, fun j h2 => ?_⟩
  · unfold nM'
    rw [if_neg (by rintro (q | q | q | q | q | q); exact h0 q; exact h1 q; all_goals omega), Option.bind_some]
    have e2 : wV (xmna P n.toNatClampNeg d.toNatClampNeg) a ci k (.ref P.1) = some (xput (xmna P n.toNatClampNeg d.toNatClampNeg) a (.inr (ci, fs.set k (.ref P.1)))) := by
      unfold wV
      rw [e1]
      exact if_pos ⟨rfl, hk⟩
    rw [e2, Option.bind_some]
  · rw [xput_ne _ _ (by omega)]
    show (if P.1 + j = P.1 then _ else if P.1 < P.1 + j ∧ P.1 + j < P.1 + 1 + n.toNatClampNeg then _ else _) = _
    by_cases e : j = 0
    · subst e
      rw [if_pos (by omega)]
      rfl
    · rw [if_neg (by omega), if_pos (by omega)]
      dsimp only
      rw [if_neg e]
      rfl
  · rw [xput_ne _ _ h2]
    show (if j = P.1 then _ else if P.1 < j ∧ _ then _ else P.2.2 j) = _
    rw [if_neg (by omega), if_neg (by omega)]
  · rw [xput_ne _ _ (by omega)]
    show (if j = P.1 then _ else if P.1 < j ∧ j < P.1 + 1 + n.toNatClampNeg then _ else P.2.2 j) = _
    rw [if_neg (by omega), if_neg (by omega)]
/-- a store alone -/
theorem st_V {P : xH} {a ci k : Nat} {fs : List Value} (v : Value) (ha : P.2.2 a = .inr (ci, fs)) (hk : k < fs.length) : ∃ Q, wV P a ci k v = some Q ∧ Q.1 = P.1 ∧ Q.2.1 = P.2.1 ∧ Q.2.2 a = .inr (ci, fs.set k v) ∧ ∀ j, j ≠ a → Q.2.2 j = P.2.2 j := by
  refine ⟨xput P a (.inr (ci, fs.set k v)), ?_, rfl, rfl, xput_at _ _ _, fun j hj => xput_ne _ _ hj⟩
  unfold wV
  rw [ha]
  exact if_pos ⟨rfl, hk⟩
/-- what a constructor leaves at its object a: N new cells of the shapes w, m slots, the object's fields fs -/
def xMk (P : xH) (a ci : Nat) (fs : List Value) (N m : Nat) (w : Nat → xC) (Q : xH) : Prop :=
  Q.1 = P.1 + N ∧ Q.2.1 = P.2.1 + m ∧ Q.2.2 a = .inr (ci, fs) ∧ (∀ j, j < N → Q.2.2 (P.1 + j) = w j) ∧ (∀ j, j ≠ a → j < P.1 → Q.2.2 j = P.2.2 j) ∧ ∀ j, P.1 + N ≤ j → Q.2.2 j = P.2.2 j
theorem xMk.nil {P : xH} {a ci : Nat} {fs : List Value} (ha : P.2.2 a = .inr (ci, fs)) (w : Nat → xC) : xMk P a ci fs 0 0 w P := ⟨rfl, rfl, ha, nofun, fun _ _ _ => rfl, fun _ _ => rfl⟩
/-- a constructor goes on by one new thing -/
theorem xMk.then {P Q R : xH} {a ci k N m N' m' : Nat} {fs : List Value} {w w' : Nat → xC} (h : xMk P a ci fs N m w Q) (g : xSt Q a ci k fs N' m' w' R) (hlt : a < P.1) : xMk P a ci (fs.set k (.ref (P.1 + N))) (N + N') (m + m') (fun j => if j < N then w j else w' (j - N)) R := by
  obtain ⟨h1, h2, h3, h4, h5, h6⟩ := h
  obtain ⟨g1, g2, g3, g4, g5, g6⟩ := g
  rw [h1] at g1 g3 g4 g5 g6
  refine ⟨by omega, by omega, g3, fun j hj => ?_, fun j q1 q2 => ?_, fun j q1 => ?_⟩
  · dsimp only
    by_cases e : j < N
    · rw [if_pos e, g5 (P.1 + j) (by omega) (by omega)]
      exact h4 j e
    · rw [if_neg e]
      have := g4 (j - N) (by omega)
      rwa [show P.1 + N + (j - N) = P.1 + j by omega] at this
  · rw [g5 j q1 (by omega)]
    exact h5 j q1 q2
  · rw [g6 j (by omega)]
    exact h6 j (by omega)
theorem xMk.put {P Q R : xH} {a ci k N m : Nat} {fs : List Value} {w : Nat → xC} {v : Value} (h : xMk P a ci fs N m w Q) (g : R.1 = Q.1 ∧ R.2.1 = Q.2.1 ∧ R.2.2 a = .inr (ci, fs.set k v) ∧ ∀ j, j ≠ a → R.2.2 j = Q.2.2 j) (hlt : a < P.1) : xMk P a ci (fs.set k v) N m w R := by
  obtain ⟨h1, h2, h3, h4, h5, h6⟩ := h
  obtain ⟨g1, g2, g3, g4⟩ := g
  exact ⟨g1.trans h1, g2.trans h2, g3, fun j hj => (g4 _ (by omega)).trans (h4 j hj), fun j q1 q2 => (g4 j q1).trans (h5 j q1 q2), fun j q1 => (g4 j (by omega)).trans (h6 j q1)⟩
theorem i_X5 {P : xH} {a : Nat} (ha : P.2.2 a = .inr (5, xdef 5)) (hlt : a < P.1) (r1 : P.1 + 5 ≤ 601024) (r2 : P.2.1 + 236 ≤ 7293034) : ∃ fs w Q, (∀ n, f_X5_init (n + 1) 0 [.ref a] P = some (.inl none, Q)) ∧ xMk P a 5 fs 5 236 w Q ∧ fs = [.ref (P.1 + 0), .ref (P.1 + 1), .ref (P.1 + 2), .int 0, .ref (P.1 + 3), .int 0, .ref (P.1 + 4), .int 0] ∧ w 0 = aSh .int 10 ∧ w 1 = aSh .int 10 ∧ w 2 = aSh .int 11 ∧ w 3 = aSh .int 200 ∧ w 4 = aSh .int 5 := by
  have k0 := xMk.nil ha (fun _ => .inr (99, []))
  obtain ⟨Q1, e1, p1⟩ := st_I (k := 0) 10 (N := 10) rfl k0.2.2.1 (by have := k0.1; omega) (by first | decide | (simp only [List.length_set]; decide)) (by decide) (by decide) (by have := k0.1; omega) (show _ + 10 ≤ _ by have := k0.2.1; omega)
  have k1 := k0.then p1 hlt
  obtain ⟨Q2, e2, p2⟩ := st_I (k := 1) 10 (N := 10) rfl k1.2.2.1 (by have := k1.1; omega) (by first | decide | (simp only [List.length_set]; decide)) (by decide) (by decide) (by have := k1.1; omega) (show _ + 10 ≤ _ by have := k1.2.1; omega)
  have k2 := k1.then p2 hlt
  obtain ⟨Q3, e3, p3⟩ := st_I (k := 2) 11 (N := 11) rfl k2.2.2.1 (by have := k2.1; omega) (by first | decide | (simp only [List.length_set]; decide)) (by decide) (by decide) (by have := k2.1; omega) (show _ + 11 ≤ _ by have := k2.2.1; omega)
  have k3 := k2.then p3 hlt
  obtain ⟨Q4, e4, p4⟩ := st_I (k := 4) 200 (N := 200) rfl k3.2.2.1 (by have := k3.1; omega) (by first | decide | (simp only [List.length_set]; decide)) (by decide) (by decide) (by have := k3.1; omega) (show _ + 200 ≤ _ by have := k3.2.1; omega)
  have k4 := k3.then p4 hlt
  obtain ⟨Q5, e5, p5⟩ := st_I (k := 6) 5 (N := 5) rfl k4.2.2.1 (by have := k4.1; omega) (by first | decide | (simp only [List.length_set]; decide)) (by decide) (by decide) (by have := k4.1; omega) (show _ + 5 ≤ _ by have := k4.2.1; omega)
  have k5 := k4.then p5 hlt
  refine ⟨_, _, Q5, fun n => ?_, k5, ?_, ?_⟩
  · show b_X5_init_0 n (f_X5_init n) a  P = _
    unfold b_X5_init_0
    rw [e1, e2, e3, e4, e5]
  · rfl
  · refine ⟨?_, ?_, ?_, ?_, ?_⟩
    all_goals have q1 := k1.1
    all_goals have q2 := k2.1
    all_goals have q3 := k3.1
    all_goals have q4 := k4.1
    all_goals have q5 := k5.1
    all_goals first | rfl | (simp only [Nat.reduceAdd, Nat.reduceLT, Nat.reduceSub, Nat.reduceEqDiff, if_true, if_false, reduceIte]; first | done | rfl | (congr 1 <;> omega))
theorem i_X9 {P : xH} {a : Nat} (ha : P.2.2 a = .inr (9, xdef 9)) (hlt : a < P.1) (r1 : P.1 + 12 ≤ 601024) (r2 : P.2.1 + 339 ≤ 7293034) : ∃ fs w Q, (∀ n, f_X9_init (n + 1) 0 [.ref a] P = some (.inl none, Q)) ∧ xMk P a 9 fs 12 339 w Q ∧ fs = [.ref (P.1 + 0), .ref (P.1 + 10), .ref (P.1 + 11), .int 0] ∧ w 0 = mSh 9 (P.1 + 0) ∧ w 1 = aSh .int 30 ∧ w 2 = aSh .int 30 ∧ w 3 = aSh .int 30 ∧ w 4 = aSh .int 30 ∧ w 5 = aSh .int 30 ∧ w 6 = aSh .int 30 ∧ w 7 = aSh .int 30 ∧ w 8 = aSh .int 30 ∧ w 9 = aSh .int 30 ∧ w 10 = aSh .int 30 ∧ w 11 = aSh .int 30 := by
  have k0 := xMk.nil ha (fun _ => .inr (99, []))
  obtain ⟨Q1, e1, p1⟩ := st_M (k := 0) 9 30 (N := 9) (D := 30) rfl rfl k0.2.2.1 (by have := k0.1; omega) (by first | decide | (simp only [List.length_set]; decide)) (by decide) (by decide) (by decide) (by decide) (show _ + 1 + 9 ≤ _ by have := k0.1; omega) (show _ + 9 + 9 * 30 ≤ _ by have := k0.2.1; omega)
  have k1 := k0.then p1 hlt
  obtain ⟨Q2, e2, p2⟩ := st_I (k := 1) 30 (N := 30) rfl k1.2.2.1 (by have := k1.1; omega) (by first | decide | (simp only [List.length_set]; decide)) (by decide) (by decide) (by have := k1.1; omega) (show _ + 30 ≤ _ by have := k1.2.1; omega)
  have k2 := k1.then p2 hlt
  obtain ⟨Q3, e3, p3⟩ := st_I (k := 2) 30 (N := 30) rfl k2.2.2.1 (by have := k2.1; omega) (by first | decide | (simp only [List.length_set]; decide)) (by decide) (by decide) (by have := k2.1; omega) (show _ + 30 ≤ _ by have := k2.2.1; omega)
  have k3 := k2.then p3 hlt
  refine ⟨_, _, Q3, fun n => ?_, k3, ?_, ?_⟩
  · show b_X9_init_0 n (f_X9_init n) a  P = _
    unfold b_X9_init_0
    rw [e1, e2, e3]
  · rfl
  · refine ⟨?_, ?_, ?_, ?_, ?_, ?_, ?_, ?_, ?_, ?_, ?_, ?_⟩
    all_goals have q1 := k1.1
    all_goals have q2 := k2.1
    all_goals have q3 := k3.1
    all_goals first | rfl | (simp only [Nat.reduceAdd, Nat.reduceLT, Nat.reduceSub, Nat.reduceEqDiff, if_true, if_false, reduceIte]; first | done | rfl | (congr 1 <;> omega))
theorem i_X8 {P : xH} {a : Nat} (ha : P.2.2 a = .inr (8, xdef 8)) (hlt : a < P.1) (r1 : P.1 + 16 ≤ 601024) (r2 : P.2.1 + 736 ≤ 7293034) : ∃ fs w Q, (∀ n, f_X8_init (n + 1) 0 [.ref a] P = some (.inl none, Q)) ∧ xMk P a 8 fs 16 736 w Q ∧ fs = [.ref (P.1 + 0), .ref (P.1 + 5), .ref (P.1 + 10), .ref (P.1 + 15)] ∧ w 0 = mSh 4 (P.1 + 0) ∧ w 1 = aSh .int 60 ∧ w 2 = aSh .int 60 ∧ w 3 = aSh .int 60 ∧ w 4 = aSh .int 60 ∧ w 5 = mSh 4 (P.1 + 5) ∧ w 6 = aSh .int 60 ∧ w 7 = aSh .int 60 ∧ w 8 = aSh .int 60 ∧ w 9 = aSh .int 60 ∧ w 10 = mSh 4 (P.1 + 10) ∧ w 11 = aSh .int 60 ∧ w 12 = aSh .int 60 ∧ w 13 = aSh .int 60 ∧ w 14 = aSh .int 60 ∧ w 15 = aSh .int 4 := by
  have k0 := xMk.nil ha (fun _ => .inr (99, []))
  obtain ⟨Q1, e1, p1⟩ := st_M (k := 0) 4 60 (N := 4) (D := 60) rfl rfl k0.2.2.1 (by have := k0.1; omega) (by first | decide | (simp only [List.length_set]; decide)) (by decide) (by decide) (by decide) (by decide) (show _ + 1 + 4 ≤ _ by have := k0.1; omega) (show _ + 4 + 4 * 60 ≤ _ by have := k0.2.1; omega)
  have k1 := k0.then p1 hlt
  obtain ⟨Q2, e2, p2⟩ := st_M (k := 1) 4 60 (N := 4) (D := 60) rfl rfl k1.2.2.1 (by have := k1.1; omega) (by first | decide | (simp only [List.length_set]; decide)) (by decide) (by decide) (by decide) (by decide) (show _ + 1 + 4 ≤ _ by have := k1.1; omega) (show _ + 4 + 4 * 60 ≤ _ by have := k1.2.1; omega)
  have k2 := k1.then p2 hlt
  obtain ⟨Q3, e3, p3⟩ := st_M (k := 2) 4 60 (N := 4) (D := 60) rfl rfl k2.2.2.1 (by have := k2.1; omega) (by first | decide | (simp only [List.length_set]; decide)) (by decide) (by decide) (by decide) (by decide) (show _ + 1 + 4 ≤ _ by have := k2.1; omega) (show _ + 4 + 4 * 60 ≤ _ by have := k2.2.1; omega)
  have k3 := k2.then p3 hlt
  obtain ⟨Q4, e4, p4⟩ := st_I (k := 3) 4 (N := 4) rfl k3.2.2.1 (by have := k3.1; omega) (by first | decide | (simp only [List.length_set]; decide)) (by decide) (by decide) (by have := k3.1; omega) (show _ + 4 ≤ _ by have := k3.2.1; omega)
  have k4 := k3.then p4 hlt
  refine ⟨_, _, Q4, fun n => ?_, k4, ?_, ?_⟩
  · show b_X8_init_0 n (f_X8_init n) a  P = _
    unfold b_X8_init_0
    rw [e1, e2, e3, e4]
  · rfl
  · refine ⟨?_, ?_, ?_, ?_, ?_, ?_, ?_, ?_, ?_, ?_, ?_, ?_, ?_, ?_, ?_, ?_⟩
    all_goals have q1 := k1.1
    all_goals have q2 := k2.1
    all_goals have q3 := k3.1
    all_goals have q4 := k4.1
    all_goals first | rfl | (simp only [Nat.reduceAdd, Nat.reduceLT, Nat.reduceSub, Nat.reduceEqDiff, if_true, if_false, reduceIte]; first | done | rfl | (congr 1 <;> omega))
theorem i_X4 {P : xH} {a : Nat} (ha : P.2.2 a = .inr (4, xdef 4)) (hlt : a < P.1) (r1 : P.1 + 2 ≤ 601024) (r2 : P.2.1 + 16 ≤ 7293034) : ∃ fs w Q, (∀ n, f_X4_init (n + 1) 0 [.ref a] P = some (.inl none, Q)) ∧ xMk P a 4 fs 2 16 w Q ∧ fs = [.ref (P.1 + 0), .ref (P.1 + 1), .int 0] ∧ w 0 = aSh .int 8 ∧ w 1 = aSh .int 8 := by
  have k0 := xMk.nil ha (fun _ => .inr (99, []))
  obtain ⟨Q1, e1, p1⟩ := st_I (k := 0) 8 (N := 8) rfl k0.2.2.1 (by have := k0.1; omega) (by first | decide | (simp only [List.length_set]; decide)) (by decide) (by decide) (by have := k0.1; omega) (show _ + 8 ≤ _ by have := k0.2.1; omega)
  have k1 := k0.then p1 hlt
  obtain ⟨Q2, e2, p2⟩ := st_I (k := 1) 8 (N := 8) rfl k1.2.2.1 (by have := k1.1; omega) (by first | decide | (simp only [List.length_set]; decide)) (by decide) (by decide) (by have := k1.1; omega) (show _ + 8 ≤ _ by have := k1.2.1; omega)
  have k2 := k1.then p2 hlt
  refine ⟨_, _, Q2, fun n => ?_, k2, ?_, ?_⟩
  · show b_X4_init_0 n (f_X4_init n) a  P = _
    unfold b_X4_init_0
    rw [e1, e2]
  · rfl
  · refine ⟨?_, ?_⟩
    all_goals have q1 := k1.1
    all_goals have q2 := k2.1
    all_goals first | rfl | (simp only [Nat.reduceAdd, Nat.reduceLT, Nat.reduceSub, Nat.reduceEqDiff, if_true, if_false, reduceIte]; first | done | rfl | (congr 1 <;> omega))
theorem i_X2 {P : xH} {a : Nat} (ha : P.2.2 a = .inr (2, xdef 2)) (hlt : a < P.1) (r1 : P.1 + 5 ≤ 601024) (r2 : P.2.1 + 35 ≤ 7293034) : ∃ fs w Q, (∀ n, f_X2_init (n + 1) 0 [.ref a] P = some (.inl none, Q)) ∧ xMk P a 2 fs 5 35 w Q ∧ fs = [.ref (P.1 + 0), .ref (P.1 + 1), .ref (P.1 + 2), .ref (P.1 + 3), .ref (P.1 + 4), .int 0, .int 10, .int 0, .int 0] ∧ w 0 = aSh .int 7 ∧ w 1 = aSh .int 7 ∧ w 2 = aSh .int 7 ∧ w 3 = aSh .int 7 ∧ w 4 = aSh .int 7 := by
  have k0 := xMk.nil ha (fun _ => .inr (99, []))
  obtain ⟨Q1, e1, p1⟩ := st_I (k := 0) 7 (N := 7) rfl k0.2.2.1 (by have := k0.1; omega) (by first | decide | (simp only [List.length_set]; decide)) (by decide) (by decide) (by have := k0.1; omega) (show _ + 7 ≤ _ by have := k0.2.1; omega)
  have k1 := k0.then p1 hlt
  obtain ⟨Q2, e2, p2⟩ := st_I (k := 1) 7 (N := 7) rfl k1.2.2.1 (by have := k1.1; omega) (by first | decide | (simp only [List.length_set]; decide)) (by decide) (by decide) (by have := k1.1; omega) (show _ + 7 ≤ _ by have := k1.2.1; omega)
  have k2 := k1.then p2 hlt
  obtain ⟨Q3, e3, p3⟩ := st_I (k := 2) 7 (N := 7) rfl k2.2.2.1 (by have := k2.1; omega) (by first | decide | (simp only [List.length_set]; decide)) (by decide) (by decide) (by have := k2.1; omega) (show _ + 7 ≤ _ by have := k2.2.1; omega)
  have k3 := k2.then p3 hlt
  obtain ⟨Q4, e4, p4⟩ := st_I (k := 3) 7 (N := 7) rfl k3.2.2.1 (by have := k3.1; omega) (by first | decide | (simp only [List.length_set]; decide)) (by decide) (by decide) (by have := k3.1; omega) (show _ + 7 ≤ _ by have := k3.2.1; omega)
  have k4 := k3.then p4 hlt
  obtain ⟨Q5, e5, p5⟩ := st_I (k := 4) 7 (N := 7) rfl k4.2.2.1 (by have := k4.1; omega) (by first | decide | (simp only [List.length_set]; decide)) (by decide) (by decide) (by have := k4.1; omega) (show _ + 7 ≤ _ by have := k4.2.1; omega)
  have k5 := k4.then p5 hlt
  obtain ⟨Q6, e6, p6⟩ := st_V (k := 6) (.int 10) k5.2.2.1 (by first | decide | (simp only [List.length_set]; decide))
  have k6 := k5.put p6 hlt
  refine ⟨_, _, Q6, fun n => ?_, k6, ?_, ?_⟩
  · show b_X2_init_0 n (f_X2_init n) a  P = _
    unfold b_X2_init_0
    rw [e1, e2, e3, e4, e5, e6, Option.bind_some]
  · rfl
  · refine ⟨?_, ?_, ?_, ?_, ?_⟩
    all_goals have q1 := k1.1
    all_goals have q2 := k2.1
    all_goals have q3 := k3.1
    all_goals have q4 := k4.1
    all_goals have q5 := k5.1
    all_goals have q6 := k6.1
    all_goals first | rfl | (simp only [Nat.reduceAdd, Nat.reduceLT, Nat.reduceSub, Nat.reduceEqDiff, if_true, if_false, reduceIte]; first | done | rfl | (congr 1 <;> omega))
theorem i_X0 {P : xH} {a : Nat} (ha : P.2.2 a = .inr (0, xdef 0)) (hlt : a < P.1) (r1 : P.1 + 11 ≤ 601024) (r2 : P.2.1 + 52 ≤ 7293034) : ∃ fs w Q, (∀ n, f_X0_init (n + 1) 0 [.ref a] P = some (.inl none, Q)) ∧ xMk P a 0 fs 11 52 w Q ∧ fs = [.ref (P.1 + 0), .ref (P.1 + 7), .ref (P.1 + 8), .ref (P.1 + 9), .ref (P.1 + 10), .int 0, .int 0, .int 0] ∧ w 0 = mSh 6 (P.1 + 0) ∧ w 1 = aSh .int 5 ∧ w 2 = aSh .int 5 ∧ w 3 = aSh .int 5 ∧ w 4 = aSh .int 5 ∧ w 5 = aSh .int 5 ∧ w 6 = aSh .int 5 ∧ w 7 = aSh .int 4 ∧ w 8 = aSh .int 4 ∧ w 9 = aSh .int 4 ∧ w 10 = aSh .int 4 := by
  have k0 := xMk.nil ha (fun _ => .inr (99, []))
  obtain ⟨Q1, e1, p1⟩ := st_M (k := 0) 6 5 (N := 6) (D := 5) rfl rfl k0.2.2.1 (by have := k0.1; omega) (by first | decide | (simp only [List.length_set]; decide)) (by decide) (by decide) (by decide) (by decide) (show _ + 1 + 6 ≤ _ by have := k0.1; omega) (show _ + 6 + 6 * 5 ≤ _ by have := k0.2.1; omega)
  have k1 := k0.then p1 hlt
  obtain ⟨Q2, e2, p2⟩ := st_I (k := 1) 4 (N := 4) rfl k1.2.2.1 (by have := k1.1; omega) (by first | decide | (simp only [List.length_set]; decide)) (by decide) (by decide) (by have := k1.1; omega) (show _ + 4 ≤ _ by have := k1.2.1; omega)
  have k2 := k1.then p2 hlt
  obtain ⟨Q3, e3, p3⟩ := st_I (k := 2) 4 (N := 4) rfl k2.2.2.1 (by have := k2.1; omega) (by first | decide | (simp only [List.length_set]; decide)) (by decide) (by decide) (by have := k2.1; omega) (show _ + 4 ≤ _ by have := k2.2.1; omega)
  have k3 := k2.then p3 hlt
  obtain ⟨Q4, e4, p4⟩ := st_I (k := 3) 4 (N := 4) rfl k3.2.2.1 (by have := k3.1; omega) (by first | decide | (simp only [List.length_set]; decide)) (by decide) (by decide) (by have := k3.1; omega) (show _ + 4 ≤ _ by have := k3.2.1; omega)
  have k4 := k3.then p4 hlt
  obtain ⟨Q5, e5, p5⟩ := st_I (k := 4) 4 (N := 4) rfl k4.2.2.1 (by have := k4.1; omega) (by first | decide | (simp only [List.length_set]; decide)) (by decide) (by decide) (by have := k4.1; omega) (show _ + 4 ≤ _ by have := k4.2.1; omega)
  have k5 := k4.then p5 hlt
  refine ⟨_, _, Q5, fun n => ?_, k5, ?_, ?_⟩
  · show b_X0_init_0 n (f_X0_init n) a  P = _
    unfold b_X0_init_0
    rw [e1, e2, e3, e4, e5]
  · rfl
  · refine ⟨?_, ?_, ?_, ?_, ?_, ?_, ?_, ?_, ?_, ?_, ?_⟩
    all_goals have q1 := k1.1
    all_goals have q2 := k2.1
    all_goals have q3 := k3.1
    all_goals have q4 := k4.1
    all_goals have q5 := k5.1
    all_goals first | rfl | (simp only [Nat.reduceAdd, Nat.reduceLT, Nat.reduceSub, Nat.reduceEqDiff, if_true, if_false, reduceIte]; first | done | rfl | (congr 1 <;> omega))
theorem i_X6 {P : xH} {a : Nat} {a1 : Nat} {a2 : Nat} (ha : P.2.2 a = .inr (6, xdef 6)) (hlt : a < P.1) (r1 : P.1 + 2 ≤ 601024) (r2 : P.2.1 + 40 ≤ 7293034) : ∃ fs w Q, (∀ n, f_X6_init (n + 1) 0 [.ref a, .ref a1, .ref a2] P = some (.inl none, Q)) ∧ xMk P a 6 fs 2 40 w Q ∧ fs = [.ref a1, .ref a2, .ref (P.1 + 0), .ref (P.1 + 1), .int 0] ∧ w 0 = aSh .int 30 ∧ w 1 = aSh .int 10 := by
  have k0 := xMk.nil ha (fun _ => .inr (99, []))
  obtain ⟨Q1, e1, p1⟩ := st_I (k := 2) 30 (N := 30) rfl k0.2.2.1 (by have := k0.1; omega) (by first | decide | (simp only [List.length_set]; decide)) (by decide) (by decide) (by have := k0.1; omega) (show _ + 30 ≤ _ by have := k0.2.1; omega)
  have k1 := k0.then p1 hlt
  obtain ⟨Q2, e2, p2⟩ := st_I (k := 3) 10 (N := 10) rfl k1.2.2.1 (by have := k1.1; omega) (by first | decide | (simp only [List.length_set]; decide)) (by decide) (by decide) (by have := k1.1; omega) (show _ + 10 ≤ _ by have := k1.2.1; omega)
  have k2 := k1.then p2 hlt
  obtain ⟨Q3, e3, p3⟩ := st_V (k := 0) (.ref a1) k2.2.2.1 (by first | decide | (simp only [List.length_set]; decide))
  have k3 := k2.put p3 hlt
  obtain ⟨Q4, e4, p4⟩ := st_V (k := 1) (.ref a2) k3.2.2.1 (by first | decide | (simp only [List.length_set]; decide))
  have k4 := k3.put p4 hlt
  refine ⟨_, _, Q4, fun n => ?_, k4, ?_, ?_⟩
  · show b_X6_init_0 n (f_X6_init n) a a1 a2 P = _
    unfold b_X6_init_0
    rw [e1, e2, e3, Option.bind_some, e4, Option.bind_some]
  · rfl
  · refine ⟨?_, ?_⟩
    all_goals have q1 := k1.1
    all_goals have q2 := k2.1
    all_goals have q3 := k3.1
    all_goals have q4 := k4.1
    all_goals first | rfl | (simp only [Nat.reduceAdd, Nat.reduceLT, Nat.reduceSub, Nat.reduceEqDiff, if_true, if_false, reduceIte]; first | done | rfl | (congr 1 <;> omega))
