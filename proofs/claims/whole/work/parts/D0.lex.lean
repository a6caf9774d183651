/-! the tape, piece by piece: the class -/
def nmL : Nat → List Int
  | 0 => [102, 105, 114, 115, 116]
  | 1 => [112, 97, 115, 115]
  | 2 => [99, 111, 115, 116]
  | 3 => [115, 104, 111, 119]
  | 4 => [105, 102]
  | 5 => [111, 114]
  | 6 => [97, 110, 100]
  | 7 => [110, 111, 116]
  | 8 => [97, 108, 105, 118, 101]
  | 9 => [115, 101, 101, 110]
  | 10 => [110, 101, 101, 100]
  | 11 => [97, 115, 107, 101, 100]
  | 12 => [111, 114, 100, 101, 114]
  | 13 => [117, 110, 100, 111, 110, 101]
  | 14 => [107, 105, 110]
  | 15 => [97, 103, 101]
  | 16 => [104, 111, 112, 115]
  | 17 => [104, 97, 118, 101]
  | 18 => [99, 104, 97, 114, 103, 101]
  | 19 => [110, 117, 109, 98, 101, 114]
  | _ => []
/-- the class's row of names, each filled up to seven -/
def nmA (x : Nat) : Int := (nmL (x / 7)).getD (x % 7) 32
def txN (k : Nat) : Nat := if k ≤ 4 then k + 6 else if k = 5 then 25 else if k = 6 then 24 else if k = 7 then 11 else k + 4
theorem nmL_ok : ∀ k : Fin 20, 2 ≤ (nmL k.1).length ∧ (nmL k.1).length ≤ 6 ∧ ∀ c ∈ nmL k.1, 97 ≤ c ∧ c ≤ 122 := by decide +kernel
theorem nmL_ne : ∀ k j : Fin 20, nmL k.1 = nmL j.1 → k = j := by decide +kernel
theorem sLn5 : sLn 5 = some (J 140) := by decide +kernel
theorem sCh5 : ∀ x : Fin 140, sCh 5 (J (x.1 : Int)) = some (J (nmA x.1)) := by decide +kernel
theorem sLnT : ∀ k : Fin 20, sLn (txN k.1 + 1) = some (J ((nmL k.1).length : Int)) := by decide +kernel
theorem sChT : ∀ k : Fin 20, ∀ j : Fin 6, j.1 < (nmL k.1).length → sCh (txN k.1 + 1) (J (j.1 : Int)) = some (J ((nmL k.1).getD j.1 32)) := by decide +kernel
def runF (b : Int → Int) (lo hi : Int) : Nat → Int → Int
  | 0, i => i
  | k + 1, i => if lo ≤ b i ∧ b i ≤ hi then runF b lo hi k (i + 1) else i
def rn (b : Int → Int) (n lo hi i : Int) : Int := runF b lo hi (n - i).toNat i
def wd (b : Int → Int) (B e : Int) (k : Nat) : Bool := decide (e - B = ((nmL k).length : Int)) && (List.range (nmL k).length).all (fun j => decide (b (B + j) = (nmL k).getD j 32))
def nmF (b : Int → Int) (B e : Int) : Nat → Int
  | 0 => 22
  | t + 1 => if wd b B e (19 - t) = true then ((19 - t : Nat) : Int) else nmF b B e t
def vlF (b : Int → Int) (B : Int) : Nat → Int
  | 0 => 0
  | j + 1 => if j < 4 then 10 * vlF b B j + b (B + j) - 48 else 10000
def tok (b : Int → Int) (n B : Int) : Int := if n ≤ B then 21 else if 48 ≤ b B ∧ b B ≤ 57 then 20 else if 97 ≤ b B ∧ b B ≤ 122 then nmF b B (rn b n 97 122 B) 20 else 100 + b B % 256
def ten (b : Int → Int) (n B : Int) : Int := if n ≤ B then B else if 48 ≤ b B ∧ b B ≤ 57 then rn b n 48 57 B else if 97 ≤ b B ∧ b B ≤ 122 then rn b n 97 122 B else B + 1
def Tk (m : Nat → Int → Int) (b : Int → Int) (n B : Int) : Prop := m 1 4 = ten b n B ∧ m 1 5 = tok b n B ∧ m 1 6 = B ∧ (tok b n B = 20 → m 1 7 = vlF b B (ten b n B - B).toNat)
section LEX
variable {b : Int → Int} {n lo hi i B e : Int}
theorem rn_end (h : n ≤ i) : rn b n lo hi i = i := by
  unfold rn
  rw [show (n - i).toNat = 0 by omega]
  rfl
theorem rn_yes (h : i < n) (c : lo ≤ b i ∧ b i ≤ hi) : rn b n lo hi i = rn b n lo hi (i + 1) := by
  unfold rn
  rw [show (n - i).toNat = (n - (i + 1)).toNat + 1 by omega, runF, if_pos c]
theorem rn_no (c : ¬ (lo ≤ b i ∧ b i ≤ hi)) : rn b n lo hi i = i := by
  unfold rn
  cases (n - i).toNat with
  | zero => rfl
  | succ k => rw [runF, if_neg c]
theorem rn_in : ∀ (k : Nat) (i : Int), (n - i).toNat = k → i ≤ n → i ≤ rn b n lo hi i ∧ rn b n lo hi i ≤ n ∧ (∀ j, i ≤ j → j < rn b n lo hi i → lo ≤ b j ∧ b j ≤ hi) ∧ (rn b n lo hi i = n ∨ ¬ (lo ≤ b (rn b n lo hi i) ∧ b (rn b n lo hi i) ≤ hi))
  | 0, i, hk, hi' => by
    rw [rn_end (by omega)]
    exact ⟨Int.le_refl _, by omega, fun j _ _ => by omega, Or.inl (by omega)⟩
  | k + 1, i, hk, hi' => by
    by_cases c : lo ≤ b i ∧ b i ≤ hi
    · rw [rn_yes (by omega) c]
      obtain ⟨h1, h2, h3, h4⟩ := rn_in k (i + 1) (by omega) (by omega)
      refine ⟨by omega, h2, fun j a d => ?_, h4⟩
      by_cases z : j = i
      · rw [z]
        exact c
      · exact h3 j (by omega) d
    · rw [rn_no c]
      exact ⟨Int.le_refl _, by omega, fun j _ _ => by omega, Or.inr c⟩
theorem rn_ok (h : i ≤ n) : i ≤ rn b n lo hi i ∧ rn b n lo hi i ≤ n ∧ (∀ j, i ≤ j → j < rn b n lo hi i → lo ≤ b j ∧ b j ≤ hi) ∧ (rn b n lo hi i = n ∨ ¬ (lo ≤ b (rn b n lo hi i) ∧ b (rn b n lo hi i) ≤ hi)) := rn_in _ i rfl h
theorem rn_self (h : i ≤ n) : rn b n lo hi (rn b n lo hi i) = rn b n lo hi i := by
  rcases (rn_ok (b := b) (lo := lo) (hi := hi) h).2.2.2 with c | c
  · rw [c]
    exact rn_end (Int.le_refl _)
  · exact rn_no c
theorem wd_iff (k : Nat) : wd b B e k = true ↔ e - B = ((nmL k).length : Int) ∧ ∀ j : Nat, j < (nmL k).length → b (B + j) = (nmL k).getD j 32 := by
  unfold wd
  simp only [Bool.and_eq_true, decide_eq_true_eq, List.all_eq_true, List.mem_range]
theorem wd_uniq {k j : Nat} (hk : k < 20) (hj : j < 20) (h1 : wd b B e k = true) (h2 : wd b B e j = true) : k = j := by
  obtain ⟨a1, a2⟩ := (wd_iff k).1 h1
  obtain ⟨b1, b2⟩ := (wd_iff j).1 h2
  have el : (nmL k).length = (nmL j).length := by omega
  have := nmL_ne ⟨k, hk⟩ ⟨j, hj⟩ (List.ext_getElem? fun i => by
    show (nmL k)[i]? = (nmL j)[i]?
    by_cases c : i < (nmL k).length
    · have x1 := a2 i c
      have x2 := b2 i (by omega)
      rw [List.getD_eq_getElem?_getD] at x1 x2
      rw [List.getElem?_eq_getElem c, List.getElem?_eq_getElem (show i < (nmL j).length by omega)] at *
      simp only [Option.getD_some] at x1 x2
      rw [← x1, ← x2]
    · rw [List.getElem?_eq_none (by omega), List.getElem?_eq_none (by omega)])
  exact congrArg Fin.val this
theorem nmF_in : ∀ t : Nat, t ≤ 20 → nmF b B e t = 22 ∧ (∀ k : Nat, 20 - t ≤ k → k < 20 → wd b B e k = false) ∨ ∃ k : Nat, k < 20 ∧ nmF b B e t = k ∧ wd b B e k = true
  | 0, _ => Or.inl ⟨rfl, fun k a c => by omega⟩
  | t + 1, ht => by
    rw [nmF]
    by_cases c : wd b B e (19 - t) = true
    · rw [if_pos c]
      exact Or.inr ⟨19 - t, by omega, rfl, c⟩
    · rw [if_neg c]
      rcases nmF_in t (by omega) with ⟨h1, h2⟩ | h
      · refine Or.inl ⟨h1, fun k a d => ?_⟩
        by_cases z : k = 19 - t
        · rw [z]
          exact Bool.eq_false_iff.mpr c
        · exact h2 k (by omega) d
      · exact Or.inr h
/-- the token of letters is k just where the name k stands there -/
theorem nmF_wd {k : Nat} (hk : k < 20) : nmF b B e 20 = k ↔ wd b B e k = true := by
  rcases nmF_in (b := b) (B := B) (e := e) 20 (by omega) with ⟨h1, h2⟩ | ⟨j, h1, h2, h3⟩
  · rw [h1, h2 k (by omega) hk]
    constructor
    · intro z
      omega
    · intro z
      exact absurd z (by decide)
  · rw [h2]
    constructor
    · intro z
      rw [← show j = k by omega]
      exact h3
    · intro z
      rw [wd_uniq hk h1 z h3]
theorem nmF_rng : 0 ≤ nmF b B e 20 ∧ nmF b B e 20 ≤ 22 := by
  rcases nmF_in (b := b) (B := B) (e := e) 20 (by omega) with ⟨h1, -⟩ | ⟨j, h1, h2, -⟩ <;> omega
end LEX
section NEXT
variable {S : xH} {m m' m0 : Nat → Int → Int} {q : Nat → Int → Int64} {b : Int → Int} {n i B e : Int} {R : xR} {P : xH}
theorem up_up (m : Nat → Int → Int) (a : Nat) (i x y : Int) : up (up m a i x) a i y = up m a i y := funext fun c => funext fun j => by
  unfold up
  by_cases h : c = a ∧ j = i
  · rw [if_pos h, if_pos h]
  · rw [if_neg h, if_neg h, if_neg h]
theorem q_named32 (hs : Sk S) (h4 : m 1 4 = e) (h6 : m 1 6 = B) (B0 : 0 ≤ B) (eB : B < e) (e4 : e ≤ 400) (hb : ∀ j, B ≤ j → j < e → -128 ≤ m 8 j ∧ m 8 j < 128) {k : Nat} (hk : k < 20) (L6 : e - B ≤ 6) (H : ∀ j : Int, 0 ≤ j → j ≤ e - B → (j = e - B ↔ ∀ i : Nat, (i : Int) < e - B → nmA (7 * k + i) = m 8 (B + i)) → De (fun n => f_X3_named n 65 [.ref 1, .int (J (e - B)), .int (J (7 * k : Nat)), .int (J j)] (hp S m q)) R P) : ∀ t j : Nat, (j : Int) + t = e - B → (∀ i : Nat, i < j → nmA (7 * k + i) = m 8 (B + i)) → De (fun n => f_X3_named n 32 [.ref 1, .int (J (e - B)), .int (J (7 * k : Nat)), .int (J j)] (hp S m q)) R P := by
  intro t
  induction t with
  | zero =>
    intro j hj hm
    have D := H j (by omega) (by omega) ⟨fun _ i hi => hm i (by omega), fun _ => by omega⟩
    refine De.step ?_
    simp only [j_X3_named_32]
    simp (disch := omega) only [b_X3_named_32, Option.bind_some, xI, xU, xUt, xIt, J_lit, J_add, J_sub, J_mul, J_neg, J_ltc, J_lec, J_eqc, lt_T, lt_F, le_T, le_F, eq_T, eq_F, ↓reduceIte, ite_not, not_true_eq_false, not_false_eq_true, true_or, or_true, false_or, or_false, true_and, and_true, false_and, and_false, up_get, Nat.reduceEqDiff, Int.reduceNeg, eqN_T, eqN_F]
    exact D
  | succ t IH =>
    intro j hj hm
    have c5 := sCh5 ⟨7 * k + j, by omega⟩
    have cc : ((7 * k + j : Nat) : Int) = ((7 * k : Nat) : Int) + j := by omega
    simp only [cc] at c5
    have bb := hb (B + j) (by omega) (by omega)
    have na : 0 ≤ nmA (7 * k + j) ∧ nmA (7 * k + j) ≤ 122 := by
      unfold nmA
      have ok := nmL_ok ⟨(7 * k + j) / 7, by omega⟩
      by_cases c : (7 * k + j) % 7 < (nmL ((7 * k + j) / 7)).length
      · rw [List.getD_eq_getElem?_getD, List.getElem?_eq_getElem c, Option.getD_some]
        have := ok.2.2 _ (List.getElem_mem c)
        omega
      · rw [List.getD_eq_getElem?_getD, List.getElem?_eq_none (by omega), Option.getD_none]
        omega
    by_cases c : nmA (7 * k + j) = m 8 (B + j)
    · have D := IH (j + 1) (by omega) (fun i hi => by
        by_cases z : i = j
        · rw [z]
          exact c
        · exact hm i (by omega))
      refine De.step ?_
      simp only [j_X3_named_32]
      simp (disch := omega) only [b_X3_named_32, Nat.reduceAdd, J_add, c5, x1_k hs, x1_r0 hs, x1_r1 hs, x1_i2 hs, x1_w2 hs, x1_i3 hs, x1_w3 hs, x1_i4 hs, x1_w4 hs, x1_i5 hs, x1_w5 hs, x1_i6 hs, x1_w6 hs, x1_i7 hs, x1_w7 hs, x8_g hs, x8_s hs, x8_l hs, h6, c, Option.bind_some, xI, xU, xUt, xIt, J_lit, J_add, J_sub, J_mul, J_neg, J_ltc, J_lec, J_eqc, lt_T, lt_F, le_T, le_F, eq_T, eq_F, ↓reduceIte, ite_not, not_true_eq_false, not_false_eq_true, true_or, or_true, false_or, or_false, true_and, and_true, false_and, and_false, up_get, Nat.reduceEqDiff, Int.reduceNeg, eqN_T, eqN_F]
      exact D
    · have D := H j (by omega) (by omega) ⟨fun z => by omega, fun z => absurd (z j (by omega)) c⟩
      refine De.step ?_
      simp only [j_X3_named_32]
      simp (disch := omega) only [b_X3_named_32, Nat.reduceAdd, J_add, c5, x1_k hs, x1_r0 hs, x1_r1 hs, x1_i2 hs, x1_w2 hs, x1_i3 hs, x1_w3 hs, x1_i4 hs, x1_w4 hs, x1_i5 hs, x1_w5 hs, x1_i6 hs, x1_w6 hs, x1_i7 hs, x1_w7 hs, x8_g hs, x8_s hs, x8_l hs, h6, Option.bind_some, xI, xU, xUt, xIt, J_lit, J_add, J_sub, J_mul, J_neg, J_ltc, J_lec, J_eqc, lt_T, lt_F, le_T, le_F, eq_T, eq_F, ↓reduceIte, ite_not, not_true_eq_false, not_false_eq_true, true_or, or_true, false_or, or_false, true_and, and_true, false_and, and_false, up_get, Nat.reduceEqDiff, Int.reduceNeg, eqN_T, eqN_F]
      exact D
/-- a word that stands in the class's row -/
theorem nmA_wd (hl : ∀ j, B ≤ j → j < e → 97 ≤ b j ∧ b j ≤ 122) (eB : B < e) (L6 : e - B ≤ 6) {k : Nat} (hk : k < 20) : wd b B e k = true ↔ (∀ i : Nat, (i : Int) < e - B → nmA (7 * k + i) = b (B + i)) ∧ nmA (7 * k + (e - B).toNat) = 32 := by
  have ok := nmL_ok ⟨k, hk⟩
  have ev : ∀ i : Nat, i < 7 → nmA (7 * k + i) = (nmL k).getD i 32 := fun i hi => by
    unfold nmA
    rw [show (7 * k + i) / 7 = k by omega, show (7 * k + i) % 7 = i by omega]
  have in' : ∀ i : Nat, i < (nmL k).length → 97 ≤ (nmL k).getD i 32 := fun i hi => by
    rw [List.getD_eq_getElem?_getD, List.getElem?_eq_getElem hi, Option.getD_some]
    exact (ok.2.2 _ (List.getElem_mem hi)).1
  have out : ∀ i : Nat, (nmL k).length ≤ i → (nmL k).getD i 32 = 32 := fun i hi => by
    rw [List.getD_eq_getElem?_getD, List.getElem?_eq_none hi, Option.getD_none]
  rw [wd_iff]
  constructor
  · rintro ⟨h1, h2⟩
    refine ⟨fun i hi => ?_, ?_⟩
    · rw [ev i (by omega), h2 i (by omega)]
    · rw [ev _ (by omega), out _ (by omega)]
  · rintro ⟨h1, h2⟩
    rw [ev _ (by omega)] at h2
    have le : (nmL k).length ≤ (e - B).toNat := by
      by_cases c : (nmL k).length ≤ (e - B).toNat
      · exact c
      · have := in' (e - B).toNat (by omega)
        omega
    have ge : (e - B).toNat ≤ (nmL k).length := by
      by_cases c : (e - B).toNat ≤ (nmL k).length
      · exact c
      · have a1 := h1 (nmL k).length (by omega)
        rw [ev _ (by omega), out _ (Nat.le_refl _)] at a1
        have := hl (B + (nmL k).length) (by omega) (by omega)
        omega
    refine ⟨by omega, fun j hj => ?_⟩
    rw [← h1 j (by omega), ev j (by omega)]
theorem wd_long {k : Nat} (hk : k < 20) (h : 6 < e - B) : wd b B e k = false := by
  refine Bool.eq_false_iff.mpr (fun z => ?_)
  have := (wd_iff k).1 z
  have h6 : (nmL k).length ≤ 6 := (nmL_ok ⟨k, hk⟩).2.1
  omega
theorem nmF_long (h : 6 < e - B) : ∀ t : Nat, nmF b B e t = 22
  | 0 => rfl
  | t + 1 => by
    rw [nmF, wd_long (by omega) h, if_neg (by decide)]
    exact nmF_long h t
theorem q_named12 (hs : Sk S) (h4 : m 1 4 = e) (h6 : m 1 6 = B) (B0 : 0 ≤ B) (eB : B < e) (e4 : e ≤ 400) (hl : ∀ j, B ≤ j → j < e → 97 ≤ m 8 j ∧ m 8 j ≤ 122) : ∀ t : Nat, t ≤ 20 → De (fun n => f_X3_named n 12 [.ref 1, .int (J (e - B)), .int (J (7 * (20 - t) : Nat))] (hp S m q)) (.inl (some (.int (J (nmF (m 8) B e t))))) (hp S m q) := by
  intro t
  induction t with
  | zero =>
    intro _
    refine De.step ?_
    simp only [j_X3_named_12]
    simp (disch := omega) only [b_X3_named_12, Nat.reduceAdd, sLn5, nmF, Option.bind_some, xI, xU, xUt, xIt, J_lit, J_add, J_sub, J_mul, J_neg, J_ltc, J_lec, J_eqc, lt_T, lt_F, le_T, le_F, eq_T, eq_F, ↓reduceIte, ite_not, not_true_eq_false, not_false_eq_true, true_or, or_true, false_or, or_false, true_and, and_true, false_and, and_false, up_get, Nat.reduceEqDiff, Int.reduceNeg, eqN_T, eqN_F]
    exact De.ret _ _
  | succ t IH =>
    intro ht
    have D := IH (by omega)
    by_cases c7 : 6 < e - B
    · rw [nmF_long c7]
      refine De.step ?_
      simp only [j_X3_named_12]
      simp (disch := omega) only [b_X3_named_12, Nat.reduceAdd, sLn5, Option.bind_some, xI, xU, xUt, xIt, J_lit, J_add, J_sub, J_mul, J_neg, J_ltc, J_lec, J_eqc, lt_T, lt_F, le_T, le_F, eq_T, eq_F, ↓reduceIte, ite_not, not_true_eq_false, not_false_eq_true, true_or, or_true, false_or, or_false, true_and, and_true, false_and, and_false, up_get, Nat.reduceEqDiff, Int.reduceNeg, eqN_T, eqN_F]
      exact De.ret _ _
    · have ek : 20 - (t + 1) = 19 - t := by omega
      rw [ek]
      have nx : ((7 * (19 - t) : Nat) : Int) + 7 = ((7 * (20 - t) : Nat) : Int) := by omega
      have W := nmA_wd (b := m 8) (k := 19 - t) hl eB (by omega) (by omega)
      have Q := q_named32 (q := q) (R := .inl (some (.int (J (nmF (m 8) B e (t + 1)))))) (P := hp S m q) (k := 19 - t) hs h4 h6 B0 eB e4 (fun j a c => by have := hl j a c; omega) (by omega) (by omega) (fun j j0 j1 hj => by
        by_cases c : j = e - B
        · have c5 := sCh5 ⟨7 * (19 - t) + (e - B).toNat, by omega⟩
          have cc : ((7 * (19 - t) + (e - B).toNat : Nat) : Int) = ((7 * (19 - t) : Nat) : Int) + (e - B) := by omega
          simp only [cc] at c5
          rw [c]
          have na : 0 ≤ nmA (7 * (19 - t) + (e - B).toNat) ∧ nmA (7 * (19 - t) + (e - B).toNat) ≤ 122 := by
            unfold nmA
            have ok := nmL_ok ⟨(7 * (19 - t) + (e - B).toNat) / 7, by omega⟩
            by_cases c : (7 * (19 - t) + (e - B).toNat) % 7 < (nmL ((7 * (19 - t) + (e - B).toNat) / 7)).length
            · rw [List.getD_eq_getElem?_getD, List.getElem?_eq_getElem c, Option.getD_some]
              have := ok.2.2 _ (List.getElem_mem c)
              omega
            · rw [List.getD_eq_getElem?_getD, List.getElem?_eq_none (by omega), Option.getD_none]
              omega
          by_cases d : nmA (7 * (19 - t) + (e - B).toNat) = 32
          · have w1 := W.2 ⟨hj.1 c, d⟩
            rw [nmF, if_pos w1]
            have dv : J ((7 * (19 - t) : Nat) : Int) / J 7 = J ((19 - t : Nat) : Int) := by
              rw [J_div (by omega) (by omega) (by decide) (by decide)]
              congr 1
              omega
            refine De.step ?_
            simp only [j_X3_named_65]
            simp (disch := omega) only [b_X3_named_65, Nat.reduceAdd, J_add, c5, d, dv, Option.bind_some, xI, xU, xUt, xIt, J_lit, J_add, J_sub, J_mul, J_neg, J_ltc, J_lec, J_eqc, lt_T, lt_F, le_T, le_F, eq_T, eq_F, ↓reduceIte, ite_not, not_true_eq_false, not_false_eq_true, true_or, or_true, false_or, or_false, true_and, and_true, false_and, and_false, up_get, Nat.reduceEqDiff, Int.reduceNeg, eqN_T, eqN_F]
            exact De.ret _ _
          · have w1 : ¬ wd (m 8) B e (19 - t) = true := fun z => d (W.1 z).2
            rw [nmF, if_neg w1]
            refine De.step ?_
            simp only [j_X3_named_65]
            simp (disch := omega) only [b_X3_named_65, Nat.reduceAdd, J_add, c5, nx, Option.bind_some, xI, xU, xUt, xIt, J_lit, J_add, J_sub, J_mul, J_neg, J_ltc, J_lec, J_eqc, lt_T, lt_F, le_T, le_F, eq_T, eq_F, ↓reduceIte, ite_not, not_true_eq_false, not_false_eq_true, true_or, or_true, false_or, or_false, true_and, and_true, false_and, and_false, up_get, Nat.reduceEqDiff, Int.reduceNeg, eqN_T, eqN_F]
            exact D
        · have w1 : ¬ wd (m 8) B e (19 - t) = true := fun z => c (hj.2 (W.1 z).1)
          rw [nmF, if_neg w1]
          refine De.step ?_
          simp only [j_X3_named_65]
          simp (disch := omega) only [b_X3_named_65, J_add, nx, Option.bind_some, xI, xU, xUt, xIt, J_lit, J_add, J_sub, J_mul, J_neg, J_ltc, J_lec, J_eqc, lt_T, lt_F, le_T, le_F, eq_T, eq_F, ↓reduceIte, ite_not, not_true_eq_false, not_false_eq_true, true_or, or_true, false_or, or_false, true_and, and_true, false_and, and_false, up_get, Nat.reduceEqDiff, Int.reduceNeg, eqN_T, eqN_F]
          exact D) (e - B).toNat 0 (by omega) (fun i hi => by omega)
      refine De.step ?_
      simp only [j_X3_named_12]
      simp (disch := omega) only [b_X3_named_12, Nat.reduceAdd, sLn5, Option.bind_some, xI, xU, xUt, xIt, J_lit, J_add, J_sub, J_mul, J_neg, J_ltc, J_lec, J_eqc, lt_T, lt_F, le_T, le_F, eq_T, eq_F, ↓reduceIte, ite_not, not_true_eq_false, not_false_eq_true, true_or, or_true, false_or, or_false, true_and, and_true, false_and, and_false, up_get, Nat.reduceEqDiff, Int.reduceNeg, eqN_T, eqN_F]
      exact Q
theorem q_named (hs : Sk S) (h4 : m 1 4 = e) (h6 : m 1 6 = B) (B0 : 0 ≤ B) (eB : B < e) (e4 : e ≤ 400) (hl : ∀ j, B ≤ j → j < e → 97 ≤ m 8 j ∧ m 8 j ≤ 122) : De (fun n => f_X3_named n 0 [.ref 1] (hp S m q)) (.inl (some (.int (J (nmF (m 8) B e 20))))) (hp S m q) := by
  have D := q_named12 (q := q) hs h4 h6 B0 eB e4 hl 20 (by omega)
  refine De.step ?_
  simp only [j_X3_named_0]
  simp (disch := omega) only [b_X3_named_0, x1_k hs, x1_r0 hs, x1_r1 hs, x1_i2 hs, x1_w2 hs, x1_i3 hs, x1_w3 hs, x1_i4 hs, x1_w4 hs, x1_i5 hs, x1_w5 hs, x1_i6 hs, x1_w6 hs, x1_i7 hs, x1_w7 hs, h4, h6, Option.bind_some, xI, xU, xUt, xIt, J_lit, J_add, J_sub, J_mul, J_neg, J_ltc, J_lec, J_eqc, lt_T, lt_F, le_T, le_F, eq_T, eq_F, ↓reduceIte, ite_not, not_true_eq_false, not_false_eq_true, true_or, or_true, false_or, or_false, true_and, and_true, false_and, and_false, up_get, Nat.reduceEqDiff, Int.reduceNeg, eqN_T, eqN_F]
  exact D
end NEXT
