/-! what both have read so far -/
theorem nx_or (a b : Nat) : nI a ||| nI b = nI (a ||| b) := by
  apply Int32.toBitVec_inj.1
  show BitVec.ofNat 32 a ||| BitVec.ofNat 32 b = BitVec.ofNat 32 (a ||| b)
  apply BitVec.eq_of_getLsbD_eq
  intro i hi
  simp [hi]
theorem J_enc {th wh op : Int} (t0 : 0 ≤ th) (t1 : th ≤ 9999) (w0 : 0 ≤ wh) (w1 : wh < 16) (o0 : 0 ≤ op) (o1 : op < 16) : ((J th <<< (J 8 &&& J 31)) ||| (J wh <<< (J 4 &&& J 31))) ||| J op = J (256 * th + 16 * wh + op) := by
  rw [J_nn t0, J_nn w0, J_nn o0, ← J_lit 31, ← J_lit 8, ← J_lit 4, J_nn (show 0 ≤ 256 * th + 16 * wh + op by omega)]
  show ((nI th.toNat <<< (nI 8 &&& 31)) ||| (nI wh.toNat <<< (nI 4 &&& 31))) ||| nI op.toNat = _
  rw [pk_shlN _ 8 (s_l 8 (by omega)) (by omega), pk_shlN _ 4 (s_l 4 (by omega)) (by omega), nx_or, nx_or]
  congr 1
  rw [Nat.or_assoc, Nat.mul_comm wh.toNat, Nat.mul_comm th.toNat, ← Nat.two_pow_add_eq_or_of_lt (show op.toNat < 2 ^ 4 by omega), ← Nat.two_pow_add_eq_or_of_lt (show 2 ^ 4 * wh.toNat + op.toNat < 2 ^ 8 by omega)]
  omega
def em (g : Int → Int) (s st nn : Int) : Int → Int := ups (ups g (41 + 2 * s) st) (41 + 2 * s + 1) nn
theorem em_0 (g : Int → Int) (s st nn : Int) : em g s st nn (41 + 2 * s) = st := by
  unfold em
  rw [ups_ne (by omega), ups_at]
theorem em_1 (g : Int → Int) (s st nn : Int) : em g s st nn (41 + 2 * s + 1) = nn := ups_at _ _ _
theorem em_o {g : Int → Int} {s st nn i : Int} (h : i < 41 + 2 * s) : em g s st nn i = g i := by
  unfold em
  rw [ups_ne (by omega), ups_ne (by omega)]
def Bok (b : Int → Int) (n B : Int) : Prop := (0 ≤ B ∧ B ≤ n ∧ n ≤ 400) ∧ rn b n 32 32 B = B ∧ ∀ j, 0 ≤ j → j < n → -128 ≤ b j ∧ b j < 128
def nxB (b : Int → Int) (n B : Int) : Int := rn b n 32 32 (ten b n B)
theorem ten_in {b : Int → Int} {n B : Int} (h : B < n) : B + 1 ≤ ten b n B ∧ ten b n B ≤ n := by
  unfold ten
  rw [if_neg (by omega)]
  by_cases cd : 48 ≤ b B ∧ b B ≤ 57
  · rw [if_pos cd, rn_yes h cd]
    have := rn_ok (b := b) (lo := 48) (hi := 57) (show B + 1 ≤ n by omega)
    omega
  · rw [if_neg cd]
    by_cases cl : 97 ≤ b B ∧ b B ≤ 122
    · rw [if_pos cl, rn_yes h cl]
      have := rn_ok (b := b) (lo := 97) (hi := 122) (show B + 1 ≤ n by omega)
      omega
    · rw [if_neg cl]
      omega
theorem Bok.nx {b : Int → Int} {n B : Int} (h : Bok b n B) (c : B < n) : Bok b n (nxB b n B) ∧ ten b n B ≤ nxB b n B ∧ B + 1 ≤ nxB b n B := by
  have t := ten_in (b := b) c
  have r := rn_ok (b := b) (lo := 32) (hi := 32) t.2
  unfold nxB
  have hh := h.1
  exact ⟨⟨⟨by omega, r.2.1, h.1.2.2⟩, rn_self t.2, h.2.2⟩, r.1, by omega⟩
theorem tok_lt {b : Int → Int} {n B : Int} (h : tok b n B ≠ 21) : B < n := by
  by_cases c : n ≤ B
  · exact absurd (if_pos c) h
  · omega
/-- the class: tokens read up to B, s steps of the draft beside g, L lines -/
def CPs (m : Nat → Int → Int) (b : Int → Int) (n B s : Int) (g : Int → Int) (L : Int) : Prop := m 1 2 = n ∧ m 8 = b ∧ Tk m b n B ∧ (m 2 3 = L ∧ 0 ≤ L ∧ L ≤ 10) ∧ (m 2 5 = s ∧ m 5 L = s ∧ 0 ≤ s ∧ s ≤ 200) ∧ ∀ i : Int, 0 ≤ i → i < s → m 6 i = encS (g (41 + 2 * i)) (g (41 + 2 * i + 1))
def FrPa (L : Int) (m m' : Nat → Int → Int) : Prop := ∀ c j, c ≠ 6 → ¬ (c = 1 ∧ 3 ≤ j ∧ j ≤ 7) → ¬ (c = 2 ∧ j = 5) → ¬ (c = 5 ∧ j = L) → m' c j = m c j
theorem FrPa.tr {L : Int} {m m1 m2 : Nat → Int → Int} (h1 : FrPa L m m1) (h2 : FrPa L m1 m2) : FrPa L m m2 := fun c j a b d e => (h2 c j a b d e).trans (h1 c j a b d e)
theorem Fr1.p {L : Int} {m m1 : Nat → Int → Int} (h : Fr1 m m1) : FrPa L m m1 := fun c j _ b _ _ => h c j (by omega)
/-- the reference -/
def RPs (m : Nat → Int → Int) (b : Int → Int) (n B s : Int) (g : Int → Int) (d : Int) : Prop := (∃ p, Rp m b n p ∧ rn b n 32 32 p = B) ∧ m 136 13 = d ∧ m 136 16 = s ∧ ∀ i : Int, 0 ≤ i → i < 841 → m 139 (5080 + i) = g i
def FrRe (m m' : Nat → Int → Int) : Prop := ∀ c j, ¬ (c = 136 ∧ (j = 10 ∨ j = 12 ∨ j = 13 ∨ j = 16)) → ¬ (c = 139 ∧ 5080 ≤ j) → m' c j = m c j
theorem FrRe.tr {m m1 m2 : Nat → Int → Int} (h1 : FrRe m m1) (h2 : FrRe m1 m2) : FrRe m m2 := fun c j a b => (h2 c j a b).trans (h1 c j a b)
theorem Fr2.r {m m1 : Nat → Int → Int} (h : Fr2 m m1) : FrRe m m1 := fun c j a _ => h c j (by omega)
section STATE
variable {S : xH} {m m' m0 : Nat → Int → Int} {q : Nat → Int → Int64} {b g : Int → Int} {n B s L d : Int}
theorem c_next (hs : Sk S) (hB : Bok b n B) (h : CPs m b n B s g L) (c : B < n) : ∃ m', De (fun n => f_X3_next n 0 [.ref 1] (hp S m q)) (.inl none) (hp S m' q) ∧ CPs m' b n (nxB b n B) s g L ∧ Fr1 m m' := by
  obtain ⟨h1, h2, h3, ⟨h4, h5⟩, ⟨h6, h7, h8⟩, h9⟩ := h
  have t := ten_in (b := b) c
  obtain ⟨m', D, T, F⟩ := q_next (q := q) hs hB.1.2.2 hB.2.2 (by have := hB.1; omega) t.2 h1 h3.1 h2
  exact ⟨m', D, ⟨(F 1 2 (by omega)).trans h1, F.b8.trans h2, T, ⟨(F 2 3 (by omega)).trans h4, h5⟩, ⟨(F 2 5 (by omega)).trans h6, (F 5 L (by omega)).trans h7, h8⟩, fun i i0 i1 => (F 6 i (by omega)).trans (h9 i i0 i1)⟩, F⟩
theorem q_addS (hs : Sk S) {op wh th : Int} (h5 : m 2 5 = s) (s0 : 0 ≤ s) (s1 : s < 200) (h3 : m 2 3 = L) (L0 : 0 ≤ L) (L1 : L ≤ 10) (t0 : 0 ≤ th) (t1 : th ≤ 9999) (w0 : 0 ≤ wh) (w1 : wh < 16) (o0 : 0 ≤ op) (o1 : op < 16) : De (fun n => f_X5_addStep n 0 [.ref 2, .int (J op), .int (J wh), .int (J th)] (hp S m q)) (.inl none) (hp S (up (up (up m 6 s (256 * th + 16 * wh + op)) 2 5 (s + 1)) 5 L (s + 1)) q) := by
  have je := J_enc t0 t1 w0 w1 o0 o1
  refine De.step ?_
  simp only [j_X5_addStep_0]
  simp (disch := omega) only [b_X5_addStep_0, x2_k hs, x2_r0 hs, x2_r1 hs, x2_r2 hs, x2_i3 hs, x2_w3 hs, x2_r4 hs, x2_i5 hs, x2_w5 hs, x2_r6 hs, x2_i7 hs, x2_w7 hs, x5_g hs, x5_s hs, x5_l hs, x6_g hs, x6_s hs, x6_l hs, h5, h3, je, Option.bind_some, xI, xU, xUt, xIt, J_lit, J_add, J_sub, J_mul, J_neg, J_ltc, J_lec, J_eqc, lt_T, lt_F, le_T, le_F, eq_T, eq_F, ↓reduceIte, ite_not, not_true_eq_false, not_false_eq_true, true_or, or_true, false_or, or_false, true_and, and_true, false_and, and_false, up_get, Nat.reduceEqDiff, Int.reduceNeg, eqN_T, eqN_F]
  exact De.ret _ _
theorem c_add (hs : Sk S) {op wh th st nn : Int} (h : CPs m b n B s g L) (s1 : s < 200) (t0 : 0 ≤ th) (t1 : th ≤ 9999) (w0 : 0 ≤ wh) (w1 : wh < 16) (o0 : 0 ≤ op) (o1 : op < 16) (he : 256 * th + 16 * wh + op = encS st nn) : ∃ m', De (fun n => f_X5_addStep n 0 [.ref 2, .int (J op), .int (J wh), .int (J th)] (hp S m q)) (.inl none) (hp S m' q) ∧ CPs m' b n B (s + 1) (em g s st nn) L ∧ FrPa L m m' ∧ m' 1 3 = m 1 3 := by
  obtain ⟨h1, h2, h3, ⟨h4, h5⟩, ⟨h6, h7, h8⟩, h9⟩ := h
  have D := q_addS (q := q) hs h6 h8.1 s1 h4 h5.1 h5.2 t0 t1 w0 w1 o0 o1
  have f : ∀ c j, c ≠ 6 → ¬ (c = 2 ∧ j = 5) → ¬ (c = 5 ∧ j = L) → up (up (up m 6 s (256 * th + 16 * wh + op)) 2 5 (s + 1)) 5 L (s + 1) c j = m c j := fun c j a b d => by rw [up_get, if_neg d, up_get, if_neg b, up_a a]
  refine ⟨_, D, ⟨(f 1 2 (by decide) (by decide) (by omega)).trans h1, (funext fun j => f 8 j (by decide) (by omega) (by omega)).trans h2, ⟨(f 1 4 (by decide) (by decide) (by omega)).trans h3.1, (f 1 5 (by decide) (by decide) (by omega)).trans h3.2.1, (f 1 6 (by decide) (by decide) (by omega)).trans h3.2.2.1, fun z => (f 1 7 (by decide) (by decide) (by omega)).trans (h3.2.2.2 z)⟩, ⟨(f 2 3 (by decide) (by decide) (by omega)).trans h4, h5⟩, ⟨by rw [up_a (by decide), up_at], up_at _ _ _ _, by omega, by omega⟩, fun i i0 i1 => ?_⟩, fun c j a _ d e => f c j a d e, f 1 3 (by decide) (by decide) (by omega)⟩
  rw [up_a (by decide), up_a (by decide)]
  by_cases c : i = s
  · rw [c, up_at, em_0, em_1, he]
  · rw [up_i c, em_o (by omega), em_o (by omega)]
    exact h9 i i0 (by omega)
/-- behind a fault it doesn't matter what the draft holds -/
theorem c_any (hs : Sk S) {op : Int} (h3 : m 2 3 = L) (L0 : 0 ≤ L) (L1 : L ≤ 10) (h5 : 0 ≤ m 2 5 ∧ m 2 5 ≤ 200) (o0 : 0 ≤ op) (o1 : op < 16) : ∃ m', De (fun n => f_X5_addStep n 0 [.ref 2, .int (J op), .int (J 0), .int (J 0)] (hp S m q)) (.inl none) (hp S m' q) ∧ FrPa L m m' ∧ (0 ≤ m' 2 5 ∧ m' 2 5 ≤ 200) ∧ ∀ j, m' 1 j = m 1 j := by
  by_cases c : m 2 5 < 200
  · refine ⟨_, q_addS (q := q) hs rfl h5.1 c h3 L0 L1 (by decide) (by decide) (by decide) (by decide) o0 o1, fun c j a _ d e => by rw [up_get, if_neg e, up_get, if_neg d, up_a a], by rw [up_a (by decide), up_at]; omega, fun j => by rw [up_a (by decide), up_a (by decide), up_a (by decide)]⟩
  · refine ⟨m, ?_, fun _ _ _ _ _ _ => rfl, h5, fun _ => rfl⟩
    refine De.step ?_
    simp only [j_X5_addStep_0]
    simp (disch := omega) only [b_X5_addStep_0, x2_k hs, x2_r0 hs, x2_r1 hs, x2_r2 hs, x2_i3 hs, x2_w3 hs, x2_r4 hs, x2_i5 hs, x2_w5 hs, x2_r6 hs, x2_i7 hs, x2_w7 hs, x6_g hs, x6_s hs, x6_l hs, Option.bind_some, xI, xU, xUt, xIt, J_lit, J_add, J_sub, J_mul, J_neg, J_ltc, J_lec, J_eqc, lt_T, lt_F, le_T, le_F, eq_T, eq_F, ↓reduceIte, ite_not, not_true_eq_false, not_false_eq_true, true_or, or_true, false_or, or_false, true_and, and_true, false_and, and_false, up_get, Nat.reduceEqDiff, Int.reduceNeg, eqN_T, eqN_F]
    exact De.ret _ _
theorem c_fail (hs : Sk S) (h6 : m 1 6 = B) : De (fun n => f_X3_fail n 0 [.ref 1] (hp S m q)) (.inl (some (.int (J 0)))) (hp S (up m 1 3 B) q) := by
  refine De.step ?_
  simp only [j_X3_fail_0]
  simp (disch := omega) only [b_X3_fail_0, x1_k hs, x1_r0 hs, x1_r1 hs, x1_i2 hs, x1_w2 hs, x1_i3 hs, x1_w3 hs, x1_i4 hs, x1_w4 hs, x1_i5 hs, x1_w5 hs, x1_i6 hs, x1_w6 hs, x1_i7 hs, x1_w7 hs, h6, Option.bind_some, xI, xU, xUt, xIt, J_lit, J_add, J_sub, J_mul, J_neg, J_ltc, J_lec, J_eqc, lt_T, lt_F, le_T, le_F, eq_T, eq_F, ↓reduceIte, ite_not, not_true_eq_false, not_false_eq_true, true_or, or_true, false_or, or_false, true_and, and_true, false_and, and_false, up_get, Nat.reduceEqDiff, Int.reduceNeg, eqN_T, eqN_F]
  exact De.ret _ _
theorem RPs.fr (h : RPs m b n B s g d) (F : Fr2 m m') {B' p : Int} (R : Rp m' b n p) (e : rn b n 32 32 p = B') : RPs m' b n B' s g d := ⟨⟨p, R, e⟩, (F 136 13 (by omega)).trans h.2.1, (F 136 16 (by omega)).trans h.2.2.1, fun i i0 i1 => (F 139 _ (by omega)).trans (h.2.2.2 i i0 i1)⟩
theorem r_passes (hs : Sk S) (hB : Bok b n B) (h : RPs m b n B s g d) (k : Nat) (hk : k < 20) {t : Nat} (ht : t = txN k + 1) : ∃ m', De (fun n => f_X11_passes n 0 [.ref 136, .retAddr t] (hp S m q)) (.inl (some (.int (J (if tok b n B = k then 1 else 0))))) (hp S m' q) ∧ RPs m' b n (if tok b n B = k then nxB b n B else B) s g d ∧ m' 136 12 = B ∧ Fr2 m m' := by
  obtain ⟨p, R, e⟩ := h.1
  obtain ⟨m', D, R', b', F⟩ := d_passes (q := q) hs R k hk ht
  rw [e] at D R' b'
  refine ⟨m', D, h.fr F R' ?_, b', F⟩
  by_cases c : tok b n B = k
  · rw [if_pos c, if_pos c]
    rfl
  · rw [if_neg c, if_neg c]
    exact hB.2.1
theorem r_sign (hs : Sk S) (hB : Bok b n B) (h : RPs m b n B s g d) {c : Int} (c0 : 0 ≤ c) (c1 : c ≤ 96) (c2 : c < 48 ∨ 57 < c) : ∃ m', De (fun n => f_X11_sign n 0 [.ref 136, .int (J c)] (hp S m q)) (.inl (some (.int (J (if tok b n B = 100 + c then 1 else 0))))) (hp S m' q) ∧ RPs m' b n (if tok b n B = 100 + c then nxB b n B else B) s g d ∧ m' 136 12 = B ∧ Fr2 m m' := by
  obtain ⟨p, R, e⟩ := h.1
  obtain ⟨m', D, R', b', F⟩ := d_sign (q := q) hs R c0 c1 c2
  rw [e] at D R' b'
  refine ⟨m', D, h.fr F R' ?_, b', F⟩
  by_cases c : tok b n B = 100 + c
  · rw [if_pos c, if_pos c]
    rfl
  · rw [if_neg c, if_neg c]
    exact hB.2.1
theorem r_number (hs : Sk S) (hB : Bok b n B) (h : RPs m b n B s g d) {high : Int} (hh0 : 0 ≤ high) (hh : high ≤ 9999) : ∃ m', De (fun n => f_X11_number n 0 [.ref 136, .int (J high)] (hp S m q)) (.inl (some (.int (J (if tok b n B = 20 ∧ vlF b B (ten b n B - B).toNat ≤ high then vlF b B (ten b n B - B).toNat else -1))))) (hp S m' q) ∧ RPs m' b n (if tok b n B = 20 then nxB b n B else B) s g d ∧ m' 136 12 = B ∧ Fr2 m m' := by
  obtain ⟨p, R, e⟩ := h.1
  obtain ⟨m', D, R', b', F⟩ := d_number (q := q) hs R hh0 hh
  rw [e] at D R' b'
  refine ⟨m', D, h.fr F R' ?_, b', F⟩
  by_cases c : tok b n B = 20
  · rw [if_pos c, if_pos c]
    rfl
  · rw [if_neg c, if_neg c]
    exact hB.2.1
theorem r_letters (hs : Sk S) (hB : Bok b n B) (h : RPs m b n B s g d) : ∃ m', De (fun n => f_X11_letters n 0 [.ref 136] (hp S m q)) (.inl none) (hp S m' q) ∧ Rp m' b n (rn b n 97 122 B) ∧ m' 136 12 = B ∧ Fr2 m m' := by
  obtain ⟨p, R, e⟩ := h.1
  obtain ⟨m', D, R', b', F⟩ := d_letters (q := q) hs R
  rw [e] at R' b'
  exact ⟨m', D, R', b', F⟩
/-- is it the word k, once the letters are read -/
theorem r_is (hs : Sk S) (hB : Bok b n B) (R : Rp m b n (rn b n 97 122 B)) (h12 : m 136 12 = B) (k : Nat) (hk : k < 20) {t : Nat} (ht : t = txN k + 1) : De (fun n => f_X11_isLetters n 0 [.ref 136, .retAddr t] (hp S m q)) (.inl (some (.int (J (if tok b n B = k then 1 else 0))))) (hp S m q) := by
  have r := rn_ok (b := b) (lo := 97) (hi := 122) hB.1.2.1
  have D := d_isLet (q := q) hs R h12 hB.1.1 r.1 k hk ht
  have tw := tok_wd (b := b) (n := n) (B := B) (fun c => hB.2.2 B hB.1.1 c) hB.1.2.1 hk
  by_cases c : tok b n B = k
  · rw [if_pos c]
    rw [if_pos (tw.1 c)] at D
    exact D
  · rw [if_neg c]
    rw [if_neg (fun z => c (tw.2 z))] at D
    exact D
theorem r_emits (hs : Sk S) (h : RPs m b n B s g d) (s0 : 0 ≤ s) (s1 : s < 400) (st nn : Int) : ∃ m', De (fun n => f_X11_emits n 0 [.ref 136, .int (J st), .int (J nn)] (hp S m q)) (.inl none) (hp S m' q) ∧ RPs m' b n B (s + 1) (em g s st nn) d ∧ FrRe m m' ∧ m' 136 12 = m 136 12 := by
  obtain ⟨⟨p, R, e⟩, h1, h2, h3⟩ := h
  refine ⟨up (up (up m 139 (5080 + 41 + 2 * s) st) 139 (5080 + 41 + 2 * s + 1) nn) 136 16 (s + 1), ?_, ⟨⟨p, ⟨?_, ?_, R.2.2.1, fun j j0 j1 => ?_⟩, e⟩, ?_, up_at _ _ _ _, fun i i0 i1 => ?_⟩, fun c j a b => ?_, ?_⟩
  · refine De.eq 2 (fun n => ?_)
    rw [j_X11_emits_0]
    simp (disch := omega) only [b_X11_emits_0, e_ruleAt, x136_k hs, x136_i0 hs, x136_w0 hs, x136_r1 hs, x136_r2 hs, x136_r3 hs, x136_r4 hs, x136_i5 hs, x136_w5 hs, x136_i6 hs, x136_w6 hs, x136_i7 hs, x136_w7 hs, x136_r8 hs, x136_i9 hs, x136_w9 hs, x136_i10 hs, x136_w10 hs, x136_i11 hs, x136_w11 hs, x136_i12 hs, x136_w12 hs, x136_i13 hs, x136_w13 hs, x136_i14 hs, x136_w14 hs, x136_r15 hs, x136_i16 hs, x136_w16 hs, x136_r17 hs, x136_r18 hs, x136_r19 hs, x136_r20 hs, x136_r21 hs, x136_i22 hs, x136_w22 hs, x136_r23 hs, x136_r24 hs, x136_i25 hs, x136_w25 hs, x136_i26 hs, x136_w26 hs, x136_r27 hs, x136_r28 hs, x136_i29 hs, x136_w29 hs, x139_g hs, x139_s hs, x139_l hs, h2, Option.bind_some, xI, xU, xUt, xIt, J_lit, J_add, J_sub, J_mul, J_neg, J_ltc, J_lec, J_eqc, lt_T, lt_F, le_T, le_F, eq_T, eq_F, ↓reduceIte, ite_not, not_true_eq_false, not_false_eq_true, true_or, or_true, false_or, or_false, true_and, and_true, false_and, and_false, up_get, Nat.reduceEqDiff, Int.reduceNeg, eqN_T, eqN_F]
    rw [show (4239 + 841 * 1 : Int) = 5080 from rfl]
  · rw [up_i (by decide), up_a (by decide), up_a (by decide)]
    exact R.1
  · rw [up_i (by decide), up_a (by decide), up_a (by decide)]
    exact R.2.1
  · rw [up_a (by decide), up_a (by decide), up_a (by decide)]
    exact R.2.2.2 j j0 j1
  · rw [up_i (by decide), up_a (by decide), up_a (by decide)]
    exact h1
  · rw [up_a (by decide)]
    unfold em
    by_cases c1 : i = 41 + 2 * s + 1
    · rw [c1, ups_at, show 5080 + (41 + 2 * s + 1) = 5080 + 41 + 2 * s + 1 by omega, up_at]
    · rw [ups_ne c1, up_i (by omega)]
      by_cases c2 : i = 41 + 2 * s
      · rw [c2, ups_at, show 5080 + (41 + 2 * s) = 5080 + 41 + 2 * s by omega, up_at]
      · rw [ups_ne c2, up_i (by omega)]
        exact h3 i i0 i1
  · rw [up_get, if_neg (by omega), up_get, if_neg (by omega), up_get, if_neg (by omega)]
  · rw [up_i (by decide), up_a (by decide), up_a (by decide)]
end STATE
