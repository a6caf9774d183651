/-! a line holds: by the reference -/
/-- the pile as a row, the lowest first -/
def Mt (f : Int → Int) : List Bool → Prop
  | [] => True
  | b :: r => f r.length = (if b = true then 1 else 0) ∧ Mt f r
theorem Mt.cg {f f' : Int → Int} : ∀ {st : List Bool}, Mt f st → (∀ i : Int, 0 ≤ i → i < st.length → f' i = f i) → Mt f' st
  | [], _, _ => trivial
  | b :: r, h, e => ⟨(e r.length (by omega) (by simp only [List.length_cons]; omega)).trans h.1, Mt.cg h.2 (fun i i0 i1 => e i i0 (by simp only [List.length_cons]; omega))⟩
def tl21 (rec : Nat → List Value → xH → xO) (a0 : Nat) (a1 a2 a3 a4 v19 v29 : Int32) (P : xH) : xO :=
    if ¬ v19 = 300 then
      if v19 < 301 then
        (rA P a0 11 19).bind fun v31 =>
        if 7 ≤ v19 then
          if 200 ≤ v19 then
            (rA P a0 11 18).bind fun v33 =>
            (aI P v33 ((v19 - 200))).bind fun v35 =>
            if v35 ≤ v29 then
              (sZ P v31 a3 0).bind fun P37 =>
              rec 21 [.ref a0, .int a1, .int a2, .int ((a3 + 1)), .int ((a4 + 1))] P37
            else
              (sZ P v31 a3 1).bind fun P39 =>
              rec 21 [.ref a0, .int a1, .int a2, .int ((a3 + 1)), .int ((a4 + 1))] P39
          else
            (rA P a0 11 18).bind fun v42 =>
            (aI P v42 ((v19 - 100))).bind fun v44 =>
            if v29 ≤ v44 then
              (sZ P v31 a3 0).bind fun P46 =>
              rec 21 [.ref a0, .int a1, .int a2, .int ((a3 + 1)), .int ((a4 + 1))] P46
            else
              (sZ P v31 a3 1).bind fun P48 =>
              rec 21 [.ref a0, .int a1, .int a2, .int ((a3 + 1)), .int ((a4 + 1))] P48
        else
          (rA P a0 11 17).bind fun v52 =>
          (aZ P v52 v19).bind fun v54 =>
          (sZ P v31 a3 v54).bind fun P56 =>
          rec 21 [.ref a0, .int a1, .int a2, .int ((a3 + 1)), .int ((a4 + 1))] P56
      else
        (rA P a0 11 19).bind fun v59 =>
        if ¬ v19 = 301 then
          (rA P a0 11 19).bind fun v61 =>
          (aZ P v61 ((((a3 + (-1))) - 1))).bind fun v63 =>
          if ¬ v63 = 0 then
            (sZ P v59 ((((a3 + (-1))) - 1)) 1).bind fun P65 =>
            rec 21 [.ref a0, .int a1, .int a2, .int ((a3 + (-1))), .int ((a4 + 1))] P65
          else
            (rA P a0 11 19).bind fun v67 =>
            (aZ P v67 ((a3 + (-1)))).bind fun v69 =>
            if v69 = 0 then
              (sZ P v59 ((((a3 + (-1))) - 1)) 0).bind fun P71 =>
              rec 21 [.ref a0, .int a1, .int a2, .int ((a3 + (-1))), .int ((a4 + 1))] P71
            else
              (sZ P v59 ((((a3 + (-1))) - 1)) 1).bind fun P73 =>
              rec 21 [.ref a0, .int a1, .int a2, .int ((a3 + (-1))), .int ((a4 + 1))] P73
        else
          (rA P a0 11 19).bind fun v77 =>
          (aZ P v77 ((((a3 + (-1))) - 1))).bind fun v79 =>
          if v79 = 0 then
            (sZ P v59 ((((a3 + (-1))) - 1)) 0).bind fun P81 =>
            rec 21 [.ref a0, .int a1, .int a2, .int ((a3 + (-1))), .int ((a4 + 1))] P81
          else
            (rA P a0 11 19).bind fun v83 =>
            (aZ P v83 ((a3 + (-1)))).bind fun v85 =>
            if v85 = 0 then
              (sZ P v59 ((((a3 + (-1))) - 1)) 0).bind fun P87 =>
              rec 21 [.ref a0, .int a1, .int a2, .int ((a3 + (-1))), .int ((a4 + 1))] P87
            else
              (sZ P v59 ((((a3 + (-1))) - 1)) 1).bind fun P89 =>
              rec 21 [.ref a0, .int a1, .int a2, .int ((a3 + (-1))), .int ((a4 + 1))] P89
    else
      (rA P a0 11 19).bind fun v95 =>
      (rA P a0 11 19).bind fun v97 =>
      (aZ P v97 ((a3 - 1))).bind fun v99 =>
      if ¬ v99 = 0 then
        (sZ P v95 ((a3 - 1)) 0).bind fun P101 =>
        rec 21 [.ref a0, .int a1, .int a2, .int a3, .int ((a4 + 1))] P101
      else
        (sZ P v95 ((a3 - 1)) 1).bind fun P103 =>
        rec 21 [.ref a0, .int a1, .int a2, .int a3, .int ((a4 + 1))] P103

theorem kJ0 : (0 : Int32) = J 0 := J_lit 0
theorem kJ1 : (1 : Int32) = J 1 := J_lit 1
theorem kJ2 : (2 : Int32) = J 2 := J_lit 2
theorem kJ3 : (3 : Int32) = J 3 := J_lit 3
theorem kJ41 : (41 : Int32) = J 41 := J_lit 41
theorem e_hol21 {S : xH} {m : Nat → Int → Int} {q : Nat → Int → Int64} {y A i e s t : Int} (hs : Sk S) (hy : m 136 6 = y) (y0 : 0 ≤ y) (y1 : y ≤ 1) (A0 : 0 ≤ A) (A1 : A + 3 < 5921) (i0 : 0 ≤ i) (i1 : i < 200) (he : m 139 (A + 3) = e) (ie : i < e) (e1 : e ≤ 200) (gs : m 139 (4239 + 841 * y + 41 + 2 * i) = s) (gt : m 139 (4239 + 841 * y + 41 + 2 * i + 1) = t) (rec : Nat → List Value → xH → xO) (n : Nat) (a1 d : Int32) : b_X11_holds_21 (n + 1) rec 136 a1 (J A) d (J i) (hp S m q) = tl21 rec 136 a1 (J A) d (J i) (J s) (J t) (hp S m q) := by
  unfold b_X11_holds_21
  have k1 : (J A + 3 : Int32) = J (A + 3) := by rw [kJ3, J_add]
  have k2 : (J (4239 + 841 * y) + 41 + 2 * J i : Int32) = J (4239 + 841 * y + 41 + 2 * i) := by rw [kJ41, kJ2, J_add, J_mul, J_add]
  have k3 : (J (4239 + 841 * y) + 41 + 2 * J i + 1 : Int32) = J (4239 + 841 * y + 41 + 2 * i + 1) := by rw [k2, kJ1, J_add]
  rw [x136_r3 hs, Option.bind_some, k1, x139_g hs (by omega) (by omega), Option.bind_some, he, if_neg (by rw [J_lec (by omega)]; omega), Option.bind_some, x136_i6 hs, Option.bind_some, hy, e_ruleAt, Option.bind_some]
  show (aI (hp S m q) 139 (J (4239 + 841 * y) + 41 + 2 * J i)).bind _ = _
  rw [k2, x139_g hs (by omega) (by omega), Option.bind_some, gs, x136_r3 hs, Option.bind_some, x136_i6 hs, Option.bind_some, hy, e_ruleAt, Option.bind_some]
  show (aI (hp S m q) 139 (J (4239 + 841 * y) + 41 + 2 * J i + 1)).bind _ = _
  rw [k3, x139_g hs (by omega) (by omega), Option.bind_some, gt]
  rfl
theorem e_hol21e {S : xH} {m : Nat → Int → Int} {q : Nat → Int → Int64} {A i e : Int} (hs : Sk S) (A0 : 0 ≤ A) (A1 : A + 3 < 5921) (i0 : 0 ≤ i) (i1 : i ≤ 200) (he : m 139 (A + 3) = e) (ie : e ≤ i) (e0 : 0 ≤ e) (rec : Nat → List Value → xH → xO) (n : Nat) (a1 d : Int32) : b_X11_holds_21 n rec 136 a1 (J A) d (J i) (hp S m q) = if d = 0 then some (.inl (some (.int 1)), hp S m q) else (rA (hp S m q) 136 11 19).bind fun v5 => (aZ (hp S m q) v5 0).bind fun v7 => if v7 = 0 then some (.inl (some (.int 0)), hp S m q) else some (.inl (some (.int 1)), hp S m q) := by
  unfold b_X11_holds_21
  have k1 : (J A + 3 : Int32) = J (A + 3) := by rw [kJ3, J_add]
  rw [x136_r3 hs, Option.bind_some, k1, x139_g hs (by omega) (by omega), Option.bind_some, he, if_pos (by rw [J_lec (by omega)]; omega)]
theorem cons1 {st : List Bool} (h : 1 ≤ st.length) : ∃ b r, st = b :: r := by
  cases st with
  | nil => simp at h
  | cons b r => exact ⟨b, r, rfl⟩
theorem cons2 {st : List Bool} (h : 2 ≤ st.length) : ∃ b a r, st = b :: a :: r := by
  obtain ⟨b, r, rfl⟩ := cons1 (show 1 ≤ st.length by omega)
  obtain ⟨a, r, rfl⟩ := cons1 (st := r) (by simp only [List.length_cons] at h; omega)
  exact ⟨b, a, r, rfl⟩
section HOLDSM
variable {S : xH} {m0 : Nat → Int → Int} {q : Nat → Int → Int64} {g fc : Int → Int} {T : Nat} {l y : Int}
theorem q_holM (hs : Sk S) (hy : m0 136 6 = y) (y0 : 0 ≤ y) (y1 : y ≤ 1) (l0 : 0 ≤ l) (l1 : l < 10) (hg : ∀ i : Int, 0 ≤ i → i < 841 → m0 139 (4239 + 841 * y + i) = g i) (he2 : g (1 + 4 * l + 3) ≤ 200) (hst : ∀ i : Int, 0 ≤ i → i < g (1 + 4 * l + 3) → StpOk g i) (hf : ∀ i : Int, 0 ≤ i → i < 5 → m0 144 i = fc i) (hfc : FcOk fc) (hT : ∀ k : Int, 0 ≤ k → k < 7 → m0 143 k = if T.testBit k.toNat = true then 1 else 0) : ∀ (k : Nat) (i : Int) (st : List Bool) (e : Int) (m : Nat → Int → Int), 0 ≤ i → i + k = g (1 + 4 * l + 3) → st.length ≤ 60 → wfS g i k st.length = some e → e ≤ 1 → (∀ b x, b ≠ 145 → m b x = m0 b x) → Mt (m 145) st → ∃ m', De (fun n => f_X11_holds n 21 [.ref 136, .int (J l), .int (J (4239 + 841 * y + 1 + 4 * l)), .int (J st.length), .int (J i)] (hp S m q)) (.inl (some (.int (J (if hdB (runS g T fc k i st) = true then 1 else 0))))) (hp S m' q) ∧ ∀ b x, b ≠ 145 → m' b x = m0 b x := by
  intro k
  induction k with
  | zero =>
    intro i st e m i0 ik hl h he F M
    rw [runS]
    have ge : m 139 (4239 + 841 * y + 1 + 4 * l + 3) = g (1 + 4 * l + 3) := by rw [F 139 _ (by decide), ← hg _ (by omega) (by omega)]; congr 1; omega
    have hl1 : st.length ≤ 1 := by
      rw [wfS] at h
      have := Option.some.inj h
      omega
    refine ⟨m, De.eq 1 (fun n => ?_), F⟩
    rw [j_X11_holds_21, e_hol21e hs (by omega) (by omega) i0 (by omega) ge (by omega) (by omega)]
    match st, hl1, M with
    | [], _, _ =>
      simp (disch := omega) only [x136_k hs, x136_i0 hs, x136_w0 hs, x136_r1 hs, x136_r2 hs, x136_r3 hs, x136_r4 hs, x136_i5 hs, x136_w5 hs, x136_i6 hs, x136_w6 hs, x136_i7 hs, x136_w7 hs, x136_r8 hs, x136_i9 hs, x136_w9 hs, x136_i10 hs, x136_w10 hs, x136_i11 hs, x136_w11 hs, x136_i12 hs, x136_w12 hs, x136_i13 hs, x136_w13 hs, x136_i14 hs, x136_w14 hs, x136_r15 hs, x136_i16 hs, x136_w16 hs, x136_r17 hs, x136_r18 hs, x136_r19 hs, x136_r20 hs, x136_r21 hs, x136_i22 hs, x136_w22 hs, x136_r23 hs, x136_r24 hs, x136_i25 hs, x136_w25 hs, x136_i26 hs, x136_w26 hs, x136_r27 hs, x136_r28 hs, x136_i29 hs, x136_w29 hs, hdB, List.length_nil, Int.natCast_zero, Int.ofNat_zero, if_true, Option.bind_some, xI, xU, xUt, xIt, J_lit, J_add, J_sub, J_mul, J_neg, J_ltc, J_lec, J_eqc, lt_T, lt_F, le_T, le_F, eq_T, eq_F, ↓reduceIte, ite_not, not_true_eq_false, not_false_eq_true, true_or, or_true, false_or, or_false, true_and, and_true, false_and, and_false, up_get, Nat.reduceEqDiff, Int.reduceNeg, eqN_T, eqN_F]
      all_goals rfl
    | [b], _, M =>
      have M0 : m 145 0 = if b = true then 1 else 0 := M.1
      cases b with
      | true =>
        rw [if_pos rfl] at M0
        simp (disch := omega) only [x136_k hs, x136_i0 hs, x136_w0 hs, x136_r1 hs, x136_r2 hs, x136_r3 hs, x136_r4 hs, x136_i5 hs, x136_w5 hs, x136_i6 hs, x136_w6 hs, x136_i7 hs, x136_w7 hs, x136_r8 hs, x136_i9 hs, x136_w9 hs, x136_i10 hs, x136_w10 hs, x136_i11 hs, x136_w11 hs, x136_i12 hs, x136_w12 hs, x136_i13 hs, x136_w13 hs, x136_i14 hs, x136_w14 hs, x136_r15 hs, x136_i16 hs, x136_w16 hs, x136_r17 hs, x136_r18 hs, x136_r19 hs, x136_r20 hs, x136_r21 hs, x136_i22 hs, x136_w22 hs, x136_r23 hs, x136_r24 hs, x136_i25 hs, x136_w25 hs, x136_i26 hs, x136_w26 hs, x136_r27 hs, x136_r28 hs, x136_i29 hs, x136_w29 hs, x145_g hs, x145_s hs, hdB, M0, List.length_cons, List.length_nil, if_true, Nat.zero_add, Int.natCast_one, Int.ofNat_one, Option.bind_some, xI, xU, xUt, xIt, J_lit, J_add, J_sub, J_mul, J_neg, J_ltc, J_lec, J_eqc, lt_T, lt_F, le_T, le_F, eq_T, eq_F, ↓reduceIte, ite_not, not_true_eq_false, not_false_eq_true, true_or, or_true, false_or, or_false, true_and, and_true, false_and, and_false, up_get, Nat.reduceEqDiff, Int.reduceNeg, eqN_T, eqN_F]
        all_goals rfl
      | false =>
        rw [if_neg (by decide)] at M0
        simp (disch := omega) only [x136_k hs, x136_i0 hs, x136_w0 hs, x136_r1 hs, x136_r2 hs, x136_r3 hs, x136_r4 hs, x136_i5 hs, x136_w5 hs, x136_i6 hs, x136_w6 hs, x136_i7 hs, x136_w7 hs, x136_r8 hs, x136_i9 hs, x136_w9 hs, x136_i10 hs, x136_w10 hs, x136_i11 hs, x136_w11 hs, x136_i12 hs, x136_w12 hs, x136_i13 hs, x136_w13 hs, x136_i14 hs, x136_w14 hs, x136_r15 hs, x136_i16 hs, x136_w16 hs, x136_r17 hs, x136_r18 hs, x136_r19 hs, x136_r20 hs, x136_r21 hs, x136_i22 hs, x136_w22 hs, x136_r23 hs, x136_r24 hs, x136_i25 hs, x136_w25 hs, x136_i26 hs, x136_w26 hs, x136_r27 hs, x136_r28 hs, x136_i29 hs, x136_w29 hs, x145_g hs, x145_s hs, hdB, M0, List.length_cons, List.length_nil, if_true, Bool.false_eq_true, if_false, Nat.zero_add, Int.natCast_one, Int.ofNat_one, Option.bind_some, xI, xU, xUt, xIt, J_lit, J_add, J_sub, J_mul, J_neg, J_ltc, J_lec, J_eqc, lt_T, lt_F, le_T, le_F, eq_T, eq_F, ↓reduceIte, ite_not, not_true_eq_false, not_false_eq_true, true_or, or_true, false_or, or_false, true_and, and_true, false_and, and_false, up_get, Nat.reduceEqDiff, Int.reduceNeg, eqN_T, eqN_F]
        all_goals rfl
  | succ k IH =>
    intro i st e m i0 ik hl h he F M
    rw [runS]
    obtain ⟨t0, t1, hss⟩ := hst i i0 (by omega)
    obtain ⟨W, W1, W2, W3⟩ := wfS_step (T := T) (fc := fc) h
    have ge : m 139 (4239 + 841 * y + 1 + 4 * l + 3) = g (1 + 4 * l + 3) := by rw [F 139 _ (by decide), ← hg _ (by omega) (by omega)]; congr 1; omega
    have gs : m 139 (4239 + 841 * y + 41 + 2 * i) = g (41 + 2 * i) := by rw [F 139 _ (by decide), ← hg _ (by omega) (by omega)]; congr 1; omega
    have gt : m 139 (4239 + 841 * y + 41 + 2 * i + 1) = g (41 + 2 * i + 1) := by rw [F 139 _ (by decide), ← hg _ (by omega) (by omega)]; congr 1; omega
    have hy' : m 136 6 = y := (F 136 6 (by decide)).trans hy
    have IH' := fun st' (m' : Nat → Int → Int) (hst' : stB T fc (g (41 + 2 * i)) (g (41 + 2 * i + 1)) st = st') (hl' : st'.length ≤ 60) (F' : ∀ b x, b ≠ 145 → m' b x = m0 b x) (M' : Mt (m' 145) st') => IH (i + 1) st' e m' (by omega) (by omega) hl' (by rw [← hst']; exact W) he F' M'
    generalize hS : g (41 + 2 * i) = s at *
    generalize hTt : g (41 + 2 * i + 1) = t at *
    have upF : ∀ (x z : Int) (b : Nat) (c : Int), b ≠ 145 → up m 145 x z b c = m0 b c := fun x z b c hb => by rw [up_a hb]; exact F b c hb
    /- the head of the block -/
    have HD : ∀ n, f_X11_holds (n + 2) 21 [.ref 136, .int (J l), .int (J (4239 + 841 * y + 1 + 4 * l)), .int (J st.length), .int (J i)] (hp S m q) = tl21 (f_X11_holds (n + 1)) 136 (J l) (J (4239 + 841 * y + 1 + 4 * l)) (J st.length) (J i) (J s) (J t) (hp S m q) := fun n => (j_X11_holds_21 _ _ _ _ _ _ _).trans (e_hol21 hs hy' y0 y1 (by omega) (by omega) i0 (by omega) ge (by omega) he2 gs gt _ n _ _)
    rcases hss with hss | hss | hss | hss
    · have es := stB_tag (T := T) (fc := fc) (t := t) (st := st) hss.2
      have w3 := W3 (by omega)
      have tg : m 143 s = if T.testBit s.toNat = true then 1 else 0 := (F 143 s (by decide)).trans (hT s hss.1 hss.2)
      have tg2 : m 143 s = 0 ∨ m 143 s = 1 := by rw [tg]; split <;> omega
      obtain ⟨m', D, F'⟩ := IH' _ (up m 145 st.length (m 143 s)) es (by simp only [List.length_cons]; omega) (upF _ _) ⟨by rw [up_at]; exact tg, M.cg (fun j j0 j1 => up_i (by omega))⟩
      refine ⟨m', ?_, F'⟩
      rw [es]
      refine De.cg 2 (fun n => ?_) (D.sh 1)
      rw [HD]
      simp (disch := omega) only [tl21, x136_k hs, x136_i0 hs, x136_w0 hs, x136_r1 hs, x136_r2 hs, x136_r3 hs, x136_r4 hs, x136_i5 hs, x136_w5 hs, x136_i6 hs, x136_w6 hs, x136_i7 hs, x136_w7 hs, x136_r8 hs, x136_i9 hs, x136_w9 hs, x136_i10 hs, x136_w10 hs, x136_i11 hs, x136_w11 hs, x136_i12 hs, x136_w12 hs, x136_i13 hs, x136_w13 hs, x136_i14 hs, x136_w14 hs, x136_r15 hs, x136_i16 hs, x136_w16 hs, x136_r17 hs, x136_r18 hs, x136_r19 hs, x136_r20 hs, x136_r21 hs, x136_i22 hs, x136_w22 hs, x136_r23 hs, x136_r24 hs, x136_i25 hs, x136_w25 hs, x136_i26 hs, x136_w26 hs, x136_r27 hs, x136_r28 hs, x136_i29 hs, x136_w29 hs, x143_g hs, x143_s hs, x145_g hs, x145_s hs, Option.bind_some, xI, xU, xUt, xIt, J_lit, J_add, J_sub, J_mul, J_neg, J_ltc, J_lec, J_eqc, lt_T, lt_F, le_T, le_F, eq_T, eq_F, ↓reduceIte, ite_not, not_true_eq_false, not_false_eq_true, true_or, or_true, false_or, or_false, true_and, and_true, false_and, and_false, up_get, Nat.reduceEqDiff, Int.reduceNeg, eqN_T, eqN_F]
      all_goals rfl
    · have es := stB_less (T := T) (fc := fc) (t := t) (st := st) hss.1 hss.2
      have w3 := W3 (by omega)
      have fb := hfc (s - 100) (by omega) (by omega)
      have ff : m 144 (s - 100) = fc (s - 100) := (F 144 _ (by decide)).trans (hf _ (by omega) (by omega))
      obtain ⟨m', D, F'⟩ := IH' _ (up m 145 st.length (if decide (fc (s - 100) < t) = true then 1 else 0)) es (by simp only [List.length_cons]; omega) (upF _ _) ⟨up_at _ _ _ _, M.cg (fun j j0 j1 => up_i (by omega))⟩
      refine ⟨m', ?_, F'⟩
      rw [es]
      refine De.cg 2 (fun n => ?_) (D.sh 1)
      rw [HD]
      by_cases c : fc (s - 100) < t
      · simp (disch := omega) only [tl21, x136_k hs, x136_i0 hs, x136_w0 hs, x136_r1 hs, x136_r2 hs, x136_r3 hs, x136_r4 hs, x136_i5 hs, x136_w5 hs, x136_i6 hs, x136_w6 hs, x136_i7 hs, x136_w7 hs, x136_r8 hs, x136_i9 hs, x136_w9 hs, x136_i10 hs, x136_w10 hs, x136_i11 hs, x136_w11 hs, x136_i12 hs, x136_w12 hs, x136_i13 hs, x136_w13 hs, x136_i14 hs, x136_w14 hs, x136_r15 hs, x136_i16 hs, x136_w16 hs, x136_r17 hs, x136_r18 hs, x136_r19 hs, x136_r20 hs, x136_r21 hs, x136_i22 hs, x136_w22 hs, x136_r23 hs, x136_r24 hs, x136_i25 hs, x136_w25 hs, x136_i26 hs, x136_w26 hs, x136_r27 hs, x136_r28 hs, x136_i29 hs, x136_w29 hs, x144_g hs, x144_s hs, x144_l hs, x145_g hs, x145_s hs, ff, decide_eq_true c, if_true, Option.bind_some, xI, xU, xUt, xIt, J_lit, J_add, J_sub, J_mul, J_neg, J_ltc, J_lec, J_eqc, lt_T, lt_F, le_T, le_F, eq_T, eq_F, ↓reduceIte, ite_not, not_true_eq_false, not_false_eq_true, true_or, or_true, false_or, or_false, true_and, and_true, false_and, and_false, up_get, Nat.reduceEqDiff, Int.reduceNeg, eqN_T, eqN_F]
        all_goals rfl
      · simp (disch := omega) only [tl21, x136_k hs, x136_i0 hs, x136_w0 hs, x136_r1 hs, x136_r2 hs, x136_r3 hs, x136_r4 hs, x136_i5 hs, x136_w5 hs, x136_i6 hs, x136_w6 hs, x136_i7 hs, x136_w7 hs, x136_r8 hs, x136_i9 hs, x136_w9 hs, x136_i10 hs, x136_w10 hs, x136_i11 hs, x136_w11 hs, x136_i12 hs, x136_w12 hs, x136_i13 hs, x136_w13 hs, x136_i14 hs, x136_w14 hs, x136_r15 hs, x136_i16 hs, x136_w16 hs, x136_r17 hs, x136_r18 hs, x136_r19 hs, x136_r20 hs, x136_r21 hs, x136_i22 hs, x136_w22 hs, x136_r23 hs, x136_r24 hs, x136_i25 hs, x136_w25 hs, x136_i26 hs, x136_w26 hs, x136_r27 hs, x136_r28 hs, x136_i29 hs, x136_w29 hs, x144_g hs, x144_s hs, x144_l hs, x145_g hs, x145_s hs, ff, decide_eq_false c, Bool.false_eq_true, if_false, Option.bind_some, xI, xU, xUt, xIt, J_lit, J_add, J_sub, J_mul, J_neg, J_ltc, J_lec, J_eqc, lt_T, lt_F, le_T, le_F, eq_T, eq_F, ↓reduceIte, ite_not, not_true_eq_false, not_false_eq_true, true_or, or_true, false_or, or_false, true_and, and_true, false_and, and_false, up_get, Nat.reduceEqDiff, Int.reduceNeg, eqN_T, eqN_F]
        all_goals rfl
    · have es := stB_more (T := T) (fc := fc) (t := t) (st := st) hss.1 hss.2
      have w3 := W3 (by omega)
      have fb := hfc (s - 200) (by omega) (by omega)
      have ff : m 144 (s - 200) = fc (s - 200) := (F 144 _ (by decide)).trans (hf _ (by omega) (by omega))
      obtain ⟨m', D, F'⟩ := IH' _ (up m 145 st.length (if decide (t < fc (s - 200)) = true then 1 else 0)) es (by simp only [List.length_cons]; omega) (upF _ _) ⟨up_at _ _ _ _, M.cg (fun j j0 j1 => up_i (by omega))⟩
      refine ⟨m', ?_, F'⟩
      rw [es]
      refine De.cg 2 (fun n => ?_) (D.sh 1)
      rw [HD]
      by_cases c : t < fc (s - 200)
      · simp (disch := omega) only [tl21, x136_k hs, x136_i0 hs, x136_w0 hs, x136_r1 hs, x136_r2 hs, x136_r3 hs, x136_r4 hs, x136_i5 hs, x136_w5 hs, x136_i6 hs, x136_w6 hs, x136_i7 hs, x136_w7 hs, x136_r8 hs, x136_i9 hs, x136_w9 hs, x136_i10 hs, x136_w10 hs, x136_i11 hs, x136_w11 hs, x136_i12 hs, x136_w12 hs, x136_i13 hs, x136_w13 hs, x136_i14 hs, x136_w14 hs, x136_r15 hs, x136_i16 hs, x136_w16 hs, x136_r17 hs, x136_r18 hs, x136_r19 hs, x136_r20 hs, x136_r21 hs, x136_i22 hs, x136_w22 hs, x136_r23 hs, x136_r24 hs, x136_i25 hs, x136_w25 hs, x136_i26 hs, x136_w26 hs, x136_r27 hs, x136_r28 hs, x136_i29 hs, x136_w29 hs, x144_g hs, x144_s hs, x144_l hs, x145_g hs, x145_s hs, ff, decide_eq_true c, if_true, Option.bind_some, xI, xU, xUt, xIt, J_lit, J_add, J_sub, J_mul, J_neg, J_ltc, J_lec, J_eqc, lt_T, lt_F, le_T, le_F, eq_T, eq_F, ↓reduceIte, ite_not, not_true_eq_false, not_false_eq_true, true_or, or_true, false_or, or_false, true_and, and_true, false_and, and_false, up_get, Nat.reduceEqDiff, Int.reduceNeg, eqN_T, eqN_F]
        all_goals rfl
      · simp (disch := omega) only [tl21, x136_k hs, x136_i0 hs, x136_w0 hs, x136_r1 hs, x136_r2 hs, x136_r3 hs, x136_r4 hs, x136_i5 hs, x136_w5 hs, x136_i6 hs, x136_w6 hs, x136_i7 hs, x136_w7 hs, x136_r8 hs, x136_i9 hs, x136_w9 hs, x136_i10 hs, x136_w10 hs, x136_i11 hs, x136_w11 hs, x136_i12 hs, x136_w12 hs, x136_i13 hs, x136_w13 hs, x136_i14 hs, x136_w14 hs, x136_r15 hs, x136_i16 hs, x136_w16 hs, x136_r17 hs, x136_r18 hs, x136_r19 hs, x136_r20 hs, x136_r21 hs, x136_i22 hs, x136_w22 hs, x136_r23 hs, x136_r24 hs, x136_i25 hs, x136_w25 hs, x136_i26 hs, x136_w26 hs, x136_r27 hs, x136_r28 hs, x136_i29 hs, x136_w29 hs, x144_g hs, x144_s hs, x144_l hs, x145_g hs, x145_s hs, ff, decide_eq_false c, Bool.false_eq_true, if_false, Option.bind_some, xI, xU, xUt, xIt, J_lit, J_add, J_sub, J_mul, J_neg, J_ltc, J_lec, J_eqc, lt_T, lt_F, le_T, le_F, eq_T, eq_F, ↓reduceIte, ite_not, not_true_eq_false, not_false_eq_true, true_or, or_true, false_or, or_false, true_and, and_true, false_and, and_false, up_get, Nat.reduceEqDiff, Int.reduceNeg, eqN_T, eqN_F]
        all_goals rfl
    · by_cases c1 : s = 300
      · obtain ⟨b, st1, rfl⟩ := cons1 (W1 c1)
        · have es := stB_not (T := T) (fc := fc) (t := t) (b := b) (r := st1) (s := s) c1
          simp only [List.length_cons] at hl HD
          obtain ⟨m', D, F'⟩ := IH' _ (up m 145 st1.length (if (!b) = true then 1 else 0)) es (by simp only [List.length_cons]; omega) (upF _ _) ⟨up_at _ _ _ _, M.2.cg (fun j j0 j1 => up_i (by omega))⟩
          refine ⟨m', ?_, F'⟩
          rw [es]
          have M0 := M.1
          simp only [List.length_cons] at D ⊢
          refine De.cg 2 (fun n => ?_) (D.sh 1)
          rw [HD]
          cases b with
          | true =>
            rw [if_pos rfl] at M0
            simp (disch := omega) only [tl21, x136_k hs, x136_i0 hs, x136_w0 hs, x136_r1 hs, x136_r2 hs, x136_r3 hs, x136_r4 hs, x136_i5 hs, x136_w5 hs, x136_i6 hs, x136_w6 hs, x136_i7 hs, x136_w7 hs, x136_r8 hs, x136_i9 hs, x136_w9 hs, x136_i10 hs, x136_w10 hs, x136_i11 hs, x136_w11 hs, x136_i12 hs, x136_w12 hs, x136_i13 hs, x136_w13 hs, x136_i14 hs, x136_w14 hs, x136_r15 hs, x136_i16 hs, x136_w16 hs, x136_r17 hs, x136_r18 hs, x136_r19 hs, x136_r20 hs, x136_r21 hs, x136_i22 hs, x136_w22 hs, x136_r23 hs, x136_r24 hs, x136_i25 hs, x136_w25 hs, x136_i26 hs, x136_w26 hs, x136_r27 hs, x136_r28 hs, x136_i29 hs, x136_w29 hs, x145_g hs, x145_s hs, Int.natCast_add, Int.natCast_one, Int.ofNat_one, Int.add_sub_cancel, M0, Bool.not_true, Bool.false_eq_true, if_false, Option.bind_some, xI, xU, xUt, xIt, J_lit, J_add, J_sub, J_mul, J_neg, J_ltc, J_lec, J_eqc, lt_T, lt_F, le_T, le_F, eq_T, eq_F, ↓reduceIte, ite_not, not_true_eq_false, not_false_eq_true, true_or, or_true, false_or, or_false, true_and, and_true, false_and, and_false, up_get, Nat.reduceEqDiff, Int.reduceNeg, eqN_T, eqN_F]
            all_goals rfl
          | false =>
            rw [if_neg (by decide)] at M0
            simp (disch := omega) only [tl21, x136_k hs, x136_i0 hs, x136_w0 hs, x136_r1 hs, x136_r2 hs, x136_r3 hs, x136_r4 hs, x136_i5 hs, x136_w5 hs, x136_i6 hs, x136_w6 hs, x136_i7 hs, x136_w7 hs, x136_r8 hs, x136_i9 hs, x136_w9 hs, x136_i10 hs, x136_w10 hs, x136_i11 hs, x136_w11 hs, x136_i12 hs, x136_w12 hs, x136_i13 hs, x136_w13 hs, x136_i14 hs, x136_w14 hs, x136_r15 hs, x136_i16 hs, x136_w16 hs, x136_r17 hs, x136_r18 hs, x136_r19 hs, x136_r20 hs, x136_r21 hs, x136_i22 hs, x136_w22 hs, x136_r23 hs, x136_r24 hs, x136_i25 hs, x136_w25 hs, x136_i26 hs, x136_w26 hs, x136_r27 hs, x136_r28 hs, x136_i29 hs, x136_w29 hs, x145_g hs, x145_s hs, Int.natCast_add, Int.natCast_one, Int.ofNat_one, Int.add_sub_cancel, M0, Bool.not_false, if_true, Option.bind_some, xI, xU, xUt, xIt, J_lit, J_add, J_sub, J_mul, J_neg, J_ltc, J_lec, J_eqc, lt_T, lt_F, le_T, le_F, eq_T, eq_F, ↓reduceIte, ite_not, not_true_eq_false, not_false_eq_true, true_or, or_true, false_or, or_false, true_and, and_true, false_and, and_false, up_get, Nat.reduceEqDiff, Int.reduceNeg, eqN_T, eqN_F]
            all_goals rfl
      · have c2 : s = 301 ∨ s = 302 := by omega
        obtain ⟨b, a, st1, rfl⟩ := cons2 (W2 (by omega))
        · have M0 : m 145 (st1.length + 1 : Int) = if b = true then 1 else 0 := by
            have := M.1
            simp only [List.length_cons, Int.natCast_add, Int.natCast_one, Int.ofNat_one] at this
            exact this
          have M1 := M.2.1
          have i1 : ((st1.length : Int) + 1 + 1 + -1 - 1) = st1.length := by omega
          have i2 : ((st1.length : Int) + 1 + 1 + -1) = st1.length + 1 := by omega
          simp only [List.length_cons, Int.natCast_add, Int.natCast_one, Int.ofNat_one] at hl HD ⊢
          rcases c2 with c2 | c2
          · have es := stB_and (T := T) (fc := fc) (t := t) (a := a) (b := b) (r := st1) (s := s) c2
            obtain ⟨m', D, F'⟩ := IH' _ (up m 145 st1.length (if (a && b) = true then 1 else 0)) es (by simp only [List.length_cons]; omega) (upF _ _) ⟨up_at _ _ _ _, M.2.2.cg (fun j j0 j1 => up_i (by omega))⟩
            refine ⟨m', ?_, F'⟩
            rw [es]
            simp only [List.length_cons, Int.natCast_add, Int.natCast_one, Int.ofNat_one] at D
            refine De.cg 2 (fun n => ?_) (D.sh 1)
            rw [HD]
            cases a with
            | false =>
              rw [if_neg (by decide)] at M1
              simp (disch := omega) only [tl21, x136_k hs, x136_i0 hs, x136_w0 hs, x136_r1 hs, x136_r2 hs, x136_r3 hs, x136_r4 hs, x136_i5 hs, x136_w5 hs, x136_i6 hs, x136_w6 hs, x136_i7 hs, x136_w7 hs, x136_r8 hs, x136_i9 hs, x136_w9 hs, x136_i10 hs, x136_w10 hs, x136_i11 hs, x136_w11 hs, x136_i12 hs, x136_w12 hs, x136_i13 hs, x136_w13 hs, x136_i14 hs, x136_w14 hs, x136_r15 hs, x136_i16 hs, x136_w16 hs, x136_r17 hs, x136_r18 hs, x136_r19 hs, x136_r20 hs, x136_r21 hs, x136_i22 hs, x136_w22 hs, x136_r23 hs, x136_r24 hs, x136_i25 hs, x136_w25 hs, x136_i26 hs, x136_w26 hs, x136_r27 hs, x136_r28 hs, x136_i29 hs, x136_w29 hs, x145_g hs, x145_s hs, i2, Int.add_sub_cancel, M0, M1, Bool.false_and, Bool.false_eq_true, if_false, Option.bind_some, xI, xU, xUt, xIt, J_lit, J_add, J_sub, J_mul, J_neg, J_ltc, J_lec, J_eqc, lt_T, lt_F, le_T, le_F, eq_T, eq_F, ↓reduceIte, ite_not, not_true_eq_false, not_false_eq_true, true_or, or_true, false_or, or_false, true_and, and_true, false_and, and_false, up_get, Nat.reduceEqDiff, Int.reduceNeg, eqN_T, eqN_F]
              all_goals rfl
            | true =>
              rw [if_pos rfl] at M1
              cases b with
              | false =>
                rw [if_neg (by decide)] at M0
                simp (disch := omega) only [tl21, x136_k hs, x136_i0 hs, x136_w0 hs, x136_r1 hs, x136_r2 hs, x136_r3 hs, x136_r4 hs, x136_i5 hs, x136_w5 hs, x136_i6 hs, x136_w6 hs, x136_i7 hs, x136_w7 hs, x136_r8 hs, x136_i9 hs, x136_w9 hs, x136_i10 hs, x136_w10 hs, x136_i11 hs, x136_w11 hs, x136_i12 hs, x136_w12 hs, x136_i13 hs, x136_w13 hs, x136_i14 hs, x136_w14 hs, x136_r15 hs, x136_i16 hs, x136_w16 hs, x136_r17 hs, x136_r18 hs, x136_r19 hs, x136_r20 hs, x136_r21 hs, x136_i22 hs, x136_w22 hs, x136_r23 hs, x136_r24 hs, x136_i25 hs, x136_w25 hs, x136_i26 hs, x136_w26 hs, x136_r27 hs, x136_r28 hs, x136_i29 hs, x136_w29 hs, x145_g hs, x145_s hs, i2, Int.add_sub_cancel, M0, M1, Bool.and_false, Bool.false_eq_true, if_false, Option.bind_some, xI, xU, xUt, xIt, J_lit, J_add, J_sub, J_mul, J_neg, J_ltc, J_lec, J_eqc, lt_T, lt_F, le_T, le_F, eq_T, eq_F, ↓reduceIte, ite_not, not_true_eq_false, not_false_eq_true, true_or, or_true, false_or, or_false, true_and, and_true, false_and, and_false, up_get, Nat.reduceEqDiff, Int.reduceNeg, eqN_T, eqN_F]
                all_goals rfl
              | true =>
                rw [if_pos rfl] at M0
                simp (disch := omega) only [tl21, x136_k hs, x136_i0 hs, x136_w0 hs, x136_r1 hs, x136_r2 hs, x136_r3 hs, x136_r4 hs, x136_i5 hs, x136_w5 hs, x136_i6 hs, x136_w6 hs, x136_i7 hs, x136_w7 hs, x136_r8 hs, x136_i9 hs, x136_w9 hs, x136_i10 hs, x136_w10 hs, x136_i11 hs, x136_w11 hs, x136_i12 hs, x136_w12 hs, x136_i13 hs, x136_w13 hs, x136_i14 hs, x136_w14 hs, x136_r15 hs, x136_i16 hs, x136_w16 hs, x136_r17 hs, x136_r18 hs, x136_r19 hs, x136_r20 hs, x136_r21 hs, x136_i22 hs, x136_w22 hs, x136_r23 hs, x136_r24 hs, x136_i25 hs, x136_w25 hs, x136_i26 hs, x136_w26 hs, x136_r27 hs, x136_r28 hs, x136_i29 hs, x136_w29 hs, x145_g hs, x145_s hs, i2, Int.add_sub_cancel, M0, M1, Bool.and_true, if_true, Option.bind_some, xI, xU, xUt, xIt, J_lit, J_add, J_sub, J_mul, J_neg, J_ltc, J_lec, J_eqc, lt_T, lt_F, le_T, le_F, eq_T, eq_F, ↓reduceIte, ite_not, not_true_eq_false, not_false_eq_true, true_or, or_true, false_or, or_false, true_and, and_true, false_and, and_false, up_get, Nat.reduceEqDiff, Int.reduceNeg, eqN_T, eqN_F]
                all_goals rfl
          · have es := stB_or (T := T) (fc := fc) (t := t) (a := a) (b := b) (r := st1) (s := s) c2
            obtain ⟨m', D, F'⟩ := IH' _ (up m 145 st1.length (if (a || b) = true then 1 else 0)) es (by simp only [List.length_cons]; omega) (upF _ _) ⟨up_at _ _ _ _, M.2.2.cg (fun j j0 j1 => up_i (by omega))⟩
            refine ⟨m', ?_, F'⟩
            rw [es]
            simp only [List.length_cons, Int.natCast_add, Int.natCast_one, Int.ofNat_one] at D
            refine De.cg 2 (fun n => ?_) (D.sh 1)
            rw [HD]
            cases a with
            | true =>
              rw [if_pos rfl] at M1
              simp (disch := omega) only [tl21, x136_k hs, x136_i0 hs, x136_w0 hs, x136_r1 hs, x136_r2 hs, x136_r3 hs, x136_r4 hs, x136_i5 hs, x136_w5 hs, x136_i6 hs, x136_w6 hs, x136_i7 hs, x136_w7 hs, x136_r8 hs, x136_i9 hs, x136_w9 hs, x136_i10 hs, x136_w10 hs, x136_i11 hs, x136_w11 hs, x136_i12 hs, x136_w12 hs, x136_i13 hs, x136_w13 hs, x136_i14 hs, x136_w14 hs, x136_r15 hs, x136_i16 hs, x136_w16 hs, x136_r17 hs, x136_r18 hs, x136_r19 hs, x136_r20 hs, x136_r21 hs, x136_i22 hs, x136_w22 hs, x136_r23 hs, x136_r24 hs, x136_i25 hs, x136_w25 hs, x136_i26 hs, x136_w26 hs, x136_r27 hs, x136_r28 hs, x136_i29 hs, x136_w29 hs, x145_g hs, x145_s hs, i2, Int.add_sub_cancel, M0, M1, Bool.true_or, if_true, Option.bind_some, xI, xU, xUt, xIt, J_lit, J_add, J_sub, J_mul, J_neg, J_ltc, J_lec, J_eqc, lt_T, lt_F, le_T, le_F, eq_T, eq_F, ↓reduceIte, ite_not, not_true_eq_false, not_false_eq_true, true_or, or_true, false_or, or_false, true_and, and_true, false_and, and_false, up_get, Nat.reduceEqDiff, Int.reduceNeg, eqN_T, eqN_F]
              all_goals rfl
            | false =>
              rw [if_neg (by decide)] at M1
              cases b with
              | false =>
                rw [if_neg (by decide)] at M0
                simp (disch := omega) only [tl21, x136_k hs, x136_i0 hs, x136_w0 hs, x136_r1 hs, x136_r2 hs, x136_r3 hs, x136_r4 hs, x136_i5 hs, x136_w5 hs, x136_i6 hs, x136_w6 hs, x136_i7 hs, x136_w7 hs, x136_r8 hs, x136_i9 hs, x136_w9 hs, x136_i10 hs, x136_w10 hs, x136_i11 hs, x136_w11 hs, x136_i12 hs, x136_w12 hs, x136_i13 hs, x136_w13 hs, x136_i14 hs, x136_w14 hs, x136_r15 hs, x136_i16 hs, x136_w16 hs, x136_r17 hs, x136_r18 hs, x136_r19 hs, x136_r20 hs, x136_r21 hs, x136_i22 hs, x136_w22 hs, x136_r23 hs, x136_r24 hs, x136_i25 hs, x136_w25 hs, x136_i26 hs, x136_w26 hs, x136_r27 hs, x136_r28 hs, x136_i29 hs, x136_w29 hs, x145_g hs, x145_s hs, i2, Int.add_sub_cancel, M0, M1, Bool.or_false, Bool.false_eq_true, if_false, Option.bind_some, xI, xU, xUt, xIt, J_lit, J_add, J_sub, J_mul, J_neg, J_ltc, J_lec, J_eqc, lt_T, lt_F, le_T, le_F, eq_T, eq_F, ↓reduceIte, ite_not, not_true_eq_false, not_false_eq_true, true_or, or_true, false_or, or_false, true_and, and_true, false_and, and_false, up_get, Nat.reduceEqDiff, Int.reduceNeg, eqN_T, eqN_F]
                all_goals rfl
              | true =>
                rw [if_pos rfl] at M0
                simp (disch := omega) only [tl21, x136_k hs, x136_i0 hs, x136_w0 hs, x136_r1 hs, x136_r2 hs, x136_r3 hs, x136_r4 hs, x136_i5 hs, x136_w5 hs, x136_i6 hs, x136_w6 hs, x136_i7 hs, x136_w7 hs, x136_r8 hs, x136_i9 hs, x136_w9 hs, x136_i10 hs, x136_w10 hs, x136_i11 hs, x136_w11 hs, x136_i12 hs, x136_w12 hs, x136_i13 hs, x136_w13 hs, x136_i14 hs, x136_w14 hs, x136_r15 hs, x136_i16 hs, x136_w16 hs, x136_r17 hs, x136_r18 hs, x136_r19 hs, x136_r20 hs, x136_r21 hs, x136_i22 hs, x136_w22 hs, x136_r23 hs, x136_r24 hs, x136_i25 hs, x136_w25 hs, x136_i26 hs, x136_w26 hs, x136_r27 hs, x136_r28 hs, x136_i29 hs, x136_w29 hs, x145_g hs, x145_s hs, i2, Int.add_sub_cancel, M0, M1, Bool.or_true, if_true, Option.bind_some, xI, xU, xUt, xIt, J_lit, J_add, J_sub, J_mul, J_neg, J_ltc, J_lec, J_eqc, lt_T, lt_F, le_T, le_F, eq_T, eq_F, ↓reduceIte, ite_not, not_true_eq_false, not_false_eq_true, true_or, or_true, false_or, or_false, true_and, and_true, false_and, and_false, up_get, Nat.reduceEqDiff, Int.reduceNeg, eqN_T, eqN_F]
                all_goals rfl
end HOLDSM
