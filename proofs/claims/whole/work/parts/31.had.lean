/-! had -/
theorem KS.wJ {P : xH} (h : KS P) (a i : Nat) (x : Int64) : KS (wJ P a i x) :=
  ⟨fun j q b d => (Sp_wJ P a i x j).trans (h.1 j q b d), by
    obtain ⟨-, v, hv, h0⟩ := h
    exact ⟨v, hv, (Sp_wJ P a i x 0).trans h0⟩⟩
/-- the index of a word's part in the tent's row -/
theorem i32_hadAt {x k : Int32} (h : 0 ≤ x.toInt) (h1 : x.toInt < 30) (h2 : 0 ≤ k.toInt) (h3 : k.toInt < 5) : (2151 + 5 * x + k).toInt = 2151 + 5 * x.toInt + k.toInt := by
  have e5 : (5 : Int32).toInt = 5 := rfl
  have e2 : (2151 : Int32).toInt = 2151 := rfl
  have a : (5 * x).toInt = 5 * x.toInt := by
    rw [Int32.toInt_mul, e5, Int.bmod_eq_of_le (by omega) (by omega)]
  have b : (2151 + 5 * x).toInt = 2151 + 5 * x.toInt := by
    rw [Int32.toInt_add, e2, a, Int.bmod_eq_of_le (by omega) (by omega)]
  rw [Int32.toInt_add, b, Int.bmod_eq_of_le (by omega) (by omega)]
theorem x_had {P : xH} (h : KS P) (r : RmOk P) (x : Int32) (hs : (gX P 16 3).toInt ≤ 30) (n : Nat) : f_X10_had (n + 4) 0 [.ref 0, .int x] P = if 0 ≤ x ∧ x < gX P 16 3 then some (.inl (some (.int (gI P 64 x.toNatClampNeg))), P) else some (.inr P.1, xth P 0) := by
  show b_X10_had_0 (n + 3) (f_X10_had (n + 3)) 0 x P = _
  unfold b_X10_had_0
  rw [h.self, Option.bind_some, x_needWord h r]
  by_cases c : 0 ≤ x ∧ x < gX P 16 3
  · rw [if_pos c, if_pos c, Option.bind_some]
    simp only [xUt]
    obtain ⟨i1, i2⟩ := i32_idx c.1
    have i3 := Int32.lt_iff_toInt_lt.mp c.2
    rw [h.town, Option.bind_some, rA_sp (h.at 9) rfl, Option.bind_some, rA_sp (h.at 46) rfl, Option.bind_some, aI_sp (h.at 64) i2 (by omega), Option.bind_some]
  · rw [if_neg c, if_neg c, Option.bind_some]
    simp only [xUt]
theorem l_had_f {P : xH} (h : KS P) (r : RmOk P) (x : Int32) (hs : (gX P 16 3).toInt ≤ 30) (n : Nat) : f_L_had (n + 5) 0 [.ref 0, .int x, .ref 152] P = if 0 ≤ x ∧ x < gX P 16 3 then some (.inl (some (.int 0)), wJ P 152 0 (Int32.toInt64 (gI P 64 x.toNatClampNeg))) else some (.inl (some (.int 1)), xth P 0) := by
  show b_L_had_0 (n + 4) (f_L_had (n + 4)) 0 x 152 P = _
  unfold b_L_had_0
  rw [h.self, Option.bind_some, x_had h r x hs]
  by_cases c : 0 ≤ x ∧ x < gX P 16 3
  · rw [if_pos c, if_pos c, Option.bind_some]
    simp only [xIh]
    rw [sJ_sp (h.at 152) (by decide) (by decide), Option.bind_some]
    rfl
  · rw [if_neg c, if_neg c, Option.bind_some]
    simp only [xIh]
    rw [xcat_th P (by decide), Option.bind_some, if_pos rfl]
theorem m_had {P : xH} (h : KS P) (x : Int32) (hs0 : 0 ≤ (gI P 139 1).toInt) (hs : (gI P 139 1).toInt ≤ 30) (n : Nat) : f_X11_had (n + 3) 0 [.ref 136, .int x] P = if 0 ≤ x ∧ x ≤ gI P 139 1 - 1 then some (.inl (some (.int (gI P 137 (2151 + 5 * x.toNatClampNeg)))), wX P 136 0 0) else some (.inl (some (.int 0)), wX (wX P 136 0 0) 136 0 1) := by
  have h1 := h.wX (x := 0) (h.at 136) (k := 0) rfl
  show b_X11_had_0 (n + 2) (f_X11_had (n + 2)) 136 x P = _
  unfold b_X11_had_0
  rw [wV_sp (h.at 136) rfl, Option.bind_some, kO_sp (h1.at 136), Option.bind_some, m_noWord h1, Option.bind_some, gI_wX]
  simp only [xI]
  rw [kO_sp (h1.at 136), Option.bind_some]
  by_cases c : 0 ≤ x ∧ x ≤ gI P 139 1 - 1
  · rw [if_pos c, if_pos c, m_throwsIf h1 (Or.inl rfl), Option.bind_some]
    simp only [if_true]
    obtain ⟨i1, i2⟩ := i32_idx c.1
    have i3 := ((i32_below hs0 (by omega) x).mpr c).2
    have i3 := Int32.lt_iff_toInt_lt.mp i3
    have i4 := i32_hadAt (x := x) (k := 0) (by omega) (by omega) (by decide) (by decide)
    have i5 : (0 : Int32).toInt = 0 := rfl
    have i6 : (2151 + 5 * x + 0).toNatClampNeg = 2151 + 5 * x.toNatClampNeg := by
      show (2151 + 5 * x + 0).toInt.toNat = _
      omega
    have i7 : ¬ (2151 + 5 * x + 0 < 0) := by
      intro q
      have q := Int32.lt_iff_toInt_lt.mp q
      omega
    rw [rA_sp (h1.at 136) rfl, Option.bind_some]
    have e : f_X11_hadAt (n + 2) 0 [.int x, .int 0] (wX P 136 0 0) = some (.inl (some (.int (2151 + 5 * x + 0))), wX P 136 0 0) := rfl
    rw [e, Option.bind_some]
    simp only
    rw [aI_sp (h1.at 137) i7 (by rw [i6]; omega), Option.bind_some, i6, gI_wX]
  · rw [if_neg c, if_neg c, m_throwsIf h1 (Or.inr rfl), Option.bind_some]
    simp only
    rw [if_neg (by decide), if_neg (by decide)]
/-- had answers alike where the words' count and what the tent had are alike -/
theorem o_had {P : xH} {I : xH → Prop} (h : KS P) (r : RmOk P) (x : Int32) (e1 : gX P 16 3 = gI P 139 1) (s0 : 0 ≤ (gI P 139 1).toInt) (s1 : (gI P 139 1).toInt ≤ 30) (e2 : ∀ w : Nat, (w : Int) < (gI P 139 1).toInt → gI P 64 w = gI P 137 (2151 + 5 * w))
    (hI : I (if 0 ≤ x ∧ x < gX P 16 3 then wX (wJ P 152 0 (Int32.toInt64 (gI P 64 x.toNatClampNeg))) 136 0 0 else wX (wX (xth P 0) 136 0 0) 136 0 1)) : oB 0 136 152 f_L_had f_X11_had [.int x] P I := by
  have r1 := r.1
  have hs : (gX P 16 3).toInt ≤ 30 := by rw [e1]; exact s1
  by_cases c : 0 ≤ x ∧ x < gX P 16 3
  · rw [if_pos c] at hI
    have h1 := h.wJ 152 0 (Int32.toInt64 (gI P 64 x.toNatClampNeg))
    have h2 := h1.wX (x := 0) (h1.at 136) (k := 0) rfl
    have g1 : gI (wJ P 152 0 (Int32.toInt64 (gI P 64 x.toNatClampNeg))) 139 1 = gI P 139 1 := gI_wJ _ _ _ _ _ _
    have c' : 0 ≤ x ∧ x ≤ gI P 139 1 - 1 := (i32_below s0 (by omega) x).mp (e1 ▸ c)
    obtain ⟨i1, -⟩ := i32_idx c.1
    have i3 := Int32.lt_iff_toInt_lt.mp c.2
    rw [e1] at i3
    refine ⟨0, gI P 64 x.toNatClampNeg, _, _, Ev.of 5 (fun n => (l_had_f h r x hs n).trans (if_pos c)), kO_sp (h1.at 136), Ev.of 3 (fun n => ?_), kO_sp (h2.at 136), Ev.of 1 (fun n => ?_), fun _ => ?_, hI⟩
    · rw [m_had h1 x (by rw [g1]; exact s0) (by rw [g1]; exact s1), g1, if_pos c', gI_wJ, e2 _ (by omega)]
    · rw [m_thrown h2, gX_wX (h1.at 136) rfl]
      rfl
    · have e : gJ (wX (wJ P 152 0 (Int32.toInt64 (gI P 64 x.toNatClampNeg))) 136 0 0) 152 0 = Int32.toInt64 (gI P 64 x.toNatClampNeg) := by
        have : gJ (wX (wJ P 152 0 (Int32.toInt64 (gI P 64 x.toNatClampNeg))) 136 0 0) 152 0 = gJ (wJ P 152 0 (Int32.toInt64 (gI P 64 x.toNatClampNeg))) 152 0 := by
          unfold gJ wX
          rw [xput_ne _ _ (by decide)]
        rw [this, gJ_wJ (h.at 152)]
        rfl
      rw [aJ_sp (h2.at 152) (by decide) (by decide)]
      exact congrArg some e
  · rw [if_neg c] at hI
    have h1 := h.th r 0
    have h2 := h1.wX (x := 0) (h1.at 136) (k := 0) rfl
    have h3 := h2.wX (x := 1) (h2.at 136) (k := 0) rfl
    have g1 : gI (xth P 0) 139 1 = gI P 139 1 := gI_th P 0 (by omega) 1
    have c' : ¬ (0 ≤ x ∧ x ≤ gI P 139 1 - 1) := fun q => c (e1 ▸ (i32_below s0 (by omega) x).mpr q)
    refine ⟨1, 0, _, _, Ev.of 5 (fun n => (l_had_f h r x hs n).trans (if_neg c)), kO_sp (h1.at 136), Ev.of 3 (fun n => ?_), kO_sp (h3.at 136), Ev.of 1 (fun n => ?_), fun q => absurd q (by decide), hI⟩
    · rw [m_had h1 x (by rw [g1]; exact s0) (by rw [g1]; exact s1), g1, if_neg c']
    · rw [m_thrown h3, gX_wX (h2.at 136) rfl]
      rfl
