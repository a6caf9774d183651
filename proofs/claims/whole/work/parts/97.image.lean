/-! image -/
theorem Rtown.same {m m' : Nat → Int → Int} {q q' : Nat → Int → Int64} {w v w' v' : Int → Int} (h : Rtown 9 m q w v) (em : ∀ c i, 9 ≤ c → c < 111 → m' c i = m c i) (eq : ∀ c, 9 ≤ c → c < 111 → q' c = q c) (ew : ∀ i, 0 ≤ i → i < 5080 → w' i = w i) (ev : ∀ i, 0 ≤ i → i < 2301 → v' i = v i) : Rtown 9 m' q' w' v' :=
  Rtown.cg h ⟨(em _ _ (by omega) (by omega)), (em _ _ (by omega) (by omega))⟩ ⟨(em _ _ (by omega) (by omega)), (em _ _ (by omega) (by omega))⟩ (em _ _ (by omega) (by omega)) (fun i _ _ => (em _ _ (by omega) (by omega))) (fun i _ _ => (em _ _ (by omega) (by omega))) (em _ _ (by omega) (by omega)) ⟨(em _ _ (by omega) (by omega)), (em _ _ (by omega) (by omega))⟩ ⟨(em _ _ (by omega) (by omega)), (em _ _ (by omega) (by omega))⟩ (fun o i _ _ _ _ => (em _ _ (by omega) (by omega))) (fun o i _ _ _ _ => (em _ _ (by omega) (by omega))) (fun o i _ _ _ _ => (em _ _ (by omega) (by omega))) (fun o i _ _ _ _ => (em _ _ (by omega) (by omega))) (fun o i _ _ _ _ => (em _ _ (by omega) (by omega))) (fun o i _ _ _ _ => (em _ _ (by omega) (by omega))) (fun o i _ _ _ _ => (em _ _ (by omega) (by omega))) (fun o i _ _ _ _ => (em _ _ (by omega) (by omega))) (fun o i _ _ => (em _ _ (by omega) (by omega))) (fun o i _ _ => (em _ _ (by omega) (by omega))) (fun o i _ _ _ _ => (em _ _ (by omega) (by omega))) (fun o i _ _ _ _ => (em _ _ (by omega) (by omega))) (fun o i _ _ _ _ => (em _ _ (by omega) (by omega))) (fun o i _ _ _ _ => (em _ _ (by omega) (by omega))) (fun o i _ _ => congrFun (eq _ (by omega) (by omega)) i) (fun o i _ _ => congrFun (eq _ (by omega) (by omega)) i) ew ev
theorem img_end {S : xH} {m : Nat → Int → Int} {q : Nat → Int → Int64} {K : Nat} (hs : Sk S) (K0 : 153 ≤ K) (K1 : K + 102 ≤ S.1) (k0 : S.2.2 0 = .inr (10, [.ref 1, .ref 9, .ref 111, .ref 133, .ref K])) (TK : TownS S K (K + 7) (K + 1)) (tap : Rtap (m 1 2) (m 1 3) (m 8) (m 136 9) (m 136 14) (m 141)) (by0 : m 136 6 = 0) (lot0 : m 136 7 = 0) (dz : m 5 0 = 0) (tw : Rtown 9 m q (m 139) (m 137)) :
    De (fun n => f_X10_image n 18 [.ref 0] (hp S m q)) (.inl none) (hp S (twM m K 9) (twQ q K 9)) ∧ De (fun n => f_X11_image n 0 [.ref 136] (hp S (twM m K 9) (twQ q K 9))) (.inl none) (hp S (up (cpx (cpx (up (twM m K 9) 136 0 0) 139 0 140 0 5080) 137 0 140 5080 2301) 136 5 1) (twQ q K 9)) ∧ InvM S (up (cpx (cpx (up (twM m K 9) 136 0 0) 139 0 140 0 5080) 137 0 140 5080 2301) 136 5 1) (twQ q K 9) := by
  refine ⟨?_, ?_, ?_⟩
  · have rk : rA (hp S m q) 0 10 4 = some K := rA_hp k0 rfl
    have kk : kO (hp S m q) K 7 = some () := kO_hp TK.1
    have D3 := De.call (K := fun n r6 => xU r6 fun P5 => some (.inl none, P5)) (q_townBecome (m := m) (q := q) TK hs.Town (by omega)) (De.ret _ _)
    refine De.cg 1 (fun n => ?_) D3
    rw [j_X10_image_18]
    simp only [b_X10_image_18, x0_r1 hs, rk, kk, Option.bind_some]
  · have Q2 := q_image34 (q := twQ q K 9) (m := cpx (up (twM m K 9) 136 0 0) 139 0 140 0 5080) hs 2301 0 (by omega)
    rw [cpx_0] at Q2
    have Q1 := q_image7 (q := twQ q K 9) (m := up (twM m K 9) 136 0 0) hs _ _ Q2 5080 0 (by omega)
    rw [cpx_0] at Q1
    refine De.cg 1 (fun n => ?_) Q1
    rw [j_X11_image_0]
    simp (disch := omega) only [b_X11_image_0, x136_k hs, x136_i0 hs, x136_w0 hs, x136_r1 hs, x136_r2 hs, x136_r3 hs, x136_r4 hs, x136_i5 hs, x136_w5 hs, x136_i6 hs, x136_w6 hs, x136_i7 hs, x136_w7 hs, x136_r8 hs, x136_i9 hs, x136_w9 hs, x136_i10 hs, x136_w10 hs, x136_i11 hs, x136_w11 hs, x136_i12 hs, x136_w12 hs, x136_i13 hs, x136_w13 hs, x136_i14 hs, x136_w14 hs, x136_r15 hs, x136_i16 hs, x136_w16 hs, x136_r17 hs, x136_r18 hs, x136_r19 hs, x136_r20 hs, x136_r21 hs, x136_i22 hs, x136_w22 hs, x136_r23 hs, x136_r24 hs, x136_i25 hs, x136_w25 hs, x136_i26 hs, x136_w26 hs, x136_r27 hs, x136_r28 hs, x136_i29 hs, x136_w29 hs, Option.bind_some, J_lit]
    all_goals rfl
  · have em : ∀ c i, c ≠ 140 → ¬ (c = 136 ∧ (i = 0 ∨ i = 5)) → (up (cpx (cpx (up (twM m K 9) 136 0 0) 139 0 140 0 5080) 137 0 140 5080 2301) 136 5 1) c i = twM m K 9 c i := fun c i h1 h2 => by rw [up_get, if_neg (by omega), cpx_ne h1, cpx_ne h1, up_get, if_neg (by omega)]
    have eo : ∀ c i, c ≠ 140 → ¬ (c = 136 ∧ (i = 0 ∨ i = 5)) → c < K → (up (cpx (cpx (up (twM m K 9) 136 0 0) 139 0 140 0 5080) 137 0 140 5080 2301) 136 5 1) c i = m c i := fun c i h1 h2 h3 => by rw [em c i h1 h2, tw_out (by omega)]
    refine ⟨?_, (eo 136 6 (by decide) (by decide) (by omega)).trans by0, (eo 136 7 (by decide) (by decide) (by omega)).trans lot0, ?_, (eo 5 0 (by decide) (by decide) (by omega)).trans dz, Or.inr ⟨up_at _ _ _ _, K, K0, K1, k0, TK.1, TK.2.1, TK.2.2.1, TK.2.2.2.1, TK.2.2.2.2.1, TK.2.2.2.2.2.1, TK.2.2.2.2.2.2.1, TK.2.2.2.2.2.2.2.1, TK.2.2.2.2.2.2.2.2, ?_⟩⟩
    · exact k_tap tap (fun b i hb => eo b i (by omega) (by omega) (by omega))
    · exact tw.same (fun c i h1 h2 => eo c i (by omega) (by omega) (by omega)) (fun c h1 h2 => twq_out (by omega)) (fun i _ _ => eo 139 i (by decide) (by omega) (by omega)) (fun i _ _ => eo 137 i (by decide) (by omega) (by omega))
    · refine Rtown.tw tw (by omega) (fun c i h1 h2 => em c i (by omega) (by omega)) (fun c h1 h2 => rfl) (fun i i0 i1 => ?_) (fun i i0 i1 => ?_)
      · have z : cpx (cpx (up (twM m K 9) 136 0 0) 139 0 140 0 5080) 137 0 140 5080 2301 140 i = cpx (up (twM m K 9) 136 0 0) 139 0 140 0 5080 140 i := if_neg (by omega)
        rw [up_a (by decide), z, cpx_at (by omega) (by omega), up_a (by decide), tw_out (by omega)]
        exact congrArg (m 139) (by omega)
      · show (up (cpx (cpx (up (twM m K 9) 136 0 0) 139 0 140 0 5080) 137 0 140 5080 2301) 136 5 1) 140 (5080 + i) = m 137 i
        rw [up_a (by decide), cpx_at (by omega) (by omega), cpx_ne (by decide), up_a (by decide), tw_out (by omega)]
        exact congrArg (m 137) (by omega)
/-- a town is made -/
theorem img_new {S : xH} {m : Nat → Int → Int} {q : Nat → Int → Int64} (hr : 153 ≤ S.1) (hs : Sk S) (k0 : S.2.2 0 = .inr (10, [.ref 1, .ref 9, .ref 111, .ref 133, .null])) (r1 : S.1 + 102 ≤ 601024) (r2 : S.2.1 + 4958 ≤ 7293034) : ∃ (S' : xH) (m' : Nat → Int → Int) (q' : Nat → Int → Int64), De (fun n => (f_X7_init n 0 [.ref S.1] (xnew (hp S m q) (xN 7) (.inr (7, xdef 7)))).bind fun r6 => xU r6 fun P5 => wV P5 0 10 4 (.ref S.1) |>.bind fun P8 => some (.inl none, P8)) (.inl none) (hp S' m' q') ∧ Sk S' ∧ S'.1 = S.1 + 102 ∧ S'.2.1 = S.2.1 + 4958 ∧ S'.2.2 0 = .inr (10, [.ref 1, .ref 9, .ref 111, .ref 133, .ref S.1]) ∧ TownS S' S.1 (S.1 + 7) (S.1 + 1) ∧ (∀ c, c < S.1 → m' c = m c) ∧ ∀ c, c < S.1 → q' c = q c := by
  have n7 : xN 7 = 10 := by decide +kernel
  obtain ⟨Q, hQ, x1, x2, x3, x4, x5, x6⟩ := i_X7 (P := xnew (hp S m q) (xN 7) (.inr (7, xdef 7))) (a := S.1) (if_pos rfl) (Nat.lt_succ_self _) (show S.1 + 1 + 101 ≤ _ by omega) (show S.2.1 + xN 7 + 4948 ≤ _ by omega)
  have y1 : Q.1 = S.1 + 102 := x1
  have y2 : Q.2.1 = S.2.1 + 4958 := by
    rw [x2]
    show S.2.1 + xN 7 + 4948 = _
    omega
  have y5 : ∀ c, c < S.1 → Q.2.2 c = mkc (m c) (q c) (S.2.2 c) := fun c hc => (x5 c (by omega) (show c < S.1 + 1 by omega)).trans (if_neg (show ¬ c = S.1 by omega))
  have y0 : Q.2.2 0 = .inr (10, [.ref 1, .ref 9, .ref 111, .ref 133, .null]) := by
    rw [y5 0 (by omega), k0]
    rfl
  have cc : ∀ o, o < 101 → Q.2.2 (S.1 + 1 + o) = (L_X7 (S.1 + 1)).getD o xno := fun o ho => x4 o ho
  refine ⟨(S.1 + 102, S.2.1 + 4958, fun c => if c = 0 then .inr (10, [.ref 1, .ref 9, .ref 111, .ref 133, .ref S.1]) else if c < S.1 then S.2.2 c else shp (Q.2.2 c)), fun c => if c < S.1 then m c else val (Q.2.2 c), fun c => if c < S.1 then q c else valq (Q.2.2 c), ?_, ?_, rfl, rfl, rfl, ?_, fun c hc => if_pos hc, fun c hc => if_pos hc⟩
  · refine De.eq 34 (fun n => ?_)
    show (f_X7_init (n + 34) 0 [.ref S.1] _).bind _ = _
    rw [hQ, Option.bind_some]
    have hw : wV Q 0 10 4 (.ref S.1) = some (xput Q 0 (.inr (10, [.ref 1, .ref 9, .ref 111, .ref 133, .ref S.1]))) := by
      unfold wV
      rw [y0]
      rfl
    show (wV Q 0 10 4 (.ref S.1)).bind _ = _
    rw [hw, Option.bind_some]
    refine congrArg some (congrArg (Prod.mk _) ?_)
    unfold xput hp
    refine Prod.ext y1 (Prod.ext y2 (funext fun c => ?_))
    show (if c = 0 then _ else Q.2.2 c) = mkc (if c < S.1 then m c else val (Q.2.2 c)) (if c < S.1 then q c else valq (Q.2.2 c)) (if c = 0 then _ else if c < S.1 then S.2.2 c else shp (Q.2.2 c))
    by_cases c0 : c = 0
    · rw [if_pos c0, if_pos c0]
      rfl
    · rw [if_neg c0, if_neg c0]
      by_cases c1 : c < S.1
      · rw [if_pos c1, if_pos c1, if_pos c1]
        exact y5 c c1
      · rw [if_neg c1, if_neg c1, if_neg c1, mkc_val]
  · obtain ⟨h1, h2, r, hr2, h3⟩ := hs
    refine ⟨fun j j0 j1 j2 => ?_, ⟨_, rfl⟩, r, hr2, ?_⟩
    · show (if j = 0 then _ else if j < S.1 then S.2.2 j else _) = _
      rw [if_neg (by omega), if_pos (by omega)]
      exact h1 j j0 j1 j2
    · have cell : ∀ c, 0 < c → c < S.1 → (if c = 0 then (.inr (10, [.ref 1, .ref 9, .ref 111, .ref 133, .ref S.1]) : xC) else if c < S.1 then S.2.2 c else shp (Q.2.2 c)) = S.2.2 c := fun c h1 h2 => by rw [if_neg (by omega), if_pos h2]
      exact (cell 111 (by omega) (by omega)).trans h3
  · have cc : ∀ o, o < 101 → (if S.1 + 1 + o = 0 then (.inr (10, [.ref 1, .ref 9, .ref 111, .ref 133, .ref S.1]) : xC) else if S.1 + 1 + o < S.1 then S.2.2 (S.1 + 1 + o) else shp (Q.2.2 (S.1 + 1 + o))) = shp ((L_X7 (S.1 + 1)).getD o xno) := fun o ho => by rw [if_neg (by omega), if_neg (by omega), cc o ho]
    have ca : (if S.1 = 0 then (.inr (10, [.ref 1, .ref 9, .ref 111, .ref 133, .ref S.1]) : xC) else if S.1 < S.1 then S.2.2 S.1 else shp (Q.2.2 S.1)) = shp (.inr (7, F_X7 (S.1 + 1))) := by rw [if_neg (by omega), if_neg (by omega), x3]; rfl
    exact ⟨ca.trans rfl, ⟨(cc 0 (by decide)).trans rfl, (cc 1 (by decide)).trans rfl, (cc 2 (by decide)).trans rfl, (cc 3 (by decide)).trans rfl, (cc 4 (by decide)).trans rfl, (cc 5 (by decide)).trans rfl⟩, ⟨(cc 6 (by decide)).trans rfl, (cc 7 (by decide)).trans rfl, (cc 8 (by decide)).trans rfl, (cc 9 (by decide)).trans rfl, (cc 10 (by decide)).trans rfl, (cc 11 (by decide)).trans rfl, (cc 12 (by decide)).trans rfl, (cc 13 (by decide)).trans rfl, (cc 14 (by decide)).trans rfl, (cc 15 (by decide)).trans rfl, (cc 16 (by decide)).trans rfl, (cc 17 (by decide)).trans rfl, (cc 18 (by decide)).trans rfl⟩, ⟨(cc 19 (by decide)).trans rfl, (cc 20 (by decide)).trans rfl, (cc 21 (by decide)).trans rfl, (cc 22 (by decide)).trans rfl, (cc 23 (by decide)).trans rfl, (cc 24 (by decide)).trans rfl, (cc 25 (by decide)).trans rfl, (cc 26 (by decide)).trans rfl, (cc 27 (by decide)).trans rfl, (cc 28 (by decide)).trans rfl, (cc 29 (by decide)).trans rfl, (cc 30 (by decide)).trans rfl, (cc 31 (by decide)).trans rfl, (cc 32 (by decide)).trans rfl, (cc 33 (by decide)).trans rfl, (cc 34 (by decide)).trans rfl, (cc 35 (by decide)).trans rfl⟩, ⟨(cc 36 (by decide)).trans rfl, (cc 37 (by decide)).trans rfl, (cc 38 (by decide)).trans rfl, (cc 39 (by decide)).trans rfl, (cc 40 (by decide)).trans rfl, (cc 41 (by decide)).trans rfl, (cc 42 (by decide)).trans rfl, (cc 43 (by decide)).trans rfl, (cc 44 (by decide)).trans rfl, (cc 45 (by decide)).trans rfl, (cc 46 (by decide)).trans rfl, (cc 47 (by decide)).trans rfl, (cc 48 (by decide)).trans rfl, (cc 49 (by decide)).trans rfl, (cc 50 (by decide)).trans rfl, (cc 51 (by decide)).trans rfl, (cc 52 (by decide)).trans rfl, (cc 53 (by decide)).trans rfl, (cc 54 (by decide)).trans rfl, (cc 55 (by decide)).trans rfl, (cc 56 (by decide)).trans rfl, (cc 57 (by decide)).trans rfl⟩, ⟨(cc 58 (by decide)).trans rfl, (cc 59 (by decide)).trans rfl, (cc 60 (by decide)).trans rfl, (cc 61 (by decide)).trans rfl, (cc 62 (by decide)).trans rfl, (cc 63 (by decide)).trans rfl, (cc 64 (by decide)).trans rfl, (cc 65 (by decide)).trans rfl, (cc 66 (by decide)).trans rfl, (cc 67 (by decide)).trans rfl, (cc 68 (by decide)).trans rfl, (cc 69 (by decide)).trans rfl, (cc 70 (by decide)).trans rfl, (cc 71 (by decide)).trans rfl, (cc 72 (by decide)).trans rfl, (cc 73 (by decide)).trans rfl, (cc 74 (by decide)).trans rfl, (cc 75 (by decide)).trans rfl, (cc 76 (by decide)).trans rfl, (cc 77 (by decide)).trans rfl, (cc 78 (by decide)).trans rfl, (cc 79 (by decide)).trans rfl⟩, ⟨(cc 80 (by decide)).trans rfl, (cc 81 (by decide)).trans rfl, (cc 82 (by decide)).trans rfl⟩, ⟨(cc 83 (by decide)).trans rfl, (cc 84 (by decide)).trans rfl, (cc 85 (by decide)).trans rfl, (cc 86 (by decide)).trans rfl, (cc 87 (by decide)).trans rfl, (cc 88 (by decide)).trans rfl⟩, ⟨(cc 89 (by decide)).trans rfl, (cc 90 (by decide)).trans rfl, (cc 91 (by decide)).trans rfl, (cc 92 (by decide)).trans rfl, (cc 93 (by decide)).trans rfl, (cc 94 (by decide)).trans rfl, (cc 95 (by decide)).trans rfl, (cc 96 (by decide)).trans rfl, (cc 97 (by decide)).trans rfl, (cc 98 (by decide)).trans rfl, (cc 99 (by decide)).trans rfl, (cc 100 (by decide)).trans rfl⟩⟩
theorem w_image : LawOb Inv 0 136 152 37 := by
  rintro j P hj ⟨S, m, q, rfl, hs, hR, hI⟩
  have hr := hR.1
  obtain ⟨tap, by0, lot0, tw, kep⟩ := id hI
  rcases kep.2 with ⟨k5, k0⟩ | ⟨k5, K, K0, K1, k0, kt, kr, kw, kl, kn, kd, kro, kp, kh, kk⟩
  · have b1 := hR.2.1
    have b2 := hR.2.2
    obtain ⟨S', m', q', DN, hs', z1, z2, z3, z4, z5, z6⟩ := img_new (m := m) (q := q) hr hs k0 (by omega) (by omega)
    have tw' : Rtown 9 m' q' (m' 139) (m' 137) := tw.same (fun c i h1 h2 => by rw [z5 c (by omega)]) (fun c h1 h2 => z6 c (by omega)) (fun i _ _ => by rw [z5 139 (by omega)]) (fun i _ _ => by rw [z5 137 (by omega)])
    obtain ⟨D1, D2, I2⟩ := img_end (K := S.1) hs' hr (by omega) z3 z4 (by rw [z5 1 (by omega), z5 8 (by omega), z5 136 (by omega), z5 141 (by omega)]; exact tap) (by rw [z5 136 (by omega)]; exact by0) (by rw [z5 136 (by omega)]; exact lot0) (by rw [z5 5 (by omega)]; exact kep.1) tw'
    refine ⟨_, _, ?_, x136_k hs', D2, ⟨_, _, _, rfl, hs', ⟨by omega, by omega, by omega⟩, I2⟩⟩
    have rv : rV (hp S m q) 0 10 4 = some .null := rV_hp k0 rfl (fun _ => rfl)
    have n7 : xN 7 = 10 := by decide +kernel
    have no : nO (hp S m q) 7 = some (xnew (hp S m q) (xN 7) (.inr (7, xdef 7))) := if_pos ⟨show S.1 + 1 ≤ _ by omega, show S.2.1 + xN 7 ≤ _ by omega⟩
    obtain ⟨n0, hn⟩ := DN
    obtain ⟨n1, hm⟩ := D1
    refine ⟨n0 + n1 + 1, fun n hle => ?_⟩
    obtain ⟨t, rfl⟩ : ∃ t, n = t + 1 := ⟨n - 1, by omega⟩
    have a1 := hn t (by omega)
    have a2 := hm t (by omega)
    show f_X10_image (t + 1) 0 [.ref 0] (hp S m q) = _
    rw [j_X10_image_0]
    unfold b_X10_image_0
    rw [rv, Option.bind_some]
    show (nO (hp S m q) 7).bind _ = _
    rw [no, Option.bind_some]
    revert a1
    show ((f_X7_init t 0 [.ref S.1] (xnew (hp S m q) (xN 7) (.inr (7, xdef 7)))).bind _ = _) → (f_X7_init t 0 [.ref S.1] (xnew (hp S m q) (xN 7) (.inr (7, xdef 7)))).bind _ = _
    cases f_X7_init t 0 [.ref S.1] (xnew (hp S m q) (xN 7) (.inr (7, xdef 7))) with
    | none => intro a1; cases a1
    | some z =>
      rw [Option.bind_some, Option.bind_some]
      match z with
      | (.inl none, P5) =>
        show ((wV P5 0 10 4 (.ref S.1)).bind _ = _) → (wV P5 0 10 4 (.ref S.1)).bind _ = _
        cases wV P5 0 10 4 (.ref S.1) with
        | none => intro a1; cases a1
        | some P8 =>
          rw [Option.bind_some, Option.bind_some]
          intro a1
          have e : P8 = hp S' m' q' := congrArg Prod.snd (Option.some.inj a1)
          rw [e]
          exact a2
      | (.inl (some v), P5) => intro a1; cases a1
      | (.inr v, P5) => intro a1; cases a1
  · have TK : TownS S K (K + 7) (K + 1) := ⟨kt, kr, kw, kl, kn, kd, kro, kp, kh⟩
    obtain ⟨D1, D2, I2⟩ := img_end hs K0 K1 k0 TK tap by0 lot0 kep.1 tw
    refine ⟨_, _, ?_, x136_k hs, D2, ⟨_, _, _, rfl, hs, hR.next, I2⟩⟩
    have rv : rV (hp S m q) 0 10 4 = some (.ref K) := rV_hp k0 rfl (fun _ => rfl)
    refine De.cg 1 (f := fun n => f_X10_image n 0 [.ref 0] (hp S m q)) (fun n => ?_) D1
    rw [j_X10_image_0]
    unfold b_X10_image_0
    rw [rv, Option.bind_some]
