/-! back -/
theorem cpx_ne {m : Nat → Int → Int} {x y c : Nat} {s d j : Int} {n : Nat} (h : c ≠ y) : cpx m x s y d n c j = m c j := if_neg (fun z => h z.1)
theorem cpx_at {m : Nat → Int → Int} {x y : Nat} {s d j : Int} {n : Nat} (h0 : d ≤ j) (h1 : j < d + n) : cpx m x s y d n y j = m x (s + (j - d)) := if_pos ⟨rfl, h0, h1⟩
theorem w_back : LawOb Inv 0 136 152 38 := by
  rintro j P hj ⟨S, m, q, rfl, hs, hR, hI⟩
  have hr := hR.1
  obtain ⟨tap, by0, lot0, tw, kep⟩ := id hI
  rcases kep.2 with ⟨k5, k0⟩ | ⟨k5, K, K0, K1, k0, kt, kr, kw, kl, kn, kd, kro, kp, kh, kk⟩
  · refine ⟨J 0, hp S m q, hp S (up m 136 0 0) q, ?_, x136_k hs, ?_, Inv.ro' hI hs hR⟩
    · refine De.eq 1 (fun n => ?_)
      have rv : rV (hp S m q) 0 10 4 = some .null := rV_hp k0 rfl (fun _ => rfl)
      rw [j_X10_back_0]
      unfold b_X10_back_0
      rw [rv, Option.bind_some]
      rfl
    · refine De.eq 1 (fun n => ?_)
      have k5' : (up m 136 0 0) 136 5 = 0 := (up_i (by decide)).trans k5
      rw [j_X11_back_0]
      simp (disch := omega) only [b_X11_back_0, x136_k hs, x136_i0 hs, x136_w0 hs, x136_r1 hs, x136_r2 hs, x136_r3 hs, x136_r4 hs, x136_i5 hs, x136_w5 hs, x136_i6 hs, x136_w6 hs, x136_i7 hs, x136_w7 hs, x136_r8 hs, x136_i9 hs, x136_w9 hs, x136_i10 hs, x136_w10 hs, x136_i11 hs, x136_w11 hs, x136_i12 hs, x136_w12 hs, x136_i13 hs, x136_w13 hs, x136_i14 hs, x136_w14 hs, x136_r15 hs, x136_i16 hs, x136_w16 hs, x136_r17 hs, x136_r18 hs, x136_r19 hs, x136_r20 hs, x136_r21 hs, x136_i22 hs, x136_w22 hs, x136_r23 hs, x136_r24 hs, x136_i25 hs, x136_w25 hs, x136_i26 hs, x136_w26 hs, x136_r27 hs, x136_r28 hs, x136_i29 hs, x136_w29 hs, k5', Option.bind_some, J_lit, J_eqc, eq_T, ↓reduceIte, not_true_eq_false]
  · have TK : TownS S K (K + 7) (K + 1) := ⟨kt, kr, kw, kl, kn, kd, kro, kp, kh⟩
    have D := q_townBecome (m := m) (q := q) hs.Town TK (by omega)
    refine ⟨J 1, hp S (twM m 9 K) (twQ q 9 K), hp S (cpx (cpx (up (twM m 9 K) 136 0 0) 140 0 139 0 5080) 140 5080 137 0 2301) (twQ q 9 K), ?_, x136_k hs, ?_, ?_⟩
    · have rv : rV (hp S m q) 0 10 4 = some (.ref K) := rV_hp k0 rfl (fun _ => rfl)
      have rk : rA (hp S m q) 0 10 4 = some K := rA_hp k0 rfl
      have D3 := De.call (K := fun n r8 => xU r8 fun P7 => some (.inl (some (.int (J 1))), P7)) D (De.ret _ _)
      refine De.cg 1 (fun n => ?_) D3
      rw [j_X10_back_0]
      unfold b_X10_back_0
      rw [rv, Option.bind_some]
      simp only [x0_r1 hs, rk, x9_k hs, Option.bind_some, J_lit]
    · have e5 : (up (twM m 9 K) 136 0 0) 136 5 = 1 := by rw [up_i (by decide), tw_out (by omega)]; exact k5
      have Q2 := q_back43 (q := twQ q 9 K) (m := cpx (up (twM m 9 K) 136 0 0) 140 0 139 0 5080) hs 2301 0 (by omega)
      rw [cpx_0] at Q2
      have Q1 := q_back16 (q := twQ q 9 K) (m := up (twM m 9 K) 136 0 0) hs _ _ Q2 5080 0 (by omega)
      rw [cpx_0] at Q1
      refine De.cg 1 (fun n => ?_) Q1
      rw [j_X11_back_0]
      simp (disch := omega) only [b_X11_back_0, x136_k hs, x136_i0 hs, x136_w0 hs, x136_r1 hs, x136_r2 hs, x136_r3 hs, x136_r4 hs, x136_i5 hs, x136_w5 hs, x136_i6 hs, x136_w6 hs, x136_i7 hs, x136_w7 hs, x136_r8 hs, x136_i9 hs, x136_w9 hs, x136_i10 hs, x136_w10 hs, x136_i11 hs, x136_w11 hs, x136_i12 hs, x136_w12 hs, x136_i13 hs, x136_w13 hs, x136_i14 hs, x136_w14 hs, x136_r15 hs, x136_i16 hs, x136_w16 hs, x136_r17 hs, x136_r18 hs, x136_r19 hs, x136_r20 hs, x136_r21 hs, x136_i22 hs, x136_w22 hs, x136_r23 hs, x136_r24 hs, x136_i25 hs, x136_w25 hs, x136_i26 hs, x136_w26 hs, x136_r27 hs, x136_r28 hs, x136_i29 hs, x136_w29 hs, e5, Option.bind_some, J_lit, J_eqc, eq_F, ↓reduceIte, not_false_eq_true]
      all_goals rfl
    · have em : ∀ c i, c ≠ 137 → c ≠ 139 → ¬ (c = 136 ∧ i = 0) → (cpx (cpx (up (twM m 9 K) 136 0 0) 140 0 139 0 5080) 140 5080 137 0 2301) c i = twM m 9 K c i := fun c i h1 h2 h3 => by rw [cpx_ne h1, cpx_ne h2, up_get, if_neg h3]
      have eo : ∀ c i, c ≠ 137 → c ≠ 139 → ¬ (c = 136 ∧ i = 0) → (c < 9 ∨ 111 ≤ c) → (cpx (cpx (up (twM m 9 K) 136 0 0) 140 0 139 0 5080) 140 5080 137 0 2301) c i = m c i := fun c i h1 h2 h3 h4 => by rw [em c i h1 h2 h3, tw_out (by omega)]
      refine ⟨_, _, _, rfl, hs, hR.next, ?_, (eo 136 6 (by decide) (by decide) (by decide) (by omega)).trans by0, (eo 136 7 (by decide) (by decide) (by decide) (by omega)).trans lot0, ?_, ?_⟩
      · exact k_tap tap (fun b i hb => eo b i (by omega) (by omega) (by omega) (by omega))
      · refine Rtown.tw kk (by omega) (fun c i h1 h2 => em c i (by omega) (by omega) (by omega)) (fun c h1 h2 => rfl) (fun i i0 i1 => ?_) (fun i i0 i1 => ?_)
        · rw [cpx_ne (by decide), cpx_at (by omega) (by omega), up_a (by decide), tw_out (by omega)]
          exact congrArg (m 140) (by omega)
        · rw [cpx_at (by omega) (by omega), cpx_ne (by decide), up_a (by decide), tw_out (by omega)]
          exact congrArg (m 140) (by omega)
      · exact k_kep kep (Grow.rfl' S) hr (fun b i hb => eo b i (by omega) (by omega) (by omega) (by omega)) (fun b hb => twq_out (by omega))
