def wSh : xC := .inl (.int, 5921, .inl (upd (upd (fun _ => 0) 6 1) 7 10))
def L_X11 (p : Nat) : List xC := [aSh .int 2301, aSh .int 2301, wSh, aSh .int 7381, aSh .byte 400, aSh .int 5, aSh .boolean 7, aSh .int 5, aSh .boolean 400, aSh .boolean 60, aSh .int 30, aSh .int 7, aSh .int 7, aSh .int 4, aSh .int 4]
def F_X11 (p : Nat) : List Value := [.int 0, .ref (p + 0), .ref (p + 1), .ref (p + 2), .ref (p + 3), .int 0, .int 0, .int 0, .ref (p + 4), .int 0, .int 0, .int 0, .int 0, .int 0, .int ((-1)), .ref (p + 5), .int 0, .ref (p + 6), .ref (p + 7), .ref (p + 8), .ref (p + 9), .ref (p + 10), .int 0, .ref (p + 11), .ref (p + 12), .int 0, .int 0, .ref (p + 13), .ref (p + 14), .int 0]
theorem len_X11 (p : Nat) : (L_X11 p).length = 15 := rfl
set_option maxHeartbeats 2000000 in
theorem i_X11 {P : xH} {a : Nat} (ha : P.2.2 a = .inr (11, xdef 11)) (hlt : a < P.1) (r1 : P.1 + 15 ≤ 601024) (r2 : P.2.1 + 18833 ≤ 7293034) : ∃ Q, (∀ n, f_X11_init (n + 1) 0 [.ref a] P = some (.inl none, Q)) ∧ xMk P a 11 (F_X11 P.1) (L_X11 P.1) 18833 Q := by
  have hne : a ≠ P.1 + 2 := by omega
  have k0 := xMk.nil ha
  obtain ⟨Q1, e1, p1⟩ := st_I (k := 1) 2301 (N := 2301) rfl k0.2.2.1 (show _ < _ by have := k0.1; simp only [List.length_cons, List.length_append, List.length_nil, List.length_replicate] at this; omega) (by first | decide | (simp only [List.length_set]; decide)) (by decide) (by decide) (show _ + 1 ≤ _ by have := k0.1; simp only [List.length_cons, List.length_append, List.length_nil, List.length_replicate] at this; omega) (show _ + 2301 ≤ _ by have := k0.2.1; omega)
  have z0 := k0.1
  have k1 := k0.then p1 hlt
  obtain ⟨Q2, e2, p2⟩ := st_I (k := 2) 2301 (N := 2301) rfl k1.2.2.1 (show _ < _ by have := k1.1; simp only [List.length_cons, List.length_append, List.length_nil, List.length_replicate] at this; omega) (by first | decide | (simp only [List.length_set]; decide)) (by decide) (by decide) (show _ + 1 ≤ _ by have := k1.1; simp only [List.length_cons, List.length_append, List.length_nil, List.length_replicate] at this; omega) (show _ + 2301 ≤ _ by have := k1.2.1; omega)
  have z1 := k1.1
  have k2 := k1.then p2 hlt
  obtain ⟨Q3, e3, p3⟩ := st_I (k := 3) 5921 (N := 5921) rfl k2.2.2.1 (show _ < _ by have := k2.1; simp only [List.length_cons, List.length_append, List.length_nil, List.length_replicate] at this; omega) (by first | decide | (simp only [List.length_set]; decide)) (by decide) (by decide) (show _ + 1 ≤ _ by have := k2.1; simp only [List.length_cons, List.length_append, List.length_nil, List.length_replicate] at this; omega) (show _ + 5921 ≤ _ by have := k2.2.1; omega)
  have z2 := k2.1
  have k3 := k2.then p3 hlt
  obtain ⟨Q4, e4, p4⟩ := st_I (k := 4) 7381 (N := 7381) rfl k3.2.2.1 (show _ < _ by have := k3.1; simp only [List.length_cons, List.length_append, List.length_nil, List.length_replicate] at this; omega) (by first | decide | (simp only [List.length_set]; decide)) (by decide) (by decide) (show _ + 1 ≤ _ by have := k3.1; simp only [List.length_cons, List.length_append, List.length_nil, List.length_replicate] at this; omega) (show _ + 7381 ≤ _ by have := k3.2.1; omega)
  have z3 := k3.1
  have k4 := k3.then p4 hlt
  obtain ⟨Q5, e5, p5⟩ := st_B (k := 8) 400 (N := 400) rfl k4.2.2.1 (show _ < _ by have := k4.1; simp only [List.length_cons, List.length_append, List.length_nil, List.length_replicate] at this; omega) (by first | decide | (simp only [List.length_set]; decide)) (by decide) (by decide) (show _ + 1 ≤ _ by have := k4.1; simp only [List.length_cons, List.length_append, List.length_nil, List.length_replicate] at this; omega) (show _ + 400 ≤ _ by have := k4.2.1; omega)
  have z4 := k4.1
  have k5 := k4.then p5 hlt
  obtain ⟨Q6, e6, p6⟩ := st_V (k := 14) (.int ((-1))) k5.2.2.1 (show _ < _ by have := k5.1; simp only [List.length_cons, List.length_append, List.length_nil, List.length_replicate] at this; omega) (by first | decide | (simp only [List.length_set]; decide))
  have z5 := k5.1
  have k6 := k5.then p6 hlt
  obtain ⟨Q7, e7, p7⟩ := st_I (k := 15) 5 (N := 5) rfl k6.2.2.1 (show _ < _ by have := k6.1; simp only [List.length_cons, List.length_append, List.length_nil, List.length_replicate] at this; omega) (by first | decide | (simp only [List.length_set]; decide)) (by decide) (by decide) (show _ + 1 ≤ _ by have := k6.1; simp only [List.length_cons, List.length_append, List.length_nil, List.length_replicate] at this; omega) (show _ + 5 ≤ _ by have := k6.2.1; omega)
  have z6 := k6.1
  have k7 := k6.then p7 hlt
  obtain ⟨Q8, e8, p8⟩ := st_Z (k := 17) 7 (N := 7) rfl k7.2.2.1 (show _ < _ by have := k7.1; simp only [List.length_cons, List.length_append, List.length_nil, List.length_replicate] at this; omega) (by first | decide | (simp only [List.length_set]; decide)) (by decide) (by decide) (show _ + 1 ≤ _ by have := k7.1; simp only [List.length_cons, List.length_append, List.length_nil, List.length_replicate] at this; omega) (show _ + 7 ≤ _ by have := k7.2.1; omega)
  have z7 := k7.1
  have k8 := k7.then p8 hlt
  obtain ⟨Q9, e9, p9⟩ := st_I (k := 18) 5 (N := 5) rfl k8.2.2.1 (show _ < _ by have := k8.1; simp only [List.length_cons, List.length_append, List.length_nil, List.length_replicate] at this; omega) (by first | decide | (simp only [List.length_set]; decide)) (by decide) (by decide) (show _ + 1 ≤ _ by have := k8.1; simp only [List.length_cons, List.length_append, List.length_nil, List.length_replicate] at this; omega) (show _ + 5 ≤ _ by have := k8.2.1; omega)
  have z8 := k8.1
  have k9 := k8.then p9 hlt
  obtain ⟨Q10, e10, p10⟩ := st_Z (k := 19) 400 (N := 400) rfl k9.2.2.1 (show _ < _ by have := k9.1; simp only [List.length_cons, List.length_append, List.length_nil, List.length_replicate] at this; omega) (by first | decide | (simp only [List.length_set]; decide)) (by decide) (by decide) (show _ + 1 ≤ _ by have := k9.1; simp only [List.length_cons, List.length_append, List.length_nil, List.length_replicate] at this; omega) (show _ + 400 ≤ _ by have := k9.2.1; omega)
  have z9 := k9.1
  have k10 := k9.then p10 hlt
  obtain ⟨Q11, e11, p11⟩ := st_Z (k := 20) 60 (N := 60) rfl k10.2.2.1 (show _ < _ by have := k10.1; simp only [List.length_cons, List.length_append, List.length_nil, List.length_replicate] at this; omega) (by first | decide | (simp only [List.length_set]; decide)) (by decide) (by decide) (show _ + 1 ≤ _ by have := k10.1; simp only [List.length_cons, List.length_append, List.length_nil, List.length_replicate] at this; omega) (show _ + 60 ≤ _ by have := k10.2.1; omega)
  have z10 := k10.1
  have k11 := k10.then p11 hlt
  obtain ⟨Q12, e12, p12⟩ := st_I (k := 21) 30 (N := 30) rfl k11.2.2.1 (show _ < _ by have := k11.1; simp only [List.length_cons, List.length_append, List.length_nil, List.length_replicate] at this; omega) (by first | decide | (simp only [List.length_set]; decide)) (by decide) (by decide) (show _ + 1 ≤ _ by have := k11.1; simp only [List.length_cons, List.length_append, List.length_nil, List.length_replicate] at this; omega) (show _ + 30 ≤ _ by have := k11.2.1; omega)
  have z11 := k11.1
  have k12 := k11.then p12 hlt
  obtain ⟨Q13, e13, p13⟩ := st_I (k := 23) 7 (N := 7) rfl k12.2.2.1 (show _ < _ by have := k12.1; simp only [List.length_cons, List.length_append, List.length_nil, List.length_replicate] at this; omega) (by first | decide | (simp only [List.length_set]; decide)) (by decide) (by decide) (show _ + 1 ≤ _ by have := k12.1; simp only [List.length_cons, List.length_append, List.length_nil, List.length_replicate] at this; omega) (show _ + 7 ≤ _ by have := k12.2.1; omega)
  have z12 := k12.1
  have k13 := k12.then p13 hlt
  obtain ⟨Q14, e14, p14⟩ := st_I (k := 24) 7 (N := 7) rfl k13.2.2.1 (show _ < _ by have := k13.1; simp only [List.length_cons, List.length_append, List.length_nil, List.length_replicate] at this; omega) (by first | decide | (simp only [List.length_set]; decide)) (by decide) (by decide) (show _ + 1 ≤ _ by have := k13.1; simp only [List.length_cons, List.length_append, List.length_nil, List.length_replicate] at this; omega) (show _ + 7 ≤ _ by have := k13.2.1; omega)
  have z13 := k13.1
  have k14 := k13.then p14 hlt
  obtain ⟨Q15, e15, p15⟩ := st_I (k := 27) 4 (N := 4) rfl k14.2.2.1 (show _ < _ by have := k14.1; simp only [List.length_cons, List.length_append, List.length_nil, List.length_replicate] at this; omega) (by first | decide | (simp only [List.length_set]; decide)) (by decide) (by decide) (show _ + 1 ≤ _ by have := k14.1; simp only [List.length_cons, List.length_append, List.length_nil, List.length_replicate] at this; omega) (show _ + 4 ≤ _ by have := k14.2.1; omega)
  have z14 := k14.1
  have k15 := k14.then p15 hlt
  obtain ⟨Q16, e16, p16⟩ := st_I (k := 28) 4 (N := 4) rfl k15.2.2.1 (show _ < _ by have := k15.1; simp only [List.length_cons, List.length_append, List.length_nil, List.length_replicate] at this; omega) (by first | decide | (simp only [List.length_set]; decide)) (by decide) (by decide) (show _ + 1 ≤ _ by have := k15.1; simp only [List.length_cons, List.length_append, List.length_nil, List.length_replicate] at this; omega) (show _ + 4 ≤ _ by have := k15.2.1; omega)
  have z15 := k15.1
  have k16 := k15.then p16 hlt
  simp only [List.length_cons, List.length_append, List.length_nil, List.length_replicate] at z0 z1 z2 z3 z4 z5 z6 z7 z8 z9 z10 z11 z12 z13 z14 z15
  simp only [z1, z2, z3, z4, z5, z6, z7, z8, z9, z10, z11, z12, z13, z14, z15] at k16
  have hf : Q16.2.2 (P.1 + 2) = aSh .int 5921 := k16.2.2.2.1 2 (show 2 < 15 by decide)
  have hr : ∀ R : xH, R.2.2 a = Q16.2.2 a → rA R a 11 3 = some (P.1 + 2) := fun R hR => rA_at (hR.trans k16.2.2.1) rfl
  have hs : ∀ (R : xH) (f : Nat → Int32) (i x : Int32), ¬ i < 0 → i.toNatClampNeg < 5921 → R.2.2 (P.1 + 2) = .inl (.int, 5921, .inl f) → sI R (P.1 + 2) i x = some (xput R (P.1 + 2) (.inl (.int, 5921, .inl (upd f i.toNatClampNeg x)))) := by
    intro R f i x h1 h2 h3
    unfold sI
    rw [h3]
    exact if_neg (fun q => q.elim h1 (Nat.not_le.mpr h2))
  have d1 := hs Q16 (fun _ => 0) 6 1 (by decide) (by decide) hf
  have d2 := hs (xput Q16 (P.1 + 2) (.inl (.int, 5921, .inl (upd (fun _ => 0) 6 1)))) (upd (fun _ => 0) 6 1) 7 10 (by decide) (by decide) (xput_at _ _ _)
  refine ⟨xput (xput Q16 (P.1 + 2) (.inl (.int, 5921, .inl (upd (fun _ => 0) 6 1)))) (P.1 + 2) wSh, fun n => ?_, ?_⟩
  rotate_left
  · exact k16.upd hlt (show 2 < 15 by decide) rfl rfl (xput_at _ _ _) (fun j hj => (xput_ne _ _ hj).trans (xput_ne _ _ hj))
  · show b_X11_init_0 n (f_X11_init n) a P = _
    unfold b_X11_init_0
    rw [e1, e2, e3, e4, e5, e6, Option.bind_some, e7, e8, e9, e10, e11, e12, e13, e14, e15, e16, hr _ rfl, Option.bind_some]
    refine (congrArg (fun q => Option.bind q _) d1).trans ?_
    show (rA (xput Q16 (P.1 + 2) (.inl (.int, 5921, .inl (upd (fun _ => 0) 6 1)))) a 11 3).bind _ = _
    rw [hr (xput Q16 (P.1 + 2) (.inl (.int, 5921, .inl (upd (fun _ => 0) 6 1)))) (xput_ne _ _ hne), Option.bind_some]
    refine (congrArg (fun q => Option.bind q _) d2).trans ?_
    rfl
