/-! QuakeNetModel.hands(IIII)V -/
def b_X11_hands_0 (n : Nat) (rec : Nat → List Value → xH → xO) (a0 : Nat) (a1 : Int32) (a2 : Int32) (a3 : Int32) (a4 : Int32) (P : xH) : xO :=
  (kO P a0 11).bind fun _ =>
  (f_X11_copies n 0 [.ref a0, .int a2] P).bind fun r2 => xI r2 fun v4 P1 =>
  (kO P1 a0 11).bind fun _ =>
  (f_X11_toldOf n 0 [.ref a0, .int a2, .int 1] P1).bind fun r7 => xI r7 fun v9 P6 =>
  if v4 < v9 then
    rec 41 [.ref a0, .int a1, .int a2, .int a3, .int a4] P6
  else
    (kO P6 a0 11).bind fun _ =>
    (f_X11_leastOn n 0 [.ref a0, .int a2] P6).bind fun r12 => xI r12 fun v14 P11 =>
    (rA P11 a0 11 20).bind fun v16 =>
    (sZ P11 v16 ((((30 * a3)) + v14)) 1).bind fun P18 =>
    (kO P18 a0 11).bind fun _ =>
    (f_X11_givesAway n 0 [.ref a0, .int a2, .int v14] P18).bind fun r21 => xU r21 fun P20 =>
    rec 41 [.ref a0, .int a1, .int a2, .int a3, .int a4] P20
def b_X11_hands_41 (n : Nat) (rec : Nat → List Value → xH → xO) (a0 : Nat) (a1 : Int32) (a2 : Int32) (a3 : Int32) (a4 : Int32) (P : xH) : xO :=
  (rA P a0 11 1).bind fun v1 =>
  (f_X11_copyAt n 0 [.int a1, .int a4, .int 2] P).bind fun r4 => xI r4 fun v6 P3 =>
  (aI P3 v1 v6).bind fun v7 =>
  (rA P3 a0 11 1).bind fun v9 =>
  (f_X11_copyAt n 0 [.int a1, .int a4, .int 5] P3).bind fun r12 => xI r12 fun v14 P11 =>
  (aI P11 v9 v14).bind fun v15 =>
  if 7 ≤ v7 then
    rec 84 [.ref a0, .int a1, .int a2, .int a3, .int a4, .int v7, .int v15, .int 0] P11
  else
    rec 84 [.ref a0, .int a1, .int a2, .int a3, .int a4, .int v7, .int v15, .int ((a1 <<< (((4 * v7)) &&& 31)))] P11
def b_X11_hands_84 (n : Nat) (rec : Nat → List Value → xH → xO) (a0 : Nat) (a1 : Int32) (a2 : Int32) (a3 : Int32) (a4 : Int32) (a5 : Int32) (s0 : Int32) (s1 : Int32) (P : xH) : xO :=
  (rA P a0 11 1).bind fun v1 =>
  (f_X11_copyAt n 0 [.int a1, .int a4, .int 6] P).bind fun r4 => xI r4 fun v6 P3 =>
  (aI P3 v1 v6).bind fun v7 =>
  if a5 < 7 then
    rec 120 [.ref a0, .int a1, .int a2, .int a3, .int a4, .int a5, .int ((s0 ||| s1)), .int v7, .int 0] P3
  else
    rec 120 [.ref a0, .int a1, .int a2, .int a3, .int a4, .int a5, .int ((s0 ||| s1)), .int v7, .int ((a1 <<< (((4 * ((a5 - 7)))) &&& 31)))] P3
def b_X11_hands_120 (n : Nat) (rec : Nat → List Value → xH → xO) (a0 : Nat) (a1 : Int32) (a2 : Int32) (a3 : Int32) (a4 : Int32) (a5 : Int32) (a6 : Int32) (s0 : Int32) (s1 : Int32) (P : xH) : xO :=
  (kO P a0 11).bind fun _ =>
  (f_X11_handed n 0 [.ref a0, .int a1, .int a4] P).bind fun r2 => xI r2 fun v4 P1 =>
  (kO P1 a0 11).bind fun _ =>
  (f_X11_comes n 0 [.ref a0, .int a2, .int a4, .int v4, .int ((a5 + 1)), .int a1, .int a6, .int ((s0 ||| s1))] P1).bind fun r7 => xU r7 fun P6 =>
  (rA P6 a0 11 1).bind fun v10 =>
  (f_X11_phoneAt n 0 [.int a1, .int 2] P6).bind fun r13 => xI r13 fun v15 P12 =>
  (aI P12 v10 v15).bind fun v16 =>
  (sI P12 v10 v15 ((v16 + 1))).bind fun P18 =>
  (rA P18 a0 11 1).bind fun v20 =>
  (f_X11_phoneAt n 0 [.int a2, .int 3] P18).bind fun r23 => xI r23 fun v25 P22 =>
  (aI P22 v20 v25).bind fun v26 =>
  (sI P22 v20 v25 ((v26 + 1))).bind fun P28 =>
  (rA P28 a0 11 1).bind fun v30 =>
  (f_X11_phoneAt n 0 [.int a1, .int 1] P28).bind fun r33 => xI r33 fun v35 P32 =>
  (rA P32 a0 11 1).bind fun v36 =>
  (f_X11_phoneAt n 0 [.int a1, .int 1] P32).bind fun r39 => xI r39 fun v41 P38 =>
  (aI P38 v36 v41).bind fun v42 =>
  (kO P38 a0 11).bind fun _ =>
  (f_X11_costNow n 0 [.ref a0] P38).bind fun r45 => xI r45 fun v47 P44 =>
  (sI P44 v30 v35 ((mMax 0 ((v42 - v47))))).bind fun P49 =>
  (rA P49 a0 11 1).bind fun v51 =>
  (f_X11_phoneAt n 0 [.int a2, .int 1] P49).bind fun r54 => xI r54 fun v56 P53 =>
  (aI P53 v51 v56).bind fun v57 =>
  (sI P53 v51 v56 ((v57 - 1))).bind fun P59 =>
  some (.inl none, P59)
def lay_X11_hands : Nat → List Value → Option (xL × List Value)
  | 0, [a0, a1, a2, a3, a4] => some ([some a0, some a1, some a2, some a3, some a4, none, none, none], [])
  | 41, [a0, a1, a2, a3, a4] => some ([some a0, some a1, some a2, some a3, some a4, none, none, none], [])
  | 84, [a0, a1, a2, a3, a4, a5, s0, s1] => some ([some a0, some a1, some a2, some a3, some a4, some a5, none, none], [s1, s0])
  | 120, [a0, a1, a2, a3, a4, a5, a6, s0, s1] => some ([some a0, some a1, some a2, some a3, some a4, some a5, some a6, none], [s1, s0])
  | _, _ => none
def f_X11_hands : Nat → Nat → List Value → xH → xO
  | 0 => fun _ _ _ => none
  | n + 1 => fun pc env P => match pc, env with
    | 0, [.ref a0, .int a1, .int a2, .int a3, .int a4] => b_X11_hands_0 n (f_X11_hands n) a0 a1 a2 a3 a4 P
    | 41, [.ref a0, .int a1, .int a2, .int a3, .int a4] => b_X11_hands_41 n (f_X11_hands n) a0 a1 a2 a3 a4 P
    | 84, [.ref a0, .int a1, .int a2, .int a3, .int a4, .int a5, .int s0, .int s1] => b_X11_hands_84 n (f_X11_hands n) a0 a1 a2 a3 a4 a5 s0 s1 P
    | 120, [.ref a0, .int a1, .int a2, .int a3, .int a4, .int a5, .int a6, .int s0, .int s1] => b_X11_hands_120 n (f_X11_hands n) a0 a1 a2 a3 a4 a5 a6 s0 s1 P
    | _, _ => none
set_option maxHeartbeats 2000000 in
set_option maxRecDepth 20000 in
theorem t_X11_hands_0 {G : xG} {l : Launch} (hl : l.stackTraces = false) {n : Nat} {rec : Nat → List Value → xH → xO} (hrec : ∀ pc env P z, rec pc env P = some z → ∀ L st, lay_X11_hands pc env = some (L, st) → ∀ Q : xR → xH → Prop, Q z.1 z.2 → Wp G l 9 mX11_hands pc L st P Q) {a0 a1 a2 a3 a4} {P : xH} {z : xR × xH} (h : b_X11_hands_0 n rec a0 a1 a2 a3 a4 P = some z) {Q : xR → xH → Prop} (hQ : Q z.1 z.2) : Wp G l 9 mX11_hands 0 [some (.ref a0), some (.int a1), some (.int a2), some (.int a3), some (.int a4), none, none, none] [] P Q := by
  unfold b_X11_hands_0 at h
  refine x_aload_nr dX11_hands_0 rfl ?_
  refine x_iload_n dX11_hands_1 rfl ?_
  obtain ⟨_, e5, h⟩ := Option.bind_eq_some_iff.mp h
  obtain ⟨fse5, e5⟩ := kO_ok e5
  obtain ⟨r2, e3, h⟩ := Option.bind_eq_some_iff.mp h
  replace h := xI_ok h
  obtain ⟨v4, P1, rfl, h⟩ := h
  refine x_callV (c_X11_copies hl e3) dX11_hands_2 cw_X11_copies wl_X11_264 wi_X11_copies wse_X11_copies rfl e5 (by decide) rfl (by omega) (by decide) rfl (Nat.le_of_ble_eq_true rfl) rfl (fun v9 P9 hq9 => ?_) (fun i9 P9 hq9 => by cases hq9)
  cases hq9
  refine x_aload_nr dX11_hands_5 rfl ?_
  refine x_iload_n dX11_hands_6 rfl ?_
  refine x_iconst 1 dX11_hands_7 (by decide) ?_
  obtain ⟨_, e10, h⟩ := Option.bind_eq_some_iff.mp h
  obtain ⟨fse10, e10⟩ := kO_ok e10
  obtain ⟨r7, e8, h⟩ := Option.bind_eq_some_iff.mp h
  replace h := xI_ok h
  obtain ⟨v9, P6, rfl, h⟩ := h
  refine x_callV (c_X11_toldOf hl e8) dX11_hands_8 cw_X11_toldOf wl_X11_110 wi_X11_toldOf wse_X11_toldOf rfl e10 (by decide) rfl (by omega) (by decide) rfl (Nat.le_of_ble_eq_true rfl) rfl (fun v9 P9 hq9 => ?_) (fun i9 P9 hq9 => by cases hq9)
  cases hq9
  refine x_icmp_lt 41 dX11_hands_11 (by decide) (fun q24 => ?_) (fun q24 => ?_)
  · rw [if_pos q24] at h
    exact Wp.mask [true, true, true, true, true, false, false, false] (hrec 41 _ _ _ h _ _ rfl _ hQ)
  · rw [if_neg q24] at h
    refine x_aload_nr dX11_hands_14 rfl ?_
    refine x_iload_n dX11_hands_15 rfl ?_
    obtain ⟨_, e15, h⟩ := Option.bind_eq_some_iff.mp h
    obtain ⟨fse15, e15⟩ := kO_ok e15
    obtain ⟨r12, e13, h⟩ := Option.bind_eq_some_iff.mp h
    replace h := xI_ok h
    obtain ⟨v14, P11, rfl, h⟩ := h
    refine x_callV (c_X11_leastOn hl e13) dX11_hands_16 cw_X11_leastOn wl_X11_267 wi_X11_leastOn wse_X11_leastOn rfl e15 (by decide) rfl (by omega) (by decide) rfl (Nat.le_of_ble_eq_true rfl) rfl (fun v9 P9 hq9 => ?_) (fun i9 P9 hq9 => by cases hq9)
    cases hq9
    refine x_istore dX11_hands_19 (Nat.le_of_ble_eq_true rfl) ?_
    refine x_aload_nr dX11_hands_21 rfl ?_
    obtain ⟨v16, e17, h⟩ := Option.bind_eq_some_iff.mp h
    refine k_rA e17 dX11_hands_22 f_X11_46 ?_
    refine x_bipush 30 dX11_hands_25 (by decide) ?_
    refine x_iload_n dX11_hands_27 rfl ?_
    refine x_imul dX11_hands_28 ?_
    refine x_iload dX11_hands_29 rfl ?_
    refine x_iadd dX11_hands_31 ?_
    refine x_iconst 1 dX11_hands_32 (by decide) ?_
    obtain ⟨P18, e19, h⟩ := Option.bind_eq_some_iff.mp h
    refine k_sZ e19 dX11_hands_33 ?_
    refine x_aload_nr dX11_hands_34 rfl ?_
    refine x_iload_n dX11_hands_35 rfl ?_
    refine x_iload dX11_hands_36 rfl ?_
    obtain ⟨_, e23, h⟩ := Option.bind_eq_some_iff.mp h
    obtain ⟨fse23, e23⟩ := kO_ok e23
    obtain ⟨r21, e22, h⟩ := Option.bind_eq_some_iff.mp h
    replace h := xU_ok h
    obtain ⟨P20, rfl, h⟩ := h
    refine x_callV (c_X11_givesAway hl e22) dX11_hands_38 cw_X11_givesAway wl_X11_270 wi_X11_givesAway wse_X11_givesAway rfl e23 (by decide) rfl (by omega) (by decide) rfl (Nat.le_of_ble_eq_true rfl) rfl (fun v9 P9 hq9 => ?_) (fun i9 P9 hq9 => by cases hq9)
    cases hq9
    exact Wp.mask [true, true, true, true, true, false, false, false] (hrec 41 _ _ _ h _ _ rfl _ hQ)
set_option maxHeartbeats 2000000 in
set_option maxRecDepth 20000 in
theorem t_X11_hands_41 {G : xG} {l : Launch} (hl : l.stackTraces = false) {n : Nat} {rec : Nat → List Value → xH → xO} (hrec : ∀ pc env P z, rec pc env P = some z → ∀ L st, lay_X11_hands pc env = some (L, st) → ∀ Q : xR → xH → Prop, Q z.1 z.2 → Wp G l 9 mX11_hands pc L st P Q) {a0 a1 a2 a3 a4} {P : xH} {z : xR × xH} (h : b_X11_hands_41 n rec a0 a1 a2 a3 a4 P = some z) {Q : xR → xH → Prop} (hQ : Q z.1 z.2) : Wp G l 9 mX11_hands 41 [some (.ref a0), some (.int a1), some (.int a2), some (.int a3), some (.int a4), none, none, none] [] P Q := by
  unfold b_X11_hands_41 at h
  refine x_aload_nr dX11_hands_41 rfl ?_
  obtain ⟨v1, e2, h⟩ := Option.bind_eq_some_iff.mp h
  refine k_rA e2 dX11_hands_42 f_X11_13 ?_
  refine x_iload_n dX11_hands_45 rfl ?_
  refine x_iload dX11_hands_46 rfl ?_
  refine x_iconst 2 dX11_hands_48 (by decide) ?_
  obtain ⟨r4, e5, h⟩ := Option.bind_eq_some_iff.mp h
  replace h := xI_ok h
  obtain ⟨v6, P3, rfl, h⟩ := h
  refine x_callS (c_X11_copyAt hl e5) dX11_hands_49 cw_X11_copyAt wl_X11_85 ws_X11_copyAt rfl (by omega) (by decide) rfl (Nat.le_of_ble_eq_true rfl) rfl (fun v9 P9 hq9 => ?_) (fun i9 P9 hq9 => by cases hq9)
  cases hq9
  obtain ⟨v7, e8, h⟩ := Option.bind_eq_some_iff.mp h
  refine k_aI e8 dX11_hands_52 ?_
  refine x_istore dX11_hands_53 (Nat.le_of_ble_eq_true rfl) ?_
  refine x_aload_nr dX11_hands_55 rfl ?_
  obtain ⟨v9, e10, h⟩ := Option.bind_eq_some_iff.mp h
  refine k_rA e10 dX11_hands_56 f_X11_13 ?_
  refine x_iload_n dX11_hands_59 rfl ?_
  refine x_iload dX11_hands_60 rfl ?_
  refine x_iconst 5 dX11_hands_62 (by decide) ?_
  obtain ⟨r12, e13, h⟩ := Option.bind_eq_some_iff.mp h
  replace h := xI_ok h
  obtain ⟨v14, P11, rfl, h⟩ := h
  refine x_callS (c_X11_copyAt hl e13) dX11_hands_63 cw_X11_copyAt wl_X11_85 ws_X11_copyAt rfl (by omega) (by decide) rfl (Nat.le_of_ble_eq_true rfl) rfl (fun v9 P9 hq9 => ?_) (fun i9 P9 hq9 => by cases hq9)
  cases hq9
  obtain ⟨v15, e16, h⟩ := Option.bind_eq_some_iff.mp h
  refine k_aI e16 dX11_hands_66 ?_
  refine x_iload dX11_hands_67 rfl ?_
  refine x_bipush 7 dX11_hands_69 (by decide) ?_
  refine x_icmp_ge 83 dX11_hands_71 (by decide) (fun q17 => ?_) (fun q17 => ?_)
  · rw [if_pos q17] at h
    refine x_iconst 0 dX11_hands_83 (by decide) ?_
    exact Wp.mask [true, true, true, true, true, true, false, false] (hrec 84 _ _ _ h _ _ rfl _ hQ)
  · rw [if_neg q17] at h
    refine x_iload_n dX11_hands_74 rfl ?_
    refine x_iconst 4 dX11_hands_75 (by decide) ?_
    refine x_iload dX11_hands_76 rfl ?_
    refine x_imul dX11_hands_78 ?_
    refine x_ishl dX11_hands_79 ?_
    refine x_goto 84 dX11_hands_80 (by decide) ?_
    exact Wp.mask [true, true, true, true, true, true, false, false] (hrec 84 _ _ _ h _ _ rfl _ hQ)
set_option maxHeartbeats 2000000 in
set_option maxRecDepth 20000 in
theorem t_X11_hands_84 {G : xG} {l : Launch} (hl : l.stackTraces = false) {n : Nat} {rec : Nat → List Value → xH → xO} (hrec : ∀ pc env P z, rec pc env P = some z → ∀ L st, lay_X11_hands pc env = some (L, st) → ∀ Q : xR → xH → Prop, Q z.1 z.2 → Wp G l 9 mX11_hands pc L st P Q) {a0 a1 a2 a3 a4 a5 s0 s1} {P : xH} {z : xR × xH} (h : b_X11_hands_84 n rec a0 a1 a2 a3 a4 a5 s0 s1 P = some z) {Q : xR → xH → Prop} (hQ : Q z.1 z.2) : Wp G l 9 mX11_hands 84 [some (.ref a0), some (.int a1), some (.int a2), some (.int a3), some (.int a4), some (.int a5), none, none] [.int s1, .int s0] P Q := by
  unfold b_X11_hands_84 at h
  refine x_ior dX11_hands_84 ?_
  refine x_istore dX11_hands_85 (Nat.le_of_ble_eq_true rfl) ?_
  refine x_aload_nr dX11_hands_87 rfl ?_
  obtain ⟨v1, e2, h⟩ := Option.bind_eq_some_iff.mp h
  refine k_rA e2 dX11_hands_88 f_X11_13 ?_
  refine x_iload_n dX11_hands_91 rfl ?_
  refine x_iload dX11_hands_92 rfl ?_
  refine x_bipush 6 dX11_hands_94 (by decide) ?_
  obtain ⟨r4, e5, h⟩ := Option.bind_eq_some_iff.mp h
  replace h := xI_ok h
  obtain ⟨v6, P3, rfl, h⟩ := h
  refine x_callS (c_X11_copyAt hl e5) dX11_hands_96 cw_X11_copyAt wl_X11_85 ws_X11_copyAt rfl (by omega) (by decide) rfl (Nat.le_of_ble_eq_true rfl) rfl (fun v9 P9 hq9 => ?_) (fun i9 P9 hq9 => by cases hq9)
  cases hq9
  obtain ⟨v7, e8, h⟩ := Option.bind_eq_some_iff.mp h
  refine k_aI e8 dX11_hands_99 ?_
  refine x_iload dX11_hands_100 rfl ?_
  refine x_bipush 7 dX11_hands_102 (by decide) ?_
  refine x_icmp_lt 119 dX11_hands_104 (by decide) (fun q9 => ?_) (fun q9 => ?_)
  · rw [if_pos q9] at h
    refine x_iconst 0 dX11_hands_119 (by decide) ?_
    exact Wp.mask [true, true, true, true, true, true, true, false] (hrec 120 _ _ _ h _ _ rfl _ hQ)
  · rw [if_neg q9] at h
    refine x_iload_n dX11_hands_107 rfl ?_
    refine x_iconst 4 dX11_hands_108 (by decide) ?_
    refine x_iload dX11_hands_109 rfl ?_
    refine x_bipush 7 dX11_hands_111 (by decide) ?_
    refine x_isub dX11_hands_113 ?_
    refine x_imul dX11_hands_114 ?_
    refine x_ishl dX11_hands_115 ?_
    refine x_goto 120 dX11_hands_116 (by decide) ?_
    exact Wp.mask [true, true, true, true, true, true, true, false] (hrec 120 _ _ _ h _ _ rfl _ hQ)
set_option maxHeartbeats 2000000 in
set_option maxRecDepth 20000 in
theorem t_X11_hands_120 {G : xG} {l : Launch} (hl : l.stackTraces = false) {n : Nat} {rec : Nat → List Value → xH → xO} (hrec : ∀ pc env P z, rec pc env P = some z → ∀ L st, lay_X11_hands pc env = some (L, st) → ∀ Q : xR → xH → Prop, Q z.1 z.2 → Wp G l 9 mX11_hands pc L st P Q) {a0 a1 a2 a3 a4 a5 a6 s0 s1} {P : xH} {z : xR × xH} (h : b_X11_hands_120 n rec a0 a1 a2 a3 a4 a5 a6 s0 s1 P = some z) {Q : xR → xH → Prop} (hQ : Q z.1 z.2) : Wp G l 9 mX11_hands 120 [some (.ref a0), some (.int a1), some (.int a2), some (.int a3), some (.int a4), some (.int a5), some (.int a6), none] [.int s1, .int s0] P Q := by
  unfold b_X11_hands_120 at h
  refine x_ior dX11_hands_120 ?_
  refine x_istore dX11_hands_121 (Nat.le_of_ble_eq_true rfl) ?_
  refine x_aload_nr dX11_hands_123 rfl ?_
  refine x_iload_n dX11_hands_124 rfl ?_
  refine x_iload dX11_hands_125 rfl ?_
  refine x_aload_nr dX11_hands_127 rfl ?_
  refine x_iload_n dX11_hands_128 rfl ?_
  refine x_iload dX11_hands_129 rfl ?_
  obtain ⟨_, e5, h⟩ := Option.bind_eq_some_iff.mp h
  obtain ⟨fse5, e5⟩ := kO_ok e5
  obtain ⟨r2, e3, h⟩ := Option.bind_eq_some_iff.mp h
  replace h := xI_ok h
  obtain ⟨v4, P1, rfl, h⟩ := h
  refine x_callV (c_X11_handed hl e3) dX11_hands_131 cw_X11_handed wl_X11_283 wi_X11_handed wse_X11_handed rfl e5 (by decide) rfl (by omega) (by decide) rfl (Nat.le_of_ble_eq_true rfl) rfl (fun v9 P9 hq9 => ?_) (fun i9 P9 hq9 => by cases hq9)
  cases hq9
  refine x_iload dX11_hands_134 rfl ?_
  refine x_iconst 1 dX11_hands_136 (by decide) ?_
  refine x_iadd dX11_hands_137 ?_
  refine x_iload_n dX11_hands_138 rfl ?_
  refine x_iload dX11_hands_139 rfl ?_
  refine x_iload dX11_hands_141 rfl ?_
  obtain ⟨_, e9, h⟩ := Option.bind_eq_some_iff.mp h
  obtain ⟨fse9, e9⟩ := kO_ok e9
  obtain ⟨r7, e8, h⟩ := Option.bind_eq_some_iff.mp h
  replace h := xU_ok h
  obtain ⟨P6, rfl, h⟩ := h
  refine x_callV (c_X11_comes hl e8) dX11_hands_143 cw_X11_comes wl_X11_273 wi_X11_comes wse_X11_comes rfl e9 (by decide) rfl (by omega) (by decide) rfl (Nat.le_of_ble_eq_true rfl) rfl (fun v9 P9 hq9 => ?_) (fun i9 P9 hq9 => by cases hq9)
  cases hq9
  refine x_aload_nr dX11_hands_146 rfl ?_
  obtain ⟨v10, e11, h⟩ := Option.bind_eq_some_iff.mp h
  refine k_rA e11 dX11_hands_147 f_X11_13 ?_
  refine x_iload_n dX11_hands_150 rfl ?_
  refine x_iconst 2 dX11_hands_151 (by decide) ?_
  obtain ⟨r13, e14, h⟩ := Option.bind_eq_some_iff.mp h
  replace h := xI_ok h
  obtain ⟨v15, P12, rfl, h⟩ := h
  refine x_callS (c_X11_phoneAt hl e14) dX11_hands_152 cw_X11_phoneAt wl_X11_100 ws_X11_phoneAt rfl (by omega) (by decide) rfl (Nat.le_of_ble_eq_true rfl) rfl (fun v9 P9 hq9 => ?_) (fun i9 P9 hq9 => by cases hq9)
  cases hq9
  refine x_dup2 dX11_hands_155 rfl rfl ?_
  obtain ⟨v16, e17, h⟩ := Option.bind_eq_some_iff.mp h
  refine k_aI e17 dX11_hands_156 ?_
  refine x_iconst 1 dX11_hands_157 (by decide) ?_
  refine x_iadd dX11_hands_158 ?_
  obtain ⟨P18, e19, h⟩ := Option.bind_eq_some_iff.mp h
  refine k_sI e19 dX11_hands_159 ?_
  refine x_aload_nr dX11_hands_160 rfl ?_
  obtain ⟨v20, e21, h⟩ := Option.bind_eq_some_iff.mp h
  refine k_rA e21 dX11_hands_161 f_X11_13 ?_
  refine x_iload_n dX11_hands_164 rfl ?_
  refine x_iconst 3 dX11_hands_165 (by decide) ?_
  obtain ⟨r23, e24, h⟩ := Option.bind_eq_some_iff.mp h
  replace h := xI_ok h
  obtain ⟨v25, P22, rfl, h⟩ := h
  refine x_callS (c_X11_phoneAt hl e24) dX11_hands_166 cw_X11_phoneAt wl_X11_100 ws_X11_phoneAt rfl (by omega) (by decide) rfl (Nat.le_of_ble_eq_true rfl) rfl (fun v9 P9 hq9 => ?_) (fun i9 P9 hq9 => by cases hq9)
  cases hq9
  refine x_dup2 dX11_hands_169 rfl rfl ?_
  obtain ⟨v26, e27, h⟩ := Option.bind_eq_some_iff.mp h
  refine k_aI e27 dX11_hands_170 ?_
  refine x_iconst 1 dX11_hands_171 (by decide) ?_
  refine x_iadd dX11_hands_172 ?_
  obtain ⟨P28, e29, h⟩ := Option.bind_eq_some_iff.mp h
  refine k_sI e29 dX11_hands_173 ?_
  refine x_aload_nr dX11_hands_174 rfl ?_
  obtain ⟨v30, e31, h⟩ := Option.bind_eq_some_iff.mp h
  refine k_rA e31 dX11_hands_175 f_X11_13 ?_
  refine x_iload_n dX11_hands_178 rfl ?_
  refine x_iconst 1 dX11_hands_179 (by decide) ?_
  obtain ⟨r33, e34, h⟩ := Option.bind_eq_some_iff.mp h
  replace h := xI_ok h
  obtain ⟨v35, P32, rfl, h⟩ := h
  refine x_callS (c_X11_phoneAt hl e34) dX11_hands_180 cw_X11_phoneAt wl_X11_100 ws_X11_phoneAt rfl (by omega) (by decide) rfl (Nat.le_of_ble_eq_true rfl) rfl (fun v9 P9 hq9 => ?_) (fun i9 P9 hq9 => by cases hq9)
  cases hq9
  refine x_iconst 0 dX11_hands_183 (by decide) ?_
  refine x_aload_nr dX11_hands_184 rfl ?_
  obtain ⟨v36, e37, h⟩ := Option.bind_eq_some_iff.mp h
  refine k_rA e37 dX11_hands_185 f_X11_13 ?_
  refine x_iload_n dX11_hands_188 rfl ?_
  refine x_iconst 1 dX11_hands_189 (by decide) ?_
  obtain ⟨r39, e40, h⟩ := Option.bind_eq_some_iff.mp h
  replace h := xI_ok h
  obtain ⟨v41, P38, rfl, h⟩ := h
  refine x_callS (c_X11_phoneAt hl e40) dX11_hands_190 cw_X11_phoneAt wl_X11_100 ws_X11_phoneAt rfl (by omega) (by decide) rfl (Nat.le_of_ble_eq_true rfl) rfl (fun v9 P9 hq9 => ?_) (fun i9 P9 hq9 => by cases hq9)
  cases hq9
  obtain ⟨v42, e43, h⟩ := Option.bind_eq_some_iff.mp h
  refine k_aI e43 dX11_hands_193 ?_
  refine x_aload_nr dX11_hands_194 rfl ?_
  obtain ⟨_, e48, h⟩ := Option.bind_eq_some_iff.mp h
  obtain ⟨fse48, e48⟩ := kO_ok e48
  obtain ⟨r45, e46, h⟩ := Option.bind_eq_some_iff.mp h
  replace h := xI_ok h
  obtain ⟨v47, P44, rfl, h⟩ := h
  refine x_callV (c_X11_costNow hl e46) dX11_hands_195 cw_X11_costNow wl_X11_286 wi_X11_costNow wse_X11_costNow rfl e48 (by decide) rfl (by omega) (by decide) rfl (Nat.le_of_ble_eq_true rfl) rfl (fun v9 P9 hq9 => ?_) (fun i9 P9 hq9 => by cases hq9)
  cases hq9
  refine x_isub dX11_hands_198 ?_
  refine x_mmax dX11_hands_199 wl_X11_228 (Nat.le_of_ble_eq_true rfl) (by omega) ?_
  obtain ⟨P49, e50, h⟩ := Option.bind_eq_some_iff.mp h
  refine k_sI e50 dX11_hands_202 ?_
  refine x_aload_nr dX11_hands_203 rfl ?_
  obtain ⟨v51, e52, h⟩ := Option.bind_eq_some_iff.mp h
  refine k_rA e52 dX11_hands_204 f_X11_13 ?_
  refine x_iload_n dX11_hands_207 rfl ?_
  refine x_iconst 1 dX11_hands_208 (by decide) ?_
  obtain ⟨r54, e55, h⟩ := Option.bind_eq_some_iff.mp h
  replace h := xI_ok h
  obtain ⟨v56, P53, rfl, h⟩ := h
  refine x_callS (c_X11_phoneAt hl e55) dX11_hands_209 cw_X11_phoneAt wl_X11_100 ws_X11_phoneAt rfl (by omega) (by decide) rfl (Nat.le_of_ble_eq_true rfl) rfl (fun v9 P9 hq9 => ?_) (fun i9 P9 hq9 => by cases hq9)
  cases hq9
  refine x_dup2 dX11_hands_212 rfl rfl ?_
  obtain ⟨v57, e58, h⟩ := Option.bind_eq_some_iff.mp h
  refine k_aI e58 dX11_hands_213 ?_
  refine x_iconst 1 dX11_hands_214 (by decide) ?_
  refine x_isub dX11_hands_215 ?_
  obtain ⟨P59, e60, h⟩ := Option.bind_eq_some_iff.mp h
  refine k_sI e60 dX11_hands_216 ?_
  cases h
  exact x_ret rfl dX11_hands_217 hQ
theorem s_X11_hands {G : xG} {l : Launch} (hl : l.stackTraces = false) : ∀ n pc env P z, f_X11_hands n pc env P = some z → ∀ L st, lay_X11_hands pc env = some (L, st) → ∀ Q : xR → xH → Prop, Q z.1 z.2 → Wp G l 9 mX11_hands pc L st P Q := by
  intro n
  induction n with
  | zero => intro pc env P z h; cases h
  | succ n ih =>
    intro pc env P z h L st hlay Q hQ
    unfold f_X11_hands at h
    split at h
    · cases hlay
      exact t_X11_hands_0 hl ih h hQ
    · cases hlay
      exact t_X11_hands_41 hl ih h hQ
    · cases hlay
      exact t_X11_hands_84 hl ih h hQ
    · cases hlay
      exact t_X11_hands_120 hl ih h hQ
    · cases h
theorem c_X11_hands {G : xG} {l : Launch} (hl : l.stackTraces = false) {n : Nat} {as : List Value} {P : xH} {z : xR × xH} (h : f_X11_hands n 0 as P = some z) : Ct G l 9 mX11_hands as P (fun r P1 => (r, P1) = z) := by
  cases n with
  | zero => cases h
  | succ n =>
    unfold f_X11_hands at h
    split at h
    · exact Ct.of hl (by decide +kernel) wc_X11_hands (Nat.le_of_ble_eq_true rfl) (t_X11_hands_0 hl (s_X11_hands hl _) h rfl)
    all_goals first | (cases h; done) | (rename_i q9 _; exact absurd q9 (by decide)) | (rename_i q9; exact absurd q9 (by decide)) | contradiction
/-! QuakeNetModel.meet(II)V -/
def b_X11_meet_0 (n : Nat) (rec : Nat → List Value → xH → xO) (a0 : Nat) (a1 : Int32) (a2 : Int32) (P : xH) : xO :=
  rec 2 [.ref a0, .int a1, .int a2, .int 0] P
def b_X11_meet_2 (n : Nat) (rec : Nat → List Value → xH → xO) (a0 : Nat) (a1 : Int32) (a2 : Int32) (a3 : Int32) (P : xH) : xO :=
  if 60 ≤ a3 then
    rec 23 [.ref a0, .int a1, .int a2, .int 1] P
  else
    (rA P a0 11 20).bind fun v1 =>
    (sZ P v1 a3 0).bind fun P3 =>
    rec 2 [.ref a0, .int a1, .int a2, .int ((a3 + 1))] P3
def b_X11_meet_23 (n : Nat) (rec : Nat → List Value → xH → xO) (a0 : Nat) (a1 : Int32) (a2 : Int32) (a3 : Int32) (P : xH) : xO :=
  if a3 = 0 then
    some (.inl none, P)
  else
    (rA P a0 11 1).bind fun v1 =>
    (f_X11_phoneAt n 0 [.int a1, .int 1] P).bind fun r4 => xI r4 fun v6 P3 =>
    (aI P3 v1 v6).bind fun v7 =>
    if v7 ≤ 0 then
      some (.inl none, P3)
    else
      (rA P3 a0 11 1).bind fun v9 =>
      (f_X11_phoneAt n 0 [.int a2, .int 1] P3).bind fun r12 => xI r12 fun v14 P11 =>
      (aI P11 v9 v14).bind fun v15 =>
      if v15 ≤ 0 then
        some (.inl none, P11)
      else
        rec 62 [.ref a0, .int a1, .int a2, .int a3, .int ((-1)), .int 0, .int 0] P11
def b_X11_meet_62 (n : Nat) (rec : Nat → List Value → xH → xO) (a0 : Nat) (a1 : Int32) (a2 : Int32) (a3 : Int32) (a4 : Int32) (a5 : Int32) (a6 : Int32) (P : xH) : xO :=
  (kO P a0 11).bind fun _ =>
  (f_X11_words n 0 [.ref a0] P).bind fun r2 => xI r2 fun v4 P1 =>
  if v4 ≤ a6 then
    if a4 < 0 then
      rec 175 [.ref a0, .int a1, .int a2, .int a3, .int a4, .int a5, .int a6, .int 0] P1
    else
      rec 175 [.ref a0, .int a1, .int a2, .int a3, .int a4, .int a5, .int a6, .int 1] P1
  else
    (kO P1 a0 11).bind fun _ =>
    (f_X11_has n 0 [.ref a0, .int a1, .int a6] P1).bind fun r8 => xI r8 fun v10 P7 =>
    if v10 = 0 then
      rec 90 [.ref a0, .int a1, .int a2, .int a3, .int a4, .int a5, .int a6, .int v10, .int a2] P7
    else
      rec 90 [.ref a0, .int a1, .int a2, .int a3, .int a4, .int a5, .int a6, .int v10, .int a1] P7
def b_X11_meet_90 (n : Nat) (rec : Nat → List Value → xH → xO) (a0 : Nat) (a1 : Int32) (a2 : Int32) (a3 : Int32) (a4 : Int32) (a5 : Int32) (a6 : Int32) (a7 : Int32) (s0 : Int32) (P : xH) : xO :=
  if a7 = 0 then
    rec 105 [.ref a0, .int a1, .int a2, .int a3, .int a4, .int a5, .int a6, .int a7, .int s0, .ref a0, .int s0, .int a1] P
  else
    rec 105 [.ref a0, .int a1, .int a2, .int a3, .int a4, .int a5, .int a6, .int a7, .int s0, .ref a0, .int s0, .int a2] P
def b_X11_meet_105 (n : Nat) (rec : Nat → List Value → xH → xO) (a0 : Nat) (a1 : Int32) (a2 : Int32) (a3 : Int32) (a4 : Int32) (a5 : Int32) (a6 : Int32) (a7 : Int32) (a8 : Int32) (s0 : Nat) (s1 : Int32) (s2 : Int32) (P : xH) : xO :=
  if a7 = 0 then
    rec 115 [.ref a0, .int a1, .int a2, .int a3, .int a4, .int a5, .int a6, .int a7, .int a8, .ref s0, .int s1, .int s2, .int 0] P
  else
    rec 115 [.ref a0, .int a1, .int a2, .int a3, .int a4, .int a5, .int a6, .int a7, .int a8, .ref s0, .int s1, .int s2, .int 1] P
def b_X11_meet_115 (n : Nat) (rec : Nat → List Value → xH → xO) (a0 : Nat) (a1 : Int32) (a2 : Int32) (a3 : Int32) (a4 : Int32) (a5 : Int32) (a6 : Int32) (a7 : Int32) (a8 : Int32) (s0 : Nat) (s1 : Int32) (s2 : Int32) (s3 : Int32) (P : xH) : xO :=
  (kO P s0 11).bind fun _ =>
  (f_X11_canTake n 0 [.ref s0, .int s1, .int s2, .int s3, .int a6] P).bind fun r2 => xI r2 fun v4 P1 =>
  if ¬ v4 = 0 then
    (kO P1 a0 11).bind fun _ =>
    (f_X11_markOf n 0 [.ref a0, .int a8, .int a6] P1).bind fun r7 => xI r7 fun v9 P6 =>
    if a4 < 0 then
      rec 62 [.ref a0, .int a1, .int a2, .int a3, .int a6, .int v9, .int ((a6 + 1))] P6
    else
      if a5 < v9 then
        rec 62 [.ref a0, .int a1, .int a2, .int a3, .int a6, .int v9, .int ((a6 + 1))] P6
      else
        rec 62 [.ref a0, .int a1, .int a2, .int a3, .int a4, .int a5, .int ((a6 + 1))] P6
  else
    rec 62 [.ref a0, .int a1, .int a2, .int a3, .int a4, .int a5, .int ((a6 + 1))] P1
def b_X11_meet_175 (n : Nat) (rec : Nat → List Value → xH → xO) (a0 : Nat) (a1 : Int32) (a2 : Int32) (a3 : Int32) (a4 : Int32) (a5 : Int32) (a6 : Int32) (s0 : Int32) (P : xH) : xO :=
  if ¬ s0 = 0 then
    (kO P a0 11).bind fun _ =>
    (f_X11_has n 0 [.ref a0, .int a1, .int a4] P).bind fun r2 => xI r2 fun v4 P1 =>
    if v4 = 0 then
      (kO P1 a0 11).bind fun _ =>
      (f_X11_hands n 0 [.ref a0, .int a2, .int a1, .int 0, .int a4] P1).bind fun r7 => xU r7 fun P6 =>
      rec 23 [.ref a0, .int a1, .int a2, .int s0] P6
    else
      (kO P1 a0 11).bind fun _ =>
      (f_X11_hands n 0 [.ref a0, .int a1, .int a2, .int 1, .int a4] P1).bind fun r11 => xU r11 fun P10 =>
      rec 23 [.ref a0, .int a1, .int a2, .int s0] P10
  else
    rec 23 [.ref a0, .int a1, .int a2, .int s0] P
def lay_X11_meet : Nat → List Value → Option (xL × List Value)
  | 0, [a0, a1, a2] => some ([some a0, some a1, some a2, none, none, none, none, none, none, none], [])
  | 2, [a0, a1, a2, a3] => some ([some a0, some a1, some a2, some a3, none, none, none, none, none, none], [])
  | 23, [a0, a1, a2, a3] => some ([some a0, some a1, some a2, some a3, none, none, none, none, none, none], [])
  | 62, [a0, a1, a2, a3, a4, a5, a6] => some ([some a0, some a1, some a2, some a3, some a4, some a5, some a6, none, none, none], [])
  | 90, [a0, a1, a2, a3, a4, a5, a6, a7, s0] => some ([some a0, some a1, some a2, some a3, some a4, some a5, some a6, some a7, none, none], [s0])
  | 105, [a0, a1, a2, a3, a4, a5, a6, a7, a8, s0, s1, s2] => some ([some a0, some a1, some a2, some a3, some a4, some a5, some a6, some a7, some a8, none], [s2, s1, s0])
  | 115, [a0, a1, a2, a3, a4, a5, a6, a7, a8, s0, s1, s2, s3] => some ([some a0, some a1, some a2, some a3, some a4, some a5, some a6, some a7, some a8, none], [s3, s2, s1, s0])
  | 175, [a0, a1, a2, a3, a4, a5, a6, s0] => some ([some a0, some a1, some a2, some a3, some a4, some a5, some a6, none, none, none], [s0])
  | _, _ => none
def f_X11_meet : Nat → Nat → List Value → xH → xO
  | 0 => fun _ _ _ => none
  | n + 1 => fun pc env P => match pc, env with
    | 0, [.ref a0, .int a1, .int a2] => b_X11_meet_0 n (f_X11_meet n) a0 a1 a2 P
    | 2, [.ref a0, .int a1, .int a2, .int a3] => b_X11_meet_2 n (f_X11_meet n) a0 a1 a2 a3 P
    | 23, [.ref a0, .int a1, .int a2, .int a3] => b_X11_meet_23 n (f_X11_meet n) a0 a1 a2 a3 P
    | 62, [.ref a0, .int a1, .int a2, .int a3, .int a4, .int a5, .int a6] => b_X11_meet_62 n (f_X11_meet n) a0 a1 a2 a3 a4 a5 a6 P
    | 90, [.ref a0, .int a1, .int a2, .int a3, .int a4, .int a5, .int a6, .int a7, .int s0] => b_X11_meet_90 n (f_X11_meet n) a0 a1 a2 a3 a4 a5 a6 a7 s0 P
    | 105, [.ref a0, .int a1, .int a2, .int a3, .int a4, .int a5, .int a6, .int a7, .int a8, .ref s0, .int s1, .int s2] => b_X11_meet_105 n (f_X11_meet n) a0 a1 a2 a3 a4 a5 a6 a7 a8 s0 s1 s2 P
    | 115, [.ref a0, .int a1, .int a2, .int a3, .int a4, .int a5, .int a6, .int a7, .int a8, .ref s0, .int s1, .int s2, .int s3] => b_X11_meet_115 n (f_X11_meet n) a0 a1 a2 a3 a4 a5 a6 a7 a8 s0 s1 s2 s3 P
    | 175, [.ref a0, .int a1, .int a2, .int a3, .int a4, .int a5, .int a6, .int s0] => b_X11_meet_175 n (f_X11_meet n) a0 a1 a2 a3 a4 a5 a6 s0 P
    | _, _ => none
set_option maxHeartbeats 2000000 in
set_option maxRecDepth 20000 in
theorem t_X11_meet_0 {G : xG} {l : Launch} (hl : l.stackTraces = false) {n : Nat} {rec : Nat → List Value → xH → xO} (hrec : ∀ pc env P z, rec pc env P = some z → ∀ L st, lay_X11_meet pc env = some (L, st) → ∀ Q : xR → xH → Prop, Q z.1 z.2 → Wp G l 10 mX11_meet pc L st P Q) {a0 a1 a2} {P : xH} {z : xR × xH} (h : b_X11_meet_0 n rec a0 a1 a2 P = some z) {Q : xR → xH → Prop} (hQ : Q z.1 z.2) : Wp G l 10 mX11_meet 0 [some (.ref a0), some (.int a1), some (.int a2), none, none, none, none, none, none, none] [] P Q := by
  unfold b_X11_meet_0 at h
  refine x_iconst 0 dX11_meet_0 (by decide) ?_
  refine x_istore_n dX11_meet_1 (Nat.le_of_ble_eq_true rfl) ?_
  exact Wp.mask [true, true, true, true, false, false, false, false, false, false] (hrec 2 _ _ _ h _ _ rfl _ hQ)
set_option maxHeartbeats 2000000 in
set_option maxRecDepth 20000 in
theorem t_X11_meet_2 {G : xG} {l : Launch} (hl : l.stackTraces = false) {n : Nat} {rec : Nat → List Value → xH → xO} (hrec : ∀ pc env P z, rec pc env P = some z → ∀ L st, lay_X11_meet pc env = some (L, st) → ∀ Q : xR → xH → Prop, Q z.1 z.2 → Wp G l 10 mX11_meet pc L st P Q) {a0 a1 a2 a3} {P : xH} {z : xR × xH} (h : b_X11_meet_2 n rec a0 a1 a2 a3 P = some z) {Q : xR → xH → Prop} (hQ : Q z.1 z.2) : Wp G l 10 mX11_meet 2 [some (.ref a0), some (.int a1), some (.int a2), some (.int a3), none, none, none, none, none, none] [] P Q := by
  unfold b_X11_meet_2 at h
  refine x_iload_n dX11_meet_2 rfl ?_
  refine x_bipush 60 dX11_meet_3 (by decide) ?_
  refine x_icmp_ge 21 dX11_meet_5 (by decide) (fun q5 => ?_) (fun q5 => ?_)
  · rw [if_pos q5] at h
    refine x_iconst 1 dX11_meet_21 (by decide) ?_
    refine x_istore_n dX11_meet_22 (Nat.le_of_ble_eq_true rfl) ?_
    exact Wp.mask [true, true, true, true, false, false, false, false, false, false] (hrec 23 _ _ _ h _ _ rfl _ hQ)
  · rw [if_neg q5] at h
    refine x_aload_nr dX11_meet_8 rfl ?_
    obtain ⟨v1, e2, h⟩ := Option.bind_eq_some_iff.mp h
    refine k_rA e2 dX11_meet_9 f_X11_46 ?_
    refine x_iload_n dX11_meet_12 rfl ?_
    refine x_iconst 0 dX11_meet_13 (by decide) ?_
    obtain ⟨P3, e4, h⟩ := Option.bind_eq_some_iff.mp h
    refine k_sZ e4 dX11_meet_14 ?_
    refine x_iinc (a3 + 1) dX11_meet_15 rfl (by rfl) ?_
    refine x_goto 2 dX11_meet_18 (by decide) ?_
    exact Wp.mask [true, true, true, true, false, false, false, false, false, false] (hrec 2 _ _ _ h _ _ rfl _ hQ)
set_option maxHeartbeats 2000000 in
set_option maxRecDepth 20000 in
theorem t_X11_meet_23 {G : xG} {l : Launch} (hl : l.stackTraces = false) {n : Nat} {rec : Nat → List Value → xH → xO} (hrec : ∀ pc env P z, rec pc env P = some z → ∀ L st, lay_X11_meet pc env = some (L, st) → ∀ Q : xR → xH → Prop, Q z.1 z.2 → Wp G l 10 mX11_meet pc L st P Q) {a0 a1 a2 a3} {P : xH} {z : xR × xH} (h : b_X11_meet_23 n rec a0 a1 a2 a3 P = some z) {Q : xR → xH → Prop} (hQ : Q z.1 z.2) : Wp G l 10 mX11_meet 23 [some (.ref a0), some (.int a1), some (.int a2), some (.int a3), none, none, none, none, none, none] [] P Q := by
  unfold b_X11_meet_23 at h
  refine x_iload_n dX11_meet_23 rfl ?_
  refine x_if_eq 217 dX11_meet_24 (by decide) (fun q19 => ?_) (fun q19 => ?_)
  · rw [if_pos q19] at h
    cases h
    exact x_ret rfl dX11_meet_217 hQ
  · rw [if_neg q19] at h
    refine x_aload_nr dX11_meet_27 rfl ?_
    obtain ⟨v1, e2, h⟩ := Option.bind_eq_some_iff.mp h
    refine k_rA e2 dX11_meet_28 f_X11_13 ?_
    refine x_iload_n dX11_meet_31 rfl ?_
    refine x_iconst 1 dX11_meet_32 (by decide) ?_
    obtain ⟨r4, e5, h⟩ := Option.bind_eq_some_iff.mp h
    replace h := xI_ok h
    obtain ⟨v6, P3, rfl, h⟩ := h
    refine x_callS (c_X11_phoneAt hl e5) dX11_meet_33 cw_X11_phoneAt wl_X11_100 ws_X11_phoneAt rfl (by omega) (by decide) rfl (Nat.le_of_ble_eq_true rfl) rfl (fun v9 P9 hq9 => ?_) (fun i9 P9 hq9 => by cases hq9)
    cases hq9
    obtain ⟨v7, e8, h⟩ := Option.bind_eq_some_iff.mp h
    refine k_aI e8 dX11_meet_36 ?_
    refine x_if_le 217 dX11_meet_37 (by decide) (fun q18 => ?_) (fun q18 => ?_)
    · rw [if_pos q18] at h
      cases h
      exact x_ret rfl dX11_meet_217 hQ
    · rw [if_neg q18] at h
      refine x_aload_nr dX11_meet_40 rfl ?_
      obtain ⟨v9, e10, h⟩ := Option.bind_eq_some_iff.mp h
      refine k_rA e10 dX11_meet_41 f_X11_13 ?_
      refine x_iload_n dX11_meet_44 rfl ?_
      refine x_iconst 1 dX11_meet_45 (by decide) ?_
      obtain ⟨r12, e13, h⟩ := Option.bind_eq_some_iff.mp h
      replace h := xI_ok h
      obtain ⟨v14, P11, rfl, h⟩ := h
      refine x_callS (c_X11_phoneAt hl e13) dX11_meet_46 cw_X11_phoneAt wl_X11_100 ws_X11_phoneAt rfl (by omega) (by decide) rfl (Nat.le_of_ble_eq_true rfl) rfl (fun v9 P9 hq9 => ?_) (fun i9 P9 hq9 => by cases hq9)
      cases hq9
      obtain ⟨v15, e16, h⟩ := Option.bind_eq_some_iff.mp h
      refine k_aI e16 dX11_meet_49 ?_
      refine x_if_le 217 dX11_meet_50 (by decide) (fun q17 => ?_) (fun q17 => ?_)
      · rw [if_pos q17] at h
        cases h
        exact x_ret rfl dX11_meet_217 hQ
      · rw [if_neg q17] at h
        refine x_iconst (-1) dX11_meet_53 (by decide) ?_
        refine x_istore dX11_meet_54 (Nat.le_of_ble_eq_true rfl) ?_
        refine x_iconst 0 dX11_meet_56 (by decide) ?_
        refine x_istore dX11_meet_57 (Nat.le_of_ble_eq_true rfl) ?_
        refine x_iconst 0 dX11_meet_59 (by decide) ?_
        refine x_istore dX11_meet_60 (Nat.le_of_ble_eq_true rfl) ?_
        exact Wp.mask [true, true, true, true, true, true, true, false, false, false] (hrec 62 _ _ _ h _ _ rfl _ hQ)
set_option maxHeartbeats 2000000 in
set_option maxRecDepth 20000 in
theorem t_X11_meet_62 {G : xG} {l : Launch} (hl : l.stackTraces = false) {n : Nat} {rec : Nat → List Value → xH → xO} (hrec : ∀ pc env P z, rec pc env P = some z → ∀ L st, lay_X11_meet pc env = some (L, st) → ∀ Q : xR → xH → Prop, Q z.1 z.2 → Wp G l 10 mX11_meet pc L st P Q) {a0 a1 a2 a3 a4 a5 a6} {P : xH} {z : xR × xH} (h : b_X11_meet_62 n rec a0 a1 a2 a3 a4 a5 a6 P = some z) {Q : xR → xH → Prop} (hQ : Q z.1 z.2) : Wp G l 10 mX11_meet 62 [some (.ref a0), some (.int a1), some (.int a2), some (.int a3), some (.int a4), some (.int a5), some (.int a6), none, none, none] [] P Q := by
  unfold b_X11_meet_62 at h
  refine x_iload dX11_meet_62 rfl ?_
  refine x_aload_nr dX11_meet_64 rfl ?_
  obtain ⟨_, e5, h⟩ := Option.bind_eq_some_iff.mp h
  obtain ⟨fse5, e5⟩ := kO_ok e5
  obtain ⟨r2, e3, h⟩ := Option.bind_eq_some_iff.mp h
  replace h := xI_ok h
  obtain ⟨v4, P1, rfl, h⟩ := h
  refine x_callV (c_X11_words hl e3) dX11_meet_65 cw_X11_words wl_X11_72 wi_X11_words wse_X11_words rfl e5 (by decide) rfl (by omega) (by decide) rfl (Nat.le_of_ble_eq_true rfl) rfl (fun v9 P9 hq9 => ?_) (fun i9 P9 hq9 => by cases hq9)
  cases hq9
  refine x_icmp_ge 165 dX11_meet_68 (by decide) (fun q13 => ?_) (fun q13 => ?_)
  · rw [if_pos q13] at h
    refine x_iload dX11_meet_165 rfl ?_
    refine x_if_lt 174 dX11_meet_167 (by decide) (fun q6 => ?_) (fun q6 => ?_)
    · rw [if_pos q6] at h
      refine x_iconst 0 dX11_meet_174 (by decide) ?_
      exact Wp.mask [true, true, true, true, true, true, true, false, false, false] (hrec 175 _ _ _ h _ _ rfl _ hQ)
    · rw [if_neg q6] at h
      refine x_iconst 1 dX11_meet_170 (by decide) ?_
      refine x_goto 175 dX11_meet_171 (by decide) ?_
      exact Wp.mask [true, true, true, true, true, true, true, false, false, false] (hrec 175 _ _ _ h _ _ rfl _ hQ)
  · rw [if_neg q13] at h
    refine x_aload_nr dX11_meet_71 rfl ?_
    refine x_iload_n dX11_meet_72 rfl ?_
    refine x_iload dX11_meet_73 rfl ?_
    obtain ⟨_, e11, h⟩ := Option.bind_eq_some_iff.mp h
    obtain ⟨fse11, e11⟩ := kO_ok e11
    obtain ⟨r8, e9, h⟩ := Option.bind_eq_some_iff.mp h
    replace h := xI_ok h
    obtain ⟨v10, P7, rfl, h⟩ := h
    refine x_callV (c_X11_has hl e9) dX11_meet_75 cw_X11_has wl_X11_237 wi_X11_has wse_X11_has rfl e11 (by decide) rfl (by omega) (by decide) rfl (Nat.le_of_ble_eq_true rfl) rfl (fun v9 P9 hq9 => ?_) (fun i9 P9 hq9 => by cases hq9)
    cases hq9
    refine x_istore dX11_meet_78 (Nat.le_of_ble_eq_true rfl) ?_
    refine x_iload dX11_meet_80 rfl ?_
    refine x_if_eq 89 dX11_meet_82 (by decide) (fun q12 => ?_) (fun q12 => ?_)
    · rw [if_pos q12] at h
      refine x_iload_n dX11_meet_89 rfl ?_
      exact Wp.mask [true, true, true, true, true, true, true, true, false, false] (hrec 90 _ _ _ h _ _ rfl _ hQ)
    · rw [if_neg q12] at h
      refine x_iload_n dX11_meet_85 rfl ?_
      refine x_goto 90 dX11_meet_86 (by decide) ?_
      exact Wp.mask [true, true, true, true, true, true, true, true, false, false] (hrec 90 _ _ _ h _ _ rfl _ hQ)
set_option maxHeartbeats 2000000 in
set_option maxRecDepth 20000 in
theorem t_X11_meet_90 {G : xG} {l : Launch} (hl : l.stackTraces = false) {n : Nat} {rec : Nat → List Value → xH → xO} (hrec : ∀ pc env P z, rec pc env P = some z → ∀ L st, lay_X11_meet pc env = some (L, st) → ∀ Q : xR → xH → Prop, Q z.1 z.2 → Wp G l 10 mX11_meet pc L st P Q) {a0 a1 a2 a3 a4 a5 a6 a7 s0} {P : xH} {z : xR × xH} (h : b_X11_meet_90 n rec a0 a1 a2 a3 a4 a5 a6 a7 s0 P = some z) {Q : xR → xH → Prop} (hQ : Q z.1 z.2) : Wp G l 10 mX11_meet 90 [some (.ref a0), some (.int a1), some (.int a2), some (.int a3), some (.int a4), some (.int a5), some (.int a6), some (.int a7), none, none] [.int s0] P Q := by
  unfold b_X11_meet_90 at h
  refine x_istore dX11_meet_90 (Nat.le_of_ble_eq_true rfl) ?_
  refine x_aload_nr dX11_meet_92 rfl ?_
  refine x_iload dX11_meet_93 rfl ?_
  refine x_iload dX11_meet_95 rfl ?_
  refine x_if_eq 104 dX11_meet_97 (by decide) (fun q1 => ?_) (fun q1 => ?_)
  · rw [if_pos q1] at h
    refine x_iload_n dX11_meet_104 rfl ?_
    exact Wp.mask [true, true, true, true, true, true, true, true, true, false] (hrec 105 _ _ _ h _ _ rfl _ hQ)
  · rw [if_neg q1] at h
    refine x_iload_n dX11_meet_100 rfl ?_
    refine x_goto 105 dX11_meet_101 (by decide) ?_
    exact Wp.mask [true, true, true, true, true, true, true, true, true, false] (hrec 105 _ _ _ h _ _ rfl _ hQ)
set_option maxHeartbeats 2000000 in
set_option maxRecDepth 20000 in
theorem t_X11_meet_105 {G : xG} {l : Launch} (hl : l.stackTraces = false) {n : Nat} {rec : Nat → List Value → xH → xO} (hrec : ∀ pc env P z, rec pc env P = some z → ∀ L st, lay_X11_meet pc env = some (L, st) → ∀ Q : xR → xH → Prop, Q z.1 z.2 → Wp G l 10 mX11_meet pc L st P Q) {a0 a1 a2 a3 a4 a5 a6 a7 a8 s0 s1 s2} {P : xH} {z : xR × xH} (h : b_X11_meet_105 n rec a0 a1 a2 a3 a4 a5 a6 a7 a8 s0 s1 s2 P = some z) {Q : xR → xH → Prop} (hQ : Q z.1 z.2) : Wp G l 10 mX11_meet 105 [some (.ref a0), some (.int a1), some (.int a2), some (.int a3), some (.int a4), some (.int a5), some (.int a6), some (.int a7), some (.int a8), none] [.int s2, .int s1, .ref s0] P Q := by
  unfold b_X11_meet_105 at h
  refine x_iload dX11_meet_105 rfl ?_
  refine x_if_eq 114 dX11_meet_107 (by decide) (fun q1 => ?_) (fun q1 => ?_)
  · rw [if_pos q1] at h
    refine x_iconst 0 dX11_meet_114 (by decide) ?_
    exact Wp.mask [true, true, true, true, true, true, true, true, true, false] (hrec 115 _ _ _ h _ _ rfl _ hQ)
  · rw [if_neg q1] at h
    refine x_iconst 1 dX11_meet_110 (by decide) ?_
    refine x_goto 115 dX11_meet_111 (by decide) ?_
    exact Wp.mask [true, true, true, true, true, true, true, true, true, false] (hrec 115 _ _ _ h _ _ rfl _ hQ)
set_option maxHeartbeats 2000000 in
set_option maxRecDepth 20000 in
theorem t_X11_meet_115 {G : xG} {l : Launch} (hl : l.stackTraces = false) {n : Nat} {rec : Nat → List Value → xH → xO} (hrec : ∀ pc env P z, rec pc env P = some z → ∀ L st, lay_X11_meet pc env = some (L, st) → ∀ Q : xR → xH → Prop, Q z.1 z.2 → Wp G l 10 mX11_meet pc L st P Q) {a0 a1 a2 a3 a4 a5 a6 a7 a8 s0 s1 s2 s3} {P : xH} {z : xR × xH} (h : b_X11_meet_115 n rec a0 a1 a2 a3 a4 a5 a6 a7 a8 s0 s1 s2 s3 P = some z) {Q : xR → xH → Prop} (hQ : Q z.1 z.2) : Wp G l 10 mX11_meet 115 [some (.ref a0), some (.int a1), some (.int a2), some (.int a3), some (.int a4), some (.int a5), some (.int a6), some (.int a7), some (.int a8), none] [.int s3, .int s2, .int s1, .ref s0] P Q := by
  unfold b_X11_meet_115 at h
  refine x_iload dX11_meet_115 rfl ?_
  obtain ⟨_, e5, h⟩ := Option.bind_eq_some_iff.mp h
  obtain ⟨fse5, e5⟩ := kO_ok e5
  obtain ⟨r2, e3, h⟩ := Option.bind_eq_some_iff.mp h
  replace h := xI_ok h
  obtain ⟨v4, P1, rfl, h⟩ := h
  refine x_callV (c_X11_canTake hl e3) dX11_meet_117 cw_X11_canTake wl_X11_289 wi_X11_canTake wse_X11_canTake rfl e5 (by decide) rfl (by omega) (by decide) rfl (Nat.le_of_ble_eq_true rfl) rfl (fun v9 P9 hq9 => ?_) (fun i9 P9 hq9 => by cases hq9)
  cases hq9
  refine x_if_ne 126 dX11_meet_120 (by decide) (fun q13 => ?_) (fun q13 => ?_)
  · rw [if_pos q13] at h
    refine x_aload_nr dX11_meet_126 rfl ?_
    refine x_iload dX11_meet_127 rfl ?_
    refine x_iload dX11_meet_129 rfl ?_
    obtain ⟨_, e10, h⟩ := Option.bind_eq_some_iff.mp h
    obtain ⟨fse10, e10⟩ := kO_ok e10
    obtain ⟨r7, e8, h⟩ := Option.bind_eq_some_iff.mp h
    replace h := xI_ok h
    obtain ⟨v9, P6, rfl, h⟩ := h
    refine x_callV (c_X11_markOf hl e8) dX11_meet_131 cw_X11_markOf wl_X11_258 wi_X11_markOf wse_X11_markOf rfl e10 (by decide) rfl (by omega) (by decide) rfl (Nat.le_of_ble_eq_true rfl) rfl (fun v9 P9 hq9 => ?_) (fun i9 P9 hq9 => by cases hq9)
    cases hq9
    refine x_istore dX11_meet_134 (Nat.le_of_ble_eq_true rfl) ?_
    refine x_iload dX11_meet_136 rfl ?_
    refine x_if_lt 151 dX11_meet_138 (by decide) (fun q12 => ?_) (fun q12 => ?_)
    · rw [if_pos q12] at h
      refine x_iload dX11_meet_151 rfl ?_
      refine x_istore dX11_meet_153 (Nat.le_of_ble_eq_true rfl) ?_
      refine x_iload dX11_meet_155 rfl ?_
      refine x_istore dX11_meet_157 (Nat.le_of_ble_eq_true rfl) ?_
      refine x_iinc (a6 + 1) dX11_meet_159 rfl (by rfl) ?_
      refine x_goto 62 dX11_meet_162 (by decide) ?_
      exact Wp.mask [true, true, true, true, true, true, true, false, false, false] (hrec 62 _ _ _ h _ _ rfl _ hQ)
    · rw [if_neg q12] at h
      refine x_iload dX11_meet_141 rfl ?_
      refine x_iload dX11_meet_143 rfl ?_
      refine x_icmp_gt 151 dX11_meet_145 (by decide) (fun q11 => ?_) (fun q11 => ?_)
      · rw [if_pos q11] at h
        refine x_iload dX11_meet_151 rfl ?_
        refine x_istore dX11_meet_153 (Nat.le_of_ble_eq_true rfl) ?_
        refine x_iload dX11_meet_155 rfl ?_
        refine x_istore dX11_meet_157 (Nat.le_of_ble_eq_true rfl) ?_
        refine x_iinc (a6 + 1) dX11_meet_159 rfl (by rfl) ?_
        refine x_goto 62 dX11_meet_162 (by decide) ?_
        exact Wp.mask [true, true, true, true, true, true, true, false, false, false] (hrec 62 _ _ _ h _ _ rfl _ hQ)
      · rw [if_neg q11] at h
        refine x_goto 159 dX11_meet_148 (by decide) ?_
        refine x_iinc (a6 + 1) dX11_meet_159 rfl (by rfl) ?_
        refine x_goto 62 dX11_meet_162 (by decide) ?_
        exact Wp.mask [true, true, true, true, true, true, true, false, false, false] (hrec 62 _ _ _ h _ _ rfl _ hQ)
  · rw [if_neg (fun z9 => z9 q13)] at h
    refine x_goto 159 dX11_meet_123 (by decide) ?_
    refine x_iinc (a6 + 1) dX11_meet_159 rfl (by rfl) ?_
    refine x_goto 62 dX11_meet_162 (by decide) ?_
    exact Wp.mask [true, true, true, true, true, true, true, false, false, false] (hrec 62 _ _ _ h _ _ rfl _ hQ)
set_option maxHeartbeats 2000000 in
set_option maxRecDepth 20000 in
theorem t_X11_meet_175 {G : xG} {l : Launch} (hl : l.stackTraces = false) {n : Nat} {rec : Nat → List Value → xH → xO} (hrec : ∀ pc env P z, rec pc env P = some z → ∀ L st, lay_X11_meet pc env = some (L, st) → ∀ Q : xR → xH → Prop, Q z.1 z.2 → Wp G l 10 mX11_meet pc L st P Q) {a0 a1 a2 a3 a4 a5 a6 s0} {P : xH} {z : xR × xH} (h : b_X11_meet_175 n rec a0 a1 a2 a3 a4 a5 a6 s0 P = some z) {Q : xR → xH → Prop} (hQ : Q z.1 z.2) : Wp G l 10 mX11_meet 175 [some (.ref a0), some (.int a1), some (.int a2), some (.int a3), some (.int a4), some (.int a5), some (.int a6), none, none, none] [.int s0] P Q := by
  unfold b_X11_meet_175 at h
  refine x_istore_n dX11_meet_175 (Nat.le_of_ble_eq_true rfl) ?_
  refine x_iload_n dX11_meet_176 rfl ?_
  refine x_if_ne 183 dX11_meet_177 (by decide) (fun q15 => ?_) (fun q15 => ?_)
  · rw [if_pos q15] at h
    refine x_aload_nr dX11_meet_183 rfl ?_
    refine x_iload_n dX11_meet_184 rfl ?_
    refine x_iload dX11_meet_185 rfl ?_
    obtain ⟨_, e5, h⟩ := Option.bind_eq_some_iff.mp h
    obtain ⟨fse5, e5⟩ := kO_ok e5
    obtain ⟨r2, e3, h⟩ := Option.bind_eq_some_iff.mp h
    replace h := xI_ok h
    obtain ⟨v4, P1, rfl, h⟩ := h
    refine x_callV (c_X11_has hl e3) dX11_meet_187 cw_X11_has wl_X11_237 wi_X11_has wse_X11_has rfl e5 (by decide) rfl (by omega) (by decide) rfl (Nat.le_of_ble_eq_true rfl) rfl (fun v9 P9 hq9 => ?_) (fun i9 P9 hq9 => by cases hq9)
    cases hq9
    refine x_if_eq 205 dX11_meet_190 (by decide) (fun q14 => ?_) (fun q14 => ?_)
    · rw [if_pos q14] at h
      refine x_aload_nr dX11_meet_205 rfl ?_
      refine x_iload_n dX11_meet_206 rfl ?_
      refine x_iload_n dX11_meet_207 rfl ?_
      refine x_iconst 0 dX11_meet_208 (by decide) ?_
      refine x_iload dX11_meet_209 rfl ?_
      obtain ⟨_, e9, h⟩ := Option.bind_eq_some_iff.mp h
      obtain ⟨fse9, e9⟩ := kO_ok e9
      obtain ⟨r7, e8, h⟩ := Option.bind_eq_some_iff.mp h
      replace h := xU_ok h
      obtain ⟨P6, rfl, h⟩ := h
      refine x_callV (c_X11_hands hl e8) dX11_meet_211 cw_X11_hands wl_X11_293 wi_X11_hands wse_X11_hands rfl e9 (by decide) rfl (by omega) (by decide) rfl (Nat.le_of_ble_eq_true rfl) rfl (fun v9 P9 hq9 => ?_) (fun i9 P9 hq9 => by cases hq9)
      cases hq9
      refine x_goto 23 dX11_meet_214 (by decide) ?_
      exact Wp.mask [true, true, true, true, false, false, false, false, false, false] (hrec 23 _ _ _ h _ _ rfl _ hQ)
    · rw [if_neg q14] at h
      refine x_aload_nr dX11_meet_193 rfl ?_
      refine x_iload_n dX11_meet_194 rfl ?_
      refine x_iload_n dX11_meet_195 rfl ?_
      refine x_iconst 1 dX11_meet_196 (by decide) ?_
      refine x_iload dX11_meet_197 rfl ?_
      obtain ⟨_, e13, h⟩ := Option.bind_eq_some_iff.mp h
      obtain ⟨fse13, e13⟩ := kO_ok e13
      obtain ⟨r11, e12, h⟩ := Option.bind_eq_some_iff.mp h
      replace h := xU_ok h
      obtain ⟨P10, rfl, h⟩ := h
      refine x_callV (c_X11_hands hl e12) dX11_meet_199 cw_X11_hands wl_X11_293 wi_X11_hands wse_X11_hands rfl e13 (by decide) rfl (by omega) (by decide) rfl (Nat.le_of_ble_eq_true rfl) rfl (fun v9 P9 hq9 => ?_) (fun i9 P9 hq9 => by cases hq9)
      cases hq9
      refine x_goto 214 dX11_meet_202 (by decide) ?_
      refine x_goto 23 dX11_meet_214 (by decide) ?_
      exact Wp.mask [true, true, true, true, false, false, false, false, false, false] (hrec 23 _ _ _ h _ _ rfl _ hQ)
  · rw [if_neg (fun z9 => z9 q15)] at h
    refine x_goto 23 dX11_meet_180 (by decide) ?_
    exact Wp.mask [true, true, true, true, false, false, false, false, false, false] (hrec 23 _ _ _ h _ _ rfl _ hQ)
theorem s_X11_meet {G : xG} {l : Launch} (hl : l.stackTraces = false) : ∀ n pc env P z, f_X11_meet n pc env P = some z → ∀ L st, lay_X11_meet pc env = some (L, st) → ∀ Q : xR → xH → Prop, Q z.1 z.2 → Wp G l 10 mX11_meet pc L st P Q := by
  intro n
  induction n with
  | zero => intro pc env P z h; cases h
  | succ n ih =>
    intro pc env P z h L st hlay Q hQ
    unfold f_X11_meet at h
    split at h
    · cases hlay
      exact t_X11_meet_0 hl ih h hQ
    · cases hlay
      exact t_X11_meet_2 hl ih h hQ
    · cases hlay
      exact t_X11_meet_23 hl ih h hQ
    · cases hlay
      exact t_X11_meet_62 hl ih h hQ
    · cases hlay
      exact t_X11_meet_90 hl ih h hQ
    · cases hlay
      exact t_X11_meet_105 hl ih h hQ
    · cases hlay
      exact t_X11_meet_115 hl ih h hQ
    · cases hlay
      exact t_X11_meet_175 hl ih h hQ
    · cases h
theorem c_X11_meet {G : xG} {l : Launch} (hl : l.stackTraces = false) {n : Nat} {as : List Value} {P : xH} {z : xR × xH} (h : f_X11_meet n 0 as P = some z) : Ct G l 10 mX11_meet as P (fun r P1 => (r, P1) = z) := by
  cases n with
  | zero => cases h
  | succ n =>
    unfold f_X11_meet at h
    split at h
    · exact Ct.of hl (by decide +kernel) wc_X11_meet (Nat.le_of_ble_eq_true rfl) (t_X11_meet_0 hl (s_X11_meet hl _) h rfl)
    all_goals first | (cases h; done) | (rename_i q9 _; exact absurd q9 (by decide)) | (rename_i q9; exact absurd q9 (by decide)) | contradiction
/-! QuakeNetModel.placeAt(II)I -/
def b_X11_placeAt_0 (n : Nat) (rec : Nat → List Value → xH → xO) (a0 : Nat) (a1 : Int32) (a2 : Int32) (P : xH) : xO :=
  rec 5 [.ref a0, .int a1, .int a2, .int ((-1)), .int 0] P
def b_X11_placeAt_5 (n : Nat) (rec : Nat → List Value → xH → xO) (a0 : Nat) (a1 : Int32) (a2 : Int32) (a3 : Int32) (a4 : Int32) (P : xH) : xO :=
  (rA P a0 11 3).bind fun v1 =>
  (rI P a0 11 7).bind fun v3 =>
  (aI P v1 ((2 + v3))).bind fun v5 =>
  if v5 ≤ a4 then
    if 0 ≤ a3 then
      (rA P a0 11 3).bind fun v7 =>
      (aI P v7 ((a3 + 2))).bind fun v9 =>
      some (.inl (some (.int v9)), P)
    else
      (kO P a0 11).bind fun _ =>
      (f_X11_toldOf n 0 [.ref a0, .int a1, .int 0] P).bind fun r12 => xI r12 fun v14 P11 =>
      some (.inl (some (.int v14)), P11)
  else
    (rI P a0 11 7).bind fun v17 =>
    (rA P a0 11 3).bind fun v19 =>
    (aI P v19 ((41 + ((3 * ((((60 * v17)) + a4))))))).bind fun v21 =>
    if ¬ v21 = a1 then
      rec 5 [.ref a0, .int a1, .int a2, .int a3, .int ((a4 + 1))] P
    else
      (rA P a0 11 3).bind fun v23 =>
      (aI P v23 ((((41 + ((3 * ((((60 * v17)) + a4)))))) + 1))).bind fun v25 =>
      if a2 < v25 then
        rec 5 [.ref a0, .int a1, .int a2, .int a3, .int ((a4 + 1))] P
      else
        if a3 < 0 then
          rec 5 [.ref a0, .int a1, .int a2, .int ((41 + ((3 * ((((60 * v17)) + a4)))))), .int ((a4 + 1))] P
        else
          (rA P a0 11 3).bind fun v27 =>
          (aI P v27 ((((41 + ((3 * ((((60 * v17)) + a4)))))) + 1))).bind fun v29 =>
          (rA P a0 11 3).bind fun v31 =>
          (aI P v31 ((a3 + 1))).bind fun v33 =>
          if v29 < v33 then
            rec 5 [.ref a0, .int a1, .int a2, .int a3, .int ((a4 + 1))] P
          else
            rec 5 [.ref a0, .int a1, .int a2, .int ((41 + ((3 * ((((60 * v17)) + a4)))))), .int ((a4 + 1))] P
def lay_X11_placeAt : Nat → List Value → Option (xL × List Value)
  | 0, [a0, a1, a2] => some ([some a0, some a1, some a2, none, none, none], [])
  | 5, [a0, a1, a2, a3, a4] => some ([some a0, some a1, some a2, some a3, some a4, none], [])
  | _, _ => none
def f_X11_placeAt : Nat → Nat → List Value → xH → xO
  | 0 => fun _ _ _ => none
  | n + 1 => fun pc env P => match pc, env with
    | 0, [.ref a0, .int a1, .int a2] => b_X11_placeAt_0 n (f_X11_placeAt n) a0 a1 a2 P
    | 5, [.ref a0, .int a1, .int a2, .int a3, .int a4] => b_X11_placeAt_5 n (f_X11_placeAt n) a0 a1 a2 a3 a4 P
    | _, _ => none
set_option maxHeartbeats 2000000 in
set_option maxRecDepth 20000 in
theorem t_X11_placeAt_0 {G : xG} {l : Launch} (hl : l.stackTraces = false) {n : Nat} {rec : Nat → List Value → xH → xO} (hrec : ∀ pc env P z, rec pc env P = some z → ∀ L st, lay_X11_placeAt pc env = some (L, st) → ∀ Q : xR → xH → Prop, Q z.1 z.2 → Wp G l 4 mX11_placeAt pc L st P Q) {a0 a1 a2} {P : xH} {z : xR × xH} (h : b_X11_placeAt_0 n rec a0 a1 a2 P = some z) {Q : xR → xH → Prop} (hQ : Q z.1 z.2) : Wp G l 4 mX11_placeAt 0 [some (.ref a0), some (.int a1), some (.int a2), none, none, none] [] P Q := by
  unfold b_X11_placeAt_0 at h
  refine x_iconst (-1) dX11_placeAt_0 (by decide) ?_
  refine x_istore_n dX11_placeAt_1 (Nat.le_of_ble_eq_true rfl) ?_
  refine x_iconst 0 dX11_placeAt_2 (by decide) ?_
  refine x_istore dX11_placeAt_3 (Nat.le_of_ble_eq_true rfl) ?_
  exact Wp.mask [true, true, true, true, true, false] (hrec 5 _ _ _ h _ _ rfl _ hQ)
set_option maxHeartbeats 2000000 in
set_option maxRecDepth 20000 in
theorem t_X11_placeAt_5 {G : xG} {l : Launch} (hl : l.stackTraces = false) {n : Nat} {rec : Nat → List Value → xH → xO} (hrec : ∀ pc env P z, rec pc env P = some z → ∀ L st, lay_X11_placeAt pc env = some (L, st) → ∀ Q : xR → xH → Prop, Q z.1 z.2 → Wp G l 4 mX11_placeAt pc L st P Q) {a0 a1 a2 a3 a4} {P : xH} {z : xR × xH} (h : b_X11_placeAt_5 n rec a0 a1 a2 a3 a4 P = some z) {Q : xR → xH → Prop} (hQ : Q z.1 z.2) : Wp G l 4 mX11_placeAt 5 [some (.ref a0), some (.int a1), some (.int a2), some (.int a3), some (.int a4), none] [] P Q := by
  unfold b_X11_placeAt_5 at h
  refine x_iload dX11_placeAt_5 rfl ?_
  refine x_aload_nr dX11_placeAt_7 rfl ?_
  obtain ⟨v1, e2, h⟩ := Option.bind_eq_some_iff.mp h
  refine k_rA e2 dX11_placeAt_8 f_X11_20 ?_
  refine x_iconst 2 dX11_placeAt_11 (by decide) ?_
  refine x_aload_nr dX11_placeAt_12 rfl ?_
  obtain ⟨v3, e4, h⟩ := Option.bind_eq_some_iff.mp h
  refine k_rI e4 dX11_placeAt_13 f_X11_107 ?_
  refine x_iadd dX11_placeAt_16 ?_
  obtain ⟨v5, e6, h⟩ := Option.bind_eq_some_iff.mp h
  refine k_aI e6 dX11_placeAt_17 ?_
  refine x_icmp_ge 95 dX11_placeAt_18 (by decide) (fun q39 => ?_) (fun q39 => ?_)
  · rw [if_pos q39] at h
    refine x_iload_n dX11_placeAt_95 rfl ?_
    refine x_if_ge 108 dX11_placeAt_96 (by decide) (fun q16 => ?_) (fun q16 => ?_)
    · rw [if_pos q16] at h
      refine x_aload_nr dX11_placeAt_108 rfl ?_
      obtain ⟨v7, e8, h⟩ := Option.bind_eq_some_iff.mp h
      refine k_rA e8 dX11_placeAt_109 f_X11_20 ?_
      refine x_iload_n dX11_placeAt_112 rfl ?_
      refine x_iconst 2 dX11_placeAt_113 (by decide) ?_
      refine x_iadd dX11_placeAt_114 ?_
      obtain ⟨v9, e10, h⟩ := Option.bind_eq_some_iff.mp h
      refine k_aI e10 dX11_placeAt_115 ?_
      cases h
      exact x_iret .int rfl rfl dX11_placeAt_116 hQ
    · rw [if_neg q16] at h
      refine x_aload_nr dX11_placeAt_99 rfl ?_
      refine x_iload_n dX11_placeAt_100 rfl ?_
      refine x_iconst 0 dX11_placeAt_101 (by decide) ?_
      obtain ⟨_, e15, h⟩ := Option.bind_eq_some_iff.mp h
      obtain ⟨fse15, e15⟩ := kO_ok e15
      obtain ⟨r12, e13, h⟩ := Option.bind_eq_some_iff.mp h
      replace h := xI_ok h
      obtain ⟨v14, P11, rfl, h⟩ := h
      refine x_callV (c_X11_toldOf hl e13) dX11_placeAt_102 cw_X11_toldOf wl_X11_110 wi_X11_toldOf wse_X11_toldOf rfl e15 (by decide) rfl (by omega) (by decide) rfl (Nat.le_of_ble_eq_true rfl) rfl (fun v9 P9 hq9 => ?_) (fun i9 P9 hq9 => by cases hq9)
      cases hq9
      refine x_goto 116 dX11_placeAt_105 (by decide) ?_
      cases h
      exact x_iret .int rfl rfl dX11_placeAt_116 hQ
  · rw [if_neg q39] at h
    refine x_bipush 41 dX11_placeAt_21 (by decide) ?_
    refine x_iconst 3 dX11_placeAt_23 (by decide) ?_
    refine x_bipush 60 dX11_placeAt_24 (by decide) ?_
    refine x_aload_nr dX11_placeAt_26 rfl ?_
    obtain ⟨v17, e18, h⟩ := Option.bind_eq_some_iff.mp h
    refine k_rI e18 dX11_placeAt_27 f_X11_107 ?_
    refine x_imul dX11_placeAt_30 ?_
    refine x_iload dX11_placeAt_31 rfl ?_
    refine x_iadd dX11_placeAt_33 ?_
    refine x_imul dX11_placeAt_34 ?_
    refine x_iadd dX11_placeAt_35 ?_
    refine x_istore dX11_placeAt_36 (Nat.le_of_ble_eq_true rfl) ?_
    refine x_aload_nr dX11_placeAt_38 rfl ?_
    obtain ⟨v19, e20, h⟩ := Option.bind_eq_some_iff.mp h
    refine k_rA e20 dX11_placeAt_39 f_X11_20 ?_
    refine x_iload dX11_placeAt_42 rfl ?_
    obtain ⟨v21, e22, h⟩ := Option.bind_eq_some_iff.mp h
    refine k_aI e22 dX11_placeAt_44 ?_
    refine x_iload_n dX11_placeAt_45 rfl ?_
    refine x_icmp_ne 89 dX11_placeAt_46 (by decide) (fun q38 => ?_) (fun q38 => ?_)
    · rw [if_pos q38] at h
      refine x_iinc (a4 + 1) dX11_placeAt_89 rfl (by rfl) ?_
      refine x_goto 5 dX11_placeAt_92 (by decide) ?_
      exact Wp.mask [true, true, true, true, true, false] (hrec 5 _ _ _ h _ _ rfl _ hQ)
    · rw [if_neg (fun z9 => z9 q38)] at h
      refine x_aload_nr dX11_placeAt_49 rfl ?_
      obtain ⟨v23, e24, h⟩ := Option.bind_eq_some_iff.mp h
      refine k_rA e24 dX11_placeAt_50 f_X11_20 ?_
      refine x_iload dX11_placeAt_53 rfl ?_
      refine x_iconst 1 dX11_placeAt_55 (by decide) ?_
      refine x_iadd dX11_placeAt_56 ?_
      obtain ⟨v25, e26, h⟩ := Option.bind_eq_some_iff.mp h
      refine k_aI e26 dX11_placeAt_57 ?_
      refine x_iload_n dX11_placeAt_58 rfl ?_
      refine x_icmp_gt 89 dX11_placeAt_59 (by decide) (fun q37 => ?_) (fun q37 => ?_)
      · rw [if_pos q37] at h
        refine x_iinc (a4 + 1) dX11_placeAt_89 rfl (by rfl) ?_
        refine x_goto 5 dX11_placeAt_92 (by decide) ?_
        exact Wp.mask [true, true, true, true, true, false] (hrec 5 _ _ _ h _ _ rfl _ hQ)
      · rw [if_neg q37] at h
        refine x_iload_n dX11_placeAt_62 rfl ?_
        refine x_if_lt 86 dX11_placeAt_63 (by decide) (fun q36 => ?_) (fun q36 => ?_)
        · rw [if_pos q36] at h
          refine x_iload dX11_placeAt_86 rfl ?_
          refine x_istore_n dX11_placeAt_88 (Nat.le_of_ble_eq_true rfl) ?_
          refine x_iinc (a4 + 1) dX11_placeAt_89 rfl (by rfl) ?_
          refine x_goto 5 dX11_placeAt_92 (by decide) ?_
          exact Wp.mask [true, true, true, true, true, false] (hrec 5 _ _ _ h _ _ rfl _ hQ)
        · rw [if_neg q36] at h
          refine x_aload_nr dX11_placeAt_66 rfl ?_
          obtain ⟨v27, e28, h⟩ := Option.bind_eq_some_iff.mp h
          refine k_rA e28 dX11_placeAt_67 f_X11_20 ?_
          refine x_iload dX11_placeAt_70 rfl ?_
          refine x_iconst 1 dX11_placeAt_72 (by decide) ?_
          refine x_iadd dX11_placeAt_73 ?_
          obtain ⟨v29, e30, h⟩ := Option.bind_eq_some_iff.mp h
          refine k_aI e30 dX11_placeAt_74 ?_
          refine x_aload_nr dX11_placeAt_75 rfl ?_
          obtain ⟨v31, e32, h⟩ := Option.bind_eq_some_iff.mp h
          refine k_rA e32 dX11_placeAt_76 f_X11_20 ?_
          refine x_iload_n dX11_placeAt_79 rfl ?_
          refine x_iconst 1 dX11_placeAt_80 (by decide) ?_
          refine x_iadd dX11_placeAt_81 ?_
          obtain ⟨v33, e34, h⟩ := Option.bind_eq_some_iff.mp h
          refine k_aI e34 dX11_placeAt_82 ?_
          refine x_icmp_lt 89 dX11_placeAt_83 (by decide) (fun q35 => ?_) (fun q35 => ?_)
          · rw [if_pos q35] at h
            refine x_iinc (a4 + 1) dX11_placeAt_89 rfl (by rfl) ?_
            refine x_goto 5 dX11_placeAt_92 (by decide) ?_
            exact Wp.mask [true, true, true, true, true, false] (hrec 5 _ _ _ h _ _ rfl _ hQ)
          · rw [if_neg q35] at h
            refine x_iload dX11_placeAt_86 rfl ?_
            refine x_istore_n dX11_placeAt_88 (Nat.le_of_ble_eq_true rfl) ?_
            refine x_iinc (a4 + 1) dX11_placeAt_89 rfl (by rfl) ?_
            refine x_goto 5 dX11_placeAt_92 (by decide) ?_
            exact Wp.mask [true, true, true, true, true, false] (hrec 5 _ _ _ h _ _ rfl _ hQ)
theorem s_X11_placeAt {G : xG} {l : Launch} (hl : l.stackTraces = false) : ∀ n pc env P z, f_X11_placeAt n pc env P = some z → ∀ L st, lay_X11_placeAt pc env = some (L, st) → ∀ Q : xR → xH → Prop, Q z.1 z.2 → Wp G l 4 mX11_placeAt pc L st P Q := by
  intro n
  induction n with
  | zero => intro pc env P z h; cases h
  | succ n ih =>
    intro pc env P z h L st hlay Q hQ
    unfold f_X11_placeAt at h
    split at h
    · cases hlay
      exact t_X11_placeAt_0 hl ih h hQ
    · cases hlay
      exact t_X11_placeAt_5 hl ih h hQ
    · cases h
theorem c_X11_placeAt {G : xG} {l : Launch} (hl : l.stackTraces = false) {n : Nat} {as : List Value} {P : xH} {z : xR × xH} (h : f_X11_placeAt n 0 as P = some z) : Ct G l 4 mX11_placeAt as P (fun r P1 => (r, P1) = z) := by
  cases n with
  | zero => cases h
  | succ n =>
    unfold f_X11_placeAt at h
    split at h
    · exact Ct.of hl (by decide +kernel) wc_X11_placeAt (Nat.le_of_ble_eq_true rfl) (t_X11_placeAt_0 hl (s_X11_placeAt hl _) h rfl)
    all_goals first | (cases h; done) | (rename_i q9 _; exact absurd q9 (by decide)) | (rename_i q9; exact absurd q9 (by decide)) | contradiction
/-! QuakeNetModel.goesOn()V -/
def b_X11_goesOn_0 (n : Nat) (rec : Nat → List Value → xH → xO) (a0 : Nat) (P : xH) : xO :=
  (rA P a0 11 1).bind fun v1 =>
  (aI P v1 0).bind fun v3 =>
  (sI P v1 0 ((v3 + 1))).bind fun P5 =>
  rec 12 [.ref a0, .int 0] P5
def b_X11_goesOn_12 (n : Nat) (rec : Nat → List Value → xH → xO) (a0 : Nat) (a1 : Int32) (P : xH) : xO :=
  (kO P a0 11).bind fun _ =>
  (f_X11_phones n 0 [.ref a0] P).bind fun r2 => xI r2 fun v4 P1 =>
  if v4 ≤ a1 then
    rec 47 [.ref a0, .int 0] P1
  else
    (rA P1 a0 11 1).bind fun v6 =>
    (f_X11_phoneAt n 0 [.int a1, .int 0] P1).bind fun r9 => xI r9 fun v11 P8 =>
    (kO P8 a0 11).bind fun _ =>
    (f_X11_tick n 0 [.ref a0] P8).bind fun r13 => xI r13 fun v15 P12 =>
    (kO P12 a0 11).bind fun _ =>
    (f_X11_placeAt n 0 [.ref a0, .int a1, .int v15] P12).bind fun r18 => xI r18 fun v20 P17 =>
    (sI P17 v6 v11 v20).bind fun P22 =>
    rec 12 [.ref a0, .int ((a1 + 1))] P22
def b_X11_goesOn_47 (n : Nat) (rec : Nat → List Value → xH → xO) (a0 : Nat) (a1 : Int32) (P : xH) : xO :=
  (kO P a0 11).bind fun _ =>
  (f_X11_phones n 0 [.ref a0] P).bind fun r2 => xI r2 fun v4 P1 =>
  if v4 ≤ a1 then
    rec 108 [.ref a0, .int 0] P1
  else
    rec 57 [.ref a0, .int a1, .int 0] P1
def b_X11_goesOn_57 (n : Nat) (rec : Nat → List Value → xH → xO) (a0 : Nat) (a1 : Int32) (a2 : Int32) (P : xH) : xO :=
  (kO P a0 11).bind fun _ =>
  (f_X11_words n 0 [.ref a0] P).bind fun r2 => xI r2 fun v4 P1 =>
  if v4 ≤ a2 then
    rec 47 [.ref a0, .int ((a1 + 1))] P1
  else
    (kO P1 a0 11).bind fun _ =>
    (f_X11_has n 0 [.ref a0, .int a1, .int a2] P1).bind fun r7 => xI r7 fun v9 P6 =>
    if v9 = 0 then
      rec 57 [.ref a0, .int a1, .int ((a2 + 1))] P6
    else
      (kO P6 a0 11).bind fun _ =>
      (f_X11_isDead n 0 [.ref a0, .int a2] P6).bind fun r12 => xI r12 fun v14 P11 =>
      if v14 = 0 then
        rec 57 [.ref a0, .int a1, .int ((a2 + 1))] P11
      else
        (rA P11 a0 11 1).bind fun v16 =>
        (f_X11_copyAt n 0 [.int a1, .int a2, .int 0] P11).bind fun r19 => xI r19 fun v21 P18 =>
        (sI P18 v16 v21 0).bind fun P22 =>
        rec 57 [.ref a0, .int a1, .int ((a2 + 1))] P22
def b_X11_goesOn_108 (n : Nat) (rec : Nat → List Value → xH → xO) (a0 : Nat) (a1 : Int32) (P : xH) : xO :=
  (kO P a0 11).bind fun _ =>
  (f_X11_phones n 0 [.ref a0] P).bind fun r2 => xI r2 fun v4 P1 =>
  if v4 ≤ a1 then
    some (.inl none, P1)
  else
    rec 120 [.ref a0, .int a1, .int ((a1 + 1))] P1
def b_X11_goesOn_120 (n : Nat) (rec : Nat → List Value → xH → xO) (a0 : Nat) (a1 : Int32) (a2 : Int32) (P : xH) : xO :=
  (kO P a0 11).bind fun _ =>
  (f_X11_phones n 0 [.ref a0] P).bind fun r2 => xI r2 fun v4 P1 =>
  if v4 ≤ a2 then
    rec 108 [.ref a0, .int ((a1 + 1))] P1
  else
    (rA P1 a0 11 1).bind fun v6 =>
    (f_X11_phoneAt n 0 [.int a1, .int 0] P1).bind fun r9 => xI r9 fun v11 P8 =>
    (aI P8 v6 v11).bind fun v12 =>
    (rA P8 a0 11 1).bind fun v14 =>
    (f_X11_phoneAt n 0 [.int a2, .int 0] P8).bind fun r17 => xI r17 fun v19 P16 =>
    (aI P16 v14 v19).bind fun v20 =>
    if ¬ v12 = v20 then
      rec 120 [.ref a0, .int a1, .int ((a2 + 1))] P16
    else
      (kO P16 a0 11).bind fun _ =>
      (f_X11_meet n 0 [.ref a0, .int a1, .int a2] P16).bind fun r23 => xU r23 fun P22 =>
      rec 120 [.ref a0, .int a1, .int ((a2 + 1))] P22
def lay_X11_goesOn : Nat → List Value → Option (xL × List Value)
  | 0, [a0] => some ([some a0, none, none], [])
  | 12, [a0, a1] => some ([some a0, some a1, none], [])
  | 47, [a0, a1] => some ([some a0, some a1, none], [])
  | 57, [a0, a1, a2] => some ([some a0, some a1, some a2], [])
  | 108, [a0, a1] => some ([some a0, some a1, none], [])
  | 120, [a0, a1, a2] => some ([some a0, some a1, some a2], [])
  | _, _ => none
def f_X11_goesOn : Nat → Nat → List Value → xH → xO
  | 0 => fun _ _ _ => none
  | n + 1 => fun pc env P => match pc, env with
    | 0, [.ref a0] => b_X11_goesOn_0 n (f_X11_goesOn n) a0 P
    | 12, [.ref a0, .int a1] => b_X11_goesOn_12 n (f_X11_goesOn n) a0 a1 P
    | 47, [.ref a0, .int a1] => b_X11_goesOn_47 n (f_X11_goesOn n) a0 a1 P
    | 57, [.ref a0, .int a1, .int a2] => b_X11_goesOn_57 n (f_X11_goesOn n) a0 a1 a2 P
    | 108, [.ref a0, .int a1] => b_X11_goesOn_108 n (f_X11_goesOn n) a0 a1 P
    | 120, [.ref a0, .int a1, .int a2] => b_X11_goesOn_120 n (f_X11_goesOn n) a0 a1 a2 P
    | _, _ => none
set_option maxHeartbeats 2000000 in
set_option maxRecDepth 20000 in
theorem t_X11_goesOn_0 {G : xG} {l : Launch} (hl : l.stackTraces = false) {n : Nat} {rec : Nat → List Value → xH → xO} (hrec : ∀ pc env P z, rec pc env P = some z → ∀ L st, lay_X11_goesOn pc env = some (L, st) → ∀ Q : xR → xH → Prop, Q z.1 z.2 → Wp G l 11 mX11_goesOn pc L st P Q) {a0} {P : xH} {z : xR × xH} (h : b_X11_goesOn_0 n rec a0 P = some z) {Q : xR → xH → Prop} (hQ : Q z.1 z.2) : Wp G l 11 mX11_goesOn 0 [some (.ref a0), none, none] [] P Q := by
  unfold b_X11_goesOn_0 at h
  refine x_aload_nr dX11_goesOn_0 rfl ?_
  obtain ⟨v1, e2, h⟩ := Option.bind_eq_some_iff.mp h
  refine k_rA e2 dX11_goesOn_1 f_X11_13 ?_
  refine x_iconst 0 dX11_goesOn_4 (by decide) ?_
  refine x_dup2 dX11_goesOn_5 rfl rfl ?_
  obtain ⟨v3, e4, h⟩ := Option.bind_eq_some_iff.mp h
  refine k_aI e4 dX11_goesOn_6 ?_
  refine x_iconst 1 dX11_goesOn_7 (by decide) ?_
  refine x_iadd dX11_goesOn_8 ?_
  obtain ⟨P5, e6, h⟩ := Option.bind_eq_some_iff.mp h
  refine k_sI e6 dX11_goesOn_9 ?_
  refine x_iconst 0 dX11_goesOn_10 (by decide) ?_
  refine x_istore_n dX11_goesOn_11 (Nat.le_of_ble_eq_true rfl) ?_
  exact Wp.mask [true, true, false] (hrec 12 _ _ _ h _ _ rfl _ hQ)
set_option maxHeartbeats 2000000 in
set_option maxRecDepth 20000 in
theorem t_X11_goesOn_12 {G : xG} {l : Launch} (hl : l.stackTraces = false) {n : Nat} {rec : Nat → List Value → xH → xO} (hrec : ∀ pc env P z, rec pc env P = some z → ∀ L st, lay_X11_goesOn pc env = some (L, st) → ∀ Q : xR → xH → Prop, Q z.1 z.2 → Wp G l 11 mX11_goesOn pc L st P Q) {a0 a1} {P : xH} {z : xR × xH} (h : b_X11_goesOn_12 n rec a0 a1 P = some z) {Q : xR → xH → Prop} (hQ : Q z.1 z.2) : Wp G l 11 mX11_goesOn 12 [some (.ref a0), some (.int a1), none] [] P Q := by
  unfold b_X11_goesOn_12 at h
  refine x_iload_n dX11_goesOn_12 rfl ?_
  refine x_aload_nr dX11_goesOn_13 rfl ?_
  obtain ⟨_, e5, h⟩ := Option.bind_eq_some_iff.mp h
  obtain ⟨fse5, e5⟩ := kO_ok e5
  obtain ⟨r2, e3, h⟩ := Option.bind_eq_some_iff.mp h
  replace h := xI_ok h
  obtain ⟨v4, P1, rfl, h⟩ := h
  refine x_callV (c_X11_phones hl e3) dX11_goesOn_14 cw_X11_phones wl_X11_64 wi_X11_phones wse_X11_phones rfl e5 (by decide) rfl (by omega) (by decide) rfl (Nat.le_of_ble_eq_true rfl) rfl (fun v9 P9 hq9 => ?_) (fun i9 P9 hq9 => by cases hq9)
  cases hq9
  refine x_icmp_ge 45 dX11_goesOn_17 (by decide) (fun q24 => ?_) (fun q24 => ?_)
  · rw [if_pos q24] at h
    refine x_iconst 0 dX11_goesOn_45 (by decide) ?_
    refine x_istore_n dX11_goesOn_46 (Nat.le_of_ble_eq_true rfl) ?_
    exact Wp.mask [true, true, false] (hrec 47 _ _ _ h _ _ rfl _ hQ)
  · rw [if_neg q24] at h
    refine x_aload_nr dX11_goesOn_20 rfl ?_
    obtain ⟨v6, e7, h⟩ := Option.bind_eq_some_iff.mp h
    refine k_rA e7 dX11_goesOn_21 f_X11_13 ?_
    refine x_iload_n dX11_goesOn_24 rfl ?_
    refine x_iconst 0 dX11_goesOn_25 (by decide) ?_
    obtain ⟨r9, e10, h⟩ := Option.bind_eq_some_iff.mp h
    replace h := xI_ok h
    obtain ⟨v11, P8, rfl, h⟩ := h
    refine x_callS (c_X11_phoneAt hl e10) dX11_goesOn_26 cw_X11_phoneAt wl_X11_100 ws_X11_phoneAt rfl (by omega) (by decide) rfl (Nat.le_of_ble_eq_true rfl) rfl (fun v9 P9 hq9 => ?_) (fun i9 P9 hq9 => by cases hq9)
    cases hq9
    refine x_aload_nr dX11_goesOn_29 rfl ?_
    refine x_iload_n dX11_goesOn_30 rfl ?_
    refine x_aload_nr dX11_goesOn_31 rfl ?_
    obtain ⟨_, e16, h⟩ := Option.bind_eq_some_iff.mp h
    obtain ⟨fse16, e16⟩ := kO_ok e16
    obtain ⟨r13, e14, h⟩ := Option.bind_eq_some_iff.mp h
    replace h := xI_ok h
    obtain ⟨v15, P12, rfl, h⟩ := h
    refine x_callV (c_X11_tick hl e14) dX11_goesOn_32 cw_X11_tick wl_X11_97 wi_X11_tick wse_X11_tick rfl e16 (by decide) rfl (by omega) (by decide) rfl (Nat.le_of_ble_eq_true rfl) rfl (fun v9 P9 hq9 => ?_) (fun i9 P9 hq9 => by cases hq9)
    cases hq9
    obtain ⟨_, e21, h⟩ := Option.bind_eq_some_iff.mp h
    obtain ⟨fse21, e21⟩ := kO_ok e21
    obtain ⟨r18, e19, h⟩ := Option.bind_eq_some_iff.mp h
    replace h := xI_ok h
    obtain ⟨v20, P17, rfl, h⟩ := h
    refine x_callV (c_X11_placeAt hl e19) dX11_goesOn_35 cw_X11_placeAt wl_X11_297 wi_X11_placeAt wse_X11_placeAt rfl e21 (by decide) rfl (by omega) (by decide) rfl (Nat.le_of_ble_eq_true rfl) rfl (fun v9 P9 hq9 => ?_) (fun i9 P9 hq9 => by cases hq9)
    cases hq9
    obtain ⟨P22, e23, h⟩ := Option.bind_eq_some_iff.mp h
    refine k_sI e23 dX11_goesOn_38 ?_
    refine x_iinc (a1 + 1) dX11_goesOn_39 rfl (by rfl) ?_
    refine x_goto 12 dX11_goesOn_42 (by decide) ?_
    exact Wp.mask [true, true, false] (hrec 12 _ _ _ h _ _ rfl _ hQ)
set_option maxHeartbeats 2000000 in
set_option maxRecDepth 20000 in
theorem t_X11_goesOn_47 {G : xG} {l : Launch} (hl : l.stackTraces = false) {n : Nat} {rec : Nat → List Value → xH → xO} (hrec : ∀ pc env P z, rec pc env P = some z → ∀ L st, lay_X11_goesOn pc env = some (L, st) → ∀ Q : xR → xH → Prop, Q z.1 z.2 → Wp G l 11 mX11_goesOn pc L st P Q) {a0 a1} {P : xH} {z : xR × xH} (h : b_X11_goesOn_47 n rec a0 a1 P = some z) {Q : xR → xH → Prop} (hQ : Q z.1 z.2) : Wp G l 11 mX11_goesOn 47 [some (.ref a0), some (.int a1), none] [] P Q := by
  unfold b_X11_goesOn_47 at h
  refine x_iload_n dX11_goesOn_47 rfl ?_
  refine x_aload_nr dX11_goesOn_48 rfl ?_
  obtain ⟨_, e5, h⟩ := Option.bind_eq_some_iff.mp h
  obtain ⟨fse5, e5⟩ := kO_ok e5
  obtain ⟨r2, e3, h⟩ := Option.bind_eq_some_iff.mp h
  replace h := xI_ok h
  obtain ⟨v4, P1, rfl, h⟩ := h
  refine x_callV (c_X11_phones hl e3) dX11_goesOn_49 cw_X11_phones wl_X11_64 wi_X11_phones wse_X11_phones rfl e5 (by decide) rfl (by omega) (by decide) rfl (Nat.le_of_ble_eq_true rfl) rfl (fun v9 P9 hq9 => ?_) (fun i9 P9 hq9 => by cases hq9)
  cases hq9
  refine x_icmp_ge 106 dX11_goesOn_52 (by decide) (fun q6 => ?_) (fun q6 => ?_)
  · rw [if_pos q6] at h
    refine x_iconst 0 dX11_goesOn_106 (by decide) ?_
    refine x_istore_n dX11_goesOn_107 (Nat.le_of_ble_eq_true rfl) ?_
    exact Wp.mask [true, true, false] (hrec 108 _ _ _ h _ _ rfl _ hQ)
  · rw [if_neg q6] at h
    refine x_iconst 0 dX11_goesOn_55 (by decide) ?_
    refine x_istore_n dX11_goesOn_56 (Nat.le_of_ble_eq_true rfl) ?_
    exact Wp.mask [true, true, true] (hrec 57 _ _ _ h _ _ rfl _ hQ)
set_option maxHeartbeats 2000000 in
set_option maxRecDepth 20000 in
theorem t_X11_goesOn_57 {G : xG} {l : Launch} (hl : l.stackTraces = false) {n : Nat} {rec : Nat → List Value → xH → xO} (hrec : ∀ pc env P z, rec pc env P = some z → ∀ L st, lay_X11_goesOn pc env = some (L, st) → ∀ Q : xR → xH → Prop, Q z.1 z.2 → Wp G l 11 mX11_goesOn pc L st P Q) {a0 a1 a2} {P : xH} {z : xR × xH} (h : b_X11_goesOn_57 n rec a0 a1 a2 P = some z) {Q : xR → xH → Prop} (hQ : Q z.1 z.2) : Wp G l 11 mX11_goesOn 57 [some (.ref a0), some (.int a1), some (.int a2)] [] P Q := by
  unfold b_X11_goesOn_57 at h
  refine x_iload_n dX11_goesOn_57 rfl ?_
  refine x_aload_nr dX11_goesOn_58 rfl ?_
  obtain ⟨_, e5, h⟩ := Option.bind_eq_some_iff.mp h
  obtain ⟨fse5, e5⟩ := kO_ok e5
  obtain ⟨r2, e3, h⟩ := Option.bind_eq_some_iff.mp h
  replace h := xI_ok h
  obtain ⟨v4, P1, rfl, h⟩ := h
  refine x_callV (c_X11_words hl e3) dX11_goesOn_59 cw_X11_words wl_X11_72 wi_X11_words wse_X11_words rfl e5 (by decide) rfl (by omega) (by decide) rfl (Nat.le_of_ble_eq_true rfl) rfl (fun v9 P9 hq9 => ?_) (fun i9 P9 hq9 => by cases hq9)
  cases hq9
  refine x_icmp_ge 100 dX11_goesOn_62 (by decide) (fun q26 => ?_) (fun q26 => ?_)
  · rw [if_pos q26] at h
    refine x_iinc (a1 + 1) dX11_goesOn_100 rfl (by rfl) ?_
    refine x_goto 47 dX11_goesOn_103 (by decide) ?_
    exact Wp.mask [true, true, false] (hrec 47 _ _ _ h _ _ rfl _ hQ)
  · rw [if_neg q26] at h
    refine x_aload_nr dX11_goesOn_65 rfl ?_
    refine x_iload_n dX11_goesOn_66 rfl ?_
    refine x_iload_n dX11_goesOn_67 rfl ?_
    obtain ⟨_, e10, h⟩ := Option.bind_eq_some_iff.mp h
    obtain ⟨fse10, e10⟩ := kO_ok e10
    obtain ⟨r7, e8, h⟩ := Option.bind_eq_some_iff.mp h
    replace h := xI_ok h
    obtain ⟨v9, P6, rfl, h⟩ := h
    refine x_callV (c_X11_has hl e8) dX11_goesOn_68 cw_X11_has wl_X11_237 wi_X11_has wse_X11_has rfl e10 (by decide) rfl (by omega) (by decide) rfl (Nat.le_of_ble_eq_true rfl) rfl (fun v9 P9 hq9 => ?_) (fun i9 P9 hq9 => by cases hq9)
    cases hq9
    refine x_if_eq 94 dX11_goesOn_71 (by decide) (fun q25 => ?_) (fun q25 => ?_)
    · rw [if_pos q25] at h
      refine x_iinc (a2 + 1) dX11_goesOn_94 rfl (by rfl) ?_
      refine x_goto 57 dX11_goesOn_97 (by decide) ?_
      exact Wp.mask [true, true, true] (hrec 57 _ _ _ h _ _ rfl _ hQ)
    · rw [if_neg q25] at h
      refine x_aload_nr dX11_goesOn_74 rfl ?_
      refine x_iload_n dX11_goesOn_75 rfl ?_
      obtain ⟨_, e15, h⟩ := Option.bind_eq_some_iff.mp h
      obtain ⟨fse15, e15⟩ := kO_ok e15
      obtain ⟨r12, e13, h⟩ := Option.bind_eq_some_iff.mp h
      replace h := xI_ok h
      obtain ⟨v14, P11, rfl, h⟩ := h
      refine x_callV (c_X11_isDead hl e13) dX11_goesOn_76 cw_X11_isDead wl_X11_300 wi_X11_isDead wse_X11_isDead rfl e15 (by decide) rfl (by omega) (by decide) rfl (Nat.le_of_ble_eq_true rfl) rfl (fun v9 P9 hq9 => ?_) (fun i9 P9 hq9 => by cases hq9)
      cases hq9
      refine x_if_eq 94 dX11_goesOn_79 (by decide) (fun q24 => ?_) (fun q24 => ?_)
      · rw [if_pos q24] at h
        refine x_iinc (a2 + 1) dX11_goesOn_94 rfl (by rfl) ?_
        refine x_goto 57 dX11_goesOn_97 (by decide) ?_
        exact Wp.mask [true, true, true] (hrec 57 _ _ _ h _ _ rfl _ hQ)
      · rw [if_neg q24] at h
        refine x_aload_nr dX11_goesOn_82 rfl ?_
        obtain ⟨v16, e17, h⟩ := Option.bind_eq_some_iff.mp h
        refine k_rA e17 dX11_goesOn_83 f_X11_13 ?_
        refine x_iload_n dX11_goesOn_86 rfl ?_
        refine x_iload_n dX11_goesOn_87 rfl ?_
        refine x_iconst 0 dX11_goesOn_88 (by decide) ?_
        obtain ⟨r19, e20, h⟩ := Option.bind_eq_some_iff.mp h
        replace h := xI_ok h
        obtain ⟨v21, P18, rfl, h⟩ := h
        refine x_callS (c_X11_copyAt hl e20) dX11_goesOn_89 cw_X11_copyAt wl_X11_85 ws_X11_copyAt rfl (by omega) (by decide) rfl (Nat.le_of_ble_eq_true rfl) rfl (fun v9 P9 hq9 => ?_) (fun i9 P9 hq9 => by cases hq9)
        cases hq9
        refine x_iconst 0 dX11_goesOn_92 (by decide) ?_
        obtain ⟨P22, e23, h⟩ := Option.bind_eq_some_iff.mp h
        refine k_sI e23 dX11_goesOn_93 ?_
        refine x_iinc (a2 + 1) dX11_goesOn_94 rfl (by rfl) ?_
        refine x_goto 57 dX11_goesOn_97 (by decide) ?_
        exact Wp.mask [true, true, true] (hrec 57 _ _ _ h _ _ rfl _ hQ)
set_option maxHeartbeats 2000000 in
set_option maxRecDepth 20000 in
theorem t_X11_goesOn_108 {G : xG} {l : Launch} (hl : l.stackTraces = false) {n : Nat} {rec : Nat → List Value → xH → xO} (hrec : ∀ pc env P z, rec pc env P = some z → ∀ L st, lay_X11_goesOn pc env = some (L, st) → ∀ Q : xR → xH → Prop, Q z.1 z.2 → Wp G l 11 mX11_goesOn pc L st P Q) {a0 a1} {P : xH} {z : xR × xH} (h : b_X11_goesOn_108 n rec a0 a1 P = some z) {Q : xR → xH → Prop} (hQ : Q z.1 z.2) : Wp G l 11 mX11_goesOn 108 [some (.ref a0), some (.int a1), none] [] P Q := by
  unfold b_X11_goesOn_108 at h
  refine x_iload_n dX11_goesOn_108 rfl ?_
  refine x_aload_nr dX11_goesOn_109 rfl ?_
  obtain ⟨_, e5, h⟩ := Option.bind_eq_some_iff.mp h
  obtain ⟨fse5, e5⟩ := kO_ok e5
  obtain ⟨r2, e3, h⟩ := Option.bind_eq_some_iff.mp h
  replace h := xI_ok h
  obtain ⟨v4, P1, rfl, h⟩ := h
  refine x_callV (c_X11_phones hl e3) dX11_goesOn_110 cw_X11_phones wl_X11_64 wi_X11_phones wse_X11_phones rfl e5 (by decide) rfl (by omega) (by decide) rfl (Nat.le_of_ble_eq_true rfl) rfl (fun v9 P9 hq9 => ?_) (fun i9 P9 hq9 => by cases hq9)
  cases hq9
  refine x_icmp_ge 169 dX11_goesOn_113 (by decide) (fun q6 => ?_) (fun q6 => ?_)
  · rw [if_pos q6] at h
    cases h
    exact x_ret rfl dX11_goesOn_169 hQ
  · rw [if_neg q6] at h
    refine x_iload_n dX11_goesOn_116 rfl ?_
    refine x_iconst 1 dX11_goesOn_117 (by decide) ?_
    refine x_iadd dX11_goesOn_118 ?_
    refine x_istore_n dX11_goesOn_119 (Nat.le_of_ble_eq_true rfl) ?_
    exact Wp.mask [true, true, true] (hrec 120 _ _ _ h _ _ rfl _ hQ)
set_option maxHeartbeats 2000000 in
set_option maxRecDepth 20000 in
theorem t_X11_goesOn_120 {G : xG} {l : Launch} (hl : l.stackTraces = false) {n : Nat} {rec : Nat → List Value → xH → xO} (hrec : ∀ pc env P z, rec pc env P = some z → ∀ L st, lay_X11_goesOn pc env = some (L, st) → ∀ Q : xR → xH → Prop, Q z.1 z.2 → Wp G l 11 mX11_goesOn pc L st P Q) {a0 a1 a2} {P : xH} {z : xR × xH} (h : b_X11_goesOn_120 n rec a0 a1 a2 P = some z) {Q : xR → xH → Prop} (hQ : Q z.1 z.2) : Wp G l 11 mX11_goesOn 120 [some (.ref a0), some (.int a1), some (.int a2)] [] P Q := by
  unfold b_X11_goesOn_120 at h
  refine x_iload_n dX11_goesOn_120 rfl ?_
  refine x_aload_nr dX11_goesOn_121 rfl ?_
  obtain ⟨_, e5, h⟩ := Option.bind_eq_some_iff.mp h
  obtain ⟨fse5, e5⟩ := kO_ok e5
  obtain ⟨r2, e3, h⟩ := Option.bind_eq_some_iff.mp h
  replace h := xI_ok h
  obtain ⟨v4, P1, rfl, h⟩ := h
  refine x_callV (c_X11_phones hl e3) dX11_goesOn_122 cw_X11_phones wl_X11_64 wi_X11_phones wse_X11_phones rfl e5 (by decide) rfl (by omega) (by decide) rfl (Nat.le_of_ble_eq_true rfl) rfl (fun v9 P9 hq9 => ?_) (fun i9 P9 hq9 => by cases hq9)
  cases hq9
  refine x_icmp_ge 163 dX11_goesOn_125 (by decide) (fun q27 => ?_) (fun q27 => ?_)
  · rw [if_pos q27] at h
    refine x_iinc (a1 + 1) dX11_goesOn_163 rfl (by rfl) ?_
    refine x_goto 108 dX11_goesOn_166 (by decide) ?_
    exact Wp.mask [true, true, false] (hrec 108 _ _ _ h _ _ rfl _ hQ)
  · rw [if_neg q27] at h
    refine x_aload_nr dX11_goesOn_128 rfl ?_
    obtain ⟨v6, e7, h⟩ := Option.bind_eq_some_iff.mp h
    refine k_rA e7 dX11_goesOn_129 f_X11_13 ?_
    refine x_iload_n dX11_goesOn_132 rfl ?_
    refine x_iconst 0 dX11_goesOn_133 (by decide) ?_
    obtain ⟨r9, e10, h⟩ := Option.bind_eq_some_iff.mp h
    replace h := xI_ok h
    obtain ⟨v11, P8, rfl, h⟩ := h
    refine x_callS (c_X11_phoneAt hl e10) dX11_goesOn_134 cw_X11_phoneAt wl_X11_100 ws_X11_phoneAt rfl (by omega) (by decide) rfl (Nat.le_of_ble_eq_true rfl) rfl (fun v9 P9 hq9 => ?_) (fun i9 P9 hq9 => by cases hq9)
    cases hq9
    obtain ⟨v12, e13, h⟩ := Option.bind_eq_some_iff.mp h
    refine k_aI e13 dX11_goesOn_137 ?_
    refine x_aload_nr dX11_goesOn_138 rfl ?_
    obtain ⟨v14, e15, h⟩ := Option.bind_eq_some_iff.mp h
    refine k_rA e15 dX11_goesOn_139 f_X11_13 ?_
    refine x_iload_n dX11_goesOn_142 rfl ?_
    refine x_iconst 0 dX11_goesOn_143 (by decide) ?_
    obtain ⟨r17, e18, h⟩ := Option.bind_eq_some_iff.mp h
    replace h := xI_ok h
    obtain ⟨v19, P16, rfl, h⟩ := h
    refine x_callS (c_X11_phoneAt hl e18) dX11_goesOn_144 cw_X11_phoneAt wl_X11_100 ws_X11_phoneAt rfl (by omega) (by decide) rfl (Nat.le_of_ble_eq_true rfl) rfl (fun v9 P9 hq9 => ?_) (fun i9 P9 hq9 => by cases hq9)
    cases hq9
    obtain ⟨v20, e21, h⟩ := Option.bind_eq_some_iff.mp h
    refine k_aI e21 dX11_goesOn_147 ?_
    refine x_icmp_ne 157 dX11_goesOn_148 (by decide) (fun q26 => ?_) (fun q26 => ?_)
    · rw [if_pos q26] at h
      refine x_iinc (a2 + 1) dX11_goesOn_157 rfl (by rfl) ?_
      refine x_goto 120 dX11_goesOn_160 (by decide) ?_
      exact Wp.mask [true, true, true] (hrec 120 _ _ _ h _ _ rfl _ hQ)
    · rw [if_neg (fun z9 => z9 q26)] at h
      refine x_aload_nr dX11_goesOn_151 rfl ?_
      refine x_iload_n dX11_goesOn_152 rfl ?_
      refine x_iload_n dX11_goesOn_153 rfl ?_
      obtain ⟨_, e25, h⟩ := Option.bind_eq_some_iff.mp h
      obtain ⟨fse25, e25⟩ := kO_ok e25
      obtain ⟨r23, e24, h⟩ := Option.bind_eq_some_iff.mp h
      replace h := xU_ok h
      obtain ⟨P22, rfl, h⟩ := h
      refine x_callV (c_X11_meet hl e24) dX11_goesOn_154 cw_X11_meet wl_X11_303 wi_X11_meet wse_X11_meet rfl e25 (by decide) rfl (by omega) (by decide) rfl (Nat.le_of_ble_eq_true rfl) rfl (fun v9 P9 hq9 => ?_) (fun i9 P9 hq9 => by cases hq9)
      cases hq9
      refine x_iinc (a2 + 1) dX11_goesOn_157 rfl (by rfl) ?_
      refine x_goto 120 dX11_goesOn_160 (by decide) ?_
      exact Wp.mask [true, true, true] (hrec 120 _ _ _ h _ _ rfl _ hQ)
theorem s_X11_goesOn {G : xG} {l : Launch} (hl : l.stackTraces = false) : ∀ n pc env P z, f_X11_goesOn n pc env P = some z → ∀ L st, lay_X11_goesOn pc env = some (L, st) → ∀ Q : xR → xH → Prop, Q z.1 z.2 → Wp G l 11 mX11_goesOn pc L st P Q := by
  intro n
  induction n with
  | zero => intro pc env P z h; cases h
  | succ n ih =>
    intro pc env P z h L st hlay Q hQ
    unfold f_X11_goesOn at h
    split at h
    · cases hlay
      exact t_X11_goesOn_0 hl ih h hQ
    · cases hlay
      exact t_X11_goesOn_12 hl ih h hQ
    · cases hlay
      exact t_X11_goesOn_47 hl ih h hQ
    · cases hlay
      exact t_X11_goesOn_57 hl ih h hQ
    · cases hlay
      exact t_X11_goesOn_108 hl ih h hQ
    · cases hlay
      exact t_X11_goesOn_120 hl ih h hQ
    · cases h
theorem c_X11_goesOn {G : xG} {l : Launch} (hl : l.stackTraces = false) {n : Nat} {as : List Value} {P : xH} {z : xR × xH} (h : f_X11_goesOn n 0 as P = some z) : Ct G l 11 mX11_goesOn as P (fun r P1 => (r, P1) = z) := by
  cases n with
  | zero => cases h
  | succ n =>
    unfold f_X11_goesOn at h
    split at h
    · exact Ct.of hl (by decide +kernel) wc_X11_goesOn (Nat.le_of_ble_eq_true rfl) (t_X11_goesOn_0 hl (s_X11_goesOn hl _) h rfl)
    all_goals first | (cases h; done) | (rename_i q9 _; exact absurd q9 (by decide)) | (rename_i q9; exact absurd q9 (by decide)) | contradiction
/-! QuakeNetModel.ticks(I)I -/
def b_X11_ticks_0 (n : Nat) (rec : Nat → List Value → xH → xO) (a0 : Nat) (a1 : Int32) (P : xH) : xO :=
  (wV P a0 11 0 (.int 0)).bind fun P1 =>
  (f_X11_in n 0 [.int a1, .int 0, .int 40] P1).bind fun r4 => xI r4 fun v6 P3 =>
  if ¬ v6 = 0 then
    rec 21 [.ref a0, .int a1, .ref a0, .int 0] P3
  else
    rec 21 [.ref a0, .int a1, .ref a0, .int 1] P3
def b_X11_ticks_21 (n : Nat) (rec : Nat → List Value → xH → xO) (a0 : Nat) (a1 : Int32) (s0 : Nat) (s1 : Int32) (P : xH) : xO :=
  (kO P s0 11).bind fun _ =>
  (f_X11_throwsIf n 0 [.ref s0, .int s1, .int 1] P).bind fun r2 => xI r2 fun v4 P1 =>
  if v4 = 0 then
    if a1 ≤ 0 then
      rec 74 [.ref a0, .int a1, .int 0] P1
    else
      (kO P1 a0 11).bind fun _ =>
      (f_X11_tick n 0 [.ref a0] P1).bind fun r7 => xI r7 fun v9 P6 =>
      if ¬ v9 = 0 then
        rec 74 [.ref a0, .int a1, .int 0] P6
      else
        rec 43 [.ref a0, .int a1, .int 0] P6
  else
    some (.inl (some (.int 0)), P1)
def b_X11_ticks_43 (n : Nat) (rec : Nat → List Value → xH → xO) (a0 : Nat) (a1 : Int32) (a2 : Int32) (P : xH) : xO :=
  if 2301 ≤ a2 then
    rec 74 [.ref a0, .int a1, .int 0] P
  else
    (rA P a0 11 3).bind fun v1 =>
    (rA P a0 11 1).bind fun v3 =>
    (aI P v3 a2).bind fun v5 =>
    (sI P v1 ((1938 + a2)) v5).bind fun P7 =>
    rec 43 [.ref a0, .int a1, .int ((a2 + 1))] P7
def b_X11_ticks_74 (n : Nat) (rec : Nat → List Value → xH → xO) (a0 : Nat) (a1 : Int32) (a2 : Int32) (P : xH) : xO :=
  if a1 ≤ a2 then
    rec 139 [.ref a0, .int a1, .int a2] P
  else
    (kO P a0 11).bind fun _ =>
    (f_X11_tick n 0 [.ref a0] P).bind fun r2 => xI r2 fun v4 P1 =>
    if 400 ≤ v4 then
      rec 139 [.ref a0, .int a1, .int a2] P1
    else
      (kO P1 a0 11).bind fun _ =>
      (f_X11_goesOn n 0 [.ref a0] P1).bind fun r7 => xU r7 fun P6 =>
      (rA P6 a0 11 3).bind fun v10 =>
      (kO P6 a0 11).bind fun _ =>
      (f_X11_tick n 0 [.ref a0] P6).bind fun r13 => xI r13 fun v15 P12 =>
      (kO P12 a0 11).bind fun _ =>
      (f_X11_allCopies n 0 [.ref a0] P12).bind fun r18 => xI r18 fun v20 P17 =>
      (sI P17 v10 ((1136 + ((2 * v15)))) v20).bind fun P22 =>
      (rA P22 a0 11 3).bind fun v24 =>
      (kO P22 a0 11).bind fun _ =>
      (f_X11_tick n 0 [.ref a0] P22).bind fun r27 => xI r27 fun v29 P26 =>
      (kO P26 a0 11).bind fun _ =>
      (f_X11_allCopies n 0 [.ref a0] P26).bind fun r32 => xI r32 fun v34 P31 =>
      (sI P31 v24 ((((1136 + ((2 * v29)))) + 1)) v34).bind fun P36 =>
      rec 74 [.ref a0, .int a1, .int ((a2 + 1))] P36
def b_X11_ticks_139 (n : Nat) (rec : Nat → List Value → xH → xO) (a0 : Nat) (a1 : Int32) (a2 : Int32) (P : xH) : xO :=
  (kO P a0 11).bind fun _ =>
  (f_X11_tick n 0 [.ref a0] P).bind fun r2 => xI r2 fun v4 P1 =>
  some (.inl (some (.int v4)), P1)
def lay_X11_ticks : Nat → List Value → Option (xL × List Value)
  | 0, [a0, a1] => some ([some a0, some a1, none], [])
  | 21, [a0, a1, s0, s1] => some ([some a0, some a1, none], [s1, s0])
  | 43, [a0, a1, a2] => some ([some a0, some a1, some a2], [])
  | 74, [a0, a1, a2] => some ([some a0, some a1, some a2], [])
  | 139, [a0, a1, a2] => some ([some a0, some a1, some a2], [])
  | _, _ => none
def f_X11_ticks : Nat → Nat → List Value → xH → xO
  | 0 => fun _ _ _ => none
  | n + 1 => fun pc env P => match pc, env with
    | 0, [.ref a0, .int a1] => b_X11_ticks_0 n (f_X11_ticks n) a0 a1 P
    | 21, [.ref a0, .int a1, .ref s0, .int s1] => b_X11_ticks_21 n (f_X11_ticks n) a0 a1 s0 s1 P
    | 43, [.ref a0, .int a1, .int a2] => b_X11_ticks_43 n (f_X11_ticks n) a0 a1 a2 P
    | 74, [.ref a0, .int a1, .int a2] => b_X11_ticks_74 n (f_X11_ticks n) a0 a1 a2 P
    | 139, [.ref a0, .int a1, .int a2] => b_X11_ticks_139 n (f_X11_ticks n) a0 a1 a2 P
    | _, _ => none
set_option maxHeartbeats 2000000 in
set_option maxRecDepth 20000 in
theorem t_X11_ticks_0 {G : xG} {l : Launch} (hl : l.stackTraces = false) {n : Nat} {rec : Nat → List Value → xH → xO} (hrec : ∀ pc env P z, rec pc env P = some z → ∀ L st, lay_X11_ticks pc env = some (L, st) → ∀ Q : xR → xH → Prop, Q z.1 z.2 → Wp G l 12 mX11_ticks pc L st P Q) {a0 a1} {P : xH} {z : xR × xH} (h : b_X11_ticks_0 n rec a0 a1 P = some z) {Q : xR → xH → Prop} (hQ : Q z.1 z.2) : Wp G l 12 mX11_ticks 0 [some (.ref a0), some (.int a1), none] [] P Q := by
  unfold b_X11_ticks_0 at h
  refine x_aload_nr dX11_ticks_0 rfl ?_
  refine x_iconst 0 dX11_ticks_1 (by decide) ?_
  obtain ⟨P1, e2, h⟩ := Option.bind_eq_some_iff.mp h
  refine k_wI e2 dX11_ticks_2 f_X11_3 (Or.inl (by decide)) rfl ?_
  refine x_aload_nr dX11_ticks_5 rfl ?_
  refine x_iload_n dX11_ticks_6 rfl ?_
  refine x_iconst 0 dX11_ticks_7 (by decide) ?_
  refine x_bipush 40 dX11_ticks_8 (by decide) ?_
  obtain ⟨r4, e5, h⟩ := Option.bind_eq_some_iff.mp h
  replace h := xI_ok h
  obtain ⟨v6, P3, rfl, h⟩ := h
  refine x_callS (c_X11_in hl e5) dX11_ticks_10 cw_X11_in wl_X11_68 ws_X11_in rfl (by omega) (by decide) rfl (Nat.le_of_ble_eq_true rfl) rfl (fun v9 P9 hq9 => ?_) (fun i9 P9 hq9 => by cases hq9)
  cases hq9
  refine x_if_ne 20 dX11_ticks_13 (by decide) (fun q7 => ?_) (fun q7 => ?_)
  · rw [if_pos q7] at h
    refine x_iconst 0 dX11_ticks_20 (by decide) ?_
    exact Wp.mask [true, true, false] (hrec 21 _ _ _ h _ _ rfl _ hQ)
  · rw [if_neg (fun z9 => z9 q7)] at h
    refine x_iconst 1 dX11_ticks_16 (by decide) ?_
    refine x_goto 21 dX11_ticks_17 (by decide) ?_
    exact Wp.mask [true, true, false] (hrec 21 _ _ _ h _ _ rfl _ hQ)
set_option maxHeartbeats 2000000 in
set_option maxRecDepth 20000 in
theorem t_X11_ticks_21 {G : xG} {l : Launch} (hl : l.stackTraces = false) {n : Nat} {rec : Nat → List Value → xH → xO} (hrec : ∀ pc env P z, rec pc env P = some z → ∀ L st, lay_X11_ticks pc env = some (L, st) → ∀ Q : xR → xH → Prop, Q z.1 z.2 → Wp G l 12 mX11_ticks pc L st P Q) {a0 a1 s0 s1} {P : xH} {z : xR × xH} (h : b_X11_ticks_21 n rec a0 a1 s0 s1 P = some z) {Q : xR → xH → Prop} (hQ : Q z.1 z.2) : Wp G l 12 mX11_ticks 21 [some (.ref a0), some (.int a1), none] [.int s1, .ref s0] P Q := by
  unfold b_X11_ticks_21 at h
  refine x_iconst 1 dX11_ticks_21 (by decide) ?_
  obtain ⟨_, e5, h⟩ := Option.bind_eq_some_iff.mp h
  obtain ⟨fse5, e5⟩ := kO_ok e5
  obtain ⟨r2, e3, h⟩ := Option.bind_eq_some_iff.mp h
  replace h := xI_ok h
  obtain ⟨v4, P1, rfl, h⟩ := h
  refine x_callV (c_X11_throwsIf hl e3) dX11_ticks_22 cw_X11_throwsIf wl_X11_93 wi_X11_throwsIf wse_X11_throwsIf rfl e5 (by decide) rfl (by omega) (by decide) rfl (Nat.le_of_ble_eq_true rfl) rfl (fun v9 P9 hq9 => ?_) (fun i9 P9 hq9 => by cases hq9)
  cases hq9
  refine x_if_eq 30 dX11_ticks_25 (by decide) (fun q13 => ?_) (fun q13 => ?_)
  · rw [if_pos q13] at h
    refine x_iload_n dX11_ticks_30 rfl ?_
    refine x_if_le 72 dX11_ticks_31 (by decide) (fun q12 => ?_) (fun q12 => ?_)
    · rw [if_pos q12] at h
      refine x_iconst 0 dX11_ticks_72 (by decide) ?_
      refine x_istore_n dX11_ticks_73 (Nat.le_of_ble_eq_true rfl) ?_
      exact Wp.mask [true, true, true] (hrec 74 _ _ _ h _ _ rfl _ hQ)
    · rw [if_neg q12] at h
      refine x_aload_nr dX11_ticks_34 rfl ?_
      obtain ⟨_, e10, h⟩ := Option.bind_eq_some_iff.mp h
      obtain ⟨fse10, e10⟩ := kO_ok e10
      obtain ⟨r7, e8, h⟩ := Option.bind_eq_some_iff.mp h
      replace h := xI_ok h
      obtain ⟨v9, P6, rfl, h⟩ := h
      refine x_callV (c_X11_tick hl e8) dX11_ticks_35 cw_X11_tick wl_X11_97 wi_X11_tick wse_X11_tick rfl e10 (by decide) rfl (by omega) (by decide) rfl (Nat.le_of_ble_eq_true rfl) rfl (fun v9 P9 hq9 => ?_) (fun i9 P9 hq9 => by cases hq9)
      cases hq9
      refine x_if_ne 72 dX11_ticks_38 (by decide) (fun q11 => ?_) (fun q11 => ?_)
      · rw [if_pos q11] at h
        refine x_iconst 0 dX11_ticks_72 (by decide) ?_
        refine x_istore_n dX11_ticks_73 (Nat.le_of_ble_eq_true rfl) ?_
        exact Wp.mask [true, true, true] (hrec 74 _ _ _ h _ _ rfl _ hQ)
      · rw [if_neg (fun z9 => z9 q11)] at h
        refine x_iconst 0 dX11_ticks_41 (by decide) ?_
        refine x_istore_n dX11_ticks_42 (Nat.le_of_ble_eq_true rfl) ?_
        exact Wp.mask [true, true, true] (hrec 43 _ _ _ h _ _ rfl _ hQ)
  · rw [if_neg q13] at h
    refine x_iconst 0 dX11_ticks_28 (by decide) ?_
    cases h
    exact x_iret .int rfl rfl dX11_ticks_29 hQ
set_option maxHeartbeats 2000000 in
set_option maxRecDepth 20000 in
theorem t_X11_ticks_43 {G : xG} {l : Launch} (hl : l.stackTraces = false) {n : Nat} {rec : Nat → List Value → xH → xO} (hrec : ∀ pc env P z, rec pc env P = some z → ∀ L st, lay_X11_ticks pc env = some (L, st) → ∀ Q : xR → xH → Prop, Q z.1 z.2 → Wp G l 12 mX11_ticks pc L st P Q) {a0 a1 a2} {P : xH} {z : xR × xH} (h : b_X11_ticks_43 n rec a0 a1 a2 P = some z) {Q : xR → xH → Prop} (hQ : Q z.1 z.2) : Wp G l 12 mX11_ticks 43 [some (.ref a0), some (.int a1), some (.int a2)] [] P Q := by
  unfold b_X11_ticks_43 at h
  refine x_iload_n dX11_ticks_43 rfl ?_
  refine x_sipush 2301 dX11_ticks_44 (by decide) ?_
  refine x_icmp_ge 72 dX11_ticks_47 (by decide) (fun q9 => ?_) (fun q9 => ?_)
  · rw [if_pos q9] at h
    refine x_iconst 0 dX11_ticks_72 (by decide) ?_
    refine x_istore_n dX11_ticks_73 (Nat.le_of_ble_eq_true rfl) ?_
    exact Wp.mask [true, true, true] (hrec 74 _ _ _ h _ _ rfl _ hQ)
  · rw [if_neg q9] at h
    refine x_aload_nr dX11_ticks_50 rfl ?_
    obtain ⟨v1, e2, h⟩ := Option.bind_eq_some_iff.mp h
    refine k_rA e2 dX11_ticks_51 f_X11_20 ?_
    refine x_sipush 1938 dX11_ticks_54 (by decide) ?_
    refine x_iload_n dX11_ticks_57 rfl ?_
    refine x_iadd dX11_ticks_58 ?_
    refine x_aload_nr dX11_ticks_59 rfl ?_
    obtain ⟨v3, e4, h⟩ := Option.bind_eq_some_iff.mp h
    refine k_rA e4 dX11_ticks_60 f_X11_13 ?_
    refine x_iload_n dX11_ticks_63 rfl ?_
    obtain ⟨v5, e6, h⟩ := Option.bind_eq_some_iff.mp h
    refine k_aI e6 dX11_ticks_64 ?_
    obtain ⟨P7, e8, h⟩ := Option.bind_eq_some_iff.mp h
    refine k_sI e8 dX11_ticks_65 ?_
    refine x_iinc (a2 + 1) dX11_ticks_66 rfl (by rfl) ?_
    refine x_goto 43 dX11_ticks_69 (by decide) ?_
    exact Wp.mask [true, true, true] (hrec 43 _ _ _ h _ _ rfl _ hQ)
set_option maxHeartbeats 2000000 in
set_option maxRecDepth 20000 in
theorem t_X11_ticks_74 {G : xG} {l : Launch} (hl : l.stackTraces = false) {n : Nat} {rec : Nat → List Value → xH → xO} (hrec : ∀ pc env P z, rec pc env P = some z → ∀ L st, lay_X11_ticks pc env = some (L, st) → ∀ Q : xR → xH → Prop, Q z.1 z.2 → Wp G l 12 mX11_ticks pc L st P Q) {a0 a1 a2} {P : xH} {z : xR × xH} (h : b_X11_ticks_74 n rec a0 a1 a2 P = some z) {Q : xR → xH → Prop} (hQ : Q z.1 z.2) : Wp G l 12 mX11_ticks 74 [some (.ref a0), some (.int a1), some (.int a2)] [] P Q := by
  unfold b_X11_ticks_74 at h
  refine x_iload_n dX11_ticks_74 rfl ?_
  refine x_iload_n dX11_ticks_75 rfl ?_
  refine x_icmp_ge 139 dX11_ticks_76 (by decide) (fun q39 => ?_) (fun q39 => ?_)
  · rw [if_pos q39] at h
    exact Wp.mask [true, true, true] (hrec 139 _ _ _ h _ _ rfl _ hQ)
  · rw [if_neg q39] at h
    refine x_aload_nr dX11_ticks_79 rfl ?_
    obtain ⟨_, e5, h⟩ := Option.bind_eq_some_iff.mp h
    obtain ⟨fse5, e5⟩ := kO_ok e5
    obtain ⟨r2, e3, h⟩ := Option.bind_eq_some_iff.mp h
    replace h := xI_ok h
    obtain ⟨v4, P1, rfl, h⟩ := h
    refine x_callV (c_X11_tick hl e3) dX11_ticks_80 cw_X11_tick wl_X11_97 wi_X11_tick wse_X11_tick rfl e5 (by decide) rfl (by omega) (by decide) rfl (Nat.le_of_ble_eq_true rfl) rfl (fun v9 P9 hq9 => ?_) (fun i9 P9 hq9 => by cases hq9)
    cases hq9
    refine x_sipush 400 dX11_ticks_83 (by decide) ?_
    refine x_icmp_ge 139 dX11_ticks_86 (by decide) (fun q38 => ?_) (fun q38 => ?_)
    · rw [if_pos q38] at h
      exact Wp.mask [true, true, true] (hrec 139 _ _ _ h _ _ rfl _ hQ)
    · rw [if_neg q38] at h
      refine x_aload_nr dX11_ticks_89 rfl ?_
      obtain ⟨_, e9, h⟩ := Option.bind_eq_some_iff.mp h
      obtain ⟨fse9, e9⟩ := kO_ok e9
      obtain ⟨r7, e8, h⟩ := Option.bind_eq_some_iff.mp h
      replace h := xU_ok h
      obtain ⟨P6, rfl, h⟩ := h
      refine x_callV (c_X11_goesOn hl e8) dX11_ticks_90 cw_X11_goesOn wl_X11_306 wi_X11_goesOn wse_X11_goesOn rfl e9 (by decide) rfl (by omega) (by decide) rfl (Nat.le_of_ble_eq_true rfl) rfl (fun v9 P9 hq9 => ?_) (fun i9 P9 hq9 => by cases hq9)
      cases hq9
      refine x_aload_nr dX11_ticks_93 rfl ?_
      obtain ⟨v10, e11, h⟩ := Option.bind_eq_some_iff.mp h
      refine k_rA e11 dX11_ticks_94 f_X11_20 ?_
      refine x_sipush 1136 dX11_ticks_97 (by decide) ?_
      refine x_iconst 2 dX11_ticks_100 (by decide) ?_
      refine x_aload_nr dX11_ticks_101 rfl ?_
      obtain ⟨_, e16, h⟩ := Option.bind_eq_some_iff.mp h
      obtain ⟨fse16, e16⟩ := kO_ok e16
      obtain ⟨r13, e14, h⟩ := Option.bind_eq_some_iff.mp h
      replace h := xI_ok h
      obtain ⟨v15, P12, rfl, h⟩ := h
      refine x_callV (c_X11_tick hl e14) dX11_ticks_102 cw_X11_tick wl_X11_97 wi_X11_tick wse_X11_tick rfl e16 (by decide) rfl (by omega) (by decide) rfl (Nat.le_of_ble_eq_true rfl) rfl (fun v9 P9 hq9 => ?_) (fun i9 P9 hq9 => by cases hq9)
      cases hq9
      refine x_imul dX11_ticks_105 ?_
      refine x_iadd dX11_ticks_106 ?_
      refine x_aload_nr dX11_ticks_107 rfl ?_
      obtain ⟨_, e21, h⟩ := Option.bind_eq_some_iff.mp h
      obtain ⟨fse21, e21⟩ := kO_ok e21
      obtain ⟨r18, e19, h⟩ := Option.bind_eq_some_iff.mp h
      replace h := xI_ok h
      obtain ⟨v20, P17, rfl, h⟩ := h
      refine x_callV (c_X11_allCopies hl e19) dX11_ticks_108 cw_X11_allCopies wl_X11_309 wi_X11_allCopies wse_X11_allCopies rfl e21 (by decide) rfl (by omega) (by decide) rfl (Nat.le_of_ble_eq_true rfl) rfl (fun v9 P9 hq9 => ?_) (fun i9 P9 hq9 => by cases hq9)
      cases hq9
      obtain ⟨P22, e23, h⟩ := Option.bind_eq_some_iff.mp h
      refine k_sI e23 dX11_ticks_111 ?_
      refine x_aload_nr dX11_ticks_112 rfl ?_
      obtain ⟨v24, e25, h⟩ := Option.bind_eq_some_iff.mp h
      refine k_rA e25 dX11_ticks_113 f_X11_20 ?_
      refine x_sipush 1136 dX11_ticks_116 (by decide) ?_
      refine x_iconst 2 dX11_ticks_119 (by decide) ?_
      refine x_aload_nr dX11_ticks_120 rfl ?_
      obtain ⟨_, e30, h⟩ := Option.bind_eq_some_iff.mp h
      obtain ⟨fse30, e30⟩ := kO_ok e30
      obtain ⟨r27, e28, h⟩ := Option.bind_eq_some_iff.mp h
      replace h := xI_ok h
      obtain ⟨v29, P26, rfl, h⟩ := h
      refine x_callV (c_X11_tick hl e28) dX11_ticks_121 cw_X11_tick wl_X11_97 wi_X11_tick wse_X11_tick rfl e30 (by decide) rfl (by omega) (by decide) rfl (Nat.le_of_ble_eq_true rfl) rfl (fun v9 P9 hq9 => ?_) (fun i9 P9 hq9 => by cases hq9)
      cases hq9
      refine x_imul dX11_ticks_124 ?_
      refine x_iadd dX11_ticks_125 ?_
      refine x_iconst 1 dX11_ticks_126 (by decide) ?_
      refine x_iadd dX11_ticks_127 ?_
      refine x_aload_nr dX11_ticks_128 rfl ?_
      obtain ⟨_, e35, h⟩ := Option.bind_eq_some_iff.mp h
      obtain ⟨fse35, e35⟩ := kO_ok e35
      obtain ⟨r32, e33, h⟩ := Option.bind_eq_some_iff.mp h
      replace h := xI_ok h
      obtain ⟨v34, P31, rfl, h⟩ := h
      refine x_callV (c_X11_allCopies hl e33) dX11_ticks_129 cw_X11_allCopies wl_X11_309 wi_X11_allCopies wse_X11_allCopies rfl e35 (by decide) rfl (by omega) (by decide) rfl (Nat.le_of_ble_eq_true rfl) rfl (fun v9 P9 hq9 => ?_) (fun i9 P9 hq9 => by cases hq9)
      cases hq9
      obtain ⟨P36, e37, h⟩ := Option.bind_eq_some_iff.mp h
      refine k_sI e37 dX11_ticks_132 ?_
      refine x_iinc (a2 + 1) dX11_ticks_133 rfl (by rfl) ?_
      refine x_goto 74 dX11_ticks_136 (by decide) ?_
      exact Wp.mask [true, true, true] (hrec 74 _ _ _ h _ _ rfl _ hQ)
set_option maxHeartbeats 2000000 in
set_option maxRecDepth 20000 in
theorem t_X11_ticks_139 {G : xG} {l : Launch} (hl : l.stackTraces = false) {n : Nat} {rec : Nat → List Value → xH → xO} (hrec : ∀ pc env P z, rec pc env P = some z → ∀ L st, lay_X11_ticks pc env = some (L, st) → ∀ Q : xR → xH → Prop, Q z.1 z.2 → Wp G l 12 mX11_ticks pc L st P Q) {a0 a1 a2} {P : xH} {z : xR × xH} (h : b_X11_ticks_139 n rec a0 a1 a2 P = some z) {Q : xR → xH → Prop} (hQ : Q z.1 z.2) : Wp G l 12 mX11_ticks 139 [some (.ref a0), some (.int a1), some (.int a2)] [] P Q := by
  unfold b_X11_ticks_139 at h
  refine x_aload_nr dX11_ticks_139 rfl ?_
  obtain ⟨_, e5, h⟩ := Option.bind_eq_some_iff.mp h
  obtain ⟨fse5, e5⟩ := kO_ok e5
  obtain ⟨r2, e3, h⟩ := Option.bind_eq_some_iff.mp h
  replace h := xI_ok h
  obtain ⟨v4, P1, rfl, h⟩ := h
  refine x_callV (c_X11_tick hl e3) dX11_ticks_140 cw_X11_tick wl_X11_97 wi_X11_tick wse_X11_tick rfl e5 (by decide) rfl (by omega) (by decide) rfl (Nat.le_of_ble_eq_true rfl) rfl (fun v9 P9 hq9 => ?_) (fun i9 P9 hq9 => by cases hq9)
  cases hq9
  cases h
  exact x_iret .int rfl rfl dX11_ticks_143 hQ
theorem s_X11_ticks {G : xG} {l : Launch} (hl : l.stackTraces = false) : ∀ n pc env P z, f_X11_ticks n pc env P = some z → ∀ L st, lay_X11_ticks pc env = some (L, st) → ∀ Q : xR → xH → Prop, Q z.1 z.2 → Wp G l 12 mX11_ticks pc L st P Q := by
  intro n
  induction n with
  | zero => intro pc env P z h; cases h
  | succ n ih =>
    intro pc env P z h L st hlay Q hQ
    unfold f_X11_ticks at h
    split at h
    · cases hlay
      exact t_X11_ticks_0 hl ih h hQ
    · cases hlay
      exact t_X11_ticks_21 hl ih h hQ
    · cases hlay
      exact t_X11_ticks_43 hl ih h hQ
    · cases hlay
      exact t_X11_ticks_74 hl ih h hQ
    · cases hlay
      exact t_X11_ticks_139 hl ih h hQ
    · cases h
theorem c_X11_ticks {G : xG} {l : Launch} (hl : l.stackTraces = false) {n : Nat} {as : List Value} {P : xH} {z : xR × xH} (h : f_X11_ticks n 0 as P = some z) : Ct G l 12 mX11_ticks as P (fun r P1 => (r, P1) = z) := by
  cases n with
  | zero => cases h
  | succ n =>
    unfold f_X11_ticks at h
    split at h
    · exact Ct.of hl (by decide +kernel) wc_X11_ticks (Nat.le_of_ble_eq_true rfl) (t_X11_ticks_0 hl (s_X11_ticks hl _) h rfl)
    all_goals first | (cases h; done) | (rename_i q9 _; exact absurd q9 (by decide)) | (rename_i q9; exact absurd q9 (by decide)) | contradiction
/-! QuakeNetModel.begins(III)I -/
def b_X11_begins_0 (n : Nat) (rec : Nat → List Value → xH → xO) (a0 : Nat) (a1 : Int32) (a2 : Int32) (a3 : Int32) (P : xH) : xO :=
  (kO P a0 11).bind fun _ =>
  (f_X11_words n 0 [.ref a0] P).bind fun r2 => xI r2 fun v4 P1 =>
  (rA P1 a0 11 3).bind fun v6 =>
  (aI P1 v6 1).bind fun v8 =>
  (sI P1 v6 1 ((v8 + 1))).bind fun P10 =>
  rec 19 [.ref a0, .int a1, .int a2, .int a3, .int v4, .int 0] P10
def b_X11_begins_19 (n : Nat) (rec : Nat → List Value → xH → xO) (a0 : Nat) (a1 : Int32) (a2 : Int32) (a3 : Int32) (a4 : Int32) (a5 : Int32) (P : xH) : xO :=
  if 10 ≤ a5 then
    (rA P a0 11 3).bind fun v1 =>
    (sI P v1 ((((761 + ((10 * a4)))) + 0)) a2).bind fun P3 =>
    (rA P3 a0 11 3).bind fun v5 =>
    (sI P3 v5 ((((761 + ((10 * a4)))) + 1)) a1).bind fun P7 =>
    (rA P7 a0 11 3).bind fun v9 =>
    (kO P7 a0 11).bind fun _ =>
    (f_X11_tick n 0 [.ref a0] P7).bind fun r12 => xI r12 fun v14 P11 =>
    (sI P11 v9 ((((761 + ((10 * a4)))) + 2)) v14).bind fun P16 =>
    (rA P16 a0 11 3).bind fun v18 =>
    (sI P16 v18 ((((761 + ((10 * a4)))) + 3)) a3).bind fun P20 =>
    (rA P20 a0 11 3).bind fun v22 =>
    (sI P20 v22 ((((761 + ((10 * a4)))) + 8)) ((-1))).bind fun P24 =>
    some (.inl (some (.int a4)), P24)
  else
    (rA P a0 11 3).bind fun v26 =>
    (sI P v26 ((((761 + ((10 * a4)))) + a5)) 0).bind fun P28 =>
    rec 19 [.ref a0, .int a1, .int a2, .int a3, .int a4, .int ((a5 + 1))] P28
def lay_X11_begins : Nat → List Value → Option (xL × List Value)
  | 0, [a0, a1, a2, a3] => some ([some a0, some a1, some a2, some a3, none, none], [])
  | 19, [a0, a1, a2, a3, a4, a5] => some ([some a0, some a1, some a2, some a3, some a4, some a5], [])
  | _, _ => none
def f_X11_begins : Nat → Nat → List Value → xH → xO
  | 0 => fun _ _ _ => none
  | n + 1 => fun pc env P => match pc, env with
    | 0, [.ref a0, .int a1, .int a2, .int a3] => b_X11_begins_0 n (f_X11_begins n) a0 a1 a2 a3 P
    | 19, [.ref a0, .int a1, .int a2, .int a3, .int a4, .int a5] => b_X11_begins_19 n (f_X11_begins n) a0 a1 a2 a3 a4 a5 P
    | _, _ => none
set_option maxHeartbeats 2000000 in
set_option maxRecDepth 20000 in
theorem t_X11_begins_0 {G : xG} {l : Launch} (hl : l.stackTraces = false) {n : Nat} {rec : Nat → List Value → xH → xO} (hrec : ∀ pc env P z, rec pc env P = some z → ∀ L st, lay_X11_begins pc env = some (L, st) → ∀ Q : xR → xH → Prop, Q z.1 z.2 → Wp G l 4 mX11_begins pc L st P Q) {a0 a1 a2 a3} {P : xH} {z : xR × xH} (h : b_X11_begins_0 n rec a0 a1 a2 a3 P = some z) {Q : xR → xH → Prop} (hQ : Q z.1 z.2) : Wp G l 4 mX11_begins 0 [some (.ref a0), some (.int a1), some (.int a2), some (.int a3), none, none] [] P Q := by
  unfold b_X11_begins_0 at h
  refine x_aload_nr dX11_begins_0 rfl ?_
  obtain ⟨_, e5, h⟩ := Option.bind_eq_some_iff.mp h
  obtain ⟨fse5, e5⟩ := kO_ok e5
  obtain ⟨r2, e3, h⟩ := Option.bind_eq_some_iff.mp h
  replace h := xI_ok h
  obtain ⟨v4, P1, rfl, h⟩ := h
  refine x_callV (c_X11_words hl e3) dX11_begins_1 cw_X11_words wl_X11_72 wi_X11_words wse_X11_words rfl e5 (by decide) rfl (by omega) (by decide) rfl (Nat.le_of_ble_eq_true rfl) rfl (fun v9 P9 hq9 => ?_) (fun i9 P9 hq9 => by cases hq9)
  cases hq9
  refine x_istore dX11_begins_4 (Nat.le_of_ble_eq_true rfl) ?_
  refine x_aload_nr dX11_begins_6 rfl ?_
  obtain ⟨v6, e7, h⟩ := Option.bind_eq_some_iff.mp h
  refine k_rA e7 dX11_begins_7 f_X11_20 ?_
  refine x_iconst 1 dX11_begins_10 (by decide) ?_
  refine x_dup2 dX11_begins_11 rfl rfl ?_
  obtain ⟨v8, e9, h⟩ := Option.bind_eq_some_iff.mp h
  refine k_aI e9 dX11_begins_12 ?_
  refine x_iconst 1 dX11_begins_13 (by decide) ?_
  refine x_iadd dX11_begins_14 ?_
  obtain ⟨P10, e11, h⟩ := Option.bind_eq_some_iff.mp h
  refine k_sI e11 dX11_begins_15 ?_
  refine x_iconst 0 dX11_begins_16 (by decide) ?_
  refine x_istore dX11_begins_17 (Nat.le_of_ble_eq_true rfl) ?_
  exact Wp.mask [true, true, true, true, true, true] (hrec 19 _ _ _ h _ _ rfl _ hQ)
set_option maxHeartbeats 2000000 in
set_option maxRecDepth 20000 in
theorem t_X11_begins_19 {G : xG} {l : Launch} (hl : l.stackTraces = false) {n : Nat} {rec : Nat → List Value → xH → xO} (hrec : ∀ pc env P z, rec pc env P = some z → ∀ L st, lay_X11_begins pc env = some (L, st) → ∀ Q : xR → xH → Prop, Q z.1 z.2 → Wp G l 4 mX11_begins pc L st P Q) {a0 a1 a2 a3 a4 a5} {P : xH} {z : xR × xH} (h : b_X11_begins_19 n rec a0 a1 a2 a3 a4 a5 P = some z) {Q : xR → xH → Prop} (hQ : Q z.1 z.2) : Wp G l 4 mX11_begins 19 [some (.ref a0), some (.int a1), some (.int a2), some (.int a3), some (.int a4), some (.int a5)] [] P Q := by
  unfold b_X11_begins_19 at h
  refine x_iload dX11_begins_19 rfl ?_
  refine x_bipush 10 dX11_begins_21 (by decide) ?_
  refine x_icmp_ge 50 dX11_begins_23 (by decide) (fun q30 => ?_) (fun q30 => ?_)
  · rw [if_pos q30] at h
    refine x_aload_nr dX11_begins_50 rfl ?_
    obtain ⟨v1, e2, h⟩ := Option.bind_eq_some_iff.mp h
    refine k_rA e2 dX11_begins_51 f_X11_20 ?_
    refine x_sipush 761 dX11_begins_54 (by decide) ?_
    refine x_bipush 10 dX11_begins_57 (by decide) ?_
    refine x_iload dX11_begins_59 rfl ?_
    refine x_imul dX11_begins_61 ?_
    refine x_iadd dX11_begins_62 ?_
    refine x_iconst 0 dX11_begins_63 (by decide) ?_
    refine x_iadd dX11_begins_64 ?_
    refine x_iload_n dX11_begins_65 rfl ?_
    obtain ⟨P3, e4, h⟩ := Option.bind_eq_some_iff.mp h
    refine k_sI e4 dX11_begins_66 ?_
    refine x_aload_nr dX11_begins_67 rfl ?_
    obtain ⟨v5, e6, h⟩ := Option.bind_eq_some_iff.mp h
    refine k_rA e6 dX11_begins_68 f_X11_20 ?_
    refine x_sipush 761 dX11_begins_71 (by decide) ?_
    refine x_bipush 10 dX11_begins_74 (by decide) ?_
    refine x_iload dX11_begins_76 rfl ?_
    refine x_imul dX11_begins_78 ?_
    refine x_iadd dX11_begins_79 ?_
    refine x_iconst 1 dX11_begins_80 (by decide) ?_
    refine x_iadd dX11_begins_81 ?_
    refine x_iload_n dX11_begins_82 rfl ?_
    obtain ⟨P7, e8, h⟩ := Option.bind_eq_some_iff.mp h
    refine k_sI e8 dX11_begins_83 ?_
    refine x_aload_nr dX11_begins_84 rfl ?_
    obtain ⟨v9, e10, h⟩ := Option.bind_eq_some_iff.mp h
    refine k_rA e10 dX11_begins_85 f_X11_20 ?_
    refine x_sipush 761 dX11_begins_88 (by decide) ?_
    refine x_bipush 10 dX11_begins_91 (by decide) ?_
    refine x_iload dX11_begins_93 rfl ?_
    refine x_imul dX11_begins_95 ?_
    refine x_iadd dX11_begins_96 ?_
    refine x_iconst 2 dX11_begins_97 (by decide) ?_
    refine x_iadd dX11_begins_98 ?_
    refine x_aload_nr dX11_begins_99 rfl ?_
    obtain ⟨_, e15, h⟩ := Option.bind_eq_some_iff.mp h
    obtain ⟨fse15, e15⟩ := kO_ok e15
    obtain ⟨r12, e13, h⟩ := Option.bind_eq_some_iff.mp h
    replace h := xI_ok h
    obtain ⟨v14, P11, rfl, h⟩ := h
    refine x_callV (c_X11_tick hl e13) dX11_begins_100 cw_X11_tick wl_X11_97 wi_X11_tick wse_X11_tick rfl e15 (by decide) rfl (by omega) (by decide) rfl (Nat.le_of_ble_eq_true rfl) rfl (fun v9 P9 hq9 => ?_) (fun i9 P9 hq9 => by cases hq9)
    cases hq9
    obtain ⟨P16, e17, h⟩ := Option.bind_eq_some_iff.mp h
    refine k_sI e17 dX11_begins_103 ?_
    refine x_aload_nr dX11_begins_104 rfl ?_
    obtain ⟨v18, e19, h⟩ := Option.bind_eq_some_iff.mp h
    refine k_rA e19 dX11_begins_105 f_X11_20 ?_
    refine x_sipush 761 dX11_begins_108 (by decide) ?_
    refine x_bipush 10 dX11_begins_111 (by decide) ?_
    refine x_iload dX11_begins_113 rfl ?_
    refine x_imul dX11_begins_115 ?_
    refine x_iadd dX11_begins_116 ?_
    refine x_iconst 3 dX11_begins_117 (by decide) ?_
    refine x_iadd dX11_begins_118 ?_
    refine x_iload_n dX11_begins_119 rfl ?_
    obtain ⟨P20, e21, h⟩ := Option.bind_eq_some_iff.mp h
    refine k_sI e21 dX11_begins_120 ?_
    refine x_aload_nr dX11_begins_121 rfl ?_
    obtain ⟨v22, e23, h⟩ := Option.bind_eq_some_iff.mp h
    refine k_rA e23 dX11_begins_122 f_X11_20 ?_
    refine x_sipush 761 dX11_begins_125 (by decide) ?_
    refine x_bipush 10 dX11_begins_128 (by decide) ?_
    refine x_iload dX11_begins_130 rfl ?_
    refine x_imul dX11_begins_132 ?_
    refine x_iadd dX11_begins_133 ?_
    refine x_bipush 8 dX11_begins_134 (by decide) ?_
    refine x_iadd dX11_begins_136 ?_
    refine x_iconst (-1) dX11_begins_137 (by decide) ?_
    obtain ⟨P24, e25, h⟩ := Option.bind_eq_some_iff.mp h
    refine k_sI e25 dX11_begins_138 ?_
    refine x_iload dX11_begins_139 rfl ?_
    cases h
    exact x_iret .int rfl rfl dX11_begins_141 hQ
  · rw [if_neg q30] at h
    refine x_aload_nr dX11_begins_26 rfl ?_
    obtain ⟨v26, e27, h⟩ := Option.bind_eq_some_iff.mp h
    refine k_rA e27 dX11_begins_27 f_X11_20 ?_
    refine x_sipush 761 dX11_begins_30 (by decide) ?_
    refine x_bipush 10 dX11_begins_33 (by decide) ?_
    refine x_iload dX11_begins_35 rfl ?_
    refine x_imul dX11_begins_37 ?_
    refine x_iadd dX11_begins_38 ?_
    refine x_iload dX11_begins_39 rfl ?_
    refine x_iadd dX11_begins_41 ?_
    refine x_iconst 0 dX11_begins_42 (by decide) ?_
    obtain ⟨P28, e29, h⟩ := Option.bind_eq_some_iff.mp h
    refine k_sI e29 dX11_begins_43 ?_
    refine x_iinc (a5 + 1) dX11_begins_44 rfl (by rfl) ?_
    refine x_goto 19 dX11_begins_47 (by decide) ?_
    exact Wp.mask [true, true, true, true, true, true] (hrec 19 _ _ _ h _ _ rfl _ hQ)
theorem s_X11_begins {G : xG} {l : Launch} (hl : l.stackTraces = false) : ∀ n pc env P z, f_X11_begins n pc env P = some z → ∀ L st, lay_X11_begins pc env = some (L, st) → ∀ Q : xR → xH → Prop, Q z.1 z.2 → Wp G l 4 mX11_begins pc L st P Q := by
  intro n
  induction n with
  | zero => intro pc env P z h; cases h
  | succ n ih =>
    intro pc env P z h L st hlay Q hQ
    unfold f_X11_begins at h
    split at h
    · cases hlay
      exact t_X11_begins_0 hl ih h hQ
    · cases hlay
      exact t_X11_begins_19 hl ih h hQ
    · cases h
theorem c_X11_begins {G : xG} {l : Launch} (hl : l.stackTraces = false) {n : Nat} {as : List Value} {P : xH} {z : xR × xH} (h : f_X11_begins n 0 as P = some z) : Ct G l 4 mX11_begins as P (fun r P1 => (r, P1) = z) := by
  cases n with
  | zero => cases h
  | succ n =>
    unfold f_X11_begins at h
    split at h
    · exact Ct.of hl (by decide +kernel) wc_X11_begins (Nat.le_of_ble_eq_true rfl) (t_X11_begins_0 hl (s_X11_begins hl _) h rfl)
    all_goals first | (cases h; done) | (rename_i q9 _; exact absurd q9 (by decide)) | (rename_i q9; exact absurd q9 (by decide)) | contradiction
/-! QuakeNetModel.noPerson(I)Z -/
def b_X11_noPerson_0 (n : Nat) (rec : Nat → List Value → xH → xO) (a0 : Int32) (P : xH) : xO :=
  (f_X11_in n 0 [.int a0, .int 0, .int 15] P).bind fun r2 => xI r2 fun v4 P1 =>
  if ¬ v4 = 0 then
    some (.inl (some (.int 0)), P1)
  else
    some (.inl (some (.int 1)), P1)
def lay_X11_noPerson : Nat → List Value → Option (xL × List Value)
  | 0, [a0] => some ([some a0], [])
  | _, _ => none
def f_X11_noPerson : Nat → Nat → List Value → xH → xO
  | 0 => fun _ _ _ => none
  | n + 1 => fun pc env P => match pc, env with
    | 0, [.int a0] => b_X11_noPerson_0 n (f_X11_noPerson n) a0 P
    | _, _ => none
set_option maxHeartbeats 2000000 in
set_option maxRecDepth 20000 in
theorem t_X11_noPerson_0 {G : xG} {l : Launch} (hl : l.stackTraces = false) {n : Nat} {rec : Nat → List Value → xH → xO} (hrec : ∀ pc env P z, rec pc env P = some z → ∀ L st, lay_X11_noPerson pc env = some (L, st) → ∀ Q : xR → xH → Prop, Q z.1 z.2 → Wp G l 4 mX11_noPerson pc L st P Q) {a0} {P : xH} {z : xR × xH} (h : b_X11_noPerson_0 n rec a0 P = some z) {Q : xR → xH → Prop} (hQ : Q z.1 z.2) : Wp G l 4 mX11_noPerson 0 [some (.int a0)] [] P Q := by
  unfold b_X11_noPerson_0 at h
  refine x_iload_n dX11_noPerson_0 rfl ?_
  refine x_iconst 0 dX11_noPerson_1 (by decide) ?_
  refine x_bipush 15 dX11_noPerson_2 (by decide) ?_
  obtain ⟨r2, e3, h⟩ := Option.bind_eq_some_iff.mp h
  replace h := xI_ok h
  obtain ⟨v4, P1, rfl, h⟩ := h
  refine x_callS (c_X11_in hl e3) dX11_noPerson_4 cw_X11_in wl_X11_68 ws_X11_in rfl (by omega) (by decide) rfl (Nat.le_of_ble_eq_true rfl) rfl (fun v9 P9 hq9 => ?_) (fun i9 P9 hq9 => by cases hq9)
  cases hq9
  refine x_if_ne 14 dX11_noPerson_7 (by decide) (fun q5 => ?_) (fun q5 => ?_)
  · rw [if_pos q5] at h
    refine x_iconst 0 dX11_noPerson_14 (by decide) ?_
    cases h
    exact x_iret .boolean rfl rfl dX11_noPerson_15 hQ
  · rw [if_neg (fun z9 => z9 q5)] at h
    refine x_iconst 1 dX11_noPerson_10 (by decide) ?_
    refine x_goto 15 dX11_noPerson_11 (by decide) ?_
    cases h
    exact x_iret .boolean rfl rfl dX11_noPerson_15 hQ
theorem s_X11_noPerson {G : xG} {l : Launch} (hl : l.stackTraces = false) : ∀ n pc env P z, f_X11_noPerson n pc env P = some z → ∀ L st, lay_X11_noPerson pc env = some (L, st) → ∀ Q : xR → xH → Prop, Q z.1 z.2 → Wp G l 4 mX11_noPerson pc L st P Q := by
  intro n
  induction n with
  | zero => intro pc env P z h; cases h
  | succ n ih =>
    intro pc env P z h L st hlay Q hQ
    unfold f_X11_noPerson at h
    split at h
    · cases hlay
      exact t_X11_noPerson_0 hl ih h hQ
    · cases h
theorem c_X11_noPerson {G : xG} {l : Launch} (hl : l.stackTraces = false) {n : Nat} {as : List Value} {P : xH} {z : xR × xH} (h : f_X11_noPerson n 0 as P = some z) : Ct G l 4 mX11_noPerson as P (fun r P1 => (r, P1) = z) := by
  cases n with
  | zero => cases h
  | succ n =>
    unfold f_X11_noPerson at h
    split at h
    · exact Ct.of hl (by decide +kernel) wc_X11_noPerson (Nat.le_of_ble_eq_true rfl) (t_X11_noPerson_0 hl (s_X11_noPerson hl _) h rfl)
    all_goals first | (cases h; done) | (rename_i q9 _; exact absurd q9 (by decide)) | (rename_i q9; exact absurd q9 (by decide)) | contradiction
/-! QuakeNetModel.tells(I)V -/
def b_X11_tells_0 (n : Nat) (rec : Nat → List Value → xH → xO) (a0 : Nat) (a1 : Int32) (P : xH) : xO :=
  (kO P a0 11).bind fun _ =>
  (f_X11_of n 0 [.ref a0, .int a1, .int 1] P).bind fun r2 => xI r2 fun v4 P1 =>
  (rA P1 a0 11 1).bind fun v6 =>
  (f_X11_hadAt n 0 [.int a1, .int 0] P1).bind fun r9 => xI r9 fun v11 P8 =>
  (sI P8 v6 v11 ((-1))).bind fun P12 =>
  rec 20 [.ref a0, .int a1, .int v4, .int 0] P12
def b_X11_tells_20 (n : Nat) (rec : Nat → List Value → xH → xO) (a0 : Nat) (a1 : Int32) (a2 : Int32) (a3 : Int32) (P : xH) : xO :=
  (kO P a0 11).bind fun _ =>
  (f_X11_phones n 0 [.ref a0] P).bind fun r2 => xI r2 fun v4 P1 =>
  if v4 ≤ a3 then
    (kO P1 a0 11).bind fun _ =>
    (f_X11_of n 0 [.ref a0, .int a1, .int 8] P1).bind fun r7 => xI r7 fun v9 P6 =>
    if v9 < 0 then
      rec 74 [.ref a0, .int a1, .int a2, .int a3] P6
    else
      (rA P6 a0 11 1).bind fun v11 =>
      (kO P6 a0 11).bind fun _ =>
      (f_X11_of n 0 [.ref a0, .int a1, .int 8] P6).bind fun r14 => xI r14 fun v16 P13 =>
      (f_X11_copyAt n 0 [.int a2, .int v16, .int 0] P13).bind fun r19 => xI r19 fun v21 P18 =>
      (sI P18 v11 v21 0).bind fun P22 =>
      rec 74 [.ref a0, .int a1, .int a2, .int a3] P22
  else
    (rA P1 a0 11 1).bind fun v25 =>
    (f_X11_copyAt n 0 [.int a3, .int a1, .int 0] P1).bind fun r28 => xI r28 fun v30 P27 =>
    (sI P27 v25 v30 0).bind fun P31 =>
    rec 20 [.ref a0, .int a1, .int a2, .int ((a3 + 1))] P31
def b_X11_tells_74 (n : Nat) (rec : Nat → List Value → xH → xO) (a0 : Nat) (a1 : Int32) (a2 : Int32) (a3 : Int32) (P : xH) : xO :=
  (kO P a0 11).bind fun _ =>
  (f_X11_copies n 0 [.ref a0, .int a2] P).bind fun r2 => xI r2 fun v4 P1 =>
  (kO P1 a0 11).bind fun _ =>
  (f_X11_toldOf n 0 [.ref a0, .int a2, .int 1] P1).bind fun r7 => xI r7 fun v9 P6 =>
  if v4 < v9 then
    rec 98 [.ref a0, .int a1, .int a2, .int a3] P6
  else
    (kO P6 a0 11).bind fun _ =>
    (f_X11_leastOn n 0 [.ref a0, .int a2] P6).bind fun r12 => xI r12 fun v14 P11 =>
    (kO P11 a0 11).bind fun _ =>
    (f_X11_givesAway n 0 [.ref a0, .int a2, .int v14] P11).bind fun r17 => xU r17 fun P16 =>
    rec 98 [.ref a0, .int a1, .int a2, .int a3] P16
def b_X11_tells_98 (n : Nat) (rec : Nat → List Value → xH → xO) (a0 : Nat) (a1 : Int32) (a2 : Int32) (a3 : Int32) (P : xH) : xO :=
  (kO P a0 11).bind fun _ =>
  (f_X11_of n 0 [.ref a0, .int a1, .int 7] P).bind fun r2 => xI r2 fun v4 P1 =>
  (kO P1 a0 11).bind fun _ =>
  (f_X11_comes n 0 [.ref a0, .int a2, .int a1, .int v4, .int 0, .int ((-1)), .int 0, .int 0] P1).bind fun r7 => xU r7 fun P6 =>
  some (.inl none, P6)
def lay_X11_tells : Nat → List Value → Option (xL × List Value)
  | 0, [a0, a1] => some ([some a0, some a1, none, none], [])
  | 20, [a0, a1, a2, a3] => some ([some a0, some a1, some a2, some a3], [])
  | 74, [a0, a1, a2, a3] => some ([some a0, some a1, some a2, some a3], [])
  | 98, [a0, a1, a2, a3] => some ([some a0, some a1, some a2, some a3], [])
  | _, _ => none
def f_X11_tells : Nat → Nat → List Value → xH → xO
  | 0 => fun _ _ _ => none
  | n + 1 => fun pc env P => match pc, env with
    | 0, [.ref a0, .int a1] => b_X11_tells_0 n (f_X11_tells n) a0 a1 P
    | 20, [.ref a0, .int a1, .int a2, .int a3] => b_X11_tells_20 n (f_X11_tells n) a0 a1 a2 a3 P
    | 74, [.ref a0, .int a1, .int a2, .int a3] => b_X11_tells_74 n (f_X11_tells n) a0 a1 a2 a3 P
    | 98, [.ref a0, .int a1, .int a2, .int a3] => b_X11_tells_98 n (f_X11_tells n) a0 a1 a2 a3 P
    | _, _ => none
set_option maxHeartbeats 2000000 in
set_option maxRecDepth 20000 in
theorem t_X11_tells_0 {G : xG} {l : Launch} (hl : l.stackTraces = false) {n : Nat} {rec : Nat → List Value → xH → xO} (hrec : ∀ pc env P z, rec pc env P = some z → ∀ L st, lay_X11_tells pc env = some (L, st) → ∀ Q : xR → xH → Prop, Q z.1 z.2 → Wp G l 9 mX11_tells pc L st P Q) {a0 a1} {P : xH} {z : xR × xH} (h : b_X11_tells_0 n rec a0 a1 P = some z) {Q : xR → xH → Prop} (hQ : Q z.1 z.2) : Wp G l 9 mX11_tells 0 [some (.ref a0), some (.int a1), none, none] [] P Q := by
  unfold b_X11_tells_0 at h
  refine x_aload_nr dX11_tells_0 rfl ?_
  refine x_iload_n dX11_tells_1 rfl ?_
  refine x_iconst 1 dX11_tells_2 (by decide) ?_
  obtain ⟨_, e5, h⟩ := Option.bind_eq_some_iff.mp h
  obtain ⟨fse5, e5⟩ := kO_ok e5
  obtain ⟨r2, e3, h⟩ := Option.bind_eq_some_iff.mp h
  replace h := xI_ok h
  obtain ⟨v4, P1, rfl, h⟩ := h
  refine x_callV (c_X11_of hl e3) dX11_tells_3 cw_X11_of wl_X11_240 wi_X11_of wse_X11_of rfl e5 (by decide) rfl (by omega) (by decide) rfl (Nat.le_of_ble_eq_true rfl) rfl (fun v9 P9 hq9 => ?_) (fun i9 P9 hq9 => by cases hq9)
  cases hq9
  refine x_istore_n dX11_tells_6 (Nat.le_of_ble_eq_true rfl) ?_
  refine x_aload_nr dX11_tells_7 rfl ?_
  obtain ⟨v6, e7, h⟩ := Option.bind_eq_some_iff.mp h
  refine k_rA e7 dX11_tells_8 f_X11_13 ?_
  refine x_iload_n dX11_tells_11 rfl ?_
  refine x_iconst 0 dX11_tells_12 (by decide) ?_
  obtain ⟨r9, e10, h⟩ := Option.bind_eq_some_iff.mp h
  replace h := xI_ok h
  obtain ⟨v11, P8, rfl, h⟩ := h
  refine x_callS (c_X11_hadAt hl e10) dX11_tells_13 cw_X11_hadAt wl_X11_261 ws_X11_hadAt rfl (by omega) (by decide) rfl (Nat.le_of_ble_eq_true rfl) rfl (fun v9 P9 hq9 => ?_) (fun i9 P9 hq9 => by cases hq9)
  cases hq9
  refine x_iconst (-1) dX11_tells_16 (by decide) ?_
  obtain ⟨P12, e13, h⟩ := Option.bind_eq_some_iff.mp h
  refine k_sI e13 dX11_tells_17 ?_
  refine x_iconst 0 dX11_tells_18 (by decide) ?_
  refine x_istore_n dX11_tells_19 (Nat.le_of_ble_eq_true rfl) ?_
  exact Wp.mask [true, true, true, true] (hrec 20 _ _ _ h _ _ rfl _ hQ)
set_option maxHeartbeats 2000000 in
set_option maxRecDepth 20000 in
theorem t_X11_tells_20 {G : xG} {l : Launch} (hl : l.stackTraces = false) {n : Nat} {rec : Nat → List Value → xH → xO} (hrec : ∀ pc env P z, rec pc env P = some z → ∀ L st, lay_X11_tells pc env = some (L, st) → ∀ Q : xR → xH → Prop, Q z.1 z.2 → Wp G l 9 mX11_tells pc L st P Q) {a0 a1 a2 a3} {P : xH} {z : xR × xH} (h : b_X11_tells_20 n rec a0 a1 a2 a3 P = some z) {Q : xR → xH → Prop} (hQ : Q z.1 z.2) : Wp G l 9 mX11_tells 20 [some (.ref a0), some (.int a1), some (.int a2), some (.int a3)] [] P Q := by
  unfold b_X11_tells_20 at h
  refine x_iload_n dX11_tells_20 rfl ?_
  refine x_aload_nr dX11_tells_21 rfl ?_
  obtain ⟨_, e5, h⟩ := Option.bind_eq_some_iff.mp h
  obtain ⟨fse5, e5⟩ := kO_ok e5
  obtain ⟨r2, e3, h⟩ := Option.bind_eq_some_iff.mp h
  replace h := xI_ok h
  obtain ⟨v4, P1, rfl, h⟩ := h
  refine x_callV (c_X11_phones hl e3) dX11_tells_22 cw_X11_phones wl_X11_64 wi_X11_phones wse_X11_phones rfl e5 (by decide) rfl (by omega) (by decide) rfl (Nat.le_of_ble_eq_true rfl) rfl (fun v9 P9 hq9 => ?_) (fun i9 P9 hq9 => by cases hq9)
  cases hq9
  refine x_icmp_ge 46 dX11_tells_25 (by decide) (fun q33 => ?_) (fun q33 => ?_)
  · rw [if_pos q33] at h
    refine x_aload_nr dX11_tells_46 rfl ?_
    refine x_iload_n dX11_tells_47 rfl ?_
    refine x_bipush 8 dX11_tells_48 (by decide) ?_
    obtain ⟨_, e10, h⟩ := Option.bind_eq_some_iff.mp h
    obtain ⟨fse10, e10⟩ := kO_ok e10
    obtain ⟨r7, e8, h⟩ := Option.bind_eq_some_iff.mp h
    replace h := xI_ok h
    obtain ⟨v9, P6, rfl, h⟩ := h
    refine x_callV (c_X11_of hl e8) dX11_tells_50 cw_X11_of wl_X11_240 wi_X11_of wse_X11_of rfl e10 (by decide) rfl (by omega) (by decide) rfl (Nat.le_of_ble_eq_true rfl) rfl (fun v9 P9 hq9 => ?_) (fun i9 P9 hq9 => by cases hq9)
    cases hq9
    refine x_if_lt 74 dX11_tells_53 (by decide) (fun q24 => ?_) (fun q24 => ?_)
    · rw [if_pos q24] at h
      exact Wp.mask [true, true, true, true] (hrec 74 _ _ _ h _ _ rfl _ hQ)
    · rw [if_neg q24] at h
      refine x_aload_nr dX11_tells_56 rfl ?_
      obtain ⟨v11, e12, h⟩ := Option.bind_eq_some_iff.mp h
      refine k_rA e12 dX11_tells_57 f_X11_13 ?_
      refine x_iload_n dX11_tells_60 rfl ?_
      refine x_aload_nr dX11_tells_61 rfl ?_
      refine x_iload_n dX11_tells_62 rfl ?_
      refine x_bipush 8 dX11_tells_63 (by decide) ?_
      obtain ⟨_, e17, h⟩ := Option.bind_eq_some_iff.mp h
      obtain ⟨fse17, e17⟩ := kO_ok e17
      obtain ⟨r14, e15, h⟩ := Option.bind_eq_some_iff.mp h
      replace h := xI_ok h
      obtain ⟨v16, P13, rfl, h⟩ := h
      refine x_callV (c_X11_of hl e15) dX11_tells_65 cw_X11_of wl_X11_240 wi_X11_of wse_X11_of rfl e17 (by decide) rfl (by omega) (by decide) rfl (Nat.le_of_ble_eq_true rfl) rfl (fun v9 P9 hq9 => ?_) (fun i9 P9 hq9 => by cases hq9)
      cases hq9
      refine x_iconst 0 dX11_tells_68 (by decide) ?_
      obtain ⟨r19, e20, h⟩ := Option.bind_eq_some_iff.mp h
      replace h := xI_ok h
      obtain ⟨v21, P18, rfl, h⟩ := h
      refine x_callS (c_X11_copyAt hl e20) dX11_tells_69 cw_X11_copyAt wl_X11_85 ws_X11_copyAt rfl (by omega) (by decide) rfl (Nat.le_of_ble_eq_true rfl) rfl (fun v9 P9 hq9 => ?_) (fun i9 P9 hq9 => by cases hq9)
      cases hq9
      refine x_iconst 0 dX11_tells_72 (by decide) ?_
      obtain ⟨P22, e23, h⟩ := Option.bind_eq_some_iff.mp h
      refine k_sI e23 dX11_tells_73 ?_
      exact Wp.mask [true, true, true, true] (hrec 74 _ _ _ h _ _ rfl _ hQ)
  · rw [if_neg q33] at h
    refine x_aload_nr dX11_tells_28 rfl ?_
    obtain ⟨v25, e26, h⟩ := Option.bind_eq_some_iff.mp h
    refine k_rA e26 dX11_tells_29 f_X11_13 ?_
    refine x_iload_n dX11_tells_32 rfl ?_
    refine x_iload_n dX11_tells_33 rfl ?_
    refine x_iconst 0 dX11_tells_34 (by decide) ?_
    obtain ⟨r28, e29, h⟩ := Option.bind_eq_some_iff.mp h
    replace h := xI_ok h
    obtain ⟨v30, P27, rfl, h⟩ := h
    refine x_callS (c_X11_copyAt hl e29) dX11_tells_35 cw_X11_copyAt wl_X11_85 ws_X11_copyAt rfl (by omega) (by decide) rfl (Nat.le_of_ble_eq_true rfl) rfl (fun v9 P9 hq9 => ?_) (fun i9 P9 hq9 => by cases hq9)
    cases hq9
    refine x_iconst 0 dX11_tells_38 (by decide) ?_
    obtain ⟨P31, e32, h⟩ := Option.bind_eq_some_iff.mp h
    refine k_sI e32 dX11_tells_39 ?_
    refine x_iinc (a3 + 1) dX11_tells_40 rfl (by rfl) ?_
    refine x_goto 20 dX11_tells_43 (by decide) ?_
    exact Wp.mask [true, true, true, true] (hrec 20 _ _ _ h _ _ rfl _ hQ)
set_option maxHeartbeats 2000000 in
set_option maxRecDepth 20000 in
theorem t_X11_tells_74 {G : xG} {l : Launch} (hl : l.stackTraces = false) {n : Nat} {rec : Nat → List Value → xH → xO} (hrec : ∀ pc env P z, rec pc env P = some z → ∀ L st, lay_X11_tells pc env = some (L, st) → ∀ Q : xR → xH → Prop, Q z.1 z.2 → Wp G l 9 mX11_tells pc L st P Q) {a0 a1 a2 a3} {P : xH} {z : xR × xH} (h : b_X11_tells_74 n rec a0 a1 a2 a3 P = some z) {Q : xR → xH → Prop} (hQ : Q z.1 z.2) : Wp G l 9 mX11_tells 74 [some (.ref a0), some (.int a1), some (.int a2), some (.int a3)] [] P Q := by
  unfold b_X11_tells_74 at h
  refine x_aload_nr dX11_tells_74 rfl ?_
  refine x_iload_n dX11_tells_75 rfl ?_
  obtain ⟨_, e5, h⟩ := Option.bind_eq_some_iff.mp h
  obtain ⟨fse5, e5⟩ := kO_ok e5
  obtain ⟨r2, e3, h⟩ := Option.bind_eq_some_iff.mp h
  replace h := xI_ok h
  obtain ⟨v4, P1, rfl, h⟩ := h
  refine x_callV (c_X11_copies hl e3) dX11_tells_76 cw_X11_copies wl_X11_264 wi_X11_copies wse_X11_copies rfl e5 (by decide) rfl (by omega) (by decide) rfl (Nat.le_of_ble_eq_true rfl) rfl (fun v9 P9 hq9 => ?_) (fun i9 P9 hq9 => by cases hq9)
  cases hq9
  refine x_aload_nr dX11_tells_79 rfl ?_
  refine x_iload_n dX11_tells_80 rfl ?_
  refine x_iconst 1 dX11_tells_81 (by decide) ?_
  obtain ⟨_, e10, h⟩ := Option.bind_eq_some_iff.mp h
  obtain ⟨fse10, e10⟩ := kO_ok e10
  obtain ⟨r7, e8, h⟩ := Option.bind_eq_some_iff.mp h
  replace h := xI_ok h
  obtain ⟨v9, P6, rfl, h⟩ := h
  refine x_callV (c_X11_toldOf hl e8) dX11_tells_82 cw_X11_toldOf wl_X11_110 wi_X11_toldOf wse_X11_toldOf rfl e10 (by decide) rfl (by omega) (by decide) rfl (Nat.le_of_ble_eq_true rfl) rfl (fun v9 P9 hq9 => ?_) (fun i9 P9 hq9 => by cases hq9)
  cases hq9
  refine x_icmp_lt 98 dX11_tells_85 (by decide) (fun q20 => ?_) (fun q20 => ?_)
  · rw [if_pos q20] at h
    exact Wp.mask [true, true, true, true] (hrec 98 _ _ _ h _ _ rfl _ hQ)
  · rw [if_neg q20] at h
    refine x_aload_nr dX11_tells_88 rfl ?_
    refine x_iload_n dX11_tells_89 rfl ?_
    refine x_aload_nr dX11_tells_90 rfl ?_
    refine x_iload_n dX11_tells_91 rfl ?_
    obtain ⟨_, e15, h⟩ := Option.bind_eq_some_iff.mp h
    obtain ⟨fse15, e15⟩ := kO_ok e15
    obtain ⟨r12, e13, h⟩ := Option.bind_eq_some_iff.mp h
    replace h := xI_ok h
    obtain ⟨v14, P11, rfl, h⟩ := h
    refine x_callV (c_X11_leastOn hl e13) dX11_tells_92 cw_X11_leastOn wl_X11_267 wi_X11_leastOn wse_X11_leastOn rfl e15 (by decide) rfl (by omega) (by decide) rfl (Nat.le_of_ble_eq_true rfl) rfl (fun v9 P9 hq9 => ?_) (fun i9 P9 hq9 => by cases hq9)
    cases hq9
    obtain ⟨_, e19, h⟩ := Option.bind_eq_some_iff.mp h
    obtain ⟨fse19, e19⟩ := kO_ok e19
    obtain ⟨r17, e18, h⟩ := Option.bind_eq_some_iff.mp h
    replace h := xU_ok h
    obtain ⟨P16, rfl, h⟩ := h
    refine x_callV (c_X11_givesAway hl e18) dX11_tells_95 cw_X11_givesAway wl_X11_270 wi_X11_givesAway wse_X11_givesAway rfl e19 (by decide) rfl (by omega) (by decide) rfl (Nat.le_of_ble_eq_true rfl) rfl (fun v9 P9 hq9 => ?_) (fun i9 P9 hq9 => by cases hq9)
    cases hq9
    exact Wp.mask [true, true, true, true] (hrec 98 _ _ _ h _ _ rfl _ hQ)
set_option maxHeartbeats 2000000 in
set_option maxRecDepth 20000 in
theorem t_X11_tells_98 {G : xG} {l : Launch} (hl : l.stackTraces = false) {n : Nat} {rec : Nat → List Value → xH → xO} (hrec : ∀ pc env P z, rec pc env P = some z → ∀ L st, lay_X11_tells pc env = some (L, st) → ∀ Q : xR → xH → Prop, Q z.1 z.2 → Wp G l 9 mX11_tells pc L st P Q) {a0 a1 a2 a3} {P : xH} {z : xR × xH} (h : b_X11_tells_98 n rec a0 a1 a2 a3 P = some z) {Q : xR → xH → Prop} (hQ : Q z.1 z.2) : Wp G l 9 mX11_tells 98 [some (.ref a0), some (.int a1), some (.int a2), some (.int a3)] [] P Q := by
  unfold b_X11_tells_98 at h
  refine x_aload_nr dX11_tells_98 rfl ?_
  refine x_iload_n dX11_tells_99 rfl ?_
  refine x_iload_n dX11_tells_100 rfl ?_
  refine x_aload_nr dX11_tells_101 rfl ?_
  refine x_iload_n dX11_tells_102 rfl ?_
  refine x_bipush 7 dX11_tells_103 (by decide) ?_
  obtain ⟨_, e5, h⟩ := Option.bind_eq_some_iff.mp h
  obtain ⟨fse5, e5⟩ := kO_ok e5
  obtain ⟨r2, e3, h⟩ := Option.bind_eq_some_iff.mp h
  replace h := xI_ok h
  obtain ⟨v4, P1, rfl, h⟩ := h
  refine x_callV (c_X11_of hl e3) dX11_tells_105 cw_X11_of wl_X11_240 wi_X11_of wse_X11_of rfl e5 (by decide) rfl (by omega) (by decide) rfl (Nat.le_of_ble_eq_true rfl) rfl (fun v9 P9 hq9 => ?_) (fun i9 P9 hq9 => by cases hq9)
  cases hq9
  refine x_iconst 0 dX11_tells_108 (by decide) ?_
  refine x_iconst (-1) dX11_tells_109 (by decide) ?_
  refine x_iconst 0 dX11_tells_110 (by decide) ?_
  refine x_iconst 0 dX11_tells_111 (by decide) ?_
  obtain ⟨_, e9, h⟩ := Option.bind_eq_some_iff.mp h
  obtain ⟨fse9, e9⟩ := kO_ok e9
  obtain ⟨r7, e8, h⟩ := Option.bind_eq_some_iff.mp h
  replace h := xU_ok h
  obtain ⟨P6, rfl, h⟩ := h
  refine x_callV (c_X11_comes hl e8) dX11_tells_112 cw_X11_comes wl_X11_273 wi_X11_comes wse_X11_comes rfl e9 (by decide) rfl (by omega) (by decide) rfl (Nat.le_of_ble_eq_true rfl) rfl (fun v9 P9 hq9 => ?_) (fun i9 P9 hq9 => by cases hq9)
  cases hq9
  cases h
  exact x_ret rfl dX11_tells_115 hQ
theorem s_X11_tells {G : xG} {l : Launch} (hl : l.stackTraces = false) : ∀ n pc env P z, f_X11_tells n pc env P = some z → ∀ L st, lay_X11_tells pc env = some (L, st) → ∀ Q : xR → xH → Prop, Q z.1 z.2 → Wp G l 9 mX11_tells pc L st P Q := by
  intro n
  induction n with
  | zero => intro pc env P z h; cases h
  | succ n ih =>
    intro pc env P z h L st hlay Q hQ
    unfold f_X11_tells at h
    split at h
    · cases hlay
      exact t_X11_tells_0 hl ih h hQ
    · cases hlay
      exact t_X11_tells_20 hl ih h hQ
    · cases hlay
      exact t_X11_tells_74 hl ih h hQ
    · cases hlay
      exact t_X11_tells_98 hl ih h hQ
    · cases h
theorem c_X11_tells {G : xG} {l : Launch} (hl : l.stackTraces = false) {n : Nat} {as : List Value} {P : xH} {z : xR × xH} (h : f_X11_tells n 0 as P = some z) : Ct G l 9 mX11_tells as P (fun r P1 => (r, P1) = z) := by
  cases n with
  | zero => cases h
  | succ n =>
    unfold f_X11_tells at h
    split at h
    · exact Ct.of hl (by decide +kernel) wc_X11_tells (Nat.le_of_ble_eq_true rfl) (t_X11_tells_0 hl (s_X11_tells hl _) h rfl)
    all_goals first | (cases h; done) | (rename_i q9 _; exact absurd q9 (by decide)) | (rename_i q9; exact absurd q9 (by decide)) | contradiction
/-! QuakeNetModel.say(IIIIIII)I -/
def b_X11_say_0 (n : Nat) (rec : Nat → List Value → xH → xO) (a0 : Nat) (a1 : Int32) (a2 : Int32) (a3 : Int32) (a4 : Int32) (a5 : Int32) (a6 : Int32) (a7 : Int32) (P : xH) : xO :=
  (wV P a0 11 0 (.int 0)).bind fun P1 =>
  (kO P1 a0 11).bind fun _ =>
  (f_X11_noPhone n 0 [.ref a0, .int a1] P1).bind fun r4 => xI r4 fun v6 P3 =>
  if ¬ v6 = 0 then
    rec 35 [.ref a0, .int a1, .int a2, .int a3, .int a4, .int a5, .int a6, .int a7, .ref a0, .int 1] P3
  else
    (f_X11_noPerson n 0 [.int a4] P3).bind fun r9 => xI r9 fun v11 P8 =>
    if ¬ v11 = 0 then
      rec 35 [.ref a0, .int a1, .int a2, .int a3, .int a4, .int a5, .int a6, .int a7, .ref a0, .int 1] P8
    else
      (f_X11_noPlace n 0 [.int a5] P8).bind fun r13 => xI r13 fun v15 P12 =>
      if v15 = 0 then
        rec 35 [.ref a0, .int a1, .int a2, .int a3, .int a4, .int a5, .int a6, .int a7, .ref a0, .int 0] P12
      else
        rec 35 [.ref a0, .int a1, .int a2, .int a3, .int a4, .int a5, .int a6, .int a7, .ref a0, .int 1] P12
def b_X11_say_35 (n : Nat) (rec : Nat → List Value → xH → xO) (a0 : Nat) (a1 : Int32) (a2 : Int32) (a3 : Int32) (a4 : Int32) (a5 : Int32) (a6 : Int32) (a7 : Int32) (s0 : Nat) (s1 : Int32) (P : xH) : xO :=
  (kO P s0 11).bind fun _ =>
  (f_X11_throwsIf n 0 [.ref s0, .int s1, .int 1] P).bind fun r2 => xI r2 fun v4 P1 =>
  if ¬ v4 = 0 then
    some (.inl (some (.int 0)), P1)
  else
    (f_X11_in n 0 [.int a2, .int 0, .int 4] P1).bind fun r7 => xI r7 fun v9 P6 =>
    if v9 = 0 then
      rec 98 [.ref a0, .int a1, .int a2, .int a3, .int a4, .int a5, .int a6, .int a7, .ref a0, .int 1] P6
    else
      (f_X11_in n 0 [.int a3, .int 1, .int 200] P6).bind fun r11 => xI r11 fun v13 P10 =>
      if v13 = 0 then
        rec 98 [.ref a0, .int a1, .int a2, .int a3, .int a4, .int a5, .int a6, .int a7, .ref a0, .int 1] P10
      else
        if 1 < a2 then
          rec 81 [.ref a0, .int a1, .int a2, .int a3, .int a4, .int a5, .int a6, .int a7, .ref a0] P10
        else
          (kO P10 a0 11).bind fun _ =>
          (f_X11_tick n 0 [.ref a0] P10).bind fun r15 => xI r15 fun v17 P14 =>
          (f_X11_in n 0 [.int a6, .int 0, .int v17] P14).bind fun r20 => xI r20 fun v22 P19 =>
          if v22 = 0 then
            rec 98 [.ref a0, .int a1, .int a2, .int a3, .int a4, .int a5, .int a6, .int a7, .ref a0, .int 1] P19
          else
            rec 81 [.ref a0, .int a1, .int a2, .int a3, .int a4, .int a5, .int a6, .int a7, .ref a0] P19
def b_X11_say_81 (n : Nat) (rec : Nat → List Value → xH → xO) (a0 : Nat) (a1 : Int32) (a2 : Int32) (a3 : Int32) (a4 : Int32) (a5 : Int32) (a6 : Int32) (a7 : Int32) (s0 : Nat) (P : xH) : xO :=
  (f_X11_in n 0 [.int a7, .int 0, .int 9999] P).bind fun r2 => xI r2 fun v4 P1 =>
  if ¬ v4 = 0 then
    rec 98 [.ref a0, .int a1, .int a2, .int a3, .int a4, .int a5, .int a6, .int a7, .ref s0, .int 0] P1
  else
    rec 98 [.ref a0, .int a1, .int a2, .int a3, .int a4, .int a5, .int a6, .int a7, .ref s0, .int 1] P1
def b_X11_say_98 (n : Nat) (rec : Nat → List Value → xH → xO) (a0 : Nat) (a1 : Int32) (a2 : Int32) (a3 : Int32) (a4 : Int32) (a5 : Int32) (a6 : Int32) (a7 : Int32) (s0 : Nat) (s1 : Int32) (P : xH) : xO :=
  (kO P s0 11).bind fun _ =>
  (f_X11_throwsIf n 0 [.ref s0, .int s1, .int 2] P).bind fun r2 => xI r2 fun v4 P1 =>
  if ¬ v4 = 0 then
    some (.inl (some (.int 0)), P1)
  else
    (kO P1 a0 11).bind fun _ =>
    (f_X11_words n 0 [.ref a0] P1).bind fun r7 => xI r7 fun v9 P6 =>
    if ¬ v9 = 30 then
      rec 120 [.ref a0, .int a1, .int a2, .int a3, .int a4, .int a5, .int a6, .int a7, .ref a0, .int 0] P6
    else
      rec 120 [.ref a0, .int a1, .int a2, .int a3, .int a4, .int a5, .int a6, .int a7, .ref a0, .int 1] P6
def b_X11_say_120 (n : Nat) (rec : Nat → List Value → xH → xO) (a0 : Nat) (a1 : Int32) (a2 : Int32) (a3 : Int32) (a4 : Int32) (a5 : Int32) (a6 : Int32) (a7 : Int32) (s0 : Nat) (s1 : Int32) (P : xH) : xO :=
  (kO P s0 11).bind fun _ =>
  (f_X11_throwsIf n 0 [.ref s0, .int s1, .int 3] P).bind fun r2 => xI r2 fun v4 P1 =>
  if v4 = 0 then
    (kO P1 a0 11).bind fun _ =>
    (f_X11_begins n 0 [.ref a0, .int a1, .int a2, .int a3] P1).bind fun r7 => xI r7 fun v9 P6 =>
    (rA P6 a0 11 3).bind fun v11 =>
    (sI P6 v11 ((((761 + ((10 * v9)))) + 4)) a4).bind fun P13 =>
    (rA P13 a0 11 3).bind fun v15 =>
    (sI P13 v15 ((((761 + ((10 * v9)))) + 5)) a5).bind fun P17 =>
    (rA P17 a0 11 3).bind fun v19 =>
    (sI P17 v19 ((((761 + ((10 * v9)))) + 6)) a6).bind fun P21 =>
    (rA P21 a0 11 3).bind fun v23 =>
    (sI P21 v23 ((((761 + ((10 * v9)))) + 7)) a7).bind fun P25 =>
    (kO P25 a0 11).bind fun _ =>
    (f_X11_tells n 0 [.ref a0, .int v9] P25).bind fun r28 => xU r28 fun P27 =>
    some (.inl (some (.int v9)), P27)
  else
    some (.inl (some (.int 0)), P1)
def lay_X11_say : Nat → List Value → Option (xL × List Value)
  | 0, [a0, a1, a2, a3, a4, a5, a6, a7] => some ([some a0, some a1, some a2, some a3, some a4, some a5, some a6, some a7, none, none], [])
  | 35, [a0, a1, a2, a3, a4, a5, a6, a7, s0, s1] => some ([some a0, some a1, some a2, some a3, some a4, some a5, some a6, some a7, none, none], [s1, s0])
  | 81, [a0, a1, a2, a3, a4, a5, a6, a7, s0] => some ([some a0, some a1, some a2, some a3, some a4, some a5, some a6, some a7, none, none], [s0])
  | 98, [a0, a1, a2, a3, a4, a5, a6, a7, s0, s1] => some ([some a0, some a1, some a2, some a3, some a4, some a5, some a6, some a7, none, none], [s1, s0])
  | 120, [a0, a1, a2, a3, a4, a5, a6, a7, s0, s1] => some ([some a0, some a1, some a2, some a3, some a4, some a5, some a6, some a7, none, none], [s1, s0])
  | _, _ => none
def f_X11_say : Nat → Nat → List Value → xH → xO
  | 0 => fun _ _ _ => none
  | n + 1 => fun pc env P => match pc, env with
    | 0, [.ref a0, .int a1, .int a2, .int a3, .int a4, .int a5, .int a6, .int a7] => b_X11_say_0 n (f_X11_say n) a0 a1 a2 a3 a4 a5 a6 a7 P
    | 35, [.ref a0, .int a1, .int a2, .int a3, .int a4, .int a5, .int a6, .int a7, .ref s0, .int s1] => b_X11_say_35 n (f_X11_say n) a0 a1 a2 a3 a4 a5 a6 a7 s0 s1 P
    | 81, [.ref a0, .int a1, .int a2, .int a3, .int a4, .int a5, .int a6, .int a7, .ref s0] => b_X11_say_81 n (f_X11_say n) a0 a1 a2 a3 a4 a5 a6 a7 s0 P
    | 98, [.ref a0, .int a1, .int a2, .int a3, .int a4, .int a5, .int a6, .int a7, .ref s0, .int s1] => b_X11_say_98 n (f_X11_say n) a0 a1 a2 a3 a4 a5 a6 a7 s0 s1 P
    | 120, [.ref a0, .int a1, .int a2, .int a3, .int a4, .int a5, .int a6, .int a7, .ref s0, .int s1] => b_X11_say_120 n (f_X11_say n) a0 a1 a2 a3 a4 a5 a6 a7 s0 s1 P
    | _, _ => none
set_option maxHeartbeats 2000000 in
set_option maxRecDepth 20000 in
theorem t_X11_say_0 {G : xG} {l : Launch} (hl : l.stackTraces = false) {n : Nat} {rec : Nat → List Value → xH → xO} (hrec : ∀ pc env P z, rec pc env P = some z → ∀ L st, lay_X11_say pc env = some (L, st) → ∀ Q : xR → xH → Prop, Q z.1 z.2 → Wp G l 10 mX11_say pc L st P Q) {a0 a1 a2 a3 a4 a5 a6 a7} {P : xH} {z : xR × xH} (h : b_X11_say_0 n rec a0 a1 a2 a3 a4 a5 a6 a7 P = some z) {Q : xR → xH → Prop} (hQ : Q z.1 z.2) : Wp G l 10 mX11_say 0 [some (.ref a0), some (.int a1), some (.int a2), some (.int a3), some (.int a4), some (.int a5), some (.int a6), some (.int a7), none, none] [] P Q := by
  unfold b_X11_say_0 at h
  refine x_aload_nr dX11_say_0 rfl ?_
  refine x_iconst 0 dX11_say_1 (by decide) ?_
  obtain ⟨P1, e2, h⟩ := Option.bind_eq_some_iff.mp h
  refine k_wI e2 dX11_say_2 f_X11_3 (Or.inl (by decide)) rfl ?_
  refine x_aload_nr dX11_say_5 rfl ?_
  refine x_aload_nr dX11_say_6 rfl ?_
  refine x_iload_n dX11_say_7 rfl ?_
  obtain ⟨_, e7, h⟩ := Option.bind_eq_some_iff.mp h
  obtain ⟨fse7, e7⟩ := kO_ok e7
  obtain ⟨r4, e5, h⟩ := Option.bind_eq_some_iff.mp h
  replace h := xI_ok h
  obtain ⟨v6, P3, rfl, h⟩ := h
  refine x_callV (c_X11_noPhone hl e5) dX11_say_8 cw_X11_noPhone wl_X11_104 wi_X11_noPhone wse_X11_noPhone rfl e7 (by decide) rfl (by omega) (by decide) rfl (Nat.le_of_ble_eq_true rfl) rfl (fun v9 P9 hq9 => ?_) (fun i9 P9 hq9 => by cases hq9)
  cases hq9
  refine x_if_ne 30 dX11_say_11 (by decide) (fun q18 => ?_) (fun q18 => ?_)
  · rw [if_pos q18] at h
    refine x_iconst 1 dX11_say_30 (by decide) ?_
    refine x_goto 35 dX11_say_31 (by decide) ?_
    exact Wp.mask [true, true, true, true, true, true, true, true, false, false] (hrec 35 _ _ _ h _ _ rfl _ hQ)
  · rw [if_neg (fun z9 => z9 q18)] at h
    refine x_iload dX11_say_14 rfl ?_
    obtain ⟨r9, e10, h⟩ := Option.bind_eq_some_iff.mp h
    replace h := xI_ok h
    obtain ⟨v11, P8, rfl, h⟩ := h
    refine x_callS (c_X11_noPerson hl e10) dX11_say_16 cw_X11_noPerson wl_X11_312 ws_X11_noPerson rfl (by omega) (by decide) rfl (Nat.le_of_ble_eq_true rfl) rfl (fun v9 P9 hq9 => ?_) (fun i9 P9 hq9 => by cases hq9)
    cases hq9
    refine x_if_ne 30 dX11_say_19 (by decide) (fun q17 => ?_) (fun q17 => ?_)
    · rw [if_pos q17] at h
      refine x_iconst 1 dX11_say_30 (by decide) ?_
      refine x_goto 35 dX11_say_31 (by decide) ?_
      exact Wp.mask [true, true, true, true, true, true, true, true, false, false] (hrec 35 _ _ _ h _ _ rfl _ hQ)
    · rw [if_neg (fun z9 => z9 q17)] at h
      refine x_iload dX11_say_22 rfl ?_
      obtain ⟨r13, e14, h⟩ := Option.bind_eq_some_iff.mp h
      replace h := xI_ok h
      obtain ⟨v15, P12, rfl, h⟩ := h
      refine x_callS (c_X11_noPlace hl e14) dX11_say_24 cw_X11_noPlace wl_X11_89 ws_X11_noPlace rfl (by omega) (by decide) rfl (Nat.le_of_ble_eq_true rfl) rfl (fun v9 P9 hq9 => ?_) (fun i9 P9 hq9 => by cases hq9)
      cases hq9
      refine x_if_eq 34 dX11_say_27 (by decide) (fun q16 => ?_) (fun q16 => ?_)
      · rw [if_pos q16] at h
        refine x_iconst 0 dX11_say_34 (by decide) ?_
        exact Wp.mask [true, true, true, true, true, true, true, true, false, false] (hrec 35 _ _ _ h _ _ rfl _ hQ)
      · rw [if_neg q16] at h
        refine x_iconst 1 dX11_say_30 (by decide) ?_
        refine x_goto 35 dX11_say_31 (by decide) ?_
        exact Wp.mask [true, true, true, true, true, true, true, true, false, false] (hrec 35 _ _ _ h _ _ rfl _ hQ)
set_option maxHeartbeats 2000000 in
set_option maxRecDepth 20000 in
theorem t_X11_say_35 {G : xG} {l : Launch} (hl : l.stackTraces = false) {n : Nat} {rec : Nat → List Value → xH → xO} (hrec : ∀ pc env P z, rec pc env P = some z → ∀ L st, lay_X11_say pc env = some (L, st) → ∀ Q : xR → xH → Prop, Q z.1 z.2 → Wp G l 10 mX11_say pc L st P Q) {a0 a1 a2 a3 a4 a5 a6 a7 s0 s1} {P : xH} {z : xR × xH} (h : b_X11_say_35 n rec a0 a1 a2 a3 a4 a5 a6 a7 s0 s1 P = some z) {Q : xR → xH → Prop} (hQ : Q z.1 z.2) : Wp G l 10 mX11_say 35 [some (.ref a0), some (.int a1), some (.int a2), some (.int a3), some (.int a4), some (.int a5), some (.int a6), some (.int a7), none, none] [.int s1, .ref s0] P Q := by
  unfold b_X11_say_35 at h
  refine x_iconst 1 dX11_say_35 (by decide) ?_
  obtain ⟨_, e5, h⟩ := Option.bind_eq_some_iff.mp h
  obtain ⟨fse5, e5⟩ := kO_ok e5
  obtain ⟨r2, e3, h⟩ := Option.bind_eq_some_iff.mp h
  replace h := xI_ok h
  obtain ⟨v4, P1, rfl, h⟩ := h
  refine x_callV (c_X11_throwsIf hl e3) dX11_say_36 cw_X11_throwsIf wl_X11_93 wi_X11_throwsIf wse_X11_throwsIf rfl e5 (by decide) rfl (by omega) (by decide) rfl (Nat.le_of_ble_eq_true rfl) rfl (fun v9 P9 hq9 => ?_) (fun i9 P9 hq9 => by cases hq9)
  cases hq9
  refine x_if_ne 127 dX11_say_39 (by decide) (fun q27 => ?_) (fun q27 => ?_)
  · rw [if_pos q27] at h
    refine x_iconst 0 dX11_say_127 (by decide) ?_
    cases h
    exact x_iret .int rfl rfl dX11_say_128 hQ
  · rw [if_neg (fun z9 => z9 q27)] at h
    refine x_aload_nr dX11_say_42 rfl ?_
    refine x_iload_n dX11_say_43 rfl ?_
    refine x_iconst 0 dX11_say_44 (by decide) ?_
    refine x_iconst 4 dX11_say_45 (by decide) ?_
    obtain ⟨r7, e8, h⟩ := Option.bind_eq_some_iff.mp h
    replace h := xI_ok h
    obtain ⟨v9, P6, rfl, h⟩ := h
    refine x_callS (c_X11_in hl e8) dX11_say_46 cw_X11_in wl_X11_68 ws_X11_in rfl (by omega) (by decide) rfl (Nat.le_of_ble_eq_true rfl) rfl (fun v9 P9 hq9 => ?_) (fun i9 P9 hq9 => by cases hq9)
    cases hq9
    refine x_if_eq 93 dX11_say_49 (by decide) (fun q26 => ?_) (fun q26 => ?_)
    · rw [if_pos q26] at h
      refine x_iconst 1 dX11_say_93 (by decide) ?_
      refine x_goto 98 dX11_say_94 (by decide) ?_
      exact Wp.mask [true, true, true, true, true, true, true, true, false, false] (hrec 98 _ _ _ h _ _ rfl _ hQ)
    · rw [if_neg q26] at h
      refine x_iload_n dX11_say_52 rfl ?_
      refine x_iconst 1 dX11_say_53 (by decide) ?_
      refine x_sipush 200 dX11_say_54 (by decide) ?_
      obtain ⟨r11, e12, h⟩ := Option.bind_eq_some_iff.mp h
      replace h := xI_ok h
      obtain ⟨v13, P10, rfl, h⟩ := h
      refine x_callS (c_X11_in hl e12) dX11_say_57 cw_X11_in wl_X11_68 ws_X11_in rfl (by omega) (by decide) rfl (Nat.le_of_ble_eq_true rfl) rfl (fun v9 P9 hq9 => ?_) (fun i9 P9 hq9 => by cases hq9)
      cases hq9
      refine x_if_eq 93 dX11_say_60 (by decide) (fun q25 => ?_) (fun q25 => ?_)
      · rw [if_pos q25] at h
        refine x_iconst 1 dX11_say_93 (by decide) ?_
        refine x_goto 98 dX11_say_94 (by decide) ?_
        exact Wp.mask [true, true, true, true, true, true, true, true, false, false] (hrec 98 _ _ _ h _ _ rfl _ hQ)
      · rw [if_neg q25] at h
        refine x_iload_n dX11_say_63 rfl ?_
        refine x_iconst 1 dX11_say_64 (by decide) ?_
        refine x_icmp_gt 81 dX11_say_65 (by decide) (fun q24 => ?_) (fun q24 => ?_)
        · rw [if_pos q24] at h
          exact Wp.mask [true, true, true, true, true, true, true, true, false, false] (hrec 81 _ _ _ h _ _ rfl _ hQ)
        · rw [if_neg q24] at h
          refine x_iload dX11_say_68 rfl ?_
          refine x_iconst 0 dX11_say_70 (by decide) ?_
          refine x_aload_nr dX11_say_71 rfl ?_
          obtain ⟨_, e18, h⟩ := Option.bind_eq_some_iff.mp h
          obtain ⟨fse18, e18⟩ := kO_ok e18
          obtain ⟨r15, e16, h⟩ := Option.bind_eq_some_iff.mp h
          replace h := xI_ok h
          obtain ⟨v17, P14, rfl, h⟩ := h
          refine x_callV (c_X11_tick hl e16) dX11_say_72 cw_X11_tick wl_X11_97 wi_X11_tick wse_X11_tick rfl e18 (by decide) rfl (by omega) (by decide) rfl (Nat.le_of_ble_eq_true rfl) rfl (fun v9 P9 hq9 => ?_) (fun i9 P9 hq9 => by cases hq9)
          cases hq9
          obtain ⟨r20, e21, h⟩ := Option.bind_eq_some_iff.mp h
          replace h := xI_ok h
          obtain ⟨v22, P19, rfl, h⟩ := h
          refine x_callS (c_X11_in hl e21) dX11_say_75 cw_X11_in wl_X11_68 ws_X11_in rfl (by omega) (by decide) rfl (Nat.le_of_ble_eq_true rfl) rfl (fun v9 P9 hq9 => ?_) (fun i9 P9 hq9 => by cases hq9)
          cases hq9
          refine x_if_eq 93 dX11_say_78 (by decide) (fun q23 => ?_) (fun q23 => ?_)
          · rw [if_pos q23] at h
            refine x_iconst 1 dX11_say_93 (by decide) ?_
            refine x_goto 98 dX11_say_94 (by decide) ?_
            exact Wp.mask [true, true, true, true, true, true, true, true, false, false] (hrec 98 _ _ _ h _ _ rfl _ hQ)
          · rw [if_neg q23] at h
            exact Wp.mask [true, true, true, true, true, true, true, true, false, false] (hrec 81 _ _ _ h _ _ rfl _ hQ)
set_option maxHeartbeats 2000000 in
set_option maxRecDepth 20000 in
theorem t_X11_say_81 {G : xG} {l : Launch} (hl : l.stackTraces = false) {n : Nat} {rec : Nat → List Value → xH → xO} (hrec : ∀ pc env P z, rec pc env P = some z → ∀ L st, lay_X11_say pc env = some (L, st) → ∀ Q : xR → xH → Prop, Q z.1 z.2 → Wp G l 10 mX11_say pc L st P Q) {a0 a1 a2 a3 a4 a5 a6 a7 s0} {P : xH} {z : xR × xH} (h : b_X11_say_81 n rec a0 a1 a2 a3 a4 a5 a6 a7 s0 P = some z) {Q : xR → xH → Prop} (hQ : Q z.1 z.2) : Wp G l 10 mX11_say 81 [some (.ref a0), some (.int a1), some (.int a2), some (.int a3), some (.int a4), some (.int a5), some (.int a6), some (.int a7), none, none] [.ref s0] P Q := by
  unfold b_X11_say_81 at h
  refine x_iload dX11_say_81 rfl ?_
  refine x_iconst 0 dX11_say_83 (by decide) ?_
  refine x_sipush 9999 dX11_say_84 (by decide) ?_
  obtain ⟨r2, e3, h⟩ := Option.bind_eq_some_iff.mp h
  replace h := xI_ok h
  obtain ⟨v4, P1, rfl, h⟩ := h
  refine x_callS (c_X11_in hl e3) dX11_say_87 cw_X11_in wl_X11_68 ws_X11_in rfl (by omega) (by decide) rfl (Nat.le_of_ble_eq_true rfl) rfl (fun v9 P9 hq9 => ?_) (fun i9 P9 hq9 => by cases hq9)
  cases hq9
  refine x_if_ne 97 dX11_say_90 (by decide) (fun q5 => ?_) (fun q5 => ?_)
  · rw [if_pos q5] at h
    refine x_iconst 0 dX11_say_97 (by decide) ?_
    exact Wp.mask [true, true, true, true, true, true, true, true, false, false] (hrec 98 _ _ _ h _ _ rfl _ hQ)
  · rw [if_neg (fun z9 => z9 q5)] at h
    refine x_iconst 1 dX11_say_93 (by decide) ?_
    refine x_goto 98 dX11_say_94 (by decide) ?_
    exact Wp.mask [true, true, true, true, true, true, true, true, false, false] (hrec 98 _ _ _ h _ _ rfl _ hQ)
set_option maxHeartbeats 2000000 in
set_option maxRecDepth 20000 in
theorem t_X11_say_98 {G : xG} {l : Launch} (hl : l.stackTraces = false) {n : Nat} {rec : Nat → List Value → xH → xO} (hrec : ∀ pc env P z, rec pc env P = some z → ∀ L st, lay_X11_say pc env = some (L, st) → ∀ Q : xR → xH → Prop, Q z.1 z.2 → Wp G l 10 mX11_say pc L st P Q) {a0 a1 a2 a3 a4 a5 a6 a7 s0 s1} {P : xH} {z : xR × xH} (h : b_X11_say_98 n rec a0 a1 a2 a3 a4 a5 a6 a7 s0 s1 P = some z) {Q : xR → xH → Prop} (hQ : Q z.1 z.2) : Wp G l 10 mX11_say 98 [some (.ref a0), some (.int a1), some (.int a2), some (.int a3), some (.int a4), some (.int a5), some (.int a6), some (.int a7), none, none] [.int s1, .ref s0] P Q := by
  unfold b_X11_say_98 at h
  refine x_iconst 2 dX11_say_98 (by decide) ?_
  obtain ⟨_, e5, h⟩ := Option.bind_eq_some_iff.mp h
  obtain ⟨fse5, e5⟩ := kO_ok e5
  obtain ⟨r2, e3, h⟩ := Option.bind_eq_some_iff.mp h
  replace h := xI_ok h
  obtain ⟨v4, P1, rfl, h⟩ := h
  refine x_callV (c_X11_throwsIf hl e3) dX11_say_99 cw_X11_throwsIf wl_X11_93 wi_X11_throwsIf wse_X11_throwsIf rfl e5 (by decide) rfl (by omega) (by decide) rfl (Nat.le_of_ble_eq_true rfl) rfl (fun v9 P9 hq9 => ?_) (fun i9 P9 hq9 => by cases hq9)
  cases hq9
  refine x_if_ne 127 dX11_say_102 (by decide) (fun q12 => ?_) (fun q12 => ?_)
  · rw [if_pos q12] at h
    refine x_iconst 0 dX11_say_127 (by decide) ?_
    cases h
    exact x_iret .int rfl rfl dX11_say_128 hQ
  · rw [if_neg (fun z9 => z9 q12)] at h
    refine x_aload_nr dX11_say_105 rfl ?_
    refine x_aload_nr dX11_say_106 rfl ?_
    obtain ⟨_, e10, h⟩ := Option.bind_eq_some_iff.mp h
    obtain ⟨fse10, e10⟩ := kO_ok e10
    obtain ⟨r7, e8, h⟩ := Option.bind_eq_some_iff.mp h
    replace h := xI_ok h
    obtain ⟨v9, P6, rfl, h⟩ := h
    refine x_callV (c_X11_words hl e8) dX11_say_107 cw_X11_words wl_X11_72 wi_X11_words wse_X11_words rfl e10 (by decide) rfl (by omega) (by decide) rfl (Nat.le_of_ble_eq_true rfl) rfl (fun v9 P9 hq9 => ?_) (fun i9 P9 hq9 => by cases hq9)
    cases hq9
    refine x_bipush 30 dX11_say_110 (by decide) ?_
    refine x_icmp_ne 119 dX11_say_112 (by decide) (fun q11 => ?_) (fun q11 => ?_)
    · rw [if_pos q11] at h
      refine x_iconst 0 dX11_say_119 (by decide) ?_
      exact Wp.mask [true, true, true, true, true, true, true, true, false, false] (hrec 120 _ _ _ h _ _ rfl _ hQ)
    · rw [if_neg (fun z9 => z9 q11)] at h
      refine x_iconst 1 dX11_say_115 (by decide) ?_
      refine x_goto 120 dX11_say_116 (by decide) ?_
      exact Wp.mask [true, true, true, true, true, true, true, true, false, false] (hrec 120 _ _ _ h _ _ rfl _ hQ)
set_option maxHeartbeats 2000000 in
set_option maxRecDepth 20000 in
theorem t_X11_say_120 {G : xG} {l : Launch} (hl : l.stackTraces = false) {n : Nat} {rec : Nat → List Value → xH → xO} (hrec : ∀ pc env P z, rec pc env P = some z → ∀ L st, lay_X11_say pc env = some (L, st) → ∀ Q : xR → xH → Prop, Q z.1 z.2 → Wp G l 10 mX11_say pc L st P Q) {a0 a1 a2 a3 a4 a5 a6 a7 s0 s1} {P : xH} {z : xR × xH} (h : b_X11_say_120 n rec a0 a1 a2 a3 a4 a5 a6 a7 s0 s1 P = some z) {Q : xR → xH → Prop} (hQ : Q z.1 z.2) : Wp G l 10 mX11_say 120 [some (.ref a0), some (.int a1), some (.int a2), some (.int a3), some (.int a4), some (.int a5), some (.int a6), some (.int a7), none, none] [.int s1, .ref s0] P Q := by
  unfold b_X11_say_120 at h
  refine x_iconst 3 dX11_say_120 (by decide) ?_
  obtain ⟨_, e5, h⟩ := Option.bind_eq_some_iff.mp h
  obtain ⟨fse5, e5⟩ := kO_ok e5
  obtain ⟨r2, e3, h⟩ := Option.bind_eq_some_iff.mp h
  replace h := xI_ok h
  obtain ⟨v4, P1, rfl, h⟩ := h
  refine x_callV (c_X11_throwsIf hl e3) dX11_say_121 cw_X11_throwsIf wl_X11_93 wi_X11_throwsIf wse_X11_throwsIf rfl e5 (by decide) rfl (by omega) (by decide) rfl (Nat.le_of_ble_eq_true rfl) rfl (fun v9 P9 hq9 => ?_) (fun i9 P9 hq9 => by cases hq9)
  cases hq9
  refine x_if_eq 129 dX11_say_124 (by decide) (fun q31 => ?_) (fun q31 => ?_)
  · rw [if_pos q31] at h
    refine x_aload_nr dX11_say_129 rfl ?_
    refine x_iload_n dX11_say_130 rfl ?_
    refine x_iload_n dX11_say_131 rfl ?_
    refine x_iload_n dX11_say_132 rfl ?_
    obtain ⟨_, e10, h⟩ := Option.bind_eq_some_iff.mp h
    obtain ⟨fse10, e10⟩ := kO_ok e10
    obtain ⟨r7, e8, h⟩ := Option.bind_eq_some_iff.mp h
    replace h := xI_ok h
    obtain ⟨v9, P6, rfl, h⟩ := h
    refine x_callV (c_X11_begins hl e8) dX11_say_133 cw_X11_begins wl_X11_315 wi_X11_begins wse_X11_begins rfl e10 (by decide) rfl (by omega) (by decide) rfl (Nat.le_of_ble_eq_true rfl) rfl (fun v9 P9 hq9 => ?_) (fun i9 P9 hq9 => by cases hq9)
    cases hq9
    refine x_istore dX11_say_136 (Nat.le_of_ble_eq_true rfl) ?_
    refine x_sipush 761 dX11_say_138 (by decide) ?_
    refine x_bipush 10 dX11_say_141 (by decide) ?_
    refine x_iload dX11_say_143 rfl ?_
    refine x_imul dX11_say_145 ?_
    refine x_iadd dX11_say_146 ?_
    refine x_istore dX11_say_147 (Nat.le_of_ble_eq_true rfl) ?_
    refine x_aload_nr dX11_say_149 rfl ?_
    obtain ⟨v11, e12, h⟩ := Option.bind_eq_some_iff.mp h
    refine k_rA e12 dX11_say_150 f_X11_20 ?_
    refine x_iload dX11_say_153 rfl ?_
    refine x_iconst 4 dX11_say_155 (by decide) ?_
    refine x_iadd dX11_say_156 ?_
    refine x_iload dX11_say_157 rfl ?_
    obtain ⟨P13, e14, h⟩ := Option.bind_eq_some_iff.mp h
    refine k_sI e14 dX11_say_159 ?_
    refine x_aload_nr dX11_say_160 rfl ?_
    obtain ⟨v15, e16, h⟩ := Option.bind_eq_some_iff.mp h
    refine k_rA e16 dX11_say_161 f_X11_20 ?_
    refine x_iload dX11_say_164 rfl ?_
    refine x_iconst 5 dX11_say_166 (by decide) ?_
    refine x_iadd dX11_say_167 ?_
    refine x_iload dX11_say_168 rfl ?_
    obtain ⟨P17, e18, h⟩ := Option.bind_eq_some_iff.mp h
    refine k_sI e18 dX11_say_170 ?_
    refine x_aload_nr dX11_say_171 rfl ?_
    obtain ⟨v19, e20, h⟩ := Option.bind_eq_some_iff.mp h
    refine k_rA e20 dX11_say_172 f_X11_20 ?_
    refine x_iload dX11_say_175 rfl ?_
    refine x_bipush 6 dX11_say_177 (by decide) ?_
    refine x_iadd dX11_say_179 ?_
    refine x_iload dX11_say_180 rfl ?_
    obtain ⟨P21, e22, h⟩ := Option.bind_eq_some_iff.mp h
    refine k_sI e22 dX11_say_182 ?_
    refine x_aload_nr dX11_say_183 rfl ?_
    obtain ⟨v23, e24, h⟩ := Option.bind_eq_some_iff.mp h
    refine k_rA e24 dX11_say_184 f_X11_20 ?_
    refine x_iload dX11_say_187 rfl ?_
    refine x_bipush 7 dX11_say_189 (by decide) ?_
    refine x_iadd dX11_say_191 ?_
    refine x_iload dX11_say_192 rfl ?_
    obtain ⟨P25, e26, h⟩ := Option.bind_eq_some_iff.mp h
    refine k_sI e26 dX11_say_194 ?_
    refine x_aload_nr dX11_say_195 rfl ?_
    refine x_iload dX11_say_196 rfl ?_
    obtain ⟨_, e30, h⟩ := Option.bind_eq_some_iff.mp h
    obtain ⟨fse30, e30⟩ := kO_ok e30
    obtain ⟨r28, e29, h⟩ := Option.bind_eq_some_iff.mp h
    replace h := xU_ok h
    obtain ⟨P27, rfl, h⟩ := h
    refine x_callV (c_X11_tells hl e29) dX11_say_198 cw_X11_tells wl_X11_318 wi_X11_tells wse_X11_tells rfl e30 (by decide) rfl (by omega) (by decide) rfl (Nat.le_of_ble_eq_true rfl) rfl (fun v9 P9 hq9 => ?_) (fun i9 P9 hq9 => by cases hq9)
    cases hq9
    refine x_iload dX11_say_201 rfl ?_
    cases h
    exact x_iret .int rfl rfl dX11_say_203 hQ
  · rw [if_neg q31] at h
    refine x_iconst 0 dX11_say_127 (by decide) ?_
    cases h
    exact x_iret .int rfl rfl dX11_say_128 hQ
theorem s_X11_say {G : xG} {l : Launch} (hl : l.stackTraces = false) : ∀ n pc env P z, f_X11_say n pc env P = some z → ∀ L st, lay_X11_say pc env = some (L, st) → ∀ Q : xR → xH → Prop, Q z.1 z.2 → Wp G l 10 mX11_say pc L st P Q := by
  intro n
  induction n with
  | zero => intro pc env P z h; cases h
  | succ n ih =>
    intro pc env P z h L st hlay Q hQ
    unfold f_X11_say at h
    split at h
    · cases hlay
      exact t_X11_say_0 hl ih h hQ
    · cases hlay
      exact t_X11_say_35 hl ih h hQ
    · cases hlay
      exact t_X11_say_81 hl ih h hQ
    · cases hlay
      exact t_X11_say_98 hl ih h hQ
    · cases hlay
      exact t_X11_say_120 hl ih h hQ
    · cases h
theorem c_X11_say {G : xG} {l : Launch} (hl : l.stackTraces = false) {n : Nat} {as : List Value} {P : xH} {z : xR × xH} (h : f_X11_say n 0 as P = some z) : Ct G l 10 mX11_say as P (fun r P1 => (r, P1) = z) := by
  cases n with
  | zero => cases h
  | succ n =>
    unfold f_X11_say at h
    split at h
    · exact Ct.of hl (by decide +kernel) wc_X11_say (Nat.le_of_ble_eq_true rfl) (t_X11_say_0 hl (s_X11_say hl _) h rfl)
    all_goals first | (cases h; done) | (rename_i q9 _; exact absurd q9 (by decide)) | (rename_i q9; exact absurd q9 (by decide)) | contradiction
/-! QuakeNetModel.noWord(I)Z -/
def b_X11_noWord_0 (n : Nat) (rec : Nat → List Value → xH → xO) (a0 : Nat) (a1 : Int32) (P : xH) : xO :=
  (kO P a0 11).bind fun _ =>
  (f_X11_words n 0 [.ref a0] P).bind fun r2 => xI r2 fun v4 P1 =>
  (f_X11_in n 0 [.int a1, .int 0, .int ((v4 - 1))] P1).bind fun r7 => xI r7 fun v9 P6 =>
  if ¬ v9 = 0 then
    some (.inl (some (.int 0)), P6)
  else
    some (.inl (some (.int 1)), P6)
def lay_X11_noWord : Nat → List Value → Option (xL × List Value)
  | 0, [a0, a1] => some ([some a0, some a1], [])
  | _, _ => none
def f_X11_noWord : Nat → Nat → List Value → xH → xO
  | 0 => fun _ _ _ => none
  | n + 1 => fun pc env P => match pc, env with
    | 0, [.ref a0, .int a1] => b_X11_noWord_0 n (f_X11_noWord n) a0 a1 P
    | _, _ => none
set_option maxHeartbeats 2000000 in
set_option maxRecDepth 20000 in
theorem t_X11_noWord_0 {G : xG} {l : Launch} (hl : l.stackTraces = false) {n : Nat} {rec : Nat → List Value → xH → xO} (hrec : ∀ pc env P z, rec pc env P = some z → ∀ L st, lay_X11_noWord pc env = some (L, st) → ∀ Q : xR → xH → Prop, Q z.1 z.2 → Wp G l 4 mX11_noWord pc L st P Q) {a0 a1} {P : xH} {z : xR × xH} (h : b_X11_noWord_0 n rec a0 a1 P = some z) {Q : xR → xH → Prop} (hQ : Q z.1 z.2) : Wp G l 4 mX11_noWord 0 [some (.ref a0), some (.int a1)] [] P Q := by
  unfold b_X11_noWord_0 at h
  refine x_iload_n dX11_noWord_0 rfl ?_
  refine x_iconst 0 dX11_noWord_1 (by decide) ?_
  refine x_aload_nr dX11_noWord_2 rfl ?_
  obtain ⟨_, e5, h⟩ := Option.bind_eq_some_iff.mp h
  obtain ⟨fse5, e5⟩ := kO_ok e5
  obtain ⟨r2, e3, h⟩ := Option.bind_eq_some_iff.mp h
  replace h := xI_ok h
  obtain ⟨v4, P1, rfl, h⟩ := h
  refine x_callV (c_X11_words hl e3) dX11_noWord_3 cw_X11_words wl_X11_72 wi_X11_words wse_X11_words rfl e5 (by decide) rfl (by omega) (by decide) rfl (Nat.le_of_ble_eq_true rfl) rfl (fun v9 P9 hq9 => ?_) (fun i9 P9 hq9 => by cases hq9)
  cases hq9
  refine x_iconst 1 dX11_noWord_6 (by decide) ?_
  refine x_isub dX11_noWord_7 ?_
  obtain ⟨r7, e8, h⟩ := Option.bind_eq_some_iff.mp h
  replace h := xI_ok h
  obtain ⟨v9, P6, rfl, h⟩ := h
  refine x_callS (c_X11_in hl e8) dX11_noWord_8 cw_X11_in wl_X11_68 ws_X11_in rfl (by omega) (by decide) rfl (Nat.le_of_ble_eq_true rfl) rfl (fun v9 P9 hq9 => ?_) (fun i9 P9 hq9 => by cases hq9)
  cases hq9
  refine x_if_ne 18 dX11_noWord_11 (by decide) (fun q10 => ?_) (fun q10 => ?_)
  · rw [if_pos q10] at h
    refine x_iconst 0 dX11_noWord_18 (by decide) ?_
    cases h
    exact x_iret .boolean rfl rfl dX11_noWord_19 hQ
  · rw [if_neg (fun z9 => z9 q10)] at h
    refine x_iconst 1 dX11_noWord_14 (by decide) ?_
    refine x_goto 19 dX11_noWord_15 (by decide) ?_
    cases h
    exact x_iret .boolean rfl rfl dX11_noWord_19 hQ
theorem s_X11_noWord {G : xG} {l : Launch} (hl : l.stackTraces = false) : ∀ n pc env P z, f_X11_noWord n pc env P = some z → ∀ L st, lay_X11_noWord pc env = some (L, st) → ∀ Q : xR → xH → Prop, Q z.1 z.2 → Wp G l 4 mX11_noWord pc L st P Q := by
  intro n
  induction n with
  | zero => intro pc env P z h; cases h
  | succ n ih =>
    intro pc env P z h L st hlay Q hQ
    unfold f_X11_noWord at h
    split at h
    · cases hlay
      exact t_X11_noWord_0 hl ih h hQ
    · cases h
theorem c_X11_noWord {G : xG} {l : Launch} (hl : l.stackTraces = false) {n : Nat} {as : List Value} {P : xH} {z : xR × xH} (h : f_X11_noWord n 0 as P = some z) : Ct G l 4 mX11_noWord as P (fun r P1 => (r, P1) = z) := by
  cases n with
  | zero => cases h
  | succ n =>
    unfold f_X11_noWord at h
    split at h
    · exact Ct.of hl (by decide +kernel) wc_X11_noWord (Nat.le_of_ble_eq_true rfl) (t_X11_noWord_0 hl (s_X11_noWord hl _) h rfl)
    all_goals first | (cases h; done) | (rename_i q9 _; exact absurd q9 (by decide)) | (rename_i q9; exact absurd q9 (by decide)) | contradiction
/-! QuakeNetModel.undo(III)I -/
def b_X11_undo_0 (n : Nat) (rec : Nat → List Value → xH → xO) (a0 : Nat) (a1 : Int32) (a2 : Int32) (a3 : Int32) (P : xH) : xO :=
  (wV P a0 11 0 (.int 0)).bind fun P1 =>
  (kO P1 a0 11).bind fun _ =>
  (f_X11_noPhone n 0 [.ref a0, .int a1] P1).bind fun r4 => xI r4 fun v6 P3 =>
  if ¬ v6 = 0 then
    rec 27 [.ref a0, .int a1, .int a2, .int a3, .ref a0, .int 1] P3
  else
    (kO P3 a0 11).bind fun _ =>
    (f_X11_noWord n 0 [.ref a0, .int a3] P3).bind fun r9 => xI r9 fun v11 P8 =>
    if v11 = 0 then
      rec 27 [.ref a0, .int a1, .int a2, .int a3, .ref a0, .int 0] P8
    else
      rec 27 [.ref a0, .int a1, .int a2, .int a3, .ref a0, .int 1] P8
def b_X11_undo_27 (n : Nat) (rec : Nat → List Value → xH → xO) (a0 : Nat) (a1 : Int32) (a2 : Int32) (a3 : Int32) (s0 : Nat) (s1 : Int32) (P : xH) : xO :=
  (kO P s0 11).bind fun _ =>
  (f_X11_throwsIf n 0 [.ref s0, .int s1, .int 1] P).bind fun r2 => xI r2 fun v4 P1 =>
  if ¬ v4 = 0 then
    some (.inl (some (.int 0)), P1)
  else
    (f_X11_in n 0 [.int a2, .int 1, .int 200] P1).bind fun r7 => xI r7 fun v9 P6 =>
    if v9 = 0 then
      rec 61 [.ref a0, .int a1, .int a2, .int a3, .ref a0, .int 1] P6
    else
      (kO P6 a0 11).bind fun _ =>
      (f_X11_of n 0 [.ref a0, .int a3, .int 0] P6).bind fun r11 => xI r11 fun v13 P10 =>
      if ¬ v13 = 5 then
        rec 61 [.ref a0, .int a1, .int a2, .int a3, .ref a0, .int 0] P10
      else
        rec 61 [.ref a0, .int a1, .int a2, .int a3, .ref a0, .int 1] P10
def b_X11_undo_61 (n : Nat) (rec : Nat → List Value → xH → xO) (a0 : Nat) (a1 : Int32) (a2 : Int32) (a3 : Int32) (s0 : Nat) (s1 : Int32) (P : xH) : xO :=
  (kO P s0 11).bind fun _ =>
  (f_X11_throwsIf n 0 [.ref s0, .int s1, .int 2] P).bind fun r2 => xI r2 fun v4 P1 =>
  if ¬ v4 = 0 then
    some (.inl (some (.int 0)), P1)
  else
    (kO P1 a0 11).bind fun _ =>
    (f_X11_words n 0 [.ref a0] P1).bind fun r7 => xI r7 fun v9 P6 =>
    if ¬ v9 = 30 then
      rec 83 [.ref a0, .int a1, .int a2, .int a3, .ref a0, .int 0] P6
    else
      rec 83 [.ref a0, .int a1, .int a2, .int a3, .ref a0, .int 1] P6
def b_X11_undo_83 (n : Nat) (rec : Nat → List Value → xH → xO) (a0 : Nat) (a1 : Int32) (a2 : Int32) (a3 : Int32) (s0 : Nat) (s1 : Int32) (P : xH) : xO :=
  (kO P s0 11).bind fun _ =>
  (f_X11_throwsIf n 0 [.ref s0, .int s1, .int 3] P).bind fun r2 => xI r2 fun v4 P1 =>
  if v4 = 0 then
    (kO P1 a0 11).bind fun _ =>
    (f_X11_begins n 0 [.ref a0, .int a1, .int 5, .int a2] P1).bind fun r7 => xI r7 fun v9 P6 =>
    (rA P6 a0 11 3).bind fun v11 =>
    (sI P6 v11 ((((761 + ((10 * v9)))) + 8)) a3).bind fun P13 =>
    (kO P13 a0 11).bind fun _ =>
    (f_X11_tells n 0 [.ref a0, .int v9] P13).bind fun r16 => xU r16 fun P15 =>
    some (.inl (some (.int v9)), P15)
  else
    some (.inl (some (.int 0)), P1)
def lay_X11_undo : Nat → List Value → Option (xL × List Value)
  | 0, [a0, a1, a2, a3] => some ([some a0, some a1, some a2, some a3, none], [])
  | 27, [a0, a1, a2, a3, s0, s1] => some ([some a0, some a1, some a2, some a3, none], [s1, s0])
  | 61, [a0, a1, a2, a3, s0, s1] => some ([some a0, some a1, some a2, some a3, none], [s1, s0])
  | 83, [a0, a1, a2, a3, s0, s1] => some ([some a0, some a1, some a2, some a3, none], [s1, s0])
  | _, _ => none
def f_X11_undo : Nat → Nat → List Value → xH → xO
  | 0 => fun _ _ _ => none
  | n + 1 => fun pc env P => match pc, env with
    | 0, [.ref a0, .int a1, .int a2, .int a3] => b_X11_undo_0 n (f_X11_undo n) a0 a1 a2 a3 P
    | 27, [.ref a0, .int a1, .int a2, .int a3, .ref s0, .int s1] => b_X11_undo_27 n (f_X11_undo n) a0 a1 a2 a3 s0 s1 P
    | 61, [.ref a0, .int a1, .int a2, .int a3, .ref s0, .int s1] => b_X11_undo_61 n (f_X11_undo n) a0 a1 a2 a3 s0 s1 P
    | 83, [.ref a0, .int a1, .int a2, .int a3, .ref s0, .int s1] => b_X11_undo_83 n (f_X11_undo n) a0 a1 a2 a3 s0 s1 P
    | _, _ => none
set_option maxHeartbeats 2000000 in
set_option maxRecDepth 20000 in
theorem t_X11_undo_0 {G : xG} {l : Launch} (hl : l.stackTraces = false) {n : Nat} {rec : Nat → List Value → xH → xO} (hrec : ∀ pc env P z, rec pc env P = some z → ∀ L st, lay_X11_undo pc env = some (L, st) → ∀ Q : xR → xH → Prop, Q z.1 z.2 → Wp G l 10 mX11_undo pc L st P Q) {a0 a1 a2 a3} {P : xH} {z : xR × xH} (h : b_X11_undo_0 n rec a0 a1 a2 a3 P = some z) {Q : xR → xH → Prop} (hQ : Q z.1 z.2) : Wp G l 10 mX11_undo 0 [some (.ref a0), some (.int a1), some (.int a2), some (.int a3), none] [] P Q := by
  unfold b_X11_undo_0 at h
  refine x_aload_nr dX11_undo_0 rfl ?_
  refine x_iconst 0 dX11_undo_1 (by decide) ?_
  obtain ⟨P1, e2, h⟩ := Option.bind_eq_some_iff.mp h
  refine k_wI e2 dX11_undo_2 f_X11_3 (Or.inl (by decide)) rfl ?_
  refine x_aload_nr dX11_undo_5 rfl ?_
  refine x_aload_nr dX11_undo_6 rfl ?_
  refine x_iload_n dX11_undo_7 rfl ?_
  obtain ⟨_, e7, h⟩ := Option.bind_eq_some_iff.mp h
  obtain ⟨fse7, e7⟩ := kO_ok e7
  obtain ⟨r4, e5, h⟩ := Option.bind_eq_some_iff.mp h
  replace h := xI_ok h
  obtain ⟨v6, P3, rfl, h⟩ := h
  refine x_callV (c_X11_noPhone hl e5) dX11_undo_8 cw_X11_noPhone wl_X11_104 wi_X11_noPhone wse_X11_noPhone rfl e7 (by decide) rfl (by omega) (by decide) rfl (Nat.le_of_ble_eq_true rfl) rfl (fun v9 P9 hq9 => ?_) (fun i9 P9 hq9 => by cases hq9)
  cases hq9
  refine x_if_ne 22 dX11_undo_11 (by decide) (fun q14 => ?_) (fun q14 => ?_)
  · rw [if_pos q14] at h
    refine x_iconst 1 dX11_undo_22 (by decide) ?_
    refine x_goto 27 dX11_undo_23 (by decide) ?_
    exact Wp.mask [true, true, true, true, false] (hrec 27 _ _ _ h _ _ rfl _ hQ)
  · rw [if_neg (fun z9 => z9 q14)] at h
    refine x_aload_nr dX11_undo_14 rfl ?_
    refine x_iload_n dX11_undo_15 rfl ?_
    obtain ⟨_, e12, h⟩ := Option.bind_eq_some_iff.mp h
    obtain ⟨fse12, e12⟩ := kO_ok e12
    obtain ⟨r9, e10, h⟩ := Option.bind_eq_some_iff.mp h
    replace h := xI_ok h
    obtain ⟨v11, P8, rfl, h⟩ := h
    refine x_callV (c_X11_noWord hl e10) dX11_undo_16 cw_X11_noWord wl_X11_322 wi_X11_noWord wse_X11_noWord rfl e12 (by decide) rfl (by omega) (by decide) rfl (Nat.le_of_ble_eq_true rfl) rfl (fun v9 P9 hq9 => ?_) (fun i9 P9 hq9 => by cases hq9)
    cases hq9
    refine x_if_eq 26 dX11_undo_19 (by decide) (fun q13 => ?_) (fun q13 => ?_)
    · rw [if_pos q13] at h
      refine x_iconst 0 dX11_undo_26 (by decide) ?_
      exact Wp.mask [true, true, true, true, false] (hrec 27 _ _ _ h _ _ rfl _ hQ)
    · rw [if_neg q13] at h
      refine x_iconst 1 dX11_undo_22 (by decide) ?_
      refine x_goto 27 dX11_undo_23 (by decide) ?_
      exact Wp.mask [true, true, true, true, false] (hrec 27 _ _ _ h _ _ rfl _ hQ)
set_option maxHeartbeats 2000000 in
set_option maxRecDepth 20000 in
theorem t_X11_undo_27 {G : xG} {l : Launch} (hl : l.stackTraces = false) {n : Nat} {rec : Nat → List Value → xH → xO} (hrec : ∀ pc env P z, rec pc env P = some z → ∀ L st, lay_X11_undo pc env = some (L, st) → ∀ Q : xR → xH → Prop, Q z.1 z.2 → Wp G l 10 mX11_undo pc L st P Q) {a0 a1 a2 a3 s0 s1} {P : xH} {z : xR × xH} (h : b_X11_undo_27 n rec a0 a1 a2 a3 s0 s1 P = some z) {Q : xR → xH → Prop} (hQ : Q z.1 z.2) : Wp G l 10 mX11_undo 27 [some (.ref a0), some (.int a1), some (.int a2), some (.int a3), none] [.int s1, .ref s0] P Q := by
  unfold b_X11_undo_27 at h
  refine x_iconst 1 dX11_undo_27 (by decide) ?_
  obtain ⟨_, e5, h⟩ := Option.bind_eq_some_iff.mp h
  obtain ⟨fse5, e5⟩ := kO_ok e5
  obtain ⟨r2, e3, h⟩ := Option.bind_eq_some_iff.mp h
  replace h := xI_ok h
  obtain ⟨v4, P1, rfl, h⟩ := h
  refine x_callV (c_X11_throwsIf hl e3) dX11_undo_28 cw_X11_throwsIf wl_X11_93 wi_X11_throwsIf wse_X11_throwsIf rfl e5 (by decide) rfl (by omega) (by decide) rfl (Nat.le_of_ble_eq_true rfl) rfl (fun v9 P9 hq9 => ?_) (fun i9 P9 hq9 => by cases hq9)
  cases hq9
  refine x_if_ne 90 dX11_undo_31 (by decide) (fun q17 => ?_) (fun q17 => ?_)
  · rw [if_pos q17] at h
    refine x_iconst 0 dX11_undo_90 (by decide) ?_
    cases h
    exact x_iret .int rfl rfl dX11_undo_91 hQ
  · rw [if_neg (fun z9 => z9 q17)] at h
    refine x_aload_nr dX11_undo_34 rfl ?_
    refine x_iload_n dX11_undo_35 rfl ?_
    refine x_iconst 1 dX11_undo_36 (by decide) ?_
    refine x_sipush 200 dX11_undo_37 (by decide) ?_
    obtain ⟨r7, e8, h⟩ := Option.bind_eq_some_iff.mp h
    replace h := xI_ok h
    obtain ⟨v9, P6, rfl, h⟩ := h
    refine x_callS (c_X11_in hl e8) dX11_undo_40 cw_X11_in wl_X11_68 ws_X11_in rfl (by omega) (by decide) rfl (Nat.le_of_ble_eq_true rfl) rfl (fun v9 P9 hq9 => ?_) (fun i9 P9 hq9 => by cases hq9)
    cases hq9
    refine x_if_eq 56 dX11_undo_43 (by decide) (fun q16 => ?_) (fun q16 => ?_)
    · rw [if_pos q16] at h
      refine x_iconst 1 dX11_undo_56 (by decide) ?_
      refine x_goto 61 dX11_undo_57 (by decide) ?_
      exact Wp.mask [true, true, true, true, false] (hrec 61 _ _ _ h _ _ rfl _ hQ)
    · rw [if_neg q16] at h
      refine x_aload_nr dX11_undo_46 rfl ?_
      refine x_iload_n dX11_undo_47 rfl ?_
      refine x_iconst 0 dX11_undo_48 (by decide) ?_
      obtain ⟨_, e14, h⟩ := Option.bind_eq_some_iff.mp h
      obtain ⟨fse14, e14⟩ := kO_ok e14
      obtain ⟨r11, e12, h⟩ := Option.bind_eq_some_iff.mp h
      replace h := xI_ok h
      obtain ⟨v13, P10, rfl, h⟩ := h
      refine x_callV (c_X11_of hl e12) dX11_undo_49 cw_X11_of wl_X11_240 wi_X11_of wse_X11_of rfl e14 (by decide) rfl (by omega) (by decide) rfl (Nat.le_of_ble_eq_true rfl) rfl (fun v9 P9 hq9 => ?_) (fun i9 P9 hq9 => by cases hq9)
      cases hq9
      refine x_iconst 5 dX11_undo_52 (by decide) ?_
      refine x_icmp_ne 60 dX11_undo_53 (by decide) (fun q15 => ?_) (fun q15 => ?_)
      · rw [if_pos q15] at h
        refine x_iconst 0 dX11_undo_60 (by decide) ?_
        exact Wp.mask [true, true, true, true, false] (hrec 61 _ _ _ h _ _ rfl _ hQ)
      · rw [if_neg (fun z9 => z9 q15)] at h
        refine x_iconst 1 dX11_undo_56 (by decide) ?_
        refine x_goto 61 dX11_undo_57 (by decide) ?_
        exact Wp.mask [true, true, true, true, false] (hrec 61 _ _ _ h _ _ rfl _ hQ)
set_option maxHeartbeats 2000000 in
set_option maxRecDepth 20000 in
theorem t_X11_undo_61 {G : xG} {l : Launch} (hl : l.stackTraces = false) {n : Nat} {rec : Nat → List Value → xH → xO} (hrec : ∀ pc env P z, rec pc env P = some z → ∀ L st, lay_X11_undo pc env = some (L, st) → ∀ Q : xR → xH → Prop, Q z.1 z.2 → Wp G l 10 mX11_undo pc L st P Q) {a0 a1 a2 a3 s0 s1} {P : xH} {z : xR × xH} (h : b_X11_undo_61 n rec a0 a1 a2 a3 s0 s1 P = some z) {Q : xR → xH → Prop} (hQ : Q z.1 z.2) : Wp G l 10 mX11_undo 61 [some (.ref a0), some (.int a1), some (.int a2), some (.int a3), none] [.int s1, .ref s0] P Q := by
  unfold b_X11_undo_61 at h
  refine x_iconst 2 dX11_undo_61 (by decide) ?_
  obtain ⟨_, e5, h⟩ := Option.bind_eq_some_iff.mp h
  obtain ⟨fse5, e5⟩ := kO_ok e5
  obtain ⟨r2, e3, h⟩ := Option.bind_eq_some_iff.mp h
  replace h := xI_ok h
  obtain ⟨v4, P1, rfl, h⟩ := h
  refine x_callV (c_X11_throwsIf hl e3) dX11_undo_62 cw_X11_throwsIf wl_X11_93 wi_X11_throwsIf wse_X11_throwsIf rfl e5 (by decide) rfl (by omega) (by decide) rfl (Nat.le_of_ble_eq_true rfl) rfl (fun v9 P9 hq9 => ?_) (fun i9 P9 hq9 => by cases hq9)
  cases hq9
  refine x_if_ne 90 dX11_undo_65 (by decide) (fun q12 => ?_) (fun q12 => ?_)
  · rw [if_pos q12] at h
    refine x_iconst 0 dX11_undo_90 (by decide) ?_
    cases h
    exact x_iret .int rfl rfl dX11_undo_91 hQ
  · rw [if_neg (fun z9 => z9 q12)] at h
    refine x_aload_nr dX11_undo_68 rfl ?_
    refine x_aload_nr dX11_undo_69 rfl ?_
    obtain ⟨_, e10, h⟩ := Option.bind_eq_some_iff.mp h
    obtain ⟨fse10, e10⟩ := kO_ok e10
    obtain ⟨r7, e8, h⟩ := Option.bind_eq_some_iff.mp h
    replace h := xI_ok h
    obtain ⟨v9, P6, rfl, h⟩ := h
    refine x_callV (c_X11_words hl e8) dX11_undo_70 cw_X11_words wl_X11_72 wi_X11_words wse_X11_words rfl e10 (by decide) rfl (by omega) (by decide) rfl (Nat.le_of_ble_eq_true rfl) rfl (fun v9 P9 hq9 => ?_) (fun i9 P9 hq9 => by cases hq9)
    cases hq9
    refine x_bipush 30 dX11_undo_73 (by decide) ?_
    refine x_icmp_ne 82 dX11_undo_75 (by decide) (fun q11 => ?_) (fun q11 => ?_)
    · rw [if_pos q11] at h
      refine x_iconst 0 dX11_undo_82 (by decide) ?_
      exact Wp.mask [true, true, true, true, false] (hrec 83 _ _ _ h _ _ rfl _ hQ)
    · rw [if_neg (fun z9 => z9 q11)] at h
      refine x_iconst 1 dX11_undo_78 (by decide) ?_
      refine x_goto 83 dX11_undo_79 (by decide) ?_
      exact Wp.mask [true, true, true, true, false] (hrec 83 _ _ _ h _ _ rfl _ hQ)
set_option maxHeartbeats 2000000 in
set_option maxRecDepth 20000 in
theorem t_X11_undo_83 {G : xG} {l : Launch} (hl : l.stackTraces = false) {n : Nat} {rec : Nat → List Value → xH → xO} (hrec : ∀ pc env P z, rec pc env P = some z → ∀ L st, lay_X11_undo pc env = some (L, st) → ∀ Q : xR → xH → Prop, Q z.1 z.2 → Wp G l 10 mX11_undo pc L st P Q) {a0 a1 a2 a3 s0 s1} {P : xH} {z : xR × xH} (h : b_X11_undo_83 n rec a0 a1 a2 a3 s0 s1 P = some z) {Q : xR → xH → Prop} (hQ : Q z.1 z.2) : Wp G l 10 mX11_undo 83 [some (.ref a0), some (.int a1), some (.int a2), some (.int a3), none] [.int s1, .ref s0] P Q := by
  unfold b_X11_undo_83 at h
  refine x_iconst 3 dX11_undo_83 (by decide) ?_
  obtain ⟨_, e5, h⟩ := Option.bind_eq_some_iff.mp h
  obtain ⟨fse5, e5⟩ := kO_ok e5
  obtain ⟨r2, e3, h⟩ := Option.bind_eq_some_iff.mp h
  replace h := xI_ok h
  obtain ⟨v4, P1, rfl, h⟩ := h
  refine x_callV (c_X11_throwsIf hl e3) dX11_undo_84 cw_X11_throwsIf wl_X11_93 wi_X11_throwsIf wse_X11_throwsIf rfl e5 (by decide) rfl (by omega) (by decide) rfl (Nat.le_of_ble_eq_true rfl) rfl (fun v9 P9 hq9 => ?_) (fun i9 P9 hq9 => by cases hq9)
  cases hq9
  refine x_if_eq 92 dX11_undo_87 (by decide) (fun q19 => ?_) (fun q19 => ?_)
  · rw [if_pos q19] at h
    refine x_aload_nr dX11_undo_92 rfl ?_
    refine x_iload_n dX11_undo_93 rfl ?_
    refine x_iconst 5 dX11_undo_94 (by decide) ?_
    refine x_iload_n dX11_undo_95 rfl ?_
    obtain ⟨_, e10, h⟩ := Option.bind_eq_some_iff.mp h
    obtain ⟨fse10, e10⟩ := kO_ok e10
    obtain ⟨r7, e8, h⟩ := Option.bind_eq_some_iff.mp h
    replace h := xI_ok h
    obtain ⟨v9, P6, rfl, h⟩ := h
    refine x_callV (c_X11_begins hl e8) dX11_undo_96 cw_X11_begins wl_X11_315 wi_X11_begins wse_X11_begins rfl e10 (by decide) rfl (by omega) (by decide) rfl (Nat.le_of_ble_eq_true rfl) rfl (fun v9 P9 hq9 => ?_) (fun i9 P9 hq9 => by cases hq9)
    cases hq9
    refine x_istore dX11_undo_99 (Nat.le_of_ble_eq_true rfl) ?_
    refine x_aload_nr dX11_undo_101 rfl ?_
    obtain ⟨v11, e12, h⟩ := Option.bind_eq_some_iff.mp h
    refine k_rA e12 dX11_undo_102 f_X11_20 ?_
    refine x_sipush 761 dX11_undo_105 (by decide) ?_
    refine x_bipush 10 dX11_undo_108 (by decide) ?_
    refine x_iload dX11_undo_110 rfl ?_
    refine x_imul dX11_undo_112 ?_
    refine x_iadd dX11_undo_113 ?_
    refine x_bipush 8 dX11_undo_114 (by decide) ?_
    refine x_iadd dX11_undo_116 ?_
    refine x_iload_n dX11_undo_117 rfl ?_
    obtain ⟨P13, e14, h⟩ := Option.bind_eq_some_iff.mp h
    refine k_sI e14 dX11_undo_118 ?_
    refine x_aload_nr dX11_undo_119 rfl ?_
    refine x_iload dX11_undo_120 rfl ?_
    obtain ⟨_, e18, h⟩ := Option.bind_eq_some_iff.mp h
    obtain ⟨fse18, e18⟩ := kO_ok e18
    obtain ⟨r16, e17, h⟩ := Option.bind_eq_some_iff.mp h
    replace h := xU_ok h
    obtain ⟨P15, rfl, h⟩ := h
    refine x_callV (c_X11_tells hl e17) dX11_undo_122 cw_X11_tells wl_X11_318 wi_X11_tells wse_X11_tells rfl e18 (by decide) rfl (by omega) (by decide) rfl (Nat.le_of_ble_eq_true rfl) rfl (fun v9 P9 hq9 => ?_) (fun i9 P9 hq9 => by cases hq9)
    cases hq9
    refine x_iload dX11_undo_125 rfl ?_
    cases h
    exact x_iret .int rfl rfl dX11_undo_127 hQ
  · rw [if_neg q19] at h
    refine x_iconst 0 dX11_undo_90 (by decide) ?_
    cases h
    exact x_iret .int rfl rfl dX11_undo_91 hQ
theorem s_X11_undo {G : xG} {l : Launch} (hl : l.stackTraces = false) : ∀ n pc env P z, f_X11_undo n pc env P = some z → ∀ L st, lay_X11_undo pc env = some (L, st) → ∀ Q : xR → xH → Prop, Q z.1 z.2 → Wp G l 10 mX11_undo pc L st P Q := by
  intro n
  induction n with
  | zero => intro pc env P z h; cases h
  | succ n ih =>
    intro pc env P z h L st hlay Q hQ
    unfold f_X11_undo at h
    split at h
    · cases hlay
      exact t_X11_undo_0 hl ih h hQ
    · cases hlay
      exact t_X11_undo_27 hl ih h hQ
    · cases hlay
      exact t_X11_undo_61 hl ih h hQ
    · cases hlay
      exact t_X11_undo_83 hl ih h hQ
    · cases h
theorem c_X11_undo {G : xG} {l : Launch} (hl : l.stackTraces = false) {n : Nat} {as : List Value} {P : xH} {z : xR × xH} (h : f_X11_undo n 0 as P = some z) : Ct G l 10 mX11_undo as P (fun r P1 => (r, P1) = z) := by
  cases n with
  | zero => cases h
  | succ n =>
    unfold f_X11_undo at h
    split at h
    · exact Ct.of hl (by decide +kernel) wc_X11_undo (Nat.le_of_ble_eq_true rfl) (t_X11_undo_0 hl (s_X11_undo hl _) h rfl)
    all_goals first | (cases h; done) | (rename_i q9 _; exact absurd q9 (by decide)) | (rename_i q9; exact absurd q9 (by decide)) | contradiction
/-! QuakeNetModel.look(II)I -/
def b_X11_look_0 (n : Nat) (rec : Nat → List Value → xH → xO) (a0 : Nat) (a1 : Int32) (a2 : Int32) (P : xH) : xO :=
  (wV P a0 11 0 (.int 0)).bind fun P1 =>
  (kO P1 a0 11).bind fun _ =>
  (f_X11_noPhone n 0 [.ref a0, .int a1] P1).bind fun r4 => xI r4 fun v6 P3 =>
  (kO P3 a0 11).bind fun _ =>
  (f_X11_throwsIf n 0 [.ref a0, .int v6, .int 1] P3).bind fun r9 => xI r9 fun v11 P8 =>
  if v11 = 0 then
    if Int32.toInt a2 < 0 ∨ 7 < Int32.toInt a2 then
      (wV P8 a0 11 0 (.int 2)).bind fun P13 =>
      some (.inl (some (.int 0)), P13)
    else
    if a2 = 0 then
      (rA P8 a0 11 1).bind fun v16 =>
      (f_X11_phoneAt n 0 [.int a1, .int 0] P8).bind fun r19 => xI r19 fun v21 P18 =>
      (aI P18 v16 v21).bind fun v22 =>
      some (.inl (some (.int v22)), P18)
    else
    if a2 = 1 then
      (rA P8 a0 11 1).bind fun v25 =>
      (f_X11_phoneAt n 0 [.int a1, .int 1] P8).bind fun r28 => xI r28 fun v30 P27 =>
      (aI P27 v25 v30).bind fun v31 =>
      some (.inl (some (.int v31)), P27)
    else
    if a2 = 2 then
      (kO P8 a0 11).bind fun _ =>
      (f_X11_copies n 0 [.ref a0, .int a1] P8).bind fun r35 => xI r35 fun v37 P34 =>
      some (.inl (some (.int v37)), P34)
    else
    if a2 = 3 then
      (kO P8 a0 11).bind fun _ =>
      (f_X11_toldOf n 0 [.ref a0, .int a1, .int 1] P8).bind fun r41 => xI r41 fun v43 P40 =>
      some (.inl (some (.int v43)), P40)
    else
    if a2 = 4 then
      (kO P8 a0 11).bind fun _ =>
      (f_X11_toldOf n 0 [.ref a0, .int a1, .int 2] P8).bind fun r47 => xI r47 fun v49 P46 =>
      some (.inl (some (.int v49)), P46)
    else
    if a2 = 5 then
      (rA P8 a0 11 1).bind fun v52 =>
      (f_X11_phoneAt n 0 [.int a1, .int 2] P8).bind fun r55 => xI r55 fun v57 P54 =>
      (aI P54 v52 v57).bind fun v58 =>
      some (.inl (some (.int v58)), P54)
    else
    if a2 = 6 then
      (rA P8 a0 11 1).bind fun v61 =>
      (f_X11_phoneAt n 0 [.int a1, .int 3] P8).bind fun r64 => xI r64 fun v66 P63 =>
      (aI P63 v61 v66).bind fun v67 =>
      some (.inl (some (.int v67)), P63)
    else
    if a2 = 7 then
      (rA P8 a0 11 1).bind fun v70 =>
      (f_X11_phoneAt n 0 [.int a1, .int 4] P8).bind fun r73 => xI r73 fun v75 P72 =>
      (aI P72 v70 v75).bind fun v76 =>
      some (.inl (some (.int v76)), P72)
    else
    none
  else
    some (.inl (some (.int 0)), P8)
def lay_X11_look : Nat → List Value → Option (xL × List Value)
  | 0, [a0, a1, a2] => some ([some a0, some a1, some a2], [])
  | _, _ => none
def f_X11_look : Nat → Nat → List Value → xH → xO
  | 0 => fun _ _ _ => none
  | n + 1 => fun pc env P => match pc, env with
    | 0, [.ref a0, .int a1, .int a2] => b_X11_look_0 n (f_X11_look n) a0 a1 a2 P
    | _, _ => none
set_option maxHeartbeats 2000000 in
set_option maxRecDepth 20000 in
theorem t_X11_look_0 {G : xG} {l : Launch} (hl : l.stackTraces = false) {n : Nat} {rec : Nat → List Value → xH → xO} (hrec : ∀ pc env P z, rec pc env P = some z → ∀ L st, lay_X11_look pc env = some (L, st) → ∀ Q : xR → xH → Prop, Q z.1 z.2 → Wp G l 6 mX11_look pc L st P Q) {a0 a1 a2} {P : xH} {z : xR × xH} (h : b_X11_look_0 n rec a0 a1 a2 P = some z) {Q : xR → xH → Prop} (hQ : Q z.1 z.2) : Wp G l 6 mX11_look 0 [some (.ref a0), some (.int a1), some (.int a2)] [] P Q := by
  unfold b_X11_look_0 at h
  refine x_aload_nr dX11_look_0 rfl ?_
  refine x_iconst 0 dX11_look_1 (by decide) ?_
  obtain ⟨P1, e2, h⟩ := Option.bind_eq_some_iff.mp h
  refine k_wI e2 dX11_look_2 f_X11_3 (Or.inl (by decide)) rfl ?_
  refine x_aload_nr dX11_look_5 rfl ?_
  refine x_aload_nr dX11_look_6 rfl ?_
  refine x_iload_n dX11_look_7 rfl ?_
  obtain ⟨_, e7, h⟩ := Option.bind_eq_some_iff.mp h
  obtain ⟨fse7, e7⟩ := kO_ok e7
  obtain ⟨r4, e5, h⟩ := Option.bind_eq_some_iff.mp h
  replace h := xI_ok h
  obtain ⟨v6, P3, rfl, h⟩ := h
  refine x_callV (c_X11_noPhone hl e5) dX11_look_8 cw_X11_noPhone wl_X11_104 wi_X11_noPhone wse_X11_noPhone rfl e7 (by decide) rfl (by omega) (by decide) rfl (Nat.le_of_ble_eq_true rfl) rfl (fun v9 P9 hq9 => ?_) (fun i9 P9 hq9 => by cases hq9)
  cases hq9
  refine x_iconst 1 dX11_look_11 (by decide) ?_
  obtain ⟨_, e12, h⟩ := Option.bind_eq_some_iff.mp h
  obtain ⟨fse12, e12⟩ := kO_ok e12
  obtain ⟨r9, e10, h⟩ := Option.bind_eq_some_iff.mp h
  replace h := xI_ok h
  obtain ⟨v11, P8, rfl, h⟩ := h
  refine x_callV (c_X11_throwsIf hl e10) dX11_look_12 cw_X11_throwsIf wl_X11_93 wi_X11_throwsIf wse_X11_throwsIf rfl e12 (by decide) rfl (by omega) (by decide) rfl (Nat.le_of_ble_eq_true rfl) rfl (fun v9 P9 hq9 => ?_) (fun i9 P9 hq9 => by cases hq9)
  cases hq9
  refine x_if_eq 20 dX11_look_15 (by decide) (fun q79 => ?_) (fun q79 => ?_)
  · rw [if_pos q79] at h
    refine x_iload_n dX11_look_20 rfl ?_
    by_cases q15 : Int32.toInt a2 < 0 ∨ 7 < Int32.toInt a2
    · rw [if_pos q15] at h
      refine x_tabOut 143 dX11_look_21 q15 (by decide) ?_
      refine x_aload_nr dX11_look_143 rfl ?_
      refine x_iconst 2 dX11_look_144 (by decide) ?_
      obtain ⟨P13, e14, h⟩ := Option.bind_eq_some_iff.mp h
      refine k_wI e14 dX11_look_145 f_X11_3 (Or.inl (by decide)) rfl ?_
      refine x_iconst 0 dX11_look_148 (by decide) ?_
      cases h
      exact x_iret .int rfl rfl dX11_look_149 hQ
    · rw [if_neg q15] at h
      by_cases q24 : a2 = 0
      · rw [if_pos q24] at h
        refine x_tabIn 68 dX11_look_21 (fun w9 => q15 (Or.inl w9)) (fun w9 => q15 (Or.inr w9)) (by rw [q24]; rfl) (by decide) ?_
        refine x_aload_nr dX11_look_68 rfl ?_
        obtain ⟨v16, e17, h⟩ := Option.bind_eq_some_iff.mp h
        refine k_rA e17 dX11_look_69 f_X11_13 ?_
        refine x_iload_n dX11_look_72 rfl ?_
        refine x_iconst 0 dX11_look_73 (by decide) ?_
        obtain ⟨r19, e20, h⟩ := Option.bind_eq_some_iff.mp h
        replace h := xI_ok h
        obtain ⟨v21, P18, rfl, h⟩ := h
        refine x_callS (c_X11_phoneAt hl e20) dX11_look_74 cw_X11_phoneAt wl_X11_100 ws_X11_phoneAt rfl (by omega) (by decide) rfl (Nat.le_of_ble_eq_true rfl) rfl (fun v9 P9 hq9 => ?_) (fun i9 P9 hq9 => by cases hq9)
        cases hq9
        obtain ⟨v22, e23, h⟩ := Option.bind_eq_some_iff.mp h
        refine k_aI e23 dX11_look_77 ?_
        cases h
        exact x_iret .int rfl rfl dX11_look_78 hQ
      · rw [if_neg q24] at h
        by_cases q33 : a2 = 1
        · rw [if_pos q33] at h
          refine x_tabIn 79 dX11_look_21 (fun w9 => q15 (Or.inl w9)) (fun w9 => q15 (Or.inr w9)) (by rw [q33]; rfl) (by decide) ?_
          refine x_aload_nr dX11_look_79 rfl ?_
          obtain ⟨v25, e26, h⟩ := Option.bind_eq_some_iff.mp h
          refine k_rA e26 dX11_look_80 f_X11_13 ?_
          refine x_iload_n dX11_look_83 rfl ?_
          refine x_iconst 1 dX11_look_84 (by decide) ?_
          obtain ⟨r28, e29, h⟩ := Option.bind_eq_some_iff.mp h
          replace h := xI_ok h
          obtain ⟨v30, P27, rfl, h⟩ := h
          refine x_callS (c_X11_phoneAt hl e29) dX11_look_85 cw_X11_phoneAt wl_X11_100 ws_X11_phoneAt rfl (by omega) (by decide) rfl (Nat.le_of_ble_eq_true rfl) rfl (fun v9 P9 hq9 => ?_) (fun i9 P9 hq9 => by cases hq9)
          cases hq9
          obtain ⟨v31, e32, h⟩ := Option.bind_eq_some_iff.mp h
          refine k_aI e32 dX11_look_88 ?_
          cases h
          exact x_iret .int rfl rfl dX11_look_89 hQ
        · rw [if_neg q33] at h
          by_cases q39 : a2 = 2
          · rw [if_pos q39] at h
            refine x_tabIn 90 dX11_look_21 (fun w9 => q15 (Or.inl w9)) (fun w9 => q15 (Or.inr w9)) (by rw [q39]; rfl) (by decide) ?_
            refine x_aload_nr dX11_look_90 rfl ?_
            refine x_iload_n dX11_look_91 rfl ?_
            obtain ⟨_, e38, h⟩ := Option.bind_eq_some_iff.mp h
            obtain ⟨fse38, e38⟩ := kO_ok e38
            obtain ⟨r35, e36, h⟩ := Option.bind_eq_some_iff.mp h
            replace h := xI_ok h
            obtain ⟨v37, P34, rfl, h⟩ := h
            refine x_callV (c_X11_copies hl e36) dX11_look_92 cw_X11_copies wl_X11_264 wi_X11_copies wse_X11_copies rfl e38 (by decide) rfl (by omega) (by decide) rfl (Nat.le_of_ble_eq_true rfl) rfl (fun v9 P9 hq9 => ?_) (fun i9 P9 hq9 => by cases hq9)
            cases hq9
            cases h
            exact x_iret .int rfl rfl dX11_look_95 hQ
          · rw [if_neg q39] at h
            by_cases q45 : a2 = 3
            · rw [if_pos q45] at h
              refine x_tabIn 96 dX11_look_21 (fun w9 => q15 (Or.inl w9)) (fun w9 => q15 (Or.inr w9)) (by rw [q45]; rfl) (by decide) ?_
              refine x_aload_nr dX11_look_96 rfl ?_
              refine x_iload_n dX11_look_97 rfl ?_
              refine x_iconst 1 dX11_look_98 (by decide) ?_
              obtain ⟨_, e44, h⟩ := Option.bind_eq_some_iff.mp h
              obtain ⟨fse44, e44⟩ := kO_ok e44
              obtain ⟨r41, e42, h⟩ := Option.bind_eq_some_iff.mp h
              replace h := xI_ok h
              obtain ⟨v43, P40, rfl, h⟩ := h
              refine x_callV (c_X11_toldOf hl e42) dX11_look_99 cw_X11_toldOf wl_X11_110 wi_X11_toldOf wse_X11_toldOf rfl e44 (by decide) rfl (by omega) (by decide) rfl (Nat.le_of_ble_eq_true rfl) rfl (fun v9 P9 hq9 => ?_) (fun i9 P9 hq9 => by cases hq9)
              cases hq9
              cases h
              exact x_iret .int rfl rfl dX11_look_102 hQ
            · rw [if_neg q45] at h
              by_cases q51 : a2 = 4
              · rw [if_pos q51] at h
                refine x_tabIn 103 dX11_look_21 (fun w9 => q15 (Or.inl w9)) (fun w9 => q15 (Or.inr w9)) (by rw [q51]; rfl) (by decide) ?_
                refine x_aload_nr dX11_look_103 rfl ?_
                refine x_iload_n dX11_look_104 rfl ?_
                refine x_iconst 2 dX11_look_105 (by decide) ?_
                obtain ⟨_, e50, h⟩ := Option.bind_eq_some_iff.mp h
                obtain ⟨fse50, e50⟩ := kO_ok e50
                obtain ⟨r47, e48, h⟩ := Option.bind_eq_some_iff.mp h
                replace h := xI_ok h
                obtain ⟨v49, P46, rfl, h⟩ := h
                refine x_callV (c_X11_toldOf hl e48) dX11_look_106 cw_X11_toldOf wl_X11_110 wi_X11_toldOf wse_X11_toldOf rfl e50 (by decide) rfl (by omega) (by decide) rfl (Nat.le_of_ble_eq_true rfl) rfl (fun v9 P9 hq9 => ?_) (fun i9 P9 hq9 => by cases hq9)
                cases hq9
                cases h
                exact x_iret .int rfl rfl dX11_look_109 hQ
              · rw [if_neg q51] at h
                by_cases q60 : a2 = 5
                · rw [if_pos q60] at h
                  refine x_tabIn 110 dX11_look_21 (fun w9 => q15 (Or.inl w9)) (fun w9 => q15 (Or.inr w9)) (by rw [q60]; rfl) (by decide) ?_
                  refine x_aload_nr dX11_look_110 rfl ?_
                  obtain ⟨v52, e53, h⟩ := Option.bind_eq_some_iff.mp h
                  refine k_rA e53 dX11_look_111 f_X11_13 ?_
                  refine x_iload_n dX11_look_114 rfl ?_
                  refine x_iconst 2 dX11_look_115 (by decide) ?_
                  obtain ⟨r55, e56, h⟩ := Option.bind_eq_some_iff.mp h
                  replace h := xI_ok h
                  obtain ⟨v57, P54, rfl, h⟩ := h
                  refine x_callS (c_X11_phoneAt hl e56) dX11_look_116 cw_X11_phoneAt wl_X11_100 ws_X11_phoneAt rfl (by omega) (by decide) rfl (Nat.le_of_ble_eq_true rfl) rfl (fun v9 P9 hq9 => ?_) (fun i9 P9 hq9 => by cases hq9)
                  cases hq9
                  obtain ⟨v58, e59, h⟩ := Option.bind_eq_some_iff.mp h
                  refine k_aI e59 dX11_look_119 ?_
                  cases h
                  exact x_iret .int rfl rfl dX11_look_120 hQ
                · rw [if_neg q60] at h
                  by_cases q69 : a2 = 6
                  · rw [if_pos q69] at h
                    refine x_tabIn 121 dX11_look_21 (fun w9 => q15 (Or.inl w9)) (fun w9 => q15 (Or.inr w9)) (by rw [q69]; rfl) (by decide) ?_
                    refine x_aload_nr dX11_look_121 rfl ?_
                    obtain ⟨v61, e62, h⟩ := Option.bind_eq_some_iff.mp h
                    refine k_rA e62 dX11_look_122 f_X11_13 ?_
                    refine x_iload_n dX11_look_125 rfl ?_
                    refine x_iconst 3 dX11_look_126 (by decide) ?_
                    obtain ⟨r64, e65, h⟩ := Option.bind_eq_some_iff.mp h
                    replace h := xI_ok h
                    obtain ⟨v66, P63, rfl, h⟩ := h
                    refine x_callS (c_X11_phoneAt hl e65) dX11_look_127 cw_X11_phoneAt wl_X11_100 ws_X11_phoneAt rfl (by omega) (by decide) rfl (Nat.le_of_ble_eq_true rfl) rfl (fun v9 P9 hq9 => ?_) (fun i9 P9 hq9 => by cases hq9)
                    cases hq9
                    obtain ⟨v67, e68, h⟩ := Option.bind_eq_some_iff.mp h
                    refine k_aI e68 dX11_look_130 ?_
                    cases h
                    exact x_iret .int rfl rfl dX11_look_131 hQ
                  · rw [if_neg q69] at h
                    by_cases q78 : a2 = 7
                    · rw [if_pos q78] at h
                      refine x_tabIn 132 dX11_look_21 (fun w9 => q15 (Or.inl w9)) (fun w9 => q15 (Or.inr w9)) (by rw [q78]; rfl) (by decide) ?_
                      refine x_aload_nr dX11_look_132 rfl ?_
                      obtain ⟨v70, e71, h⟩ := Option.bind_eq_some_iff.mp h
                      refine k_rA e71 dX11_look_133 f_X11_13 ?_
                      refine x_iload_n dX11_look_136 rfl ?_
                      refine x_iconst 4 dX11_look_137 (by decide) ?_
                      obtain ⟨r73, e74, h⟩ := Option.bind_eq_some_iff.mp h
                      replace h := xI_ok h
                      obtain ⟨v75, P72, rfl, h⟩ := h
                      refine x_callS (c_X11_phoneAt hl e74) dX11_look_138 cw_X11_phoneAt wl_X11_100 ws_X11_phoneAt rfl (by omega) (by decide) rfl (Nat.le_of_ble_eq_true rfl) rfl (fun v9 P9 hq9 => ?_) (fun i9 P9 hq9 => by cases hq9)
                      cases hq9
                      obtain ⟨v76, e77, h⟩ := Option.bind_eq_some_iff.mp h
                      refine k_aI e77 dX11_look_141 ?_
                      cases h
                      exact x_iret .int rfl rfl dX11_look_142 hQ
                    · rw [if_neg q78] at h
                      cases h
  · rw [if_neg q79] at h
    refine x_iconst 0 dX11_look_18 (by decide) ?_
    cases h
    exact x_iret .int rfl rfl dX11_look_19 hQ
theorem s_X11_look {G : xG} {l : Launch} (hl : l.stackTraces = false) : ∀ n pc env P z, f_X11_look n pc env P = some z → ∀ L st, lay_X11_look pc env = some (L, st) → ∀ Q : xR → xH → Prop, Q z.1 z.2 → Wp G l 6 mX11_look pc L st P Q := by
  intro n
  induction n with
  | zero => intro pc env P z h; cases h
  | succ n ih =>
    intro pc env P z h L st hlay Q hQ
    unfold f_X11_look at h
    split at h
    · cases hlay
      exact t_X11_look_0 hl ih h hQ
    · cases h
theorem c_X11_look {G : xG} {l : Launch} (hl : l.stackTraces = false) {n : Nat} {as : List Value} {P : xH} {z : xR × xH} (h : f_X11_look n 0 as P = some z) : Ct G l 6 mX11_look as P (fun r P1 => (r, P1) = z) := by
  cases n with
  | zero => cases h
  | succ n =>
    unfold f_X11_look at h
    split at h
    · exact Ct.of hl (by decide +kernel) wc_X11_look (Nat.le_of_ble_eq_true rfl) (t_X11_look_0 hl (s_X11_look hl _) h rfl)
    all_goals first | (cases h; done) | (rename_i q9 _; exact absurd q9 (by decide)) | (rename_i q9; exact absurd q9 (by decide)) | contradiction
