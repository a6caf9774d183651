/-! QuakeNetModel.haveOf(I)I -/
def b_X11_haveOf_0 (n : Nat) (rec : Nat → List Value → xH → xO) (a0 : Nat) (a1 : Int32) (P : xH) : xO :=
  rec 4 [.ref a0, .int a1, .int 0, .int 0] P
def b_X11_haveOf_4 (n : Nat) (rec : Nat → List Value → xH → xO) (a0 : Nat) (a1 : Int32) (a2 : Int32) (a3 : Int32) (P : xH) : xO :=
  (kO P a0 11).bind fun _ =>
  (f_X11_phones n 0 [.ref a0] P).bind fun r2 => xI r2 fun v4 P1 =>
  if v4 ≤ a3 then
    some (.inl (some (.int a2)), P1)
  else
    (kO P1 a0 11).bind fun _ =>
    (f_X11_has n 0 [.ref a0, .int a3, .int a1] P1).bind fun r7 => xI r7 fun v9 P6 =>
    if v9 = 0 then
      rec 4 [.ref a0, .int a1, .int ((a2 + 0)), .int ((a3 + 1))] P6
    else
      rec 4 [.ref a0, .int a1, .int ((a2 + 1)), .int ((a3 + 1))] P6
def lay_X11_haveOf : Nat → List Value → Option (xL × List Value)
  | 0, [a0, a1] => some ([some a0, some a1, none, none], [])
  | 4, [a0, a1, a2, a3] => some ([some a0, some a1, some a2, some a3], [])
  | _, _ => none
def f_X11_haveOf : Nat → Nat → List Value → xH → xO
  | 0 => fun _ _ _ => none
  | n + 1 => fun pc env P => match pc, env with
    | 0, [.ref a0, .int a1] => b_X11_haveOf_0 n (f_X11_haveOf n) a0 a1 P
    | 4, [.ref a0, .int a1, .int a2, .int a3] => b_X11_haveOf_4 n (f_X11_haveOf n) a0 a1 a2 a3 P
    | _, _ => none
set_option maxHeartbeats 2000000 in
set_option maxRecDepth 20000 in
theorem t_X11_haveOf_0 {G : xG} {l : Launch} (hl : l.stackTraces = false) {n : Nat} {rec : Nat → List Value → xH → xO} (hrec : ∀ pc env P z, rec pc env P = some z → ∀ L st, lay_X11_haveOf pc env = some (L, st) → ∀ Q : xR → xH → Prop, Q z.1 z.2 → Wp G l 5 mX11_haveOf pc L st P Q) {a0 a1} {P : xH} {z : xR × xH} (h : b_X11_haveOf_0 n rec a0 a1 P = some z) {Q : xR → xH → Prop} (hQ : Q z.1 z.2) : Wp G l 5 mX11_haveOf 0 [some (.ref a0), some (.int a1), none, none] [] P Q := by
  unfold b_X11_haveOf_0 at h
  refine x_iconst 0 dX11_haveOf_0 (by decide) ?_
  refine x_istore_n dX11_haveOf_1 (Nat.le_of_ble_eq_true rfl) ?_
  refine x_iconst 0 dX11_haveOf_2 (by decide) ?_
  refine x_istore_n dX11_haveOf_3 (Nat.le_of_ble_eq_true rfl) ?_
  exact Wp.mask [true, true, true, true] (hrec 4 _ _ _ h _ _ rfl _ hQ)
set_option maxHeartbeats 2000000 in
set_option maxRecDepth 20000 in
theorem t_X11_haveOf_4 {G : xG} {l : Launch} (hl : l.stackTraces = false) {n : Nat} {rec : Nat → List Value → xH → xO} (hrec : ∀ pc env P z, rec pc env P = some z → ∀ L st, lay_X11_haveOf pc env = some (L, st) → ∀ Q : xR → xH → Prop, Q z.1 z.2 → Wp G l 5 mX11_haveOf pc L st P Q) {a0 a1 a2 a3} {P : xH} {z : xR × xH} (h : b_X11_haveOf_4 n rec a0 a1 a2 a3 P = some z) {Q : xR → xH → Prop} (hQ : Q z.1 z.2) : Wp G l 5 mX11_haveOf 4 [some (.ref a0), some (.int a1), some (.int a2), some (.int a3)] [] P Q := by
  unfold b_X11_haveOf_4 at h
  refine x_iload_n dX11_haveOf_4 rfl ?_
  refine x_aload_nr dX11_haveOf_5 rfl ?_
  obtain ⟨_, e5, h⟩ := Option.bind_eq_some_iff.mp h
  obtain ⟨fse5, e5⟩ := kO_ok e5
  obtain ⟨r2, e3, h⟩ := Option.bind_eq_some_iff.mp h
  replace h := xI_ok h
  obtain ⟨v4, P1, rfl, h⟩ := h
  refine x_callV (c_X11_phones hl e3) dX11_haveOf_6 cw_X11_phones wl_X11_64 wi_X11_phones wse_X11_phones rfl e5 (by decide) rfl (by omega) (by decide) rfl (Nat.le_of_ble_eq_true rfl) rfl (fun v9 P9 hq9 => ?_) (fun i9 P9 hq9 => by cases hq9)
  cases hq9
  refine x_icmp_ge 35 dX11_haveOf_9 (by decide) (fun q12 => ?_) (fun q12 => ?_)
  · rw [if_pos q12] at h
    refine x_iload_n dX11_haveOf_35 rfl ?_
    cases h
    exact x_iret .int rfl rfl dX11_haveOf_36 hQ
  · rw [if_neg q12] at h
    refine x_iload_n dX11_haveOf_12 rfl ?_
    refine x_aload_nr dX11_haveOf_13 rfl ?_
    refine x_iload_n dX11_haveOf_14 rfl ?_
    refine x_iload_n dX11_haveOf_15 rfl ?_
    obtain ⟨_, e10, h⟩ := Option.bind_eq_some_iff.mp h
    obtain ⟨fse10, e10⟩ := kO_ok e10
    obtain ⟨r7, e8, h⟩ := Option.bind_eq_some_iff.mp h
    replace h := xI_ok h
    obtain ⟨v9, P6, rfl, h⟩ := h
    refine x_callV (c_X11_has hl e8) dX11_haveOf_16 cw_X11_has wl_X11_237 wi_X11_has wse_X11_has rfl e10 (by decide) rfl (by omega) (by decide) rfl (Nat.le_of_ble_eq_true rfl) rfl (fun v9 P9 hq9 => ?_) (fun i9 P9 hq9 => by cases hq9)
    cases hq9
    refine x_if_eq 26 dX11_haveOf_19 (by decide) (fun q11 => ?_) (fun q11 => ?_)
    · rw [if_pos q11] at h
      refine x_iconst 0 dX11_haveOf_26 (by decide) ?_
      refine x_iadd dX11_haveOf_27 ?_
      refine x_istore_n dX11_haveOf_28 (Nat.le_of_ble_eq_true rfl) ?_
      refine x_iinc (a3 + 1) dX11_haveOf_29 rfl (by rfl) ?_
      refine x_goto 4 dX11_haveOf_32 (by decide) ?_
      exact Wp.mask [true, true, true, true] (hrec 4 _ _ _ h _ _ rfl _ hQ)
    · rw [if_neg q11] at h
      refine x_iconst 1 dX11_haveOf_22 (by decide) ?_
      refine x_goto 27 dX11_haveOf_23 (by decide) ?_
      refine x_iadd dX11_haveOf_27 ?_
      refine x_istore_n dX11_haveOf_28 (Nat.le_of_ble_eq_true rfl) ?_
      refine x_iinc (a3 + 1) dX11_haveOf_29 rfl (by rfl) ?_
      refine x_goto 4 dX11_haveOf_32 (by decide) ?_
      exact Wp.mask [true, true, true, true] (hrec 4 _ _ _ h _ _ rfl _ hQ)
theorem s_X11_haveOf {G : xG} {l : Launch} (hl : l.stackTraces = false) : ∀ n pc env P z, f_X11_haveOf n pc env P = some z → ∀ L st, lay_X11_haveOf pc env = some (L, st) → ∀ Q : xR → xH → Prop, Q z.1 z.2 → Wp G l 5 mX11_haveOf pc L st P Q := by
  intro n
  induction n with
  | zero => intro pc env P z h; cases h
  | succ n ih =>
    intro pc env P z h L st hlay Q hQ
    unfold f_X11_haveOf at h
    split at h
    · cases hlay
      exact t_X11_haveOf_0 hl ih h hQ
    · cases hlay
      exact t_X11_haveOf_4 hl ih h hQ
    · cases h
theorem c_X11_haveOf {G : xG} {l : Launch} (hl : l.stackTraces = false) {n : Nat} {as : List Value} {P : xH} {z : xR × xH} (h : f_X11_haveOf n 0 as P = some z) : Ct G l 5 mX11_haveOf as P (fun r P1 => (r, P1) = z) := by
  cases n with
  | zero => cases h
  | succ n =>
    unfold f_X11_haveOf at h
    split at h
    · exact Ct.of hl (by decide +kernel) wc_X11_haveOf (Nat.le_of_ble_eq_true rfl) (t_X11_haveOf_0 hl (s_X11_haveOf hl _) h rfl)
    all_goals first | (cases h; done) | (rename_i q9 _; exact absurd q9 (by decide)) | (rename_i q9; exact absurd q9 (by decide)) | contradiction
/-! QuakeNetModel.looksAt(II)V -/
def b_X11_looksAt_0 (n : Nat) (rec : Nat → List Value → xH → xO) (a0 : Nat) (a1 : Int32) (a2 : Int32) (P : xH) : xO :=
  rec 2 [.ref a0, .int a1, .int a2, .int 0] P
def b_X11_looksAt_2 (n : Nat) (rec : Nat → List Value → xH → xO) (a0 : Nat) (a1 : Int32) (a2 : Int32) (a3 : Int32) (P : xH) : xO :=
  if 7 ≤ a3 then
    (rA P a0 11 18).bind fun v1 =>
    (kO P a0 11).bind fun _ =>
    (f_X11_tick n 0 [.ref a0] P).bind fun r4 => xI r4 fun v6 P3 =>
    (kO P3 a0 11).bind fun _ =>
    (f_X11_of n 0 [.ref a0, .int a2, .int 2] P3).bind fun r9 => xI r9 fun v11 P8 =>
    (sI P8 v1 0 ((v6 - v11))).bind fun P13 =>
    (rA P13 a0 11 18).bind fun v15 =>
    (rA P13 a0 11 1).bind fun v17 =>
    (f_X11_copyAt n 0 [.int a1, .int a2, .int 2] P13).bind fun r20 => xI r20 fun v22 P19 =>
    (aI P19 v17 v22).bind fun v23 =>
    (sI P19 v15 1 v23).bind fun P25 =>
    (rA P25 a0 11 18).bind fun v27 =>
    (kO P25 a0 11).bind fun _ =>
    (f_X11_haveOf n 0 [.ref a0, .int a2] P25).bind fun r30 => xI r30 fun v32 P29 =>
    (sI P29 v27 2 v32).bind fun P34 =>
    (rA P34 a0 11 18).bind fun v36 =>
    (rA P34 a0 11 1).bind fun v38 =>
    (f_X11_phoneAt n 0 [.int a1, .int 1] P34).bind fun r41 => xI r41 fun v43 P40 =>
    (aI P40 v38 v43).bind fun v44 =>
    (sI P40 v36 3 v44).bind fun P46 =>
    (rA P46 a0 11 18).bind fun v48 =>
    (rA P46 a0 11 1).bind fun v50 =>
    (f_X11_copyAt n 0 [.int a1, .int a2, .int 1] P46).bind fun r53 => xI r53 fun v55 P52 =>
    (aI P52 v50 v55).bind fun v56 =>
    (sI P52 v48 4 v56).bind fun P58 =>
    some (.inl none, P58)
  else
    (rA P a0 11 17).bind fun v60 =>
    (kO P a0 11).bind fun _ =>
    (f_X11_of n 0 [.ref a0, .int a2, .int 0] P).bind fun r63 => xI r63 fun v65 P62 =>
    if ¬ v65 = a3 then
      (sZ P62 v60 a3 0).bind fun P67 =>
      rec 2 [.ref a0, .int a1, .int a2, .int ((a3 + 1))] P67
    else
      (sZ P62 v60 a3 1).bind fun P69 =>
      rec 2 [.ref a0, .int a1, .int a2, .int ((a3 + 1))] P69
def lay_X11_looksAt : Nat → List Value → Option (xL × List Value)
  | 0, [a0, a1, a2] => some ([some a0, some a1, some a2, none], [])
  | 2, [a0, a1, a2, a3] => some ([some a0, some a1, some a2, some a3], [])
  | _, _ => none
def f_X11_looksAt : Nat → Nat → List Value → xH → xO
  | 0 => fun _ _ _ => none
  | n + 1 => fun pc env P => match pc, env with
    | 0, [.ref a0, .int a1, .int a2] => b_X11_looksAt_0 n (f_X11_looksAt n) a0 a1 a2 P
    | 2, [.ref a0, .int a1, .int a2, .int a3] => b_X11_looksAt_2 n (f_X11_looksAt n) a0 a1 a2 a3 P
    | _, _ => none
set_option maxHeartbeats 2000000 in
set_option maxRecDepth 20000 in
theorem t_X11_looksAt_0 {G : xG} {l : Launch} (hl : l.stackTraces = false) {n : Nat} {rec : Nat → List Value → xH → xO} (hrec : ∀ pc env P z, rec pc env P = some z → ∀ L st, lay_X11_looksAt pc env = some (L, st) → ∀ Q : xR → xH → Prop, Q z.1 z.2 → Wp G l 6 mX11_looksAt pc L st P Q) {a0 a1 a2} {P : xH} {z : xR × xH} (h : b_X11_looksAt_0 n rec a0 a1 a2 P = some z) {Q : xR → xH → Prop} (hQ : Q z.1 z.2) : Wp G l 6 mX11_looksAt 0 [some (.ref a0), some (.int a1), some (.int a2), none] [] P Q := by
  unfold b_X11_looksAt_0 at h
  refine x_iconst 0 dX11_looksAt_0 (by decide) ?_
  refine x_istore_n dX11_looksAt_1 (Nat.le_of_ble_eq_true rfl) ?_
  exact Wp.mask [true, true, true, true] (hrec 2 _ _ _ h _ _ rfl _ hQ)
set_option maxHeartbeats 2000000 in
set_option maxRecDepth 20000 in
theorem t_X11_looksAt_2 {G : xG} {l : Launch} (hl : l.stackTraces = false) {n : Nat} {rec : Nat → List Value → xH → xO} (hrec : ∀ pc env P z, rec pc env P = some z → ∀ L st, lay_X11_looksAt pc env = some (L, st) → ∀ Q : xR → xH → Prop, Q z.1 z.2 → Wp G l 6 mX11_looksAt pc L st P Q) {a0 a1 a2 a3} {P : xH} {z : xR × xH} (h : b_X11_looksAt_2 n rec a0 a1 a2 a3 P = some z) {Q : xR → xH → Prop} (hQ : Q z.1 z.2) : Wp G l 6 mX11_looksAt 2 [some (.ref a0), some (.int a1), some (.int a2), some (.int a3)] [] P Q := by
  unfold b_X11_looksAt_2 at h
  refine x_iload_n dX11_looksAt_2 rfl ?_
  refine x_bipush 7 dX11_looksAt_3 (by decide) ?_
  refine x_icmp_ge 35 dX11_looksAt_5 (by decide) (fun q72 => ?_) (fun q72 => ?_)
  · rw [if_pos q72] at h
    refine x_aload_nr dX11_looksAt_35 rfl ?_
    obtain ⟨v1, e2, h⟩ := Option.bind_eq_some_iff.mp h
    refine k_rA e2 dX11_looksAt_36 f_X11_40 ?_
    refine x_iconst 0 dX11_looksAt_39 (by decide) ?_
    refine x_aload_nr dX11_looksAt_40 rfl ?_
    obtain ⟨_, e7, h⟩ := Option.bind_eq_some_iff.mp h
    obtain ⟨fse7, e7⟩ := kO_ok e7
    obtain ⟨r4, e5, h⟩ := Option.bind_eq_some_iff.mp h
    replace h := xI_ok h
    obtain ⟨v6, P3, rfl, h⟩ := h
    refine x_callV (c_X11_tick hl e5) dX11_looksAt_41 cw_X11_tick wl_X11_97 wi_X11_tick wse_X11_tick rfl e7 (by decide) rfl (by omega) (by decide) rfl (Nat.le_of_ble_eq_true rfl) rfl (fun v9 P9 hq9 => ?_) (fun i9 P9 hq9 => by cases hq9)
    cases hq9
    refine x_aload_nr dX11_looksAt_44 rfl ?_
    refine x_iload_n dX11_looksAt_45 rfl ?_
    refine x_iconst 2 dX11_looksAt_46 (by decide) ?_
    obtain ⟨_, e12, h⟩ := Option.bind_eq_some_iff.mp h
    obtain ⟨fse12, e12⟩ := kO_ok e12
    obtain ⟨r9, e10, h⟩ := Option.bind_eq_some_iff.mp h
    replace h := xI_ok h
    obtain ⟨v11, P8, rfl, h⟩ := h
    refine x_callV (c_X11_of hl e10) dX11_looksAt_47 cw_X11_of wl_X11_240 wi_X11_of wse_X11_of rfl e12 (by decide) rfl (by omega) (by decide) rfl (Nat.le_of_ble_eq_true rfl) rfl (fun v9 P9 hq9 => ?_) (fun i9 P9 hq9 => by cases hq9)
    cases hq9
    refine x_isub dX11_looksAt_50 ?_
    obtain ⟨P13, e14, h⟩ := Option.bind_eq_some_iff.mp h
    refine k_sI e14 dX11_looksAt_51 ?_
    refine x_aload_nr dX11_looksAt_52 rfl ?_
    obtain ⟨v15, e16, h⟩ := Option.bind_eq_some_iff.mp h
    refine k_rA e16 dX11_looksAt_53 f_X11_40 ?_
    refine x_iconst 1 dX11_looksAt_56 (by decide) ?_
    refine x_aload_nr dX11_looksAt_57 rfl ?_
    obtain ⟨v17, e18, h⟩ := Option.bind_eq_some_iff.mp h
    refine k_rA e18 dX11_looksAt_58 f_X11_13 ?_
    refine x_iload_n dX11_looksAt_61 rfl ?_
    refine x_iload_n dX11_looksAt_62 rfl ?_
    refine x_iconst 2 dX11_looksAt_63 (by decide) ?_
    obtain ⟨r20, e21, h⟩ := Option.bind_eq_some_iff.mp h
    replace h := xI_ok h
    obtain ⟨v22, P19, rfl, h⟩ := h
    refine x_callS (c_X11_copyAt hl e21) dX11_looksAt_64 cw_X11_copyAt wl_X11_85 ws_X11_copyAt rfl (by omega) (by decide) rfl (Nat.le_of_ble_eq_true rfl) rfl (fun v9 P9 hq9 => ?_) (fun i9 P9 hq9 => by cases hq9)
    cases hq9
    obtain ⟨v23, e24, h⟩ := Option.bind_eq_some_iff.mp h
    refine k_aI e24 dX11_looksAt_67 ?_
    obtain ⟨P25, e26, h⟩ := Option.bind_eq_some_iff.mp h
    refine k_sI e26 dX11_looksAt_68 ?_
    refine x_aload_nr dX11_looksAt_69 rfl ?_
    obtain ⟨v27, e28, h⟩ := Option.bind_eq_some_iff.mp h
    refine k_rA e28 dX11_looksAt_70 f_X11_40 ?_
    refine x_iconst 2 dX11_looksAt_73 (by decide) ?_
    refine x_aload_nr dX11_looksAt_74 rfl ?_
    refine x_iload_n dX11_looksAt_75 rfl ?_
    obtain ⟨_, e33, h⟩ := Option.bind_eq_some_iff.mp h
    obtain ⟨fse33, e33⟩ := kO_ok e33
    obtain ⟨r30, e31, h⟩ := Option.bind_eq_some_iff.mp h
    replace h := xI_ok h
    obtain ⟨v32, P29, rfl, h⟩ := h
    refine x_callV (c_X11_haveOf hl e31) dX11_looksAt_76 cw_X11_haveOf wl_X11_243 wi_X11_haveOf wse_X11_haveOf rfl e33 (by decide) rfl (by omega) (by decide) rfl (Nat.le_of_ble_eq_true rfl) rfl (fun v9 P9 hq9 => ?_) (fun i9 P9 hq9 => by cases hq9)
    cases hq9
    obtain ⟨P34, e35, h⟩ := Option.bind_eq_some_iff.mp h
    refine k_sI e35 dX11_looksAt_79 ?_
    refine x_aload_nr dX11_looksAt_80 rfl ?_
    obtain ⟨v36, e37, h⟩ := Option.bind_eq_some_iff.mp h
    refine k_rA e37 dX11_looksAt_81 f_X11_40 ?_
    refine x_iconst 3 dX11_looksAt_84 (by decide) ?_
    refine x_aload_nr dX11_looksAt_85 rfl ?_
    obtain ⟨v38, e39, h⟩ := Option.bind_eq_some_iff.mp h
    refine k_rA e39 dX11_looksAt_86 f_X11_13 ?_
    refine x_iload_n dX11_looksAt_89 rfl ?_
    refine x_iconst 1 dX11_looksAt_90 (by decide) ?_
    obtain ⟨r41, e42, h⟩ := Option.bind_eq_some_iff.mp h
    replace h := xI_ok h
    obtain ⟨v43, P40, rfl, h⟩ := h
    refine x_callS (c_X11_phoneAt hl e42) dX11_looksAt_91 cw_X11_phoneAt wl_X11_100 ws_X11_phoneAt rfl (by omega) (by decide) rfl (Nat.le_of_ble_eq_true rfl) rfl (fun v9 P9 hq9 => ?_) (fun i9 P9 hq9 => by cases hq9)
    cases hq9
    obtain ⟨v44, e45, h⟩ := Option.bind_eq_some_iff.mp h
    refine k_aI e45 dX11_looksAt_94 ?_
    obtain ⟨P46, e47, h⟩ := Option.bind_eq_some_iff.mp h
    refine k_sI e47 dX11_looksAt_95 ?_
    refine x_aload_nr dX11_looksAt_96 rfl ?_
    obtain ⟨v48, e49, h⟩ := Option.bind_eq_some_iff.mp h
    refine k_rA e49 dX11_looksAt_97 f_X11_40 ?_
    refine x_iconst 4 dX11_looksAt_100 (by decide) ?_
    refine x_aload_nr dX11_looksAt_101 rfl ?_
    obtain ⟨v50, e51, h⟩ := Option.bind_eq_some_iff.mp h
    refine k_rA e51 dX11_looksAt_102 f_X11_13 ?_
    refine x_iload_n dX11_looksAt_105 rfl ?_
    refine x_iload_n dX11_looksAt_106 rfl ?_
    refine x_iconst 1 dX11_looksAt_107 (by decide) ?_
    obtain ⟨r53, e54, h⟩ := Option.bind_eq_some_iff.mp h
    replace h := xI_ok h
    obtain ⟨v55, P52, rfl, h⟩ := h
    refine x_callS (c_X11_copyAt hl e54) dX11_looksAt_108 cw_X11_copyAt wl_X11_85 ws_X11_copyAt rfl (by omega) (by decide) rfl (Nat.le_of_ble_eq_true rfl) rfl (fun v9 P9 hq9 => ?_) (fun i9 P9 hq9 => by cases hq9)
    cases hq9
    obtain ⟨v56, e57, h⟩ := Option.bind_eq_some_iff.mp h
    refine k_aI e57 dX11_looksAt_111 ?_
    obtain ⟨P58, e59, h⟩ := Option.bind_eq_some_iff.mp h
    refine k_sI e59 dX11_looksAt_112 ?_
    cases h
    exact x_ret rfl dX11_looksAt_113 hQ
  · rw [if_neg q72] at h
    refine x_aload_nr dX11_looksAt_8 rfl ?_
    obtain ⟨v60, e61, h⟩ := Option.bind_eq_some_iff.mp h
    refine k_rA e61 dX11_looksAt_9 f_X11_36 ?_
    refine x_iload_n dX11_looksAt_12 rfl ?_
    refine x_aload_nr dX11_looksAt_13 rfl ?_
    refine x_iload_n dX11_looksAt_14 rfl ?_
    refine x_iconst 0 dX11_looksAt_15 (by decide) ?_
    obtain ⟨_, e66, h⟩ := Option.bind_eq_some_iff.mp h
    obtain ⟨fse66, e66⟩ := kO_ok e66
    obtain ⟨r63, e64, h⟩ := Option.bind_eq_some_iff.mp h
    replace h := xI_ok h
    obtain ⟨v65, P62, rfl, h⟩ := h
    refine x_callV (c_X11_of hl e64) dX11_looksAt_16 cw_X11_of wl_X11_240 wi_X11_of wse_X11_of rfl e66 (by decide) rfl (by omega) (by decide) rfl (Nat.le_of_ble_eq_true rfl) rfl (fun v9 P9 hq9 => ?_) (fun i9 P9 hq9 => by cases hq9)
    cases hq9
    refine x_iload_n dX11_looksAt_19 rfl ?_
    refine x_icmp_ne 27 dX11_looksAt_20 (by decide) (fun q71 => ?_) (fun q71 => ?_)
    · rw [if_pos q71] at h
      refine x_iconst 0 dX11_looksAt_27 (by decide) ?_
      obtain ⟨P67, e68, h⟩ := Option.bind_eq_some_iff.mp h
      refine k_sZ e68 dX11_looksAt_28 ?_
      refine x_iinc (a3 + 1) dX11_looksAt_29 rfl (by rfl) ?_
      refine x_goto 2 dX11_looksAt_32 (by decide) ?_
      exact Wp.mask [true, true, true, true] (hrec 2 _ _ _ h _ _ rfl _ hQ)
    · rw [if_neg (fun z9 => z9 q71)] at h
      refine x_iconst 1 dX11_looksAt_23 (by decide) ?_
      refine x_goto 28 dX11_looksAt_24 (by decide) ?_
      obtain ⟨P69, e70, h⟩ := Option.bind_eq_some_iff.mp h
      refine k_sZ e70 dX11_looksAt_28 ?_
      refine x_iinc (a3 + 1) dX11_looksAt_29 rfl (by rfl) ?_
      refine x_goto 2 dX11_looksAt_32 (by decide) ?_
      exact Wp.mask [true, true, true, true] (hrec 2 _ _ _ h _ _ rfl _ hQ)
theorem s_X11_looksAt {G : xG} {l : Launch} (hl : l.stackTraces = false) : ∀ n pc env P z, f_X11_looksAt n pc env P = some z → ∀ L st, lay_X11_looksAt pc env = some (L, st) → ∀ Q : xR → xH → Prop, Q z.1 z.2 → Wp G l 6 mX11_looksAt pc L st P Q := by
  intro n
  induction n with
  | zero => intro pc env P z h; cases h
  | succ n ih =>
    intro pc env P z h L st hlay Q hQ
    unfold f_X11_looksAt at h
    split at h
    · cases hlay
      exact t_X11_looksAt_0 hl ih h hQ
    · cases hlay
      exact t_X11_looksAt_2 hl ih h hQ
    · cases h
theorem c_X11_looksAt {G : xG} {l : Launch} (hl : l.stackTraces = false) {n : Nat} {as : List Value} {P : xH} {z : xR × xH} (h : f_X11_looksAt n 0 as P = some z) : Ct G l 6 mX11_looksAt as P (fun r P1 => (r, P1) = z) := by
  cases n with
  | zero => cases h
  | succ n =>
    unfold f_X11_looksAt at h
    split at h
    · exact Ct.of hl (by decide +kernel) wc_X11_looksAt (Nat.le_of_ble_eq_true rfl) (t_X11_looksAt_0 hl (s_X11_looksAt hl _) h rfl)
    all_goals first | (cases h; done) | (rename_i q9 _; exact absurd q9 (by decide)) | (rename_i q9; exact absurd q9 (by decide)) | contradiction
/-! QuakeNetModel.markOf(II)I -/
def b_X11_markOf_0 (n : Nat) (rec : Nat → List Value → xH → xO) (a0 : Nat) (a1 : Int32) (a2 : Int32) (P : xH) : xO :=
  (kO P a0 11).bind fun _ =>
  (f_X11_looksAt n 0 [.ref a0, .int a1, .int a2] P).bind fun r2 => xU r2 fun P1 =>
  rec 11 [.ref a0, .int a1, .int a2, .int 0, .int 0] P1
def b_X11_markOf_11 (n : Nat) (rec : Nat → List Value → xH → xO) (a0 : Nat) (a1 : Int32) (a2 : Int32) (a3 : Int32) (a4 : Int32) (P : xH) : xO :=
  (kO P a0 11).bind fun _ =>
  (f_X11_lines n 0 [.ref a0] P).bind fun r2 => xI r2 fun v4 P1 =>
  if v4 ≤ a4 then
    some (.inl (some (.int a3)), P1)
  else
    (rA P1 a0 11 3).bind fun v6 =>
    (rI P1 a0 11 6).bind fun v8 =>
    (f_X11_lineAt n 0 [.int v8, .int a4] P1).bind fun r11 => xI r11 fun v13 P10 =>
    (aI P10 v6 v13).bind fun v14 =>
    if ¬ v14 = 0 then
      rec 11 [.ref a0, .int a1, .int a2, .int a3, .int ((a4 + 1))] P10
    else
      (kO P10 a0 11).bind fun _ =>
      (f_X11_holds n 0 [.ref a0, .int a4] P10).bind fun r17 => xI r17 fun v19 P16 =>
      if v19 = 0 then
        rec 11 [.ref a0, .int a1, .int a2, .int a3, .int ((a4 + 1))] P16
      else
        (rA P16 a0 11 3).bind fun v21 =>
        (rI P16 a0 11 6).bind fun v23 =>
        (f_X11_lineAt n 0 [.int v23, .int a4] P16).bind fun r26 => xI r26 fun v28 P25 =>
        (aI P25 v21 ((v28 + 1))).bind fun v29 =>
        rec 11 [.ref a0, .int a1, .int a2, .int ((a3 + v29)), .int ((a4 + 1))] P25
def lay_X11_markOf : Nat → List Value → Option (xL × List Value)
  | 0, [a0, a1, a2] => some ([some a0, some a1, some a2, none, none], [])
  | 11, [a0, a1, a2, a3, a4] => some ([some a0, some a1, some a2, some a3, some a4], [])
  | _, _ => none
def f_X11_markOf : Nat → Nat → List Value → xH → xO
  | 0 => fun _ _ _ => none
  | n + 1 => fun pc env P => match pc, env with
    | 0, [.ref a0, .int a1, .int a2] => b_X11_markOf_0 n (f_X11_markOf n) a0 a1 a2 P
    | 11, [.ref a0, .int a1, .int a2, .int a3, .int a4] => b_X11_markOf_11 n (f_X11_markOf n) a0 a1 a2 a3 a4 P
    | _, _ => none
set_option maxHeartbeats 2000000 in
set_option maxRecDepth 20000 in
theorem t_X11_markOf_0 {G : xG} {l : Launch} (hl : l.stackTraces = false) {n : Nat} {rec : Nat → List Value → xH → xO} (hrec : ∀ pc env P z, rec pc env P = some z → ∀ L st, lay_X11_markOf pc env = some (L, st) → ∀ Q : xR → xH → Prop, Q z.1 z.2 → Wp G l 7 mX11_markOf pc L st P Q) {a0 a1 a2} {P : xH} {z : xR × xH} (h : b_X11_markOf_0 n rec a0 a1 a2 P = some z) {Q : xR → xH → Prop} (hQ : Q z.1 z.2) : Wp G l 7 mX11_markOf 0 [some (.ref a0), some (.int a1), some (.int a2), none, none] [] P Q := by
  unfold b_X11_markOf_0 at h
  refine x_aload_nr dX11_markOf_0 rfl ?_
  refine x_iload_n dX11_markOf_1 rfl ?_
  refine x_iload_n dX11_markOf_2 rfl ?_
  obtain ⟨_, e4, h⟩ := Option.bind_eq_some_iff.mp h
  obtain ⟨fse4, e4⟩ := kO_ok e4
  obtain ⟨r2, e3, h⟩ := Option.bind_eq_some_iff.mp h
  replace h := xU_ok h
  obtain ⟨P1, rfl, h⟩ := h
  refine x_callV (c_X11_looksAt hl e3) dX11_markOf_3 cw_X11_looksAt wl_X11_249 wi_X11_looksAt wse_X11_looksAt rfl e4 (by decide) rfl (by omega) (by decide) rfl (Nat.le_of_ble_eq_true rfl) rfl (fun v9 P9 hq9 => ?_) (fun i9 P9 hq9 => by cases hq9)
  cases hq9
  refine x_iconst 0 dX11_markOf_6 (by decide) ?_
  refine x_istore_n dX11_markOf_7 (Nat.le_of_ble_eq_true rfl) ?_
  refine x_iconst 0 dX11_markOf_8 (by decide) ?_
  refine x_istore dX11_markOf_9 (Nat.le_of_ble_eq_true rfl) ?_
  exact Wp.mask [true, true, true, true, true] (hrec 11 _ _ _ h _ _ rfl _ hQ)
set_option maxHeartbeats 2000000 in
set_option maxRecDepth 20000 in
theorem t_X11_markOf_11 {G : xG} {l : Launch} (hl : l.stackTraces = false) {n : Nat} {rec : Nat → List Value → xH → xO} (hrec : ∀ pc env P z, rec pc env P = some z → ∀ L st, lay_X11_markOf pc env = some (L, st) → ∀ Q : xR → xH → Prop, Q z.1 z.2 → Wp G l 7 mX11_markOf pc L st P Q) {a0 a1 a2 a3 a4} {P : xH} {z : xR × xH} (h : b_X11_markOf_11 n rec a0 a1 a2 a3 a4 P = some z) {Q : xR → xH → Prop} (hQ : Q z.1 z.2) : Wp G l 7 mX11_markOf 11 [some (.ref a0), some (.int a1), some (.int a2), some (.int a3), some (.int a4)] [] P Q := by
  unfold b_X11_markOf_11 at h
  refine x_iload dX11_markOf_11 rfl ?_
  refine x_aload_nr dX11_markOf_13 rfl ?_
  obtain ⟨_, e5, h⟩ := Option.bind_eq_some_iff.mp h
  obtain ⟨fse5, e5⟩ := kO_ok e5
  obtain ⟨r2, e3, h⟩ := Option.bind_eq_some_iff.mp h
  replace h := xI_ok h
  obtain ⟨v4, P1, rfl, h⟩ := h
  refine x_callV (c_X11_lines hl e3) dX11_markOf_14 cw_X11_lines wl_X11_252 wi_X11_lines wse_X11_lines rfl e5 (by decide) rfl (by omega) (by decide) rfl (Nat.le_of_ble_eq_true rfl) rfl (fun v9 P9 hq9 => ?_) (fun i9 P9 hq9 => by cases hq9)
  cases hq9
  refine x_icmp_ge 71 dX11_markOf_17 (by decide) (fun q33 => ?_) (fun q33 => ?_)
  · rw [if_pos q33] at h
    refine x_iload_n dX11_markOf_71 rfl ?_
    cases h
    exact x_iret .int rfl rfl dX11_markOf_72 hQ
  · rw [if_neg q33] at h
    refine x_aload_nr dX11_markOf_20 rfl ?_
    obtain ⟨v6, e7, h⟩ := Option.bind_eq_some_iff.mp h
    refine k_rA e7 dX11_markOf_21 f_X11_20 ?_
    refine x_aload_nr dX11_markOf_24 rfl ?_
    obtain ⟨v8, e9, h⟩ := Option.bind_eq_some_iff.mp h
    refine k_rI e9 dX11_markOf_25 f_X11_246 ?_
    refine x_iload dX11_markOf_28 rfl ?_
    obtain ⟨r11, e12, h⟩ := Option.bind_eq_some_iff.mp h
    replace h := xI_ok h
    obtain ⟨v13, P10, rfl, h⟩ := h
    refine x_callS (c_X11_lineAt hl e12) dX11_markOf_30 cw_X11_lineAt wl_X11_209 ws_X11_lineAt rfl (by omega) (by decide) rfl (Nat.le_of_ble_eq_true rfl) rfl (fun v9 P9 hq9 => ?_) (fun i9 P9 hq9 => by cases hq9)
    cases hq9
    obtain ⟨v14, e15, h⟩ := Option.bind_eq_some_iff.mp h
    refine k_aI e15 dX11_markOf_33 ?_
    refine x_if_ne 65 dX11_markOf_34 (by decide) (fun q32 => ?_) (fun q32 => ?_)
    · rw [if_pos q32] at h
      refine x_iinc (a4 + 1) dX11_markOf_65 rfl (by rfl) ?_
      refine x_goto 11 dX11_markOf_68 (by decide) ?_
      exact Wp.mask [true, true, true, true, true] (hrec 11 _ _ _ h _ _ rfl _ hQ)
    · rw [if_neg (fun z9 => z9 q32)] at h
      refine x_aload_nr dX11_markOf_37 rfl ?_
      refine x_iload dX11_markOf_38 rfl ?_
      obtain ⟨_, e20, h⟩ := Option.bind_eq_some_iff.mp h
      obtain ⟨fse20, e20⟩ := kO_ok e20
      obtain ⟨r17, e18, h⟩ := Option.bind_eq_some_iff.mp h
      replace h := xI_ok h
      obtain ⟨v19, P16, rfl, h⟩ := h
      refine x_callV (c_X11_holds hl e18) dX11_markOf_40 cw_X11_holds wl_X11_255 wi_X11_holds wse_X11_holds rfl e20 (by decide) rfl (by omega) (by decide) rfl (Nat.le_of_ble_eq_true rfl) rfl (fun v9 P9 hq9 => ?_) (fun i9 P9 hq9 => by cases hq9)
      cases hq9
      refine x_if_eq 65 dX11_markOf_43 (by decide) (fun q31 => ?_) (fun q31 => ?_)
      · rw [if_pos q31] at h
        refine x_iinc (a4 + 1) dX11_markOf_65 rfl (by rfl) ?_
        refine x_goto 11 dX11_markOf_68 (by decide) ?_
        exact Wp.mask [true, true, true, true, true] (hrec 11 _ _ _ h _ _ rfl _ hQ)
      · rw [if_neg q31] at h
        refine x_iload_n dX11_markOf_46 rfl ?_
        refine x_aload_nr dX11_markOf_47 rfl ?_
        obtain ⟨v21, e22, h⟩ := Option.bind_eq_some_iff.mp h
        refine k_rA e22 dX11_markOf_48 f_X11_20 ?_
        refine x_aload_nr dX11_markOf_51 rfl ?_
        obtain ⟨v23, e24, h⟩ := Option.bind_eq_some_iff.mp h
        refine k_rI e24 dX11_markOf_52 f_X11_246 ?_
        refine x_iload dX11_markOf_55 rfl ?_
        obtain ⟨r26, e27, h⟩ := Option.bind_eq_some_iff.mp h
        replace h := xI_ok h
        obtain ⟨v28, P25, rfl, h⟩ := h
        refine x_callS (c_X11_lineAt hl e27) dX11_markOf_57 cw_X11_lineAt wl_X11_209 ws_X11_lineAt rfl (by omega) (by decide) rfl (Nat.le_of_ble_eq_true rfl) rfl (fun v9 P9 hq9 => ?_) (fun i9 P9 hq9 => by cases hq9)
        cases hq9
        refine x_iconst 1 dX11_markOf_60 (by decide) ?_
        refine x_iadd dX11_markOf_61 ?_
        obtain ⟨v29, e30, h⟩ := Option.bind_eq_some_iff.mp h
        refine k_aI e30 dX11_markOf_62 ?_
        refine x_iadd dX11_markOf_63 ?_
        refine x_istore_n dX11_markOf_64 (Nat.le_of_ble_eq_true rfl) ?_
        refine x_iinc (a4 + 1) dX11_markOf_65 rfl (by rfl) ?_
        refine x_goto 11 dX11_markOf_68 (by decide) ?_
        exact Wp.mask [true, true, true, true, true] (hrec 11 _ _ _ h _ _ rfl _ hQ)
theorem s_X11_markOf {G : xG} {l : Launch} (hl : l.stackTraces = false) : ∀ n pc env P z, f_X11_markOf n pc env P = some z → ∀ L st, lay_X11_markOf pc env = some (L, st) → ∀ Q : xR → xH → Prop, Q z.1 z.2 → Wp G l 7 mX11_markOf pc L st P Q := by
  intro n
  induction n with
  | zero => intro pc env P z h; cases h
  | succ n ih =>
    intro pc env P z h L st hlay Q hQ
    unfold f_X11_markOf at h
    split at h
    · cases hlay
      exact t_X11_markOf_0 hl ih h hQ
    · cases hlay
      exact t_X11_markOf_11 hl ih h hQ
    · cases h
theorem c_X11_markOf {G : xG} {l : Launch} (hl : l.stackTraces = false) {n : Nat} {as : List Value} {P : xH} {z : xR × xH} (h : f_X11_markOf n 0 as P = some z) : Ct G l 7 mX11_markOf as P (fun r P1 => (r, P1) = z) := by
  cases n with
  | zero => cases h
  | succ n =>
    unfold f_X11_markOf at h
    split at h
    · exact Ct.of hl (by decide +kernel) wc_X11_markOf (Nat.le_of_ble_eq_true rfl) (t_X11_markOf_0 hl (s_X11_markOf hl _) h rfl)
    all_goals first | (cases h; done) | (rename_i q9 _; exact absurd q9 (by decide)) | (rename_i q9; exact absurd q9 (by decide)) | contradiction
/-! QuakeNetModel.leastOn(I)I -/
def b_X11_leastOn_0 (n : Nat) (rec : Nat → List Value → xH → xO) (a0 : Nat) (a1 : Int32) (P : xH) : xO :=
  (kO P a0 11).bind fun _ =>
  (f_X11_words n 0 [.ref a0] P).bind fun r2 => xI r2 fun v4 P1 =>
  rec 12 [.ref a0, .int a1, .int ((-1)), .int 0, .int ((v4 - 1))] P1
def b_X11_leastOn_12 (n : Nat) (rec : Nat → List Value → xH → xO) (a0 : Nat) (a1 : Int32) (a2 : Int32) (a3 : Int32) (a4 : Int32) (P : xH) : xO :=
  if a4 < 0 then
    some (.inl (some (.int a2)), P)
  else
    (kO P a0 11).bind fun _ =>
    (f_X11_has n 0 [.ref a0, .int a1, .int a4] P).bind fun r2 => xI r2 fun v4 P1 =>
    if ¬ v4 = 0 then
      (kO P1 a0 11).bind fun _ =>
      (f_X11_markOf n 0 [.ref a0, .int a1, .int a4] P1).bind fun r7 => xI r7 fun v9 P6 =>
      if a2 < 0 then
        rec 12 [.ref a0, .int a1, .int a4, .int v9, .int ((a4 + (-1)))] P6
      else
        if v9 < a3 then
          rec 12 [.ref a0, .int a1, .int a4, .int v9, .int ((a4 + (-1)))] P6
        else
          rec 12 [.ref a0, .int a1, .int a2, .int a3, .int ((a4 + (-1)))] P6
    else
      rec 12 [.ref a0, .int a1, .int a2, .int a3, .int ((a4 + (-1)))] P1
def lay_X11_leastOn : Nat → List Value → Option (xL × List Value)
  | 0, [a0, a1] => some ([some a0, some a1, none, none, none, none], [])
  | 12, [a0, a1, a2, a3, a4] => some ([some a0, some a1, some a2, some a3, some a4, none], [])
  | _, _ => none
def f_X11_leastOn : Nat → Nat → List Value → xH → xO
  | 0 => fun _ _ _ => none
  | n + 1 => fun pc env P => match pc, env with
    | 0, [.ref a0, .int a1] => b_X11_leastOn_0 n (f_X11_leastOn n) a0 a1 P
    | 12, [.ref a0, .int a1, .int a2, .int a3, .int a4] => b_X11_leastOn_12 n (f_X11_leastOn n) a0 a1 a2 a3 a4 P
    | _, _ => none
set_option maxHeartbeats 2000000 in
set_option maxRecDepth 20000 in
theorem t_X11_leastOn_0 {G : xG} {l : Launch} (hl : l.stackTraces = false) {n : Nat} {rec : Nat → List Value → xH → xO} (hrec : ∀ pc env P z, rec pc env P = some z → ∀ L st, lay_X11_leastOn pc env = some (L, st) → ∀ Q : xR → xH → Prop, Q z.1 z.2 → Wp G l 8 mX11_leastOn pc L st P Q) {a0 a1} {P : xH} {z : xR × xH} (h : b_X11_leastOn_0 n rec a0 a1 P = some z) {Q : xR → xH → Prop} (hQ : Q z.1 z.2) : Wp G l 8 mX11_leastOn 0 [some (.ref a0), some (.int a1), none, none, none, none] [] P Q := by
  unfold b_X11_leastOn_0 at h
  refine x_iconst (-1) dX11_leastOn_0 (by decide) ?_
  refine x_istore_n dX11_leastOn_1 (Nat.le_of_ble_eq_true rfl) ?_
  refine x_iconst 0 dX11_leastOn_2 (by decide) ?_
  refine x_istore_n dX11_leastOn_3 (Nat.le_of_ble_eq_true rfl) ?_
  refine x_aload_nr dX11_leastOn_4 rfl ?_
  obtain ⟨_, e5, h⟩ := Option.bind_eq_some_iff.mp h
  obtain ⟨fse5, e5⟩ := kO_ok e5
  obtain ⟨r2, e3, h⟩ := Option.bind_eq_some_iff.mp h
  replace h := xI_ok h
  obtain ⟨v4, P1, rfl, h⟩ := h
  refine x_callV (c_X11_words hl e3) dX11_leastOn_5 cw_X11_words wl_X11_72 wi_X11_words wse_X11_words rfl e5 (by decide) rfl (by omega) (by decide) rfl (Nat.le_of_ble_eq_true rfl) rfl (fun v9 P9 hq9 => ?_) (fun i9 P9 hq9 => by cases hq9)
  cases hq9
  refine x_iconst 1 dX11_leastOn_8 (by decide) ?_
  refine x_isub dX11_leastOn_9 ?_
  refine x_istore dX11_leastOn_10 (Nat.le_of_ble_eq_true rfl) ?_
  exact Wp.mask [true, true, true, true, true, false] (hrec 12 _ _ _ h _ _ rfl _ hQ)
set_option maxHeartbeats 2000000 in
set_option maxRecDepth 20000 in
theorem t_X11_leastOn_12 {G : xG} {l : Launch} (hl : l.stackTraces = false) {n : Nat} {rec : Nat → List Value → xH → xO} (hrec : ∀ pc env P z, rec pc env P = some z → ∀ L st, lay_X11_leastOn pc env = some (L, st) → ∀ Q : xR → xH → Prop, Q z.1 z.2 → Wp G l 8 mX11_leastOn pc L st P Q) {a0 a1 a2 a3 a4} {P : xH} {z : xR × xH} (h : b_X11_leastOn_12 n rec a0 a1 a2 a3 a4 P = some z) {Q : xR → xH → Prop} (hQ : Q z.1 z.2) : Wp G l 8 mX11_leastOn 12 [some (.ref a0), some (.int a1), some (.int a2), some (.int a3), some (.int a4), none] [] P Q := by
  unfold b_X11_leastOn_12 at h
  refine x_iload dX11_leastOn_12 rfl ?_
  refine x_if_lt 64 dX11_leastOn_14 (by decide) (fun q14 => ?_) (fun q14 => ?_)
  · rw [if_pos q14] at h
    refine x_iload_n dX11_leastOn_64 rfl ?_
    cases h
    exact x_iret .int rfl rfl dX11_leastOn_65 hQ
  · rw [if_neg q14] at h
    refine x_aload_nr dX11_leastOn_17 rfl ?_
    refine x_iload_n dX11_leastOn_18 rfl ?_
    refine x_iload dX11_leastOn_19 rfl ?_
    obtain ⟨_, e5, h⟩ := Option.bind_eq_some_iff.mp h
    obtain ⟨fse5, e5⟩ := kO_ok e5
    obtain ⟨r2, e3, h⟩ := Option.bind_eq_some_iff.mp h
    replace h := xI_ok h
    obtain ⟨v4, P1, rfl, h⟩ := h
    refine x_callV (c_X11_has hl e3) dX11_leastOn_21 cw_X11_has wl_X11_237 wi_X11_has wse_X11_has rfl e5 (by decide) rfl (by omega) (by decide) rfl (Nat.le_of_ble_eq_true rfl) rfl (fun v9 P9 hq9 => ?_) (fun i9 P9 hq9 => by cases hq9)
    cases hq9
    refine x_if_ne 30 dX11_leastOn_24 (by decide) (fun q13 => ?_) (fun q13 => ?_)
    · rw [if_pos q13] at h
      refine x_aload_nr dX11_leastOn_30 rfl ?_
      refine x_iload_n dX11_leastOn_31 rfl ?_
      refine x_iload dX11_leastOn_32 rfl ?_
      obtain ⟨_, e10, h⟩ := Option.bind_eq_some_iff.mp h
      obtain ⟨fse10, e10⟩ := kO_ok e10
      obtain ⟨r7, e8, h⟩ := Option.bind_eq_some_iff.mp h
      replace h := xI_ok h
      obtain ⟨v9, P6, rfl, h⟩ := h
      refine x_callV (c_X11_markOf hl e8) dX11_leastOn_34 cw_X11_markOf wl_X11_258 wi_X11_markOf wse_X11_markOf rfl e10 (by decide) rfl (by omega) (by decide) rfl (Nat.le_of_ble_eq_true rfl) rfl (fun v9 P9 hq9 => ?_) (fun i9 P9 hq9 => by cases hq9)
      cases hq9
      refine x_istore dX11_leastOn_37 (Nat.le_of_ble_eq_true rfl) ?_
      refine x_iload_n dX11_leastOn_39 rfl ?_
      refine x_if_lt 52 dX11_leastOn_40 (by decide) (fun q12 => ?_) (fun q12 => ?_)
      · rw [if_pos q12] at h
        refine x_iload dX11_leastOn_52 rfl ?_
        refine x_istore_n dX11_leastOn_54 (Nat.le_of_ble_eq_true rfl) ?_
        refine x_iload dX11_leastOn_55 rfl ?_
        refine x_istore_n dX11_leastOn_57 (Nat.le_of_ble_eq_true rfl) ?_
        refine x_iinc (a4 + (-1)) dX11_leastOn_58 rfl (by rfl) ?_
        refine x_goto 12 dX11_leastOn_61 (by decide) ?_
        exact Wp.mask [true, true, true, true, true, false] (hrec 12 _ _ _ h _ _ rfl _ hQ)
      · rw [if_neg q12] at h
        refine x_iload dX11_leastOn_43 rfl ?_
        refine x_iload_n dX11_leastOn_45 rfl ?_
        refine x_icmp_lt 52 dX11_leastOn_46 (by decide) (fun q11 => ?_) (fun q11 => ?_)
        · rw [if_pos q11] at h
          refine x_iload dX11_leastOn_52 rfl ?_
          refine x_istore_n dX11_leastOn_54 (Nat.le_of_ble_eq_true rfl) ?_
          refine x_iload dX11_leastOn_55 rfl ?_
          refine x_istore_n dX11_leastOn_57 (Nat.le_of_ble_eq_true rfl) ?_
          refine x_iinc (a4 + (-1)) dX11_leastOn_58 rfl (by rfl) ?_
          refine x_goto 12 dX11_leastOn_61 (by decide) ?_
          exact Wp.mask [true, true, true, true, true, false] (hrec 12 _ _ _ h _ _ rfl _ hQ)
        · rw [if_neg q11] at h
          refine x_goto 58 dX11_leastOn_49 (by decide) ?_
          refine x_iinc (a4 + (-1)) dX11_leastOn_58 rfl (by rfl) ?_
          refine x_goto 12 dX11_leastOn_61 (by decide) ?_
          exact Wp.mask [true, true, true, true, true, false] (hrec 12 _ _ _ h _ _ rfl _ hQ)
    · rw [if_neg (fun z9 => z9 q13)] at h
      refine x_goto 58 dX11_leastOn_27 (by decide) ?_
      refine x_iinc (a4 + (-1)) dX11_leastOn_58 rfl (by rfl) ?_
      refine x_goto 12 dX11_leastOn_61 (by decide) ?_
      exact Wp.mask [true, true, true, true, true, false] (hrec 12 _ _ _ h _ _ rfl _ hQ)
theorem s_X11_leastOn {G : xG} {l : Launch} (hl : l.stackTraces = false) : ∀ n pc env P z, f_X11_leastOn n pc env P = some z → ∀ L st, lay_X11_leastOn pc env = some (L, st) → ∀ Q : xR → xH → Prop, Q z.1 z.2 → Wp G l 8 mX11_leastOn pc L st P Q := by
  intro n
  induction n with
  | zero => intro pc env P z h; cases h
  | succ n ih =>
    intro pc env P z h L st hlay Q hQ
    unfold f_X11_leastOn at h
    split at h
    · cases hlay
      exact t_X11_leastOn_0 hl ih h hQ
    · cases hlay
      exact t_X11_leastOn_12 hl ih h hQ
    · cases h
theorem c_X11_leastOn {G : xG} {l : Launch} (hl : l.stackTraces = false) {n : Nat} {as : List Value} {P : xH} {z : xR × xH} (h : f_X11_leastOn n 0 as P = some z) : Ct G l 8 mX11_leastOn as P (fun r P1 => (r, P1) = z) := by
  cases n with
  | zero => cases h
  | succ n =>
    unfold f_X11_leastOn at h
    split at h
    · exact Ct.of hl (by decide +kernel) wc_X11_leastOn (Nat.le_of_ble_eq_true rfl) (t_X11_leastOn_0 hl (s_X11_leastOn hl _) h rfl)
    all_goals first | (cases h; done) | (rename_i q9 _; exact absurd q9 (by decide)) | (rename_i q9; exact absurd q9 (by decide)) | contradiction
/-! QuakeNetModel.mayPass(II)Z -/
def b_X11_mayPass_0 (n : Nat) (rec : Nat → List Value → xH → xO) (a0 : Nat) (a1 : Int32) (a2 : Int32) (P : xH) : xO :=
  (rA P a0 11 1).bind fun v1 =>
  (f_X11_copyAt n 0 [.int a1, .int a2, .int 2] P).bind fun r4 => xI r4 fun v6 P3 =>
  (aI P3 v1 v6).bind fun v7 =>
  if v7 < 12 then
    (kO P3 a0 11).bind fun _ =>
    (f_X11_looksAt n 0 [.ref a0, .int a1, .int a2] P3).bind fun r10 => xU r10 fun P9 =>
    rec 32 [.ref a0, .int a1, .int a2, .int 0, .int 0, .int 0] P9
  else
    some (.inl (some (.int 0)), P3)
def b_X11_mayPass_32 (n : Nat) (rec : Nat → List Value → xH → xO) (a0 : Nat) (a1 : Int32) (a2 : Int32) (a3 : Int32) (a4 : Int32) (a5 : Int32) (P : xH) : xO :=
  (kO P a0 11).bind fun _ =>
  (f_X11_lines n 0 [.ref a0] P).bind fun r2 => xI r2 fun v4 P1 =>
  if v4 ≤ a5 then
    if ¬ a4 = 0 then
      some (.inl (some (.int 1)), P1)
    else
      if ¬ a3 = 0 then
        some (.inl (some (.int 0)), P1)
      else
        some (.inl (some (.int 1)), P1)
  else
    (rA P1 a0 11 3).bind fun v8 =>
    (rI P1 a0 11 6).bind fun v10 =>
    (f_X11_lineAt n 0 [.int v10, .int a5] P1).bind fun r13 => xI r13 fun v15 P12 =>
    (aI P12 v8 v15).bind fun v16 =>
    if v16 = 1 then
      if ¬ a4 = 0 then
        rec 32 [.ref a0, .int a1, .int a2, .int 1, .int 1, .int ((a5 + 1))] P12
      else
        (kO P12 a0 11).bind fun _ =>
        (f_X11_holds n 0 [.ref a0, .int a5] P12).bind fun r19 => xI r19 fun v21 P18 =>
        if v21 = 0 then
          rec 32 [.ref a0, .int a1, .int a2, .int 1, .int 0, .int ((a5 + 1))] P18
        else
          rec 32 [.ref a0, .int a1, .int a2, .int 1, .int 1, .int ((a5 + 1))] P18
    else
      rec 32 [.ref a0, .int a1, .int a2, .int a3, .int a4, .int ((a5 + 1))] P12
def lay_X11_mayPass : Nat → List Value → Option (xL × List Value)
  | 0, [a0, a1, a2] => some ([some a0, some a1, some a2, none, none, none], [])
  | 32, [a0, a1, a2, a3, a4, a5] => some ([some a0, some a1, some a2, some a3, some a4, some a5], [])
  | _, _ => none
def f_X11_mayPass : Nat → Nat → List Value → xH → xO
  | 0 => fun _ _ _ => none
  | n + 1 => fun pc env P => match pc, env with
    | 0, [.ref a0, .int a1, .int a2] => b_X11_mayPass_0 n (f_X11_mayPass n) a0 a1 a2 P
    | 32, [.ref a0, .int a1, .int a2, .int a3, .int a4, .int a5] => b_X11_mayPass_32 n (f_X11_mayPass n) a0 a1 a2 a3 a4 a5 P
    | _, _ => none
set_option maxHeartbeats 2000000 in
set_option maxRecDepth 20000 in
theorem t_X11_mayPass_0 {G : xG} {l : Launch} (hl : l.stackTraces = false) {n : Nat} {rec : Nat → List Value → xH → xO} (hrec : ∀ pc env P z, rec pc env P = some z → ∀ L st, lay_X11_mayPass pc env = some (L, st) → ∀ Q : xR → xH → Prop, Q z.1 z.2 → Wp G l 7 mX11_mayPass pc L st P Q) {a0 a1 a2} {P : xH} {z : xR × xH} (h : b_X11_mayPass_0 n rec a0 a1 a2 P = some z) {Q : xR → xH → Prop} (hQ : Q z.1 z.2) : Wp G l 7 mX11_mayPass 0 [some (.ref a0), some (.int a1), some (.int a2), none, none, none] [] P Q := by
  unfold b_X11_mayPass_0 at h
  refine x_aload_nr dX11_mayPass_0 rfl ?_
  obtain ⟨v1, e2, h⟩ := Option.bind_eq_some_iff.mp h
  refine k_rA e2 dX11_mayPass_1 f_X11_13 ?_
  refine x_iload_n dX11_mayPass_4 rfl ?_
  refine x_iload_n dX11_mayPass_5 rfl ?_
  refine x_iconst 2 dX11_mayPass_6 (by decide) ?_
  obtain ⟨r4, e5, h⟩ := Option.bind_eq_some_iff.mp h
  replace h := xI_ok h
  obtain ⟨v6, P3, rfl, h⟩ := h
  refine x_callS (c_X11_copyAt hl e5) dX11_mayPass_7 cw_X11_copyAt wl_X11_85 ws_X11_copyAt rfl (by omega) (by decide) rfl (Nat.le_of_ble_eq_true rfl) rfl (fun v9 P9 hq9 => ?_) (fun i9 P9 hq9 => by cases hq9)
  cases hq9
  obtain ⟨v7, e8, h⟩ := Option.bind_eq_some_iff.mp h
  refine k_aI e8 dX11_mayPass_10 ?_
  refine x_bipush 12 dX11_mayPass_11 (by decide) ?_
  refine x_icmp_lt 18 dX11_mayPass_13 (by decide) (fun q13 => ?_) (fun q13 => ?_)
  · rw [if_pos q13] at h
    refine x_aload_nr dX11_mayPass_18 rfl ?_
    refine x_iload_n dX11_mayPass_19 rfl ?_
    refine x_iload_n dX11_mayPass_20 rfl ?_
    obtain ⟨_, e12, h⟩ := Option.bind_eq_some_iff.mp h
    obtain ⟨fse12, e12⟩ := kO_ok e12
    obtain ⟨r10, e11, h⟩ := Option.bind_eq_some_iff.mp h
    replace h := xU_ok h
    obtain ⟨P9, rfl, h⟩ := h
    refine x_callV (c_X11_looksAt hl e11) dX11_mayPass_21 cw_X11_looksAt wl_X11_249 wi_X11_looksAt wse_X11_looksAt rfl e12 (by decide) rfl (by omega) (by decide) rfl (Nat.le_of_ble_eq_true rfl) rfl (fun v9 P9 hq9 => ?_) (fun i9 P9 hq9 => by cases hq9)
    cases hq9
    refine x_iconst 0 dX11_mayPass_24 (by decide) ?_
    refine x_istore_n dX11_mayPass_25 (Nat.le_of_ble_eq_true rfl) ?_
    refine x_iconst 0 dX11_mayPass_26 (by decide) ?_
    refine x_istore dX11_mayPass_27 (Nat.le_of_ble_eq_true rfl) ?_
    refine x_iconst 0 dX11_mayPass_29 (by decide) ?_
    refine x_istore dX11_mayPass_30 (Nat.le_of_ble_eq_true rfl) ?_
    exact Wp.mask [true, true, true, true, true, true] (hrec 32 _ _ _ h _ _ rfl _ hQ)
  · rw [if_neg q13] at h
    refine x_iconst 0 dX11_mayPass_16 (by decide) ?_
    cases h
    exact x_iret .boolean rfl rfl dX11_mayPass_17 hQ
set_option maxHeartbeats 2000000 in
set_option maxRecDepth 20000 in
theorem t_X11_mayPass_32 {G : xG} {l : Launch} (hl : l.stackTraces = false) {n : Nat} {rec : Nat → List Value → xH → xO} (hrec : ∀ pc env P z, rec pc env P = some z → ∀ L st, lay_X11_mayPass pc env = some (L, st) → ∀ Q : xR → xH → Prop, Q z.1 z.2 → Wp G l 7 mX11_mayPass pc L st P Q) {a0 a1 a2 a3 a4 a5} {P : xH} {z : xR × xH} (h : b_X11_mayPass_32 n rec a0 a1 a2 a3 a4 a5 P = some z) {Q : xR → xH → Prop} (hQ : Q z.1 z.2) : Wp G l 7 mX11_mayPass 32 [some (.ref a0), some (.int a1), some (.int a2), some (.int a3), some (.int a4), some (.int a5)] [] P Q := by
  unfold b_X11_mayPass_32 at h
  refine x_iload dX11_mayPass_32 rfl ?_
  refine x_aload_nr dX11_mayPass_34 rfl ?_
  obtain ⟨_, e5, h⟩ := Option.bind_eq_some_iff.mp h
  obtain ⟨fse5, e5⟩ := kO_ok e5
  obtain ⟨r2, e3, h⟩ := Option.bind_eq_some_iff.mp h
  replace h := xI_ok h
  obtain ⟨v4, P1, rfl, h⟩ := h
  refine x_callV (c_X11_lines hl e3) dX11_mayPass_35 cw_X11_lines wl_X11_252 wi_X11_lines wse_X11_lines rfl e5 (by decide) rfl (by omega) (by decide) rfl (Nat.le_of_ble_eq_true rfl) rfl (fun v9 P9 hq9 => ?_) (fun i9 P9 hq9 => by cases hq9)
  cases hq9
  refine x_icmp_ge 91 dX11_mayPass_38 (by decide) (fun q26 => ?_) (fun q26 => ?_)
  · rw [if_pos q26] at h
    refine x_iload dX11_mayPass_91 rfl ?_
    refine x_if_ne 100 dX11_mayPass_93 (by decide) (fun q7 => ?_) (fun q7 => ?_)
    · rw [if_pos q7] at h
      refine x_iconst 1 dX11_mayPass_100 (by decide) ?_
      refine x_goto 105 dX11_mayPass_101 (by decide) ?_
      cases h
      exact x_iret .boolean rfl rfl dX11_mayPass_105 hQ
    · rw [if_neg (fun z9 => z9 q7)] at h
      refine x_iload_n dX11_mayPass_96 rfl ?_
      refine x_if_ne 104 dX11_mayPass_97 (by decide) (fun q6 => ?_) (fun q6 => ?_)
      · rw [if_pos q6] at h
        refine x_iconst 0 dX11_mayPass_104 (by decide) ?_
        cases h
        exact x_iret .boolean rfl rfl dX11_mayPass_105 hQ
      · rw [if_neg (fun z9 => z9 q6)] at h
        refine x_iconst 1 dX11_mayPass_100 (by decide) ?_
        refine x_goto 105 dX11_mayPass_101 (by decide) ?_
        cases h
        exact x_iret .boolean rfl rfl dX11_mayPass_105 hQ
  · rw [if_neg q26] at h
    refine x_aload_nr dX11_mayPass_41 rfl ?_
    obtain ⟨v8, e9, h⟩ := Option.bind_eq_some_iff.mp h
    refine k_rA e9 dX11_mayPass_42 f_X11_20 ?_
    refine x_aload_nr dX11_mayPass_45 rfl ?_
    obtain ⟨v10, e11, h⟩ := Option.bind_eq_some_iff.mp h
    refine k_rI e11 dX11_mayPass_46 f_X11_246 ?_
    refine x_iload dX11_mayPass_49 rfl ?_
    obtain ⟨r13, e14, h⟩ := Option.bind_eq_some_iff.mp h
    replace h := xI_ok h
    obtain ⟨v15, P12, rfl, h⟩ := h
    refine x_callS (c_X11_lineAt hl e14) dX11_mayPass_51 cw_X11_lineAt wl_X11_209 ws_X11_lineAt rfl (by omega) (by decide) rfl (Nat.le_of_ble_eq_true rfl) rfl (fun v9 P9 hq9 => ?_) (fun i9 P9 hq9 => by cases hq9)
    cases hq9
    obtain ⟨v16, e17, h⟩ := Option.bind_eq_some_iff.mp h
    refine k_aI e17 dX11_mayPass_54 ?_
    refine x_iconst 1 dX11_mayPass_55 (by decide) ?_
    refine x_icmp_eq 62 dX11_mayPass_56 (by decide) (fun q25 => ?_) (fun q25 => ?_)
    · rw [if_pos q25] at h
      refine x_iconst 1 dX11_mayPass_62 (by decide) ?_
      refine x_istore_n dX11_mayPass_63 (Nat.le_of_ble_eq_true rfl) ?_
      refine x_iload dX11_mayPass_64 rfl ?_
      refine x_if_ne 78 dX11_mayPass_66 (by decide) (fun q24 => ?_) (fun q24 => ?_)
      · rw [if_pos q24] at h
        refine x_iconst 1 dX11_mayPass_78 (by decide) ?_
        refine x_goto 83 dX11_mayPass_79 (by decide) ?_
        refine x_istore dX11_mayPass_83 (Nat.le_of_ble_eq_true rfl) ?_
        refine x_iinc (a5 + 1) dX11_mayPass_85 rfl (by rfl) ?_
        refine x_goto 32 dX11_mayPass_88 (by decide) ?_
        exact Wp.mask [true, true, true, true, true, true] (hrec 32 _ _ _ h _ _ rfl _ hQ)
      · rw [if_neg (fun z9 => z9 q24)] at h
        refine x_aload_nr dX11_mayPass_69 rfl ?_
        refine x_iload dX11_mayPass_70 rfl ?_
        obtain ⟨_, e22, h⟩ := Option.bind_eq_some_iff.mp h
        obtain ⟨fse22, e22⟩ := kO_ok e22
        obtain ⟨r19, e20, h⟩ := Option.bind_eq_some_iff.mp h
        replace h := xI_ok h
        obtain ⟨v21, P18, rfl, h⟩ := h
        refine x_callV (c_X11_holds hl e20) dX11_mayPass_72 cw_X11_holds wl_X11_255 wi_X11_holds wse_X11_holds rfl e22 (by decide) rfl (by omega) (by decide) rfl (Nat.le_of_ble_eq_true rfl) rfl (fun v9 P9 hq9 => ?_) (fun i9 P9 hq9 => by cases hq9)
        cases hq9
        refine x_if_eq 82 dX11_mayPass_75 (by decide) (fun q23 => ?_) (fun q23 => ?_)
        · rw [if_pos q23] at h
          refine x_iconst 0 dX11_mayPass_82 (by decide) ?_
          refine x_istore dX11_mayPass_83 (Nat.le_of_ble_eq_true rfl) ?_
          refine x_iinc (a5 + 1) dX11_mayPass_85 rfl (by rfl) ?_
          refine x_goto 32 dX11_mayPass_88 (by decide) ?_
          exact Wp.mask [true, true, true, true, true, true] (hrec 32 _ _ _ h _ _ rfl _ hQ)
        · rw [if_neg q23] at h
          refine x_iconst 1 dX11_mayPass_78 (by decide) ?_
          refine x_goto 83 dX11_mayPass_79 (by decide) ?_
          refine x_istore dX11_mayPass_83 (Nat.le_of_ble_eq_true rfl) ?_
          refine x_iinc (a5 + 1) dX11_mayPass_85 rfl (by rfl) ?_
          refine x_goto 32 dX11_mayPass_88 (by decide) ?_
          exact Wp.mask [true, true, true, true, true, true] (hrec 32 _ _ _ h _ _ rfl _ hQ)
    · rw [if_neg q25] at h
      refine x_goto 85 dX11_mayPass_59 (by decide) ?_
      refine x_iinc (a5 + 1) dX11_mayPass_85 rfl (by rfl) ?_
      refine x_goto 32 dX11_mayPass_88 (by decide) ?_
      exact Wp.mask [true, true, true, true, true, true] (hrec 32 _ _ _ h _ _ rfl _ hQ)
theorem s_X11_mayPass {G : xG} {l : Launch} (hl : l.stackTraces = false) : ∀ n pc env P z, f_X11_mayPass n pc env P = some z → ∀ L st, lay_X11_mayPass pc env = some (L, st) → ∀ Q : xR → xH → Prop, Q z.1 z.2 → Wp G l 7 mX11_mayPass pc L st P Q := by
  intro n
  induction n with
  | zero => intro pc env P z h; cases h
  | succ n ih =>
    intro pc env P z h L st hlay Q hQ
    unfold f_X11_mayPass at h
    split at h
    · cases hlay
      exact t_X11_mayPass_0 hl ih h hQ
    · cases hlay
      exact t_X11_mayPass_32 hl ih h hQ
    · cases h
theorem c_X11_mayPass {G : xG} {l : Launch} (hl : l.stackTraces = false) {n : Nat} {as : List Value} {P : xH} {z : xR × xH} (h : f_X11_mayPass n 0 as P = some z) : Ct G l 7 mX11_mayPass as P (fun r P1 => (r, P1) = z) := by
  cases n with
  | zero => cases h
  | succ n =>
    unfold f_X11_mayPass at h
    split at h
    · exact Ct.of hl (by decide +kernel) wc_X11_mayPass (Nat.le_of_ble_eq_true rfl) (t_X11_mayPass_0 hl (s_X11_mayPass hl _) h rfl)
    all_goals first | (cases h; done) | (rename_i q9 _; exact absurd q9 (by decide)) | (rename_i q9; exact absurd q9 (by decide)) | contradiction
/-! QuakeNetModel.toldOf(II)I -/
def b_X11_toldOf_0 (n : Nat) (rec : Nat → List Value → xH → xO) (a0 : Nat) (a1 : Int32) (a2 : Int32) (P : xH) : xO :=
  (rA P a0 11 3).bind fun v1 =>
  (aI P v1 ((((11 + ((3 * a1)))) + a2))).bind fun v3 =>
  some (.inl (some (.int v3)), P)
def lay_X11_toldOf : Nat → List Value → Option (xL × List Value)
  | 0, [a0, a1, a2] => some ([some a0, some a1, some a2], [])
  | _, _ => none
def f_X11_toldOf : Nat → Nat → List Value → xH → xO
  | 0 => fun _ _ _ => none
  | n + 1 => fun pc env P => match pc, env with
    | 0, [.ref a0, .int a1, .int a2] => b_X11_toldOf_0 n (f_X11_toldOf n) a0 a1 a2 P
    | _, _ => none
set_option maxHeartbeats 2000000 in
set_option maxRecDepth 20000 in
theorem t_X11_toldOf_0 {G : xG} {l : Launch} (hl : l.stackTraces = false) {n : Nat} {rec : Nat → List Value → xH → xO} (hrec : ∀ pc env P z, rec pc env P = some z → ∀ L st, lay_X11_toldOf pc env = some (L, st) → ∀ Q : xR → xH → Prop, Q z.1 z.2 → Wp G l 3 mX11_toldOf pc L st P Q) {a0 a1 a2} {P : xH} {z : xR × xH} (h : b_X11_toldOf_0 n rec a0 a1 a2 P = some z) {Q : xR → xH → Prop} (hQ : Q z.1 z.2) : Wp G l 3 mX11_toldOf 0 [some (.ref a0), some (.int a1), some (.int a2)] [] P Q := by
  unfold b_X11_toldOf_0 at h
  refine x_aload_nr dX11_toldOf_0 rfl ?_
  obtain ⟨v1, e2, h⟩ := Option.bind_eq_some_iff.mp h
  refine k_rA e2 dX11_toldOf_1 f_X11_20 ?_
  refine x_bipush 11 dX11_toldOf_4 (by decide) ?_
  refine x_iconst 3 dX11_toldOf_6 (by decide) ?_
  refine x_iload_n dX11_toldOf_7 rfl ?_
  refine x_imul dX11_toldOf_8 ?_
  refine x_iadd dX11_toldOf_9 ?_
  refine x_iload_n dX11_toldOf_10 rfl ?_
  refine x_iadd dX11_toldOf_11 ?_
  obtain ⟨v3, e4, h⟩ := Option.bind_eq_some_iff.mp h
  refine k_aI e4 dX11_toldOf_12 ?_
  cases h
  exact x_iret .int rfl rfl dX11_toldOf_13 hQ
theorem s_X11_toldOf {G : xG} {l : Launch} (hl : l.stackTraces = false) : ∀ n pc env P z, f_X11_toldOf n pc env P = some z → ∀ L st, lay_X11_toldOf pc env = some (L, st) → ∀ Q : xR → xH → Prop, Q z.1 z.2 → Wp G l 3 mX11_toldOf pc L st P Q := by
  intro n
  induction n with
  | zero => intro pc env P z h; cases h
  | succ n ih =>
    intro pc env P z h L st hlay Q hQ
    unfold f_X11_toldOf at h
    split at h
    · cases hlay
      exact t_X11_toldOf_0 hl ih h hQ
    · cases h
theorem c_X11_toldOf {G : xG} {l : Launch} (hl : l.stackTraces = false) {n : Nat} {as : List Value} {P : xH} {z : xR × xH} (h : f_X11_toldOf n 0 as P = some z) : Ct G l 3 mX11_toldOf as P (fun r P1 => (r, P1) = z) := by
  cases n with
  | zero => cases h
  | succ n =>
    unfold f_X11_toldOf at h
    split at h
    · exact Ct.of hl (by decide +kernel) wc_X11_toldOf (Nat.le_of_ble_eq_true rfl) (t_X11_toldOf_0 hl (s_X11_toldOf hl _) h rfl)
    all_goals first | (cases h; done) | (rename_i q9 _; exact absurd q9 (by decide)) | (rename_i q9; exact absurd q9 (by decide)) | contradiction
/-! QuakeNetModel.canTake(IIII)Z -/
def b_X11_canTake_0 (n : Nat) (rec : Nat → List Value → xH → xO) (a0 : Nat) (a1 : Int32) (a2 : Int32) (a3 : Int32) (a4 : Int32) (P : xH) : xO :=
  (kO P a0 11).bind fun _ =>
  (f_X11_has n 0 [.ref a0, .int a1, .int a4] P).bind fun r2 => xI r2 fun v4 P1 =>
  if v4 = 0 then
    some (.inl (some (.int 0)), P1)
  else
    (kO P1 a0 11).bind fun _ =>
    (f_X11_has n 0 [.ref a0, .int a2, .int a4] P1).bind fun r7 => xI r7 fun v9 P6 =>
    if ¬ v9 = 0 then
      some (.inl (some (.int 0)), P6)
    else
      (rA P6 a0 11 20).bind fun v11 =>
      (aZ P6 v11 ((((30 * a3)) + a4))).bind fun v13 =>
      if ¬ v13 = 0 then
        some (.inl (some (.int 0)), P6)
      else
        (kO P6 a0 11).bind fun _ =>
        (f_X11_mayPass n 0 [.ref a0, .int a1, .int a4] P6).bind fun r16 => xI r16 fun v18 P15 =>
        if ¬ v18 = 0 then
          rec 50 [.ref a0, .int a1, .int a2, .int a3, .int a4, .int 0] P15
        else
          some (.inl (some (.int 0)), P15)
def b_X11_canTake_50 (n : Nat) (rec : Nat → List Value → xH → xO) (a0 : Nat) (a1 : Int32) (a2 : Int32) (a3 : Int32) (a4 : Int32) (a5 : Int32) (P : xH) : xO :=
  (kO P a0 11).bind fun _ =>
  (f_X11_words n 0 [.ref a0] P).bind fun r2 => xI r2 fun v4 P1 =>
  if v4 ≤ a5 then
    (kO P1 a0 11).bind fun _ =>
    (f_X11_copies n 0 [.ref a0, .int a2] P1).bind fun r7 => xI r7 fun v9 P6 =>
    (kO P6 a0 11).bind fun _ =>
    (f_X11_toldOf n 0 [.ref a0, .int a2, .int 1] P6).bind fun r12 => xI r12 fun v14 P11 =>
    if v14 ≤ v9 then
      (kO P11 a0 11).bind fun _ =>
      (f_X11_leastOn n 0 [.ref a0, .int a2] P11).bind fun r17 => xI r17 fun v19 P16 =>
      (kO P16 a0 11).bind fun _ =>
      (f_X11_markOf n 0 [.ref a0, .int a2, .int v19] P16).bind fun r22 => xI r22 fun v24 P21 =>
      (kO P21 a0 11).bind fun _ =>
      (f_X11_markOf n 0 [.ref a0, .int a1, .int a4] P21).bind fun r27 => xI r27 fun v29 P26 =>
      if v29 ≤ v24 then
        some (.inl (some (.int 0)), P26)
      else
        some (.inl (some (.int 1)), P26)
    else
      some (.inl (some (.int 1)), P11)
  else
    (kO P1 a0 11).bind fun _ =>
    (f_X11_has n 0 [.ref a0, .int a2, .int a5] P1).bind fun r34 => xI r34 fun v36 P33 =>
    if v36 = 0 then
      rec 50 [.ref a0, .int a1, .int a2, .int a3, .int a4, .int ((a5 + 1))] P33
    else
      (kO P33 a0 11).bind fun _ =>
      (f_X11_of n 0 [.ref a0, .int a5, .int 8] P33).bind fun r39 => xI r39 fun v41 P38 =>
      if ¬ v41 = a4 then
        rec 50 [.ref a0, .int a1, .int a2, .int a3, .int a4, .int ((a5 + 1))] P38
      else
        some (.inl (some (.int 0)), P38)
def lay_X11_canTake : Nat → List Value → Option (xL × List Value)
  | 0, [a0, a1, a2, a3, a4] => some ([some a0, some a1, some a2, some a3, some a4, none], [])
  | 50, [a0, a1, a2, a3, a4, a5] => some ([some a0, some a1, some a2, some a3, some a4, some a5], [])
  | _, _ => none
def f_X11_canTake : Nat → Nat → List Value → xH → xO
  | 0 => fun _ _ _ => none
  | n + 1 => fun pc env P => match pc, env with
    | 0, [.ref a0, .int a1, .int a2, .int a3, .int a4] => b_X11_canTake_0 n (f_X11_canTake n) a0 a1 a2 a3 a4 P
    | 50, [.ref a0, .int a1, .int a2, .int a3, .int a4, .int a5] => b_X11_canTake_50 n (f_X11_canTake n) a0 a1 a2 a3 a4 a5 P
    | _, _ => none
set_option maxHeartbeats 2000000 in
set_option maxRecDepth 20000 in
theorem t_X11_canTake_0 {G : xG} {l : Launch} (hl : l.stackTraces = false) {n : Nat} {rec : Nat → List Value → xH → xO} (hrec : ∀ pc env P z, rec pc env P = some z → ∀ L st, lay_X11_canTake pc env = some (L, st) → ∀ Q : xR → xH → Prop, Q z.1 z.2 → Wp G l 9 mX11_canTake pc L st P Q) {a0 a1 a2 a3 a4} {P : xH} {z : xR × xH} (h : b_X11_canTake_0 n rec a0 a1 a2 a3 a4 P = some z) {Q : xR → xH → Prop} (hQ : Q z.1 z.2) : Wp G l 9 mX11_canTake 0 [some (.ref a0), some (.int a1), some (.int a2), some (.int a3), some (.int a4), none] [] P Q := by
  unfold b_X11_canTake_0 at h
  refine x_aload_nr dX11_canTake_0 rfl ?_
  refine x_iload_n dX11_canTake_1 rfl ?_
  refine x_iload dX11_canTake_2 rfl ?_
  obtain ⟨_, e5, h⟩ := Option.bind_eq_some_iff.mp h
  obtain ⟨fse5, e5⟩ := kO_ok e5
  obtain ⟨r2, e3, h⟩ := Option.bind_eq_some_iff.mp h
  replace h := xI_ok h
  obtain ⟨v4, P1, rfl, h⟩ := h
  refine x_callV (c_X11_has hl e3) dX11_canTake_4 cw_X11_has wl_X11_237 wi_X11_has wse_X11_has rfl e5 (by decide) rfl (by omega) (by decide) rfl (Nat.le_of_ble_eq_true rfl) rfl (fun v9 P9 hq9 => ?_) (fun i9 P9 hq9 => by cases hq9)
  cases hq9
  refine x_if_eq 45 dX11_canTake_7 (by decide) (fun q23 => ?_) (fun q23 => ?_)
  · rw [if_pos q23] at h
    refine x_iconst 0 dX11_canTake_45 (by decide) ?_
    cases h
    exact x_iret .boolean rfl rfl dX11_canTake_46 hQ
  · rw [if_neg q23] at h
    refine x_aload_nr dX11_canTake_10 rfl ?_
    refine x_iload_n dX11_canTake_11 rfl ?_
    refine x_iload dX11_canTake_12 rfl ?_
    obtain ⟨_, e10, h⟩ := Option.bind_eq_some_iff.mp h
    obtain ⟨fse10, e10⟩ := kO_ok e10
    obtain ⟨r7, e8, h⟩ := Option.bind_eq_some_iff.mp h
    replace h := xI_ok h
    obtain ⟨v9, P6, rfl, h⟩ := h
    refine x_callV (c_X11_has hl e8) dX11_canTake_14 cw_X11_has wl_X11_237 wi_X11_has wse_X11_has rfl e10 (by decide) rfl (by omega) (by decide) rfl (Nat.le_of_ble_eq_true rfl) rfl (fun v9 P9 hq9 => ?_) (fun i9 P9 hq9 => by cases hq9)
    cases hq9
    refine x_if_ne 45 dX11_canTake_17 (by decide) (fun q22 => ?_) (fun q22 => ?_)
    · rw [if_pos q22] at h
      refine x_iconst 0 dX11_canTake_45 (by decide) ?_
      cases h
      exact x_iret .boolean rfl rfl dX11_canTake_46 hQ
    · rw [if_neg (fun z9 => z9 q22)] at h
      refine x_aload_nr dX11_canTake_20 rfl ?_
      obtain ⟨v11, e12, h⟩ := Option.bind_eq_some_iff.mp h
      refine k_rA e12 dX11_canTake_21 f_X11_46 ?_
      refine x_bipush 30 dX11_canTake_24 (by decide) ?_
      refine x_iload_n dX11_canTake_26 rfl ?_
      refine x_imul dX11_canTake_27 ?_
      refine x_iload dX11_canTake_28 rfl ?_
      refine x_iadd dX11_canTake_30 ?_
      obtain ⟨v13, e14, h⟩ := Option.bind_eq_some_iff.mp h
      refine k_aZ e14 dX11_canTake_31 ?_
      refine x_if_ne 45 dX11_canTake_32 (by decide) (fun q21 => ?_) (fun q21 => ?_)
      · rw [if_pos q21] at h
        refine x_iconst 0 dX11_canTake_45 (by decide) ?_
        cases h
        exact x_iret .boolean rfl rfl dX11_canTake_46 hQ
      · rw [if_neg (fun z9 => z9 q21)] at h
        refine x_aload_nr dX11_canTake_35 rfl ?_
        refine x_iload_n dX11_canTake_36 rfl ?_
        refine x_iload dX11_canTake_37 rfl ?_
        obtain ⟨_, e19, h⟩ := Option.bind_eq_some_iff.mp h
        obtain ⟨fse19, e19⟩ := kO_ok e19
        obtain ⟨r16, e17, h⟩ := Option.bind_eq_some_iff.mp h
        replace h := xI_ok h
        obtain ⟨v18, P15, rfl, h⟩ := h
        refine x_callV (c_X11_mayPass hl e17) dX11_canTake_39 cw_X11_mayPass wl_X11_277 wi_X11_mayPass wse_X11_mayPass rfl e19 (by decide) rfl (by omega) (by decide) rfl (Nat.le_of_ble_eq_true rfl) rfl (fun v9 P9 hq9 => ?_) (fun i9 P9 hq9 => by cases hq9)
        cases hq9
        refine x_if_ne 47 dX11_canTake_42 (by decide) (fun q20 => ?_) (fun q20 => ?_)
        · rw [if_pos q20] at h
          refine x_iconst 0 dX11_canTake_47 (by decide) ?_
          refine x_istore dX11_canTake_48 (Nat.le_of_ble_eq_true rfl) ?_
          exact Wp.mask [true, true, true, true, true, true] (hrec 50 _ _ _ h _ _ rfl _ hQ)
        · rw [if_neg (fun z9 => z9 q20)] at h
          refine x_iconst 0 dX11_canTake_45 (by decide) ?_
          cases h
          exact x_iret .boolean rfl rfl dX11_canTake_46 hQ
set_option maxHeartbeats 2000000 in
set_option maxRecDepth 20000 in
theorem t_X11_canTake_50 {G : xG} {l : Launch} (hl : l.stackTraces = false) {n : Nat} {rec : Nat → List Value → xH → xO} (hrec : ∀ pc env P z, rec pc env P = some z → ∀ L st, lay_X11_canTake pc env = some (L, st) → ∀ Q : xR → xH → Prop, Q z.1 z.2 → Wp G l 9 mX11_canTake pc L st P Q) {a0 a1 a2 a3 a4 a5} {P : xH} {z : xR × xH} (h : b_X11_canTake_50 n rec a0 a1 a2 a3 a4 a5 P = some z) {Q : xR → xH → Prop} (hQ : Q z.1 z.2) : Wp G l 9 mX11_canTake 50 [some (.ref a0), some (.int a1), some (.int a2), some (.int a3), some (.int a4), some (.int a5)] [] P Q := by
  unfold b_X11_canTake_50 at h
  refine x_iload dX11_canTake_50 rfl ?_
  refine x_aload_nr dX11_canTake_52 rfl ?_
  obtain ⟨_, e5, h⟩ := Option.bind_eq_some_iff.mp h
  obtain ⟨fse5, e5⟩ := kO_ok e5
  obtain ⟨r2, e3, h⟩ := Option.bind_eq_some_iff.mp h
  replace h := xI_ok h
  obtain ⟨v4, P1, rfl, h⟩ := h
  refine x_callV (c_X11_words hl e3) dX11_canTake_53 cw_X11_words wl_X11_72 wi_X11_words wse_X11_words rfl e5 (by decide) rfl (by omega) (by decide) rfl (Nat.le_of_ble_eq_true rfl) rfl (fun v9 P9 hq9 => ?_) (fun i9 P9 hq9 => by cases hq9)
  cases hq9
  refine x_icmp_ge 90 dX11_canTake_56 (by decide) (fun q45 => ?_) (fun q45 => ?_)
  · rw [if_pos q45] at h
    refine x_aload_nr dX11_canTake_90 rfl ?_
    refine x_iload_n dX11_canTake_91 rfl ?_
    obtain ⟨_, e10, h⟩ := Option.bind_eq_some_iff.mp h
    obtain ⟨fse10, e10⟩ := kO_ok e10
    obtain ⟨r7, e8, h⟩ := Option.bind_eq_some_iff.mp h
    replace h := xI_ok h
    obtain ⟨v9, P6, rfl, h⟩ := h
    refine x_callV (c_X11_copies hl e8) dX11_canTake_92 cw_X11_copies wl_X11_264 wi_X11_copies wse_X11_copies rfl e10 (by decide) rfl (by omega) (by decide) rfl (Nat.le_of_ble_eq_true rfl) rfl (fun v9 P9 hq9 => ?_) (fun i9 P9 hq9 => by cases hq9)
    cases hq9
    refine x_aload_nr dX11_canTake_95 rfl ?_
    refine x_iload_n dX11_canTake_96 rfl ?_
    refine x_iconst 1 dX11_canTake_97 (by decide) ?_
    obtain ⟨_, e15, h⟩ := Option.bind_eq_some_iff.mp h
    obtain ⟨fse15, e15⟩ := kO_ok e15
    obtain ⟨r12, e13, h⟩ := Option.bind_eq_some_iff.mp h
    replace h := xI_ok h
    obtain ⟨v14, P11, rfl, h⟩ := h
    refine x_callV (c_X11_toldOf hl e13) dX11_canTake_98 cw_X11_toldOf wl_X11_110 wi_X11_toldOf wse_X11_toldOf rfl e15 (by decide) rfl (by omega) (by decide) rfl (Nat.le_of_ble_eq_true rfl) rfl (fun v9 P9 hq9 => ?_) (fun i9 P9 hq9 => by cases hq9)
    cases hq9
    refine x_icmp_ge 106 dX11_canTake_101 (by decide) (fun q32 => ?_) (fun q32 => ?_)
    · rw [if_pos q32] at h
      refine x_aload_nr dX11_canTake_106 rfl ?_
      refine x_iload_n dX11_canTake_107 rfl ?_
      obtain ⟨_, e20, h⟩ := Option.bind_eq_some_iff.mp h
      obtain ⟨fse20, e20⟩ := kO_ok e20
      obtain ⟨r17, e18, h⟩ := Option.bind_eq_some_iff.mp h
      replace h := xI_ok h
      obtain ⟨v19, P16, rfl, h⟩ := h
      refine x_callV (c_X11_leastOn hl e18) dX11_canTake_108 cw_X11_leastOn wl_X11_267 wi_X11_leastOn wse_X11_leastOn rfl e20 (by decide) rfl (by omega) (by decide) rfl (Nat.le_of_ble_eq_true rfl) rfl (fun v9 P9 hq9 => ?_) (fun i9 P9 hq9 => by cases hq9)
      cases hq9
      refine x_istore dX11_canTake_111 (Nat.le_of_ble_eq_true rfl) ?_
      refine x_aload_nr dX11_canTake_113 rfl ?_
      refine x_iload_n dX11_canTake_114 rfl ?_
      refine x_iload dX11_canTake_115 rfl ?_
      obtain ⟨_, e25, h⟩ := Option.bind_eq_some_iff.mp h
      obtain ⟨fse25, e25⟩ := kO_ok e25
      obtain ⟨r22, e23, h⟩ := Option.bind_eq_some_iff.mp h
      replace h := xI_ok h
      obtain ⟨v24, P21, rfl, h⟩ := h
      refine x_callV (c_X11_markOf hl e23) dX11_canTake_117 cw_X11_markOf wl_X11_258 wi_X11_markOf wse_X11_markOf rfl e25 (by decide) rfl (by omega) (by decide) rfl (Nat.le_of_ble_eq_true rfl) rfl (fun v9 P9 hq9 => ?_) (fun i9 P9 hq9 => by cases hq9)
      cases hq9
      refine x_aload_nr dX11_canTake_120 rfl ?_
      refine x_iload_n dX11_canTake_121 rfl ?_
      refine x_iload dX11_canTake_122 rfl ?_
      obtain ⟨_, e30, h⟩ := Option.bind_eq_some_iff.mp h
      obtain ⟨fse30, e30⟩ := kO_ok e30
      obtain ⟨r27, e28, h⟩ := Option.bind_eq_some_iff.mp h
      replace h := xI_ok h
      obtain ⟨v29, P26, rfl, h⟩ := h
      refine x_callV (c_X11_markOf hl e28) dX11_canTake_124 cw_X11_markOf wl_X11_258 wi_X11_markOf wse_X11_markOf rfl e30 (by decide) rfl (by omega) (by decide) rfl (Nat.le_of_ble_eq_true rfl) rfl (fun v9 P9 hq9 => ?_) (fun i9 P9 hq9 => by cases hq9)
      cases hq9
      refine x_icmp_ge 134 dX11_canTake_127 (by decide) (fun q31 => ?_) (fun q31 => ?_)
      · rw [if_pos q31] at h
        refine x_iconst 0 dX11_canTake_134 (by decide) ?_
        cases h
        exact x_iret .boolean rfl rfl dX11_canTake_135 hQ
      · rw [if_neg q31] at h
        refine x_iconst 1 dX11_canTake_130 (by decide) ?_
        refine x_goto 135 dX11_canTake_131 (by decide) ?_
        cases h
        exact x_iret .boolean rfl rfl dX11_canTake_135 hQ
    · rw [if_neg q32] at h
      refine x_iconst 1 dX11_canTake_104 (by decide) ?_
      cases h
      exact x_iret .boolean rfl rfl dX11_canTake_105 hQ
  · rw [if_neg q45] at h
    refine x_aload_nr dX11_canTake_59 rfl ?_
    refine x_iload_n dX11_canTake_60 rfl ?_
    refine x_iload dX11_canTake_61 rfl ?_
    obtain ⟨_, e37, h⟩ := Option.bind_eq_some_iff.mp h
    obtain ⟨fse37, e37⟩ := kO_ok e37
    obtain ⟨r34, e35, h⟩ := Option.bind_eq_some_iff.mp h
    replace h := xI_ok h
    obtain ⟨v36, P33, rfl, h⟩ := h
    refine x_callV (c_X11_has hl e35) dX11_canTake_63 cw_X11_has wl_X11_237 wi_X11_has wse_X11_has rfl e37 (by decide) rfl (by omega) (by decide) rfl (Nat.le_of_ble_eq_true rfl) rfl (fun v9 P9 hq9 => ?_) (fun i9 P9 hq9 => by cases hq9)
    cases hq9
    refine x_if_eq 84 dX11_canTake_66 (by decide) (fun q44 => ?_) (fun q44 => ?_)
    · rw [if_pos q44] at h
      refine x_iinc (a5 + 1) dX11_canTake_84 rfl (by rfl) ?_
      refine x_goto 50 dX11_canTake_87 (by decide) ?_
      exact Wp.mask [true, true, true, true, true, true] (hrec 50 _ _ _ h _ _ rfl _ hQ)
    · rw [if_neg q44] at h
      refine x_aload_nr dX11_canTake_69 rfl ?_
      refine x_iload dX11_canTake_70 rfl ?_
      refine x_bipush 8 dX11_canTake_72 (by decide) ?_
      obtain ⟨_, e42, h⟩ := Option.bind_eq_some_iff.mp h
      obtain ⟨fse42, e42⟩ := kO_ok e42
      obtain ⟨r39, e40, h⟩ := Option.bind_eq_some_iff.mp h
      replace h := xI_ok h
      obtain ⟨v41, P38, rfl, h⟩ := h
      refine x_callV (c_X11_of hl e40) dX11_canTake_74 cw_X11_of wl_X11_240 wi_X11_of wse_X11_of rfl e42 (by decide) rfl (by omega) (by decide) rfl (Nat.le_of_ble_eq_true rfl) rfl (fun v9 P9 hq9 => ?_) (fun i9 P9 hq9 => by cases hq9)
      cases hq9
      refine x_iload dX11_canTake_77 rfl ?_
      refine x_icmp_ne 84 dX11_canTake_79 (by decide) (fun q43 => ?_) (fun q43 => ?_)
      · rw [if_pos q43] at h
        refine x_iinc (a5 + 1) dX11_canTake_84 rfl (by rfl) ?_
        refine x_goto 50 dX11_canTake_87 (by decide) ?_
        exact Wp.mask [true, true, true, true, true, true] (hrec 50 _ _ _ h _ _ rfl _ hQ)
      · rw [if_neg (fun z9 => z9 q43)] at h
        refine x_iconst 0 dX11_canTake_82 (by decide) ?_
        cases h
        exact x_iret .boolean rfl rfl dX11_canTake_83 hQ
theorem s_X11_canTake {G : xG} {l : Launch} (hl : l.stackTraces = false) : ∀ n pc env P z, f_X11_canTake n pc env P = some z → ∀ L st, lay_X11_canTake pc env = some (L, st) → ∀ Q : xR → xH → Prop, Q z.1 z.2 → Wp G l 9 mX11_canTake pc L st P Q := by
  intro n
  induction n with
  | zero => intro pc env P z h; cases h
  | succ n ih =>
    intro pc env P z h L st hlay Q hQ
    unfold f_X11_canTake at h
    split at h
    · cases hlay
      exact t_X11_canTake_0 hl ih h hQ
    · cases hlay
      exact t_X11_canTake_50 hl ih h hQ
    · cases h
theorem c_X11_canTake {G : xG} {l : Launch} (hl : l.stackTraces = false) {n : Nat} {as : List Value} {P : xH} {z : xR × xH} (h : f_X11_canTake n 0 as P = some z) : Ct G l 9 mX11_canTake as P (fun r P1 => (r, P1) = z) := by
  cases n with
  | zero => cases h
  | succ n =>
    unfold f_X11_canTake at h
    split at h
    · exact Ct.of hl (by decide +kernel) wc_X11_canTake (Nat.le_of_ble_eq_true rfl) (t_X11_canTake_0 hl (s_X11_canTake hl _) h rfl)
    all_goals first | (cases h; done) | (rename_i q9 _; exact absurd q9 (by decide)) | (rename_i q9; exact absurd q9 (by decide)) | contradiction
/-! QuakeNetModel.hadAt(II)I -/
def b_X11_hadAt_0 (n : Nat) (rec : Nat → List Value → xH → xO) (a0 : Int32) (a1 : Int32) (P : xH) : xO :=
  some (.inl (some (.int ((((2151 + ((5 * a0)))) + a1)))), P)
def lay_X11_hadAt : Nat → List Value → Option (xL × List Value)
  | 0, [a0, a1] => some ([some a0, some a1], [])
  | _, _ => none
def f_X11_hadAt : Nat → Nat → List Value → xH → xO
  | 0 => fun _ _ _ => none
  | n + 1 => fun pc env P => match pc, env with
    | 0, [.int a0, .int a1] => b_X11_hadAt_0 n (f_X11_hadAt n) a0 a1 P
    | _, _ => none
set_option maxHeartbeats 2000000 in
set_option maxRecDepth 20000 in
theorem t_X11_hadAt_0 {G : xG} {l : Launch} (hl : l.stackTraces = false) {n : Nat} {rec : Nat → List Value → xH → xO} (hrec : ∀ pc env P z, rec pc env P = some z → ∀ L st, lay_X11_hadAt pc env = some (L, st) → ∀ Q : xR → xH → Prop, Q z.1 z.2 → Wp G l 3 mX11_hadAt pc L st P Q) {a0 a1} {P : xH} {z : xR × xH} (h : b_X11_hadAt_0 n rec a0 a1 P = some z) {Q : xR → xH → Prop} (hQ : Q z.1 z.2) : Wp G l 3 mX11_hadAt 0 [some (.int a0), some (.int a1)] [] P Q := by
  unfold b_X11_hadAt_0 at h
  refine x_sipush 2151 dX11_hadAt_0 (by decide) ?_
  refine x_iconst 5 dX11_hadAt_3 (by decide) ?_
  refine x_iload_n dX11_hadAt_4 rfl ?_
  refine x_imul dX11_hadAt_5 ?_
  refine x_iadd dX11_hadAt_6 ?_
  refine x_iload_n dX11_hadAt_7 rfl ?_
  refine x_iadd dX11_hadAt_8 ?_
  cases h
  exact x_iret .int rfl rfl dX11_hadAt_9 hQ
theorem s_X11_hadAt {G : xG} {l : Launch} (hl : l.stackTraces = false) : ∀ n pc env P z, f_X11_hadAt n pc env P = some z → ∀ L st, lay_X11_hadAt pc env = some (L, st) → ∀ Q : xR → xH → Prop, Q z.1 z.2 → Wp G l 3 mX11_hadAt pc L st P Q := by
  intro n
  induction n with
  | zero => intro pc env P z h; cases h
  | succ n ih =>
    intro pc env P z h L st hlay Q hQ
    unfold f_X11_hadAt at h
    split at h
    · cases hlay
      exact t_X11_hadAt_0 hl ih h hQ
    · cases h
theorem c_X11_hadAt {G : xG} {l : Launch} (hl : l.stackTraces = false) {n : Nat} {as : List Value} {P : xH} {z : xR × xH} (h : f_X11_hadAt n 0 as P = some z) : Ct G l 3 mX11_hadAt as P (fun r P1 => (r, P1) = z) := by
  cases n with
  | zero => cases h
  | succ n =>
    unfold f_X11_hadAt at h
    split at h
    · exact Ct.of hl (by decide +kernel) wc_X11_hadAt (Nat.le_of_ble_eq_true rfl) (t_X11_hadAt_0 hl (s_X11_hadAt hl _) h rfl)
    all_goals first | (cases h; done) | (rename_i q9 _; exact absurd q9 (by decide)) | (rename_i q9; exact absurd q9 (by decide)) | contradiction
/-! QuakeNetModel.comes(IIIIIII)V -/
def b_X11_comes_0 (n : Nat) (rec : Nat → List Value → xH → xO) (a0 : Nat) (a1 : Int32) (a2 : Int32) (a3 : Int32) (a4 : Int32) (a5 : Int32) (a6 : Int32) (a7 : Int32) (P : xH) : xO :=
  (f_X11_copyAt n 0 [.int a1, .int a2, .int 0] P).bind fun r2 => xI r2 fun v4 P1 =>
  (rA P1 a0 11 1).bind fun v5 =>
  (sI P1 v5 ((v4 + 0)) 1).bind fun P7 =>
  (rA P7 a0 11 1).bind fun v9 =>
  (sI P7 v9 ((v4 + 1)) a3).bind fun P11 =>
  (rA P11 a0 11 1).bind fun v13 =>
  (sI P11 v13 ((v4 + 2)) a4).bind fun P15 =>
  (rA P15 a0 11 1).bind fun v17 =>
  (sI P15 v17 ((v4 + 3)) a5).bind fun P19 =>
  (rA P19 a0 11 1).bind fun v21 =>
  (kO P19 a0 11).bind fun _ =>
  (f_X11_tick n 0 [.ref a0] P19).bind fun r24 => xI r24 fun v26 P23 =>
  (sI P23 v21 ((v4 + 4)) v26).bind fun P28 =>
  (rA P28 a0 11 1).bind fun v30 =>
  (sI P28 v30 ((v4 + 5)) a6).bind fun P32 =>
  (rA P32 a0 11 1).bind fun v34 =>
  (sI P32 v34 ((((v4 + 5)) + 1)) a7).bind fun P36 =>
  (kO P36 a0 11).bind fun _ =>
  (f_X11_of n 0 [.ref a0, .int a2, .int 8] P36).bind fun r39 => xI r39 fun v41 P38 =>
  if v41 < 0 then
    rec 115 [.ref a0, .int a1, .int a2, .int a3, .int a4, .int a5, .int a6, .int a7, .int v4] P38
  else
    (rA P38 a0 11 1).bind fun v43 =>
    (kO P38 a0 11).bind fun _ =>
    (f_X11_of n 0 [.ref a0, .int a2, .int 8] P38).bind fun r46 => xI r46 fun v48 P45 =>
    (f_X11_copyAt n 0 [.int a1, .int v48, .int 0] P45).bind fun r51 => xI r51 fun v53 P50 =>
    (sI P50 v43 v53 0).bind fun P54 =>
    rec 115 [.ref a0, .int a1, .int a2, .int a3, .int a4, .int a5, .int a6, .int a7, .int v4] P54
def b_X11_comes_115 (n : Nat) (rec : Nat → List Value → xH → xO) (a0 : Nat) (a1 : Int32) (a2 : Int32) (a3 : Int32) (a4 : Int32) (a5 : Int32) (a6 : Int32) (a7 : Int32) (a8 : Int32) (P : xH) : xO :=
  if 0 < a1 then
    some (.inl none, P)
  else
    (rA P a0 11 1).bind fun v1 =>
    (f_X11_hadAt n 0 [.int a2, .int 0] P).bind fun r4 => xI r4 fun v6 P3 =>
    (aI P3 v1 v6).bind fun v7 =>
    if v7 < 0 then
      (rA P3 a0 11 1).bind fun v9 =>
      (f_X11_hadAt n 0 [.int a2, .int 0] P3).bind fun r12 => xI r12 fun v14 P11 =>
      (kO P11 a0 11).bind fun _ =>
      (f_X11_tick n 0 [.ref a0] P11).bind fun r16 => xI r16 fun v18 P15 =>
      (sI P15 v9 v14 v18).bind fun P20 =>
      (rA P20 a0 11 1).bind fun v22 =>
      (f_X11_hadAt n 0 [.int a2, .int 1] P20).bind fun r25 => xI r25 fun v27 P24 =>
      (sI P24 v22 v27 a3).bind fun P28 =>
      (rA P28 a0 11 1).bind fun v30 =>
      (f_X11_hadAt n 0 [.int a2, .int 2] P28).bind fun r33 => xI r33 fun v35 P32 =>
      (sI P32 v30 v35 a6).bind fun P36 =>
      (rA P36 a0 11 1).bind fun v38 =>
      (f_X11_hadAt n 0 [.int a2, .int 3] P36).bind fun r41 => xI r41 fun v43 P40 =>
      (sI P40 v38 v43 a7).bind fun P44 =>
      (rA P44 a0 11 1).bind fun v46 =>
      (f_X11_hadAt n 0 [.int a2, .int 4] P44).bind fun r49 => xI r49 fun v51 P48 =>
      (sI P48 v46 v51 a4).bind fun P52 =>
      some (.inl none, P52)
    else
      some (.inl none, P3)
def lay_X11_comes : Nat → List Value → Option (xL × List Value)
  | 0, [a0, a1, a2, a3, a4, a5, a6, a7] => some ([some a0, some a1, some a2, some a3, some a4, some a5, some a6, some a7, none], [])
  | 115, [a0, a1, a2, a3, a4, a5, a6, a7, a8] => some ([some a0, some a1, some a2, some a3, some a4, some a5, some a6, some a7, some a8], [])
  | _, _ => none
def f_X11_comes : Nat → Nat → List Value → xH → xO
  | 0 => fun _ _ _ => none
  | n + 1 => fun pc env P => match pc, env with
    | 0, [.ref a0, .int a1, .int a2, .int a3, .int a4, .int a5, .int a6, .int a7] => b_X11_comes_0 n (f_X11_comes n) a0 a1 a2 a3 a4 a5 a6 a7 P
    | 115, [.ref a0, .int a1, .int a2, .int a3, .int a4, .int a5, .int a6, .int a7, .int a8] => b_X11_comes_115 n (f_X11_comes n) a0 a1 a2 a3 a4 a5 a6 a7 a8 P
    | _, _ => none
set_option maxHeartbeats 2000000 in
set_option maxRecDepth 20000 in
theorem t_X11_comes_0 {G : xG} {l : Launch} (hl : l.stackTraces = false) {n : Nat} {rec : Nat → List Value → xH → xO} (hrec : ∀ pc env P z, rec pc env P = some z → ∀ L st, lay_X11_comes pc env = some (L, st) → ∀ Q : xR → xH → Prop, Q z.1 z.2 → Wp G l 4 mX11_comes pc L st P Q) {a0 a1 a2 a3 a4 a5 a6 a7} {P : xH} {z : xR × xH} (h : b_X11_comes_0 n rec a0 a1 a2 a3 a4 a5 a6 a7 P = some z) {Q : xR → xH → Prop} (hQ : Q z.1 z.2) : Wp G l 4 mX11_comes 0 [some (.ref a0), some (.int a1), some (.int a2), some (.int a3), some (.int a4), some (.int a5), some (.int a6), some (.int a7), none] [] P Q := by
  unfold b_X11_comes_0 at h
  refine x_iload_n dX11_comes_0 rfl ?_
  refine x_iload_n dX11_comes_1 rfl ?_
  refine x_iconst 0 dX11_comes_2 (by decide) ?_
  obtain ⟨r2, e3, h⟩ := Option.bind_eq_some_iff.mp h
  replace h := xI_ok h
  obtain ⟨v4, P1, rfl, h⟩ := h
  refine x_callS (c_X11_copyAt hl e3) dX11_comes_3 cw_X11_copyAt wl_X11_85 ws_X11_copyAt rfl (by omega) (by decide) rfl (Nat.le_of_ble_eq_true rfl) rfl (fun v9 P9 hq9 => ?_) (fun i9 P9 hq9 => by cases hq9)
  cases hq9
  refine x_istore dX11_comes_6 (Nat.le_of_ble_eq_true rfl) ?_
  refine x_aload_nr dX11_comes_8 rfl ?_
  obtain ⟨v5, e6, h⟩ := Option.bind_eq_some_iff.mp h
  refine k_rA e6 dX11_comes_9 f_X11_13 ?_
  refine x_iload dX11_comes_12 rfl ?_
  refine x_iconst 0 dX11_comes_14 (by decide) ?_
  refine x_iadd dX11_comes_15 ?_
  refine x_iconst 1 dX11_comes_16 (by decide) ?_
  obtain ⟨P7, e8, h⟩ := Option.bind_eq_some_iff.mp h
  refine k_sI e8 dX11_comes_17 ?_
  refine x_aload_nr dX11_comes_18 rfl ?_
  obtain ⟨v9, e10, h⟩ := Option.bind_eq_some_iff.mp h
  refine k_rA e10 dX11_comes_19 f_X11_13 ?_
  refine x_iload dX11_comes_22 rfl ?_
  refine x_iconst 1 dX11_comes_24 (by decide) ?_
  refine x_iadd dX11_comes_25 ?_
  refine x_iload_n dX11_comes_26 rfl ?_
  obtain ⟨P11, e12, h⟩ := Option.bind_eq_some_iff.mp h
  refine k_sI e12 dX11_comes_27 ?_
  refine x_aload_nr dX11_comes_28 rfl ?_
  obtain ⟨v13, e14, h⟩ := Option.bind_eq_some_iff.mp h
  refine k_rA e14 dX11_comes_29 f_X11_13 ?_
  refine x_iload dX11_comes_32 rfl ?_
  refine x_iconst 2 dX11_comes_34 (by decide) ?_
  refine x_iadd dX11_comes_35 ?_
  refine x_iload dX11_comes_36 rfl ?_
  obtain ⟨P15, e16, h⟩ := Option.bind_eq_some_iff.mp h
  refine k_sI e16 dX11_comes_38 ?_
  refine x_aload_nr dX11_comes_39 rfl ?_
  obtain ⟨v17, e18, h⟩ := Option.bind_eq_some_iff.mp h
  refine k_rA e18 dX11_comes_40 f_X11_13 ?_
  refine x_iload dX11_comes_43 rfl ?_
  refine x_iconst 3 dX11_comes_45 (by decide) ?_
  refine x_iadd dX11_comes_46 ?_
  refine x_iload dX11_comes_47 rfl ?_
  obtain ⟨P19, e20, h⟩ := Option.bind_eq_some_iff.mp h
  refine k_sI e20 dX11_comes_49 ?_
  refine x_aload_nr dX11_comes_50 rfl ?_
  obtain ⟨v21, e22, h⟩ := Option.bind_eq_some_iff.mp h
  refine k_rA e22 dX11_comes_51 f_X11_13 ?_
  refine x_iload dX11_comes_54 rfl ?_
  refine x_iconst 4 dX11_comes_56 (by decide) ?_
  refine x_iadd dX11_comes_57 ?_
  refine x_aload_nr dX11_comes_58 rfl ?_
  obtain ⟨_, e27, h⟩ := Option.bind_eq_some_iff.mp h
  obtain ⟨fse27, e27⟩ := kO_ok e27
  obtain ⟨r24, e25, h⟩ := Option.bind_eq_some_iff.mp h
  replace h := xI_ok h
  obtain ⟨v26, P23, rfl, h⟩ := h
  refine x_callV (c_X11_tick hl e25) dX11_comes_59 cw_X11_tick wl_X11_97 wi_X11_tick wse_X11_tick rfl e27 (by decide) rfl (by omega) (by decide) rfl (Nat.le_of_ble_eq_true rfl) rfl (fun v9 P9 hq9 => ?_) (fun i9 P9 hq9 => by cases hq9)
  cases hq9
  obtain ⟨P28, e29, h⟩ := Option.bind_eq_some_iff.mp h
  refine k_sI e29 dX11_comes_62 ?_
  refine x_aload_nr dX11_comes_63 rfl ?_
  obtain ⟨v30, e31, h⟩ := Option.bind_eq_some_iff.mp h
  refine k_rA e31 dX11_comes_64 f_X11_13 ?_
  refine x_iload dX11_comes_67 rfl ?_
  refine x_iconst 5 dX11_comes_69 (by decide) ?_
  refine x_iadd dX11_comes_70 ?_
  refine x_iload dX11_comes_71 rfl ?_
  obtain ⟨P32, e33, h⟩ := Option.bind_eq_some_iff.mp h
  refine k_sI e33 dX11_comes_73 ?_
  refine x_aload_nr dX11_comes_74 rfl ?_
  obtain ⟨v34, e35, h⟩ := Option.bind_eq_some_iff.mp h
  refine k_rA e35 dX11_comes_75 f_X11_13 ?_
  refine x_iload dX11_comes_78 rfl ?_
  refine x_iconst 5 dX11_comes_80 (by decide) ?_
  refine x_iadd dX11_comes_81 ?_
  refine x_iconst 1 dX11_comes_82 (by decide) ?_
  refine x_iadd dX11_comes_83 ?_
  refine x_iload dX11_comes_84 rfl ?_
  obtain ⟨P36, e37, h⟩ := Option.bind_eq_some_iff.mp h
  refine k_sI e37 dX11_comes_86 ?_
  refine x_aload_nr dX11_comes_87 rfl ?_
  refine x_iload_n dX11_comes_88 rfl ?_
  refine x_bipush 8 dX11_comes_89 (by decide) ?_
  obtain ⟨_, e42, h⟩ := Option.bind_eq_some_iff.mp h
  obtain ⟨fse42, e42⟩ := kO_ok e42
  obtain ⟨r39, e40, h⟩ := Option.bind_eq_some_iff.mp h
  replace h := xI_ok h
  obtain ⟨v41, P38, rfl, h⟩ := h
  refine x_callV (c_X11_of hl e40) dX11_comes_91 cw_X11_of wl_X11_240 wi_X11_of wse_X11_of rfl e42 (by decide) rfl (by omega) (by decide) rfl (Nat.le_of_ble_eq_true rfl) rfl (fun v9 P9 hq9 => ?_) (fun i9 P9 hq9 => by cases hq9)
  cases hq9
  refine x_if_lt 115 dX11_comes_94 (by decide) (fun q56 => ?_) (fun q56 => ?_)
  · rw [if_pos q56] at h
    exact Wp.mask [true, true, true, true, true, true, true, true, true] (hrec 115 _ _ _ h _ _ rfl _ hQ)
  · rw [if_neg q56] at h
    refine x_aload_nr dX11_comes_97 rfl ?_
    obtain ⟨v43, e44, h⟩ := Option.bind_eq_some_iff.mp h
    refine k_rA e44 dX11_comes_98 f_X11_13 ?_
    refine x_iload_n dX11_comes_101 rfl ?_
    refine x_aload_nr dX11_comes_102 rfl ?_
    refine x_iload_n dX11_comes_103 rfl ?_
    refine x_bipush 8 dX11_comes_104 (by decide) ?_
    obtain ⟨_, e49, h⟩ := Option.bind_eq_some_iff.mp h
    obtain ⟨fse49, e49⟩ := kO_ok e49
    obtain ⟨r46, e47, h⟩ := Option.bind_eq_some_iff.mp h
    replace h := xI_ok h
    obtain ⟨v48, P45, rfl, h⟩ := h
    refine x_callV (c_X11_of hl e47) dX11_comes_106 cw_X11_of wl_X11_240 wi_X11_of wse_X11_of rfl e49 (by decide) rfl (by omega) (by decide) rfl (Nat.le_of_ble_eq_true rfl) rfl (fun v9 P9 hq9 => ?_) (fun i9 P9 hq9 => by cases hq9)
    cases hq9
    refine x_iconst 0 dX11_comes_109 (by decide) ?_
    obtain ⟨r51, e52, h⟩ := Option.bind_eq_some_iff.mp h
    replace h := xI_ok h
    obtain ⟨v53, P50, rfl, h⟩ := h
    refine x_callS (c_X11_copyAt hl e52) dX11_comes_110 cw_X11_copyAt wl_X11_85 ws_X11_copyAt rfl (by omega) (by decide) rfl (Nat.le_of_ble_eq_true rfl) rfl (fun v9 P9 hq9 => ?_) (fun i9 P9 hq9 => by cases hq9)
    cases hq9
    refine x_iconst 0 dX11_comes_113 (by decide) ?_
    obtain ⟨P54, e55, h⟩ := Option.bind_eq_some_iff.mp h
    refine k_sI e55 dX11_comes_114 ?_
    exact Wp.mask [true, true, true, true, true, true, true, true, true] (hrec 115 _ _ _ h _ _ rfl _ hQ)
set_option maxHeartbeats 2000000 in
set_option maxRecDepth 20000 in
theorem t_X11_comes_115 {G : xG} {l : Launch} (hl : l.stackTraces = false) {n : Nat} {rec : Nat → List Value → xH → xO} (hrec : ∀ pc env P z, rec pc env P = some z → ∀ L st, lay_X11_comes pc env = some (L, st) → ∀ Q : xR → xH → Prop, Q z.1 z.2 → Wp G l 4 mX11_comes pc L st P Q) {a0 a1 a2 a3 a4 a5 a6 a7 a8} {P : xH} {z : xR × xH} (h : b_X11_comes_115 n rec a0 a1 a2 a3 a4 a5 a6 a7 a8 P = some z) {Q : xR → xH → Prop} (hQ : Q z.1 z.2) : Wp G l 4 mX11_comes 115 [some (.ref a0), some (.int a1), some (.int a2), some (.int a3), some (.int a4), some (.int a5), some (.int a6), some (.int a7), some (.int a8)] [] P Q := by
  unfold b_X11_comes_115 at h
  refine x_iload_n dX11_comes_115 rfl ?_
  refine x_if_gt 132 dX11_comes_116 (by decide) (fun q55 => ?_) (fun q55 => ?_)
  · rw [if_pos q55] at h
    cases h
    exact x_ret rfl dX11_comes_132 hQ
  · rw [if_neg q55] at h
    refine x_aload_nr dX11_comes_119 rfl ?_
    obtain ⟨v1, e2, h⟩ := Option.bind_eq_some_iff.mp h
    refine k_rA e2 dX11_comes_120 f_X11_13 ?_
    refine x_iload_n dX11_comes_123 rfl ?_
    refine x_iconst 0 dX11_comes_124 (by decide) ?_
    obtain ⟨r4, e5, h⟩ := Option.bind_eq_some_iff.mp h
    replace h := xI_ok h
    obtain ⟨v6, P3, rfl, h⟩ := h
    refine x_callS (c_X11_hadAt hl e5) dX11_comes_125 cw_X11_hadAt wl_X11_261 ws_X11_hadAt rfl (by omega) (by decide) rfl (Nat.le_of_ble_eq_true rfl) rfl (fun v9 P9 hq9 => ?_) (fun i9 P9 hq9 => by cases hq9)
    cases hq9
    obtain ⟨v7, e8, h⟩ := Option.bind_eq_some_iff.mp h
    refine k_aI e8 dX11_comes_128 ?_
    refine x_if_lt 133 dX11_comes_129 (by decide) (fun q54 => ?_) (fun q54 => ?_)
    · rw [if_pos q54] at h
      refine x_aload_nr dX11_comes_133 rfl ?_
      obtain ⟨v9, e10, h⟩ := Option.bind_eq_some_iff.mp h
      refine k_rA e10 dX11_comes_134 f_X11_13 ?_
      refine x_iload_n dX11_comes_137 rfl ?_
      refine x_iconst 0 dX11_comes_138 (by decide) ?_
      obtain ⟨r12, e13, h⟩ := Option.bind_eq_some_iff.mp h
      replace h := xI_ok h
      obtain ⟨v14, P11, rfl, h⟩ := h
      refine x_callS (c_X11_hadAt hl e13) dX11_comes_139 cw_X11_hadAt wl_X11_261 ws_X11_hadAt rfl (by omega) (by decide) rfl (Nat.le_of_ble_eq_true rfl) rfl (fun v9 P9 hq9 => ?_) (fun i9 P9 hq9 => by cases hq9)
      cases hq9
      refine x_aload_nr dX11_comes_142 rfl ?_
      obtain ⟨_, e19, h⟩ := Option.bind_eq_some_iff.mp h
      obtain ⟨fse19, e19⟩ := kO_ok e19
      obtain ⟨r16, e17, h⟩ := Option.bind_eq_some_iff.mp h
      replace h := xI_ok h
      obtain ⟨v18, P15, rfl, h⟩ := h
      refine x_callV (c_X11_tick hl e17) dX11_comes_143 cw_X11_tick wl_X11_97 wi_X11_tick wse_X11_tick rfl e19 (by decide) rfl (by omega) (by decide) rfl (Nat.le_of_ble_eq_true rfl) rfl (fun v9 P9 hq9 => ?_) (fun i9 P9 hq9 => by cases hq9)
      cases hq9
      obtain ⟨P20, e21, h⟩ := Option.bind_eq_some_iff.mp h
      refine k_sI e21 dX11_comes_146 ?_
      refine x_aload_nr dX11_comes_147 rfl ?_
      obtain ⟨v22, e23, h⟩ := Option.bind_eq_some_iff.mp h
      refine k_rA e23 dX11_comes_148 f_X11_13 ?_
      refine x_iload_n dX11_comes_151 rfl ?_
      refine x_iconst 1 dX11_comes_152 (by decide) ?_
      obtain ⟨r25, e26, h⟩ := Option.bind_eq_some_iff.mp h
      replace h := xI_ok h
      obtain ⟨v27, P24, rfl, h⟩ := h
      refine x_callS (c_X11_hadAt hl e26) dX11_comes_153 cw_X11_hadAt wl_X11_261 ws_X11_hadAt rfl (by omega) (by decide) rfl (Nat.le_of_ble_eq_true rfl) rfl (fun v9 P9 hq9 => ?_) (fun i9 P9 hq9 => by cases hq9)
      cases hq9
      refine x_iload_n dX11_comes_156 rfl ?_
      obtain ⟨P28, e29, h⟩ := Option.bind_eq_some_iff.mp h
      refine k_sI e29 dX11_comes_157 ?_
      refine x_aload_nr dX11_comes_158 rfl ?_
      obtain ⟨v30, e31, h⟩ := Option.bind_eq_some_iff.mp h
      refine k_rA e31 dX11_comes_159 f_X11_13 ?_
      refine x_iload_n dX11_comes_162 rfl ?_
      refine x_iconst 2 dX11_comes_163 (by decide) ?_
      obtain ⟨r33, e34, h⟩ := Option.bind_eq_some_iff.mp h
      replace h := xI_ok h
      obtain ⟨v35, P32, rfl, h⟩ := h
      refine x_callS (c_X11_hadAt hl e34) dX11_comes_164 cw_X11_hadAt wl_X11_261 ws_X11_hadAt rfl (by omega) (by decide) rfl (Nat.le_of_ble_eq_true rfl) rfl (fun v9 P9 hq9 => ?_) (fun i9 P9 hq9 => by cases hq9)
      cases hq9
      refine x_iload dX11_comes_167 rfl ?_
      obtain ⟨P36, e37, h⟩ := Option.bind_eq_some_iff.mp h
      refine k_sI e37 dX11_comes_169 ?_
      refine x_aload_nr dX11_comes_170 rfl ?_
      obtain ⟨v38, e39, h⟩ := Option.bind_eq_some_iff.mp h
      refine k_rA e39 dX11_comes_171 f_X11_13 ?_
      refine x_iload_n dX11_comes_174 rfl ?_
      refine x_iconst 3 dX11_comes_175 (by decide) ?_
      obtain ⟨r41, e42, h⟩ := Option.bind_eq_some_iff.mp h
      replace h := xI_ok h
      obtain ⟨v43, P40, rfl, h⟩ := h
      refine x_callS (c_X11_hadAt hl e42) dX11_comes_176 cw_X11_hadAt wl_X11_261 ws_X11_hadAt rfl (by omega) (by decide) rfl (Nat.le_of_ble_eq_true rfl) rfl (fun v9 P9 hq9 => ?_) (fun i9 P9 hq9 => by cases hq9)
      cases hq9
      refine x_iload dX11_comes_179 rfl ?_
      obtain ⟨P44, e45, h⟩ := Option.bind_eq_some_iff.mp h
      refine k_sI e45 dX11_comes_181 ?_
      refine x_aload_nr dX11_comes_182 rfl ?_
      obtain ⟨v46, e47, h⟩ := Option.bind_eq_some_iff.mp h
      refine k_rA e47 dX11_comes_183 f_X11_13 ?_
      refine x_iload_n dX11_comes_186 rfl ?_
      refine x_iconst 4 dX11_comes_187 (by decide) ?_
      obtain ⟨r49, e50, h⟩ := Option.bind_eq_some_iff.mp h
      replace h := xI_ok h
      obtain ⟨v51, P48, rfl, h⟩ := h
      refine x_callS (c_X11_hadAt hl e50) dX11_comes_188 cw_X11_hadAt wl_X11_261 ws_X11_hadAt rfl (by omega) (by decide) rfl (Nat.le_of_ble_eq_true rfl) rfl (fun v9 P9 hq9 => ?_) (fun i9 P9 hq9 => by cases hq9)
      cases hq9
      refine x_iload dX11_comes_191 rfl ?_
      obtain ⟨P52, e53, h⟩ := Option.bind_eq_some_iff.mp h
      refine k_sI e53 dX11_comes_193 ?_
      cases h
      exact x_ret rfl dX11_comes_194 hQ
    · rw [if_neg q54] at h
      cases h
      exact x_ret rfl dX11_comes_132 hQ
theorem s_X11_comes {G : xG} {l : Launch} (hl : l.stackTraces = false) : ∀ n pc env P z, f_X11_comes n pc env P = some z → ∀ L st, lay_X11_comes pc env = some (L, st) → ∀ Q : xR → xH → Prop, Q z.1 z.2 → Wp G l 4 mX11_comes pc L st P Q := by
  intro n
  induction n with
  | zero => intro pc env P z h; cases h
  | succ n ih =>
    intro pc env P z h L st hlay Q hQ
    unfold f_X11_comes at h
    split at h
    · cases hlay
      exact t_X11_comes_0 hl ih h hQ
    · cases hlay
      exact t_X11_comes_115 hl ih h hQ
    · cases h
theorem c_X11_comes {G : xG} {l : Launch} (hl : l.stackTraces = false) {n : Nat} {as : List Value} {P : xH} {z : xR × xH} (h : f_X11_comes n 0 as P = some z) : Ct G l 4 mX11_comes as P (fun r P1 => (r, P1) = z) := by
  cases n with
  | zero => cases h
  | succ n =>
    unfold f_X11_comes at h
    split at h
    · exact Ct.of hl (by decide +kernel) wc_X11_comes (Nat.le_of_ble_eq_true rfl) (t_X11_comes_0 hl (s_X11_comes hl _) h rfl)
    all_goals first | (cases h; done) | (rename_i q9 _; exact absurd q9 (by decide)) | (rename_i q9; exact absurd q9 (by decide)) | contradiction
/-! QuakeNetModel.costNow()I -/
def b_X11_costNow_0 (n : Nat) (rec : Nat → List Value → xH → xO) (a0 : Nat) (P : xH) : xO :=
  rec 4 [.ref a0, .int 1, .int 0] P
def b_X11_costNow_4 (n : Nat) (rec : Nat → List Value → xH → xO) (a0 : Nat) (a1 : Int32) (a2 : Int32) (P : xH) : xO :=
  (kO P a0 11).bind fun _ =>
  (f_X11_lines n 0 [.ref a0] P).bind fun r2 => xI r2 fun v4 P1 =>
  if v4 ≤ a2 then
    some (.inl (some (.int a1)), P1)
  else
    (rA P1 a0 11 3).bind fun v6 =>
    (rI P1 a0 11 6).bind fun v8 =>
    (f_X11_lineAt n 0 [.int v8, .int a2] P1).bind fun r11 => xI r11 fun v13 P10 =>
    (aI P10 v6 v13).bind fun v14 =>
    if ¬ v14 = 2 then
      rec 4 [.ref a0, .int a1, .int ((a2 + 1))] P10
    else
      (rA P10 a0 11 3).bind fun v16 =>
      (rI P10 a0 11 6).bind fun v18 =>
      (f_X11_lineAt n 0 [.int v18, .int a2] P10).bind fun r21 => xI r21 fun v23 P20 =>
      (aI P20 v16 ((v23 + 1))).bind fun v24 =>
      rec 4 [.ref a0, .int v24, .int ((a2 + 1))] P20
def lay_X11_costNow : Nat → List Value → Option (xL × List Value)
  | 0, [a0] => some ([some a0, none, none], [])
  | 4, [a0, a1, a2] => some ([some a0, some a1, some a2], [])
  | _, _ => none
def f_X11_costNow : Nat → Nat → List Value → xH → xO
  | 0 => fun _ _ _ => none
  | n + 1 => fun pc env P => match pc, env with
    | 0, [.ref a0] => b_X11_costNow_0 n (f_X11_costNow n) a0 P
    | 4, [.ref a0, .int a1, .int a2] => b_X11_costNow_4 n (f_X11_costNow n) a0 a1 a2 P
    | _, _ => none
set_option maxHeartbeats 2000000 in
set_option maxRecDepth 20000 in
theorem t_X11_costNow_0 {G : xG} {l : Launch} (hl : l.stackTraces = false) {n : Nat} {rec : Nat → List Value → xH → xO} (hrec : ∀ pc env P z, rec pc env P = some z → ∀ L st, lay_X11_costNow pc env = some (L, st) → ∀ Q : xR → xH → Prop, Q z.1 z.2 → Wp G l 5 mX11_costNow pc L st P Q) {a0} {P : xH} {z : xR × xH} (h : b_X11_costNow_0 n rec a0 P = some z) {Q : xR → xH → Prop} (hQ : Q z.1 z.2) : Wp G l 5 mX11_costNow 0 [some (.ref a0), none, none] [] P Q := by
  unfold b_X11_costNow_0 at h
  refine x_iconst 1 dX11_costNow_0 (by decide) ?_
  refine x_istore_n dX11_costNow_1 (Nat.le_of_ble_eq_true rfl) ?_
  refine x_iconst 0 dX11_costNow_2 (by decide) ?_
  refine x_istore_n dX11_costNow_3 (Nat.le_of_ble_eq_true rfl) ?_
  exact Wp.mask [true, true, true] (hrec 4 _ _ _ h _ _ rfl _ hQ)
set_option maxHeartbeats 2000000 in
set_option maxRecDepth 20000 in
theorem t_X11_costNow_4 {G : xG} {l : Launch} (hl : l.stackTraces = false) {n : Nat} {rec : Nat → List Value → xH → xO} (hrec : ∀ pc env P z, rec pc env P = some z → ∀ L st, lay_X11_costNow pc env = some (L, st) → ∀ Q : xR → xH → Prop, Q z.1 z.2 → Wp G l 5 mX11_costNow pc L st P Q) {a0 a1 a2} {P : xH} {z : xR × xH} (h : b_X11_costNow_4 n rec a0 a1 a2 P = some z) {Q : xR → xH → Prop} (hQ : Q z.1 z.2) : Wp G l 5 mX11_costNow 4 [some (.ref a0), some (.int a1), some (.int a2)] [] P Q := by
  unfold b_X11_costNow_4 at h
  refine x_iload_n dX11_costNow_4 rfl ?_
  refine x_aload_nr dX11_costNow_5 rfl ?_
  obtain ⟨_, e5, h⟩ := Option.bind_eq_some_iff.mp h
  obtain ⟨fse5, e5⟩ := kO_ok e5
  obtain ⟨r2, e3, h⟩ := Option.bind_eq_some_iff.mp h
  replace h := xI_ok h
  obtain ⟨v4, P1, rfl, h⟩ := h
  refine x_callV (c_X11_lines hl e3) dX11_costNow_6 cw_X11_lines wl_X11_252 wi_X11_lines wse_X11_lines rfl e5 (by decide) rfl (by omega) (by decide) rfl (Nat.le_of_ble_eq_true rfl) rfl (fun v9 P9 hq9 => ?_) (fun i9 P9 hq9 => by cases hq9)
  cases hq9
  refine x_icmp_ge 51 dX11_costNow_9 (by decide) (fun q27 => ?_) (fun q27 => ?_)
  · rw [if_pos q27] at h
    refine x_iload_n dX11_costNow_51 rfl ?_
    cases h
    exact x_iret .int rfl rfl dX11_costNow_52 hQ
  · rw [if_neg q27] at h
    refine x_aload_nr dX11_costNow_12 rfl ?_
    obtain ⟨v6, e7, h⟩ := Option.bind_eq_some_iff.mp h
    refine k_rA e7 dX11_costNow_13 f_X11_20 ?_
    refine x_aload_nr dX11_costNow_16 rfl ?_
    obtain ⟨v8, e9, h⟩ := Option.bind_eq_some_iff.mp h
    refine k_rI e9 dX11_costNow_17 f_X11_246 ?_
    refine x_iload_n dX11_costNow_20 rfl ?_
    obtain ⟨r11, e12, h⟩ := Option.bind_eq_some_iff.mp h
    replace h := xI_ok h
    obtain ⟨v13, P10, rfl, h⟩ := h
    refine x_callS (c_X11_lineAt hl e12) dX11_costNow_21 cw_X11_lineAt wl_X11_209 ws_X11_lineAt rfl (by omega) (by decide) rfl (Nat.le_of_ble_eq_true rfl) rfl (fun v9 P9 hq9 => ?_) (fun i9 P9 hq9 => by cases hq9)
    cases hq9
    obtain ⟨v14, e15, h⟩ := Option.bind_eq_some_iff.mp h
    refine k_aI e15 dX11_costNow_24 ?_
    refine x_iconst 2 dX11_costNow_25 (by decide) ?_
    refine x_icmp_ne 45 dX11_costNow_26 (by decide) (fun q26 => ?_) (fun q26 => ?_)
    · rw [if_pos q26] at h
      refine x_iinc (a2 + 1) dX11_costNow_45 rfl (by rfl) ?_
      refine x_goto 4 dX11_costNow_48 (by decide) ?_
      exact Wp.mask [true, true, true] (hrec 4 _ _ _ h _ _ rfl _ hQ)
    · rw [if_neg (fun z9 => z9 q26)] at h
      refine x_aload_nr dX11_costNow_29 rfl ?_
      obtain ⟨v16, e17, h⟩ := Option.bind_eq_some_iff.mp h
      refine k_rA e17 dX11_costNow_30 f_X11_20 ?_
      refine x_aload_nr dX11_costNow_33 rfl ?_
      obtain ⟨v18, e19, h⟩ := Option.bind_eq_some_iff.mp h
      refine k_rI e19 dX11_costNow_34 f_X11_246 ?_
      refine x_iload_n dX11_costNow_37 rfl ?_
      obtain ⟨r21, e22, h⟩ := Option.bind_eq_some_iff.mp h
      replace h := xI_ok h
      obtain ⟨v23, P20, rfl, h⟩ := h
      refine x_callS (c_X11_lineAt hl e22) dX11_costNow_38 cw_X11_lineAt wl_X11_209 ws_X11_lineAt rfl (by omega) (by decide) rfl (Nat.le_of_ble_eq_true rfl) rfl (fun v9 P9 hq9 => ?_) (fun i9 P9 hq9 => by cases hq9)
      cases hq9
      refine x_iconst 1 dX11_costNow_41 (by decide) ?_
      refine x_iadd dX11_costNow_42 ?_
      obtain ⟨v24, e25, h⟩ := Option.bind_eq_some_iff.mp h
      refine k_aI e25 dX11_costNow_43 ?_
      refine x_istore_n dX11_costNow_44 (Nat.le_of_ble_eq_true rfl) ?_
      refine x_iinc (a2 + 1) dX11_costNow_45 rfl (by rfl) ?_
      refine x_goto 4 dX11_costNow_48 (by decide) ?_
      exact Wp.mask [true, true, true] (hrec 4 _ _ _ h _ _ rfl _ hQ)
theorem s_X11_costNow {G : xG} {l : Launch} (hl : l.stackTraces = false) : ∀ n pc env P z, f_X11_costNow n pc env P = some z → ∀ L st, lay_X11_costNow pc env = some (L, st) → ∀ Q : xR → xH → Prop, Q z.1 z.2 → Wp G l 5 mX11_costNow pc L st P Q := by
  intro n
  induction n with
  | zero => intro pc env P z h; cases h
  | succ n ih =>
    intro pc env P z h L st hlay Q hQ
    unfold f_X11_costNow at h
    split at h
    · cases hlay
      exact t_X11_costNow_0 hl ih h hQ
    · cases hlay
      exact t_X11_costNow_4 hl ih h hQ
    · cases h
theorem c_X11_costNow {G : xG} {l : Launch} (hl : l.stackTraces = false) {n : Nat} {as : List Value} {P : xH} {z : xR × xH} (h : f_X11_costNow n 0 as P = some z) : Ct G l 5 mX11_costNow as P (fun r P1 => (r, P1) = z) := by
  cases n with
  | zero => cases h
  | succ n =>
    unfold f_X11_costNow at h
    split at h
    · exact Ct.of hl (by decide +kernel) wc_X11_costNow (Nat.le_of_ble_eq_true rfl) (t_X11_costNow_0 hl (s_X11_costNow hl _) h rfl)
    all_goals first | (cases h; done) | (rename_i q9 _; exact absurd q9 (by decide)) | (rename_i q9; exact absurd q9 (by decide)) | contradiction
/-! QuakeNetModel.givesAway(II)V -/
def b_X11_givesAway_0 (n : Nat) (rec : Nat → List Value → xH → xO) (a0 : Nat) (a1 : Int32) (a2 : Int32) (P : xH) : xO :=
  (rA P a0 11 1).bind fun v1 =>
  (f_X11_copyAt n 0 [.int a1, .int a2, .int 0] P).bind fun r4 => xI r4 fun v6 P3 =>
  (sI P3 v1 v6 0).bind fun P7 =>
  (rA P7 a0 11 1).bind fun v9 =>
  (f_X11_phoneAt n 0 [.int a1, .int 4] P7).bind fun r12 => xI r12 fun v14 P11 =>
  (aI P11 v9 v14).bind fun v15 =>
  (sI P11 v9 v14 ((v15 + 1))).bind fun P17 =>
  some (.inl none, P17)
def lay_X11_givesAway : Nat → List Value → Option (xL × List Value)
  | 0, [a0, a1, a2] => some ([some a0, some a1, some a2], [])
  | _, _ => none
def f_X11_givesAway : Nat → Nat → List Value → xH → xO
  | 0 => fun _ _ _ => none
  | n + 1 => fun pc env P => match pc, env with
    | 0, [.ref a0, .int a1, .int a2] => b_X11_givesAway_0 n (f_X11_givesAway n) a0 a1 a2 P
    | _, _ => none
set_option maxHeartbeats 2000000 in
set_option maxRecDepth 20000 in
theorem t_X11_givesAway_0 {G : xG} {l : Launch} (hl : l.stackTraces = false) {n : Nat} {rec : Nat → List Value → xH → xO} (hrec : ∀ pc env P z, rec pc env P = some z → ∀ L st, lay_X11_givesAway pc env = some (L, st) → ∀ Q : xR → xH → Prop, Q z.1 z.2 → Wp G l 4 mX11_givesAway pc L st P Q) {a0 a1 a2} {P : xH} {z : xR × xH} (h : b_X11_givesAway_0 n rec a0 a1 a2 P = some z) {Q : xR → xH → Prop} (hQ : Q z.1 z.2) : Wp G l 4 mX11_givesAway 0 [some (.ref a0), some (.int a1), some (.int a2)] [] P Q := by
  unfold b_X11_givesAway_0 at h
  refine x_aload_nr dX11_givesAway_0 rfl ?_
  obtain ⟨v1, e2, h⟩ := Option.bind_eq_some_iff.mp h
  refine k_rA e2 dX11_givesAway_1 f_X11_13 ?_
  refine x_iload_n dX11_givesAway_4 rfl ?_
  refine x_iload_n dX11_givesAway_5 rfl ?_
  refine x_iconst 0 dX11_givesAway_6 (by decide) ?_
  obtain ⟨r4, e5, h⟩ := Option.bind_eq_some_iff.mp h
  replace h := xI_ok h
  obtain ⟨v6, P3, rfl, h⟩ := h
  refine x_callS (c_X11_copyAt hl e5) dX11_givesAway_7 cw_X11_copyAt wl_X11_85 ws_X11_copyAt rfl (by omega) (by decide) rfl (Nat.le_of_ble_eq_true rfl) rfl (fun v9 P9 hq9 => ?_) (fun i9 P9 hq9 => by cases hq9)
  cases hq9
  refine x_iconst 0 dX11_givesAway_10 (by decide) ?_
  obtain ⟨P7, e8, h⟩ := Option.bind_eq_some_iff.mp h
  refine k_sI e8 dX11_givesAway_11 ?_
  refine x_aload_nr dX11_givesAway_12 rfl ?_
  obtain ⟨v9, e10, h⟩ := Option.bind_eq_some_iff.mp h
  refine k_rA e10 dX11_givesAway_13 f_X11_13 ?_
  refine x_iload_n dX11_givesAway_16 rfl ?_
  refine x_iconst 4 dX11_givesAway_17 (by decide) ?_
  obtain ⟨r12, e13, h⟩ := Option.bind_eq_some_iff.mp h
  replace h := xI_ok h
  obtain ⟨v14, P11, rfl, h⟩ := h
  refine x_callS (c_X11_phoneAt hl e13) dX11_givesAway_18 cw_X11_phoneAt wl_X11_100 ws_X11_phoneAt rfl (by omega) (by decide) rfl (Nat.le_of_ble_eq_true rfl) rfl (fun v9 P9 hq9 => ?_) (fun i9 P9 hq9 => by cases hq9)
  cases hq9
  refine x_dup2 dX11_givesAway_21 rfl rfl ?_
  obtain ⟨v15, e16, h⟩ := Option.bind_eq_some_iff.mp h
  refine k_aI e16 dX11_givesAway_22 ?_
  refine x_iconst 1 dX11_givesAway_23 (by decide) ?_
  refine x_iadd dX11_givesAway_24 ?_
  obtain ⟨P17, e18, h⟩ := Option.bind_eq_some_iff.mp h
  refine k_sI e18 dX11_givesAway_25 ?_
  cases h
  exact x_ret rfl dX11_givesAway_26 hQ
theorem s_X11_givesAway {G : xG} {l : Launch} (hl : l.stackTraces = false) : ∀ n pc env P z, f_X11_givesAway n pc env P = some z → ∀ L st, lay_X11_givesAway pc env = some (L, st) → ∀ Q : xR → xH → Prop, Q z.1 z.2 → Wp G l 4 mX11_givesAway pc L st P Q := by
  intro n
  induction n with
  | zero => intro pc env P z h; cases h
  | succ n ih =>
    intro pc env P z h L st hlay Q hQ
    unfold f_X11_givesAway at h
    split at h
    · cases hlay
      exact t_X11_givesAway_0 hl ih h hQ
    · cases h
theorem c_X11_givesAway {G : xG} {l : Launch} (hl : l.stackTraces = false) {n : Nat} {as : List Value} {P : xH} {z : xR × xH} (h : f_X11_givesAway n 0 as P = some z) : Ct G l 4 mX11_givesAway as P (fun r P1 => (r, P1) = z) := by
  cases n with
  | zero => cases h
  | succ n =>
    unfold f_X11_givesAway at h
    split at h
    · exact Ct.of hl (by decide +kernel) wc_X11_givesAway (Nat.le_of_ble_eq_true rfl) (t_X11_givesAway_0 hl (s_X11_givesAway hl _) h rfl)
    all_goals first | (cases h; done) | (rename_i q9 _; exact absurd q9 (by decide)) | (rename_i q9; exact absurd q9 (by decide)) | contradiction
/-! QuakeNetModel.handed(II)I -/
def b_X11_handed_0 (n : Nat) (rec : Nat → List Value → xH → xO) (a0 : Nat) (a1 : Int32) (a2 : Int32) (P : xH) : xO :=
  (kO P a0 11).bind fun _ =>
  (f_X11_of n 0 [.ref a0, .int a2, .int 0] P).bind fun r2 => xI r2 fun v4 P1 =>
  if v4 = 1 then
    rec 20 [.ref a0, .int a1, .int a2] P1
  else
    (kO P1 a0 11).bind fun _ =>
    (f_X11_of n 0 [.ref a0, .int a2, .int 0] P1).bind fun r7 => xI r7 fun v9 P6 =>
    if ¬ v9 = 2 then
      (rA P6 a0 11 1).bind fun v11 =>
      (f_X11_copyAt n 0 [.int a1, .int a2, .int 1] P6).bind fun r14 => xI r14 fun v16 P13 =>
      (aI P13 v11 v16).bind fun v17 =>
      some (.inl (some (.int v17)), P13)
    else
      rec 20 [.ref a0, .int a1, .int a2] P6
def b_X11_handed_20 (n : Nat) (rec : Nat → List Value → xH → xO) (a0 : Nat) (a1 : Int32) (a2 : Int32) (P : xH) : xO :=
  (rA P a0 11 1).bind fun v1 =>
  (f_X11_copyAt n 0 [.int a1, .int a2, .int 1] P).bind fun r4 => xI r4 fun v6 P3 =>
  (aI P3 v1 v6).bind fun v7 =>
  (kO P3 a0 11).bind fun _ =>
  (f_X11_toldOf n 0 [.ref a0, .int a1, .int 2] P3).bind fun r10 => xI r10 fun v12 P9 =>
  some (.inl (some (.int ((mMin 9999 ((v7 + v12)))))), P9)
def lay_X11_handed : Nat → List Value → Option (xL × List Value)
  | 0, [a0, a1, a2] => some ([some a0, some a1, some a2], [])
  | 20, [a0, a1, a2] => some ([some a0, some a1, some a2], [])
  | _, _ => none
def f_X11_handed : Nat → Nat → List Value → xH → xO
  | 0 => fun _ _ _ => none
  | n + 1 => fun pc env P => match pc, env with
    | 0, [.ref a0, .int a1, .int a2] => b_X11_handed_0 n (f_X11_handed n) a0 a1 a2 P
    | 20, [.ref a0, .int a1, .int a2] => b_X11_handed_20 n (f_X11_handed n) a0 a1 a2 P
    | _, _ => none
set_option maxHeartbeats 2000000 in
set_option maxRecDepth 20000 in
theorem t_X11_handed_0 {G : xG} {l : Launch} (hl : l.stackTraces = false) {n : Nat} {rec : Nat → List Value → xH → xO} (hrec : ∀ pc env P z, rec pc env P = some z → ∀ L st, lay_X11_handed pc env = some (L, st) → ∀ Q : xR → xH → Prop, Q z.1 z.2 → Wp G l 7 mX11_handed pc L st P Q) {a0 a1 a2} {P : xH} {z : xR × xH} (h : b_X11_handed_0 n rec a0 a1 a2 P = some z) {Q : xR → xH → Prop} (hQ : Q z.1 z.2) : Wp G l 7 mX11_handed 0 [some (.ref a0), some (.int a1), some (.int a2)] [] P Q := by
  unfold b_X11_handed_0 at h
  refine x_aload_nr dX11_handed_0 rfl ?_
  refine x_iload_n dX11_handed_1 rfl ?_
  refine x_iconst 0 dX11_handed_2 (by decide) ?_
  obtain ⟨_, e5, h⟩ := Option.bind_eq_some_iff.mp h
  obtain ⟨fse5, e5⟩ := kO_ok e5
  obtain ⟨r2, e3, h⟩ := Option.bind_eq_some_iff.mp h
  replace h := xI_ok h
  obtain ⟨v4, P1, rfl, h⟩ := h
  refine x_callV (c_X11_of hl e3) dX11_handed_3 cw_X11_of wl_X11_240 wi_X11_of wse_X11_of rfl e5 (by decide) rfl (by omega) (by decide) rfl (Nat.le_of_ble_eq_true rfl) rfl (fun v9 P9 hq9 => ?_) (fun i9 P9 hq9 => by cases hq9)
  cases hq9
  refine x_iconst 1 dX11_handed_6 (by decide) ?_
  refine x_icmp_eq 20 dX11_handed_7 (by decide) (fun q20 => ?_) (fun q20 => ?_)
  · rw [if_pos q20] at h
    exact Wp.mask [true, true, true] (hrec 20 _ _ _ h _ _ rfl _ hQ)
  · rw [if_neg q20] at h
    refine x_aload_nr dX11_handed_10 rfl ?_
    refine x_iload_n dX11_handed_11 rfl ?_
    refine x_iconst 0 dX11_handed_12 (by decide) ?_
    obtain ⟨_, e10, h⟩ := Option.bind_eq_some_iff.mp h
    obtain ⟨fse10, e10⟩ := kO_ok e10
    obtain ⟨r7, e8, h⟩ := Option.bind_eq_some_iff.mp h
    replace h := xI_ok h
    obtain ⟨v9, P6, rfl, h⟩ := h
    refine x_callV (c_X11_of hl e8) dX11_handed_13 cw_X11_of wl_X11_240 wi_X11_of wse_X11_of rfl e10 (by decide) rfl (by omega) (by decide) rfl (Nat.le_of_ble_eq_true rfl) rfl (fun v9 P9 hq9 => ?_) (fun i9 P9 hq9 => by cases hq9)
    cases hq9
    refine x_iconst 2 dX11_handed_16 (by decide) ?_
    refine x_icmp_ne 47 dX11_handed_17 (by decide) (fun q19 => ?_) (fun q19 => ?_)
    · rw [if_pos q19] at h
      refine x_aload_nr dX11_handed_47 rfl ?_
      obtain ⟨v11, e12, h⟩ := Option.bind_eq_some_iff.mp h
      refine k_rA e12 dX11_handed_48 f_X11_13 ?_
      refine x_iload_n dX11_handed_51 rfl ?_
      refine x_iload_n dX11_handed_52 rfl ?_
      refine x_iconst 1 dX11_handed_53 (by decide) ?_
      obtain ⟨r14, e15, h⟩ := Option.bind_eq_some_iff.mp h
      replace h := xI_ok h
      obtain ⟨v16, P13, rfl, h⟩ := h
      refine x_callS (c_X11_copyAt hl e15) dX11_handed_54 cw_X11_copyAt wl_X11_85 ws_X11_copyAt rfl (by omega) (by decide) rfl (Nat.le_of_ble_eq_true rfl) rfl (fun v9 P9 hq9 => ?_) (fun i9 P9 hq9 => by cases hq9)
      cases hq9
      obtain ⟨v17, e18, h⟩ := Option.bind_eq_some_iff.mp h
      refine k_aI e18 dX11_handed_57 ?_
      cases h
      exact x_iret .int rfl rfl dX11_handed_58 hQ
    · rw [if_neg (fun z9 => z9 q19)] at h
      exact Wp.mask [true, true, true] (hrec 20 _ _ _ h _ _ rfl _ hQ)
set_option maxHeartbeats 2000000 in
set_option maxRecDepth 20000 in
theorem t_X11_handed_20 {G : xG} {l : Launch} (hl : l.stackTraces = false) {n : Nat} {rec : Nat → List Value → xH → xO} (hrec : ∀ pc env P z, rec pc env P = some z → ∀ L st, lay_X11_handed pc env = some (L, st) → ∀ Q : xR → xH → Prop, Q z.1 z.2 → Wp G l 7 mX11_handed pc L st P Q) {a0 a1 a2} {P : xH} {z : xR × xH} (h : b_X11_handed_20 n rec a0 a1 a2 P = some z) {Q : xR → xH → Prop} (hQ : Q z.1 z.2) : Wp G l 7 mX11_handed 20 [some (.ref a0), some (.int a1), some (.int a2)] [] P Q := by
  unfold b_X11_handed_20 at h
  refine x_sipush 9999 dX11_handed_20 (by decide) ?_
  refine x_aload_nr dX11_handed_23 rfl ?_
  obtain ⟨v1, e2, h⟩ := Option.bind_eq_some_iff.mp h
  refine k_rA e2 dX11_handed_24 f_X11_13 ?_
  refine x_iload_n dX11_handed_27 rfl ?_
  refine x_iload_n dX11_handed_28 rfl ?_
  refine x_iconst 1 dX11_handed_29 (by decide) ?_
  obtain ⟨r4, e5, h⟩ := Option.bind_eq_some_iff.mp h
  replace h := xI_ok h
  obtain ⟨v6, P3, rfl, h⟩ := h
  refine x_callS (c_X11_copyAt hl e5) dX11_handed_30 cw_X11_copyAt wl_X11_85 ws_X11_copyAt rfl (by omega) (by decide) rfl (Nat.le_of_ble_eq_true rfl) rfl (fun v9 P9 hq9 => ?_) (fun i9 P9 hq9 => by cases hq9)
  cases hq9
  obtain ⟨v7, e8, h⟩ := Option.bind_eq_some_iff.mp h
  refine k_aI e8 dX11_handed_33 ?_
  refine x_aload_nr dX11_handed_34 rfl ?_
  refine x_iload_n dX11_handed_35 rfl ?_
  refine x_iconst 2 dX11_handed_36 (by decide) ?_
  obtain ⟨_, e13, h⟩ := Option.bind_eq_some_iff.mp h
  obtain ⟨fse13, e13⟩ := kO_ok e13
  obtain ⟨r10, e11, h⟩ := Option.bind_eq_some_iff.mp h
  replace h := xI_ok h
  obtain ⟨v12, P9, rfl, h⟩ := h
  refine x_callV (c_X11_toldOf hl e11) dX11_handed_37 cw_X11_toldOf wl_X11_110 wi_X11_toldOf wse_X11_toldOf rfl e13 (by decide) rfl (by omega) (by decide) rfl (Nat.le_of_ble_eq_true rfl) rfl (fun v9 P9 hq9 => ?_) (fun i9 P9 hq9 => by cases hq9)
  cases hq9
  refine x_iadd dX11_handed_40 ?_
  refine x_mmin dX11_handed_41 wl_X11_280 (Nat.le_of_ble_eq_true rfl) (by omega) ?_
  refine x_goto 58 dX11_handed_44 (by decide) ?_
  cases h
  exact x_iret .int rfl rfl dX11_handed_58 hQ
theorem s_X11_handed {G : xG} {l : Launch} (hl : l.stackTraces = false) : ∀ n pc env P z, f_X11_handed n pc env P = some z → ∀ L st, lay_X11_handed pc env = some (L, st) → ∀ Q : xR → xH → Prop, Q z.1 z.2 → Wp G l 7 mX11_handed pc L st P Q := by
  intro n
  induction n with
  | zero => intro pc env P z h; cases h
  | succ n ih =>
    intro pc env P z h L st hlay Q hQ
    unfold f_X11_handed at h
    split at h
    · cases hlay
      exact t_X11_handed_0 hl ih h hQ
    · cases hlay
      exact t_X11_handed_20 hl ih h hQ
    · cases h
theorem c_X11_handed {G : xG} {l : Launch} (hl : l.stackTraces = false) {n : Nat} {as : List Value} {P : xH} {z : xR × xH} (h : f_X11_handed n 0 as P = some z) : Ct G l 7 mX11_handed as P (fun r P1 => (r, P1) = z) := by
  cases n with
  | zero => cases h
  | succ n =>
    unfold f_X11_handed at h
    split at h
    · exact Ct.of hl (by decide +kernel) wc_X11_handed (Nat.le_of_ble_eq_true rfl) (t_X11_handed_0 hl (s_X11_handed hl _) h rfl)
    all_goals first | (cases h; done) | (rename_i q9 _; exact absurd q9 (by decide)) | (rename_i q9; exact absurd q9 (by decide)) | contradiction
