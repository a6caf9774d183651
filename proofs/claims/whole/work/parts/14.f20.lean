/-! QuakeNetModel.couldBe(III)I -/
def b_X11_couldBe_0 (n : Nat) (rec : Nat → List Value → xH → xO) (a0 : Nat) (a1 : Int32) (a2 : Int32) (a3 : Int32) (P : xH) : xO :=
  (kO P a0 11).bind fun _ =>
  (f_X11_gathers n 0 [.ref a0, .int a1, .int a3] P).bind fun r2 => xU r2 fun P1 =>
  rec 12 [.ref a0, .int a1, .int a2, .int a3, .int 0, .int 0] P1
def b_X11_couldBe_12 (n : Nat) (rec : Nat → List Value → xH → xO) (a0 : Nat) (a1 : Int32) (a2 : Int32) (a3 : Int32) (a4 : Int32) (a5 : Int32) (P : xH) : xO :=
  if 16 ≤ a5 then
    some (.inl (some (.int a4)), P)
  else
    rec 25 [.ref a0, .int a1, .int a2, .int a3, .int a4, .int a5, .int 1, .int 0] P
def b_X11_couldBe_25 (n : Nat) (rec : Nat → List Value → xH → xO) (a0 : Nat) (a1 : Int32) (a2 : Int32) (a3 : Int32) (a4 : Int32) (a5 : Int32) (a6 : Int32) (a7 : Int32) (P : xH) : xO :=
  (rI P a0 11 22).bind fun v1 =>
  if v1 ≤ a7 then
    if a6 = 0 then
      rec 12 [.ref a0, .int a1, .int a2, .int a3, .int ((a4 ||| 0)), .int ((a5 + 1))] P
    else
      rec 12 [.ref a0, .int a1, .int a2, .int a3, .int ((a4 ||| ((1 <<< (a5 &&& 31))))), .int ((a5 + 1))] P
  else
    if a6 = 0 then
      rec 25 [.ref a0, .int a1, .int a2, .int a3, .int a4, .int a5, .int 0, .int ((a7 + 1))] P
    else
      (rA P a0 11 21).bind fun v4 =>
      (aI P v4 a7).bind fun v6 =>
      (kO P a0 11).bind fun _ =>
      (f_X11_of n 0 [.ref a0, .int v6, .int 5] P).bind fun r9 => xI r9 fun v11 P8 =>
      (f_X11_between n 0 [.int a5, .int v11] P8).bind fun r14 => xI r14 fun v16 P13 =>
      (rA P13 a0 11 3).bind fun v17 =>
      (aI P13 v17 6).bind fun v19 =>
      (rA P13 a0 11 21).bind fun v21 =>
      (aI P13 v21 a7).bind fun v23 =>
      (kO P13 a0 11).bind fun _ =>
      (f_X11_of n 0 [.ref a0, .int v23, .int 6] P13).bind fun r26 => xI r26 fun v28 P25 =>
      if ((v19 * ((mAbs ((a2 - v28)))))) < v16 then
        rec 25 [.ref a0, .int a1, .int a2, .int a3, .int a4, .int a5, .int 0, .int ((a7 + 1))] P25
      else
        rec 25 [.ref a0, .int a1, .int a2, .int a3, .int a4, .int a5, .int 1, .int ((a7 + 1))] P25
def lay_X11_couldBe : Nat → List Value → Option (xL × List Value)
  | 0, [a0, a1, a2, a3] => some ([some a0, some a1, some a2, some a3, none, none, none, none], [])
  | 12, [a0, a1, a2, a3, a4, a5] => some ([some a0, some a1, some a2, some a3, some a4, some a5, none, none], [])
  | 25, [a0, a1, a2, a3, a4, a5, a6, a7] => some ([some a0, some a1, some a2, some a3, some a4, some a5, some a6, some a7], [])
  | _, _ => none
def f_X11_couldBe : Nat → Nat → List Value → xH → xO
  | 0 => fun _ _ _ => none
  | n + 1 => fun pc env P => match pc, env with
    | 0, [.ref a0, .int a1, .int a2, .int a3] => b_X11_couldBe_0 n (f_X11_couldBe n) a0 a1 a2 a3 P
    | 12, [.ref a0, .int a1, .int a2, .int a3, .int a4, .int a5] => b_X11_couldBe_12 n (f_X11_couldBe n) a0 a1 a2 a3 a4 a5 P
    | 25, [.ref a0, .int a1, .int a2, .int a3, .int a4, .int a5, .int a6, .int a7] => b_X11_couldBe_25 n (f_X11_couldBe n) a0 a1 a2 a3 a4 a5 a6 a7 P
    | _, _ => none
set_option maxHeartbeats 2000000 in
set_option maxRecDepth 20000 in
theorem t_X11_couldBe_0 {G : xG} {l : Launch} (hl : l.stackTraces = false) {n : Nat} {rec : Nat → List Value → xH → xO} (hrec : ∀ pc env P z, rec pc env P = some z → ∀ L st, lay_X11_couldBe pc env = some (L, st) → ∀ Q : xR → xH → Prop, Q z.1 z.2 → Wp G l 8 mX11_couldBe pc L st P Q) {a0 a1 a2 a3} {P : xH} {z : xR × xH} (h : b_X11_couldBe_0 n rec a0 a1 a2 a3 P = some z) {Q : xR → xH → Prop} (hQ : Q z.1 z.2) : Wp G l 8 mX11_couldBe 0 [some (.ref a0), some (.int a1), some (.int a2), some (.int a3), none, none, none, none] [] P Q := by
  unfold b_X11_couldBe_0 at h
  refine x_aload_nr dX11_couldBe_0 rfl ?_
  refine x_iload_n dX11_couldBe_1 rfl ?_
  refine x_iload_n dX11_couldBe_2 rfl ?_
  obtain ⟨_, e4, h⟩ := Option.bind_eq_some_iff.mp h
  obtain ⟨fse4, e4⟩ := kO_ok e4
  obtain ⟨r2, e3, h⟩ := Option.bind_eq_some_iff.mp h
  replace h := xU_ok h
  obtain ⟨P1, rfl, h⟩ := h
  refine x_callV (c_X11_gathers hl e3) dX11_couldBe_3 cw_X11_gathers wl_X11_337 wi_X11_gathers wse_X11_gathers rfl e4 (by decide) rfl (by omega) (by decide) rfl (Nat.le_of_ble_eq_true rfl) rfl (fun v9 P9 hq9 => ?_) (fun i9 P9 hq9 => by cases hq9)
  cases hq9
  refine x_iconst 0 dX11_couldBe_6 (by decide) ?_
  refine x_istore dX11_couldBe_7 (Nat.le_of_ble_eq_true rfl) ?_
  refine x_iconst 0 dX11_couldBe_9 (by decide) ?_
  refine x_istore dX11_couldBe_10 (Nat.le_of_ble_eq_true rfl) ?_
  exact Wp.mask [true, true, true, true, true, true, false, false] (hrec 12 _ _ _ h _ _ rfl _ hQ)
set_option maxHeartbeats 2000000 in
set_option maxRecDepth 20000 in
theorem t_X11_couldBe_12 {G : xG} {l : Launch} (hl : l.stackTraces = false) {n : Nat} {rec : Nat → List Value → xH → xO} (hrec : ∀ pc env P z, rec pc env P = some z → ∀ L st, lay_X11_couldBe pc env = some (L, st) → ∀ Q : xR → xH → Prop, Q z.1 z.2 → Wp G l 8 mX11_couldBe pc L st P Q) {a0 a1 a2 a3 a4 a5} {P : xH} {z : xR × xH} (h : b_X11_couldBe_12 n rec a0 a1 a2 a3 a4 a5 P = some z) {Q : xR → xH → Prop} (hQ : Q z.1 z.2) : Wp G l 8 mX11_couldBe 12 [some (.ref a0), some (.int a1), some (.int a2), some (.int a3), some (.int a4), some (.int a5), none, none] [] P Q := by
  unfold b_X11_couldBe_12 at h
  refine x_iload dX11_couldBe_12 rfl ?_
  refine x_bipush 16 dX11_couldBe_14 (by decide) ?_
  refine x_icmp_ge 122 dX11_couldBe_16 (by decide) (fun q1 => ?_) (fun q1 => ?_)
  · rw [if_pos q1] at h
    refine x_iload dX11_couldBe_122 rfl ?_
    cases h
    exact x_iret .int rfl rfl dX11_couldBe_124 hQ
  · rw [if_neg q1] at h
    refine x_iconst 1 dX11_couldBe_19 (by decide) ?_
    refine x_istore dX11_couldBe_20 (Nat.le_of_ble_eq_true rfl) ?_
    refine x_iconst 0 dX11_couldBe_22 (by decide) ?_
    refine x_istore dX11_couldBe_23 (Nat.le_of_ble_eq_true rfl) ?_
    exact Wp.mask [true, true, true, true, true, true, true, true] (hrec 25 _ _ _ h _ _ rfl _ hQ)
set_option maxHeartbeats 2000000 in
set_option maxRecDepth 20000 in
theorem t_X11_couldBe_25 {G : xG} {l : Launch} (hl : l.stackTraces = false) {n : Nat} {rec : Nat → List Value → xH → xO} (hrec : ∀ pc env P z, rec pc env P = some z → ∀ L st, lay_X11_couldBe pc env = some (L, st) → ∀ Q : xR → xH → Prop, Q z.1 z.2 → Wp G l 8 mX11_couldBe pc L st P Q) {a0 a1 a2 a3 a4 a5 a6 a7} {P : xH} {z : xR × xH} (h : b_X11_couldBe_25 n rec a0 a1 a2 a3 a4 a5 a6 a7 P = some z) {Q : xR → xH → Prop} (hQ : Q z.1 z.2) : Wp G l 8 mX11_couldBe 25 [some (.ref a0), some (.int a1), some (.int a2), some (.int a3), some (.int a4), some (.int a5), some (.int a6), some (.int a7)] [] P Q := by
  unfold b_X11_couldBe_25 at h
  refine x_iload dX11_couldBe_25 rfl ?_
  refine x_aload_nr dX11_couldBe_27 rfl ?_
  obtain ⟨v1, e2, h⟩ := Option.bind_eq_some_iff.mp h
  refine k_rI e2 dX11_couldBe_28 f_X11_328 ?_
  refine x_icmp_ge 98 dX11_couldBe_31 (by decide) (fun q32 => ?_) (fun q32 => ?_)
  · rw [if_pos q32] at h
    refine x_iload dX11_couldBe_98 rfl ?_
    refine x_iload dX11_couldBe_100 rfl ?_
    refine x_if_eq 112 dX11_couldBe_102 (by decide) (fun q3 => ?_) (fun q3 => ?_)
    · rw [if_pos q3] at h
      refine x_iconst 0 dX11_couldBe_112 (by decide) ?_
      refine x_ior dX11_couldBe_113 ?_
      refine x_istore dX11_couldBe_114 (Nat.le_of_ble_eq_true rfl) ?_
      refine x_iinc (a5 + 1) dX11_couldBe_116 rfl (by rfl) ?_
      refine x_goto 12 dX11_couldBe_119 (by decide) ?_
      exact Wp.mask [true, true, true, true, true, true, false, false] (hrec 12 _ _ _ h _ _ rfl _ hQ)
    · rw [if_neg q3] at h
      refine x_iconst 1 dX11_couldBe_105 (by decide) ?_
      refine x_iload dX11_couldBe_106 rfl ?_
      refine x_ishl dX11_couldBe_108 ?_
      refine x_goto 113 dX11_couldBe_109 (by decide) ?_
      refine x_ior dX11_couldBe_113 ?_
      refine x_istore dX11_couldBe_114 (Nat.le_of_ble_eq_true rfl) ?_
      refine x_iinc (a5 + 1) dX11_couldBe_116 rfl (by rfl) ?_
      refine x_goto 12 dX11_couldBe_119 (by decide) ?_
      exact Wp.mask [true, true, true, true, true, true, false, false] (hrec 12 _ _ _ h _ _ rfl _ hQ)
  · rw [if_neg q32] at h
    refine x_iload dX11_couldBe_34 rfl ?_
    refine x_if_eq 89 dX11_couldBe_36 (by decide) (fun q31 => ?_) (fun q31 => ?_)
    · rw [if_pos q31] at h
      refine x_iconst 0 dX11_couldBe_89 (by decide) ?_
      refine x_istore dX11_couldBe_90 (Nat.le_of_ble_eq_true rfl) ?_
      refine x_iinc (a7 + 1) dX11_couldBe_92 rfl (by rfl) ?_
      refine x_goto 25 dX11_couldBe_95 (by decide) ?_
      exact Wp.mask [true, true, true, true, true, true, true, true] (hrec 25 _ _ _ h _ _ rfl _ hQ)
    · rw [if_neg q31] at h
      refine x_iload dX11_couldBe_39 rfl ?_
      refine x_aload_nr dX11_couldBe_41 rfl ?_
      refine x_aload_nr dX11_couldBe_42 rfl ?_
      obtain ⟨v4, e5, h⟩ := Option.bind_eq_some_iff.mp h
      refine k_rA e5 dX11_couldBe_43 f_X11_49 ?_
      refine x_iload dX11_couldBe_46 rfl ?_
      obtain ⟨v6, e7, h⟩ := Option.bind_eq_some_iff.mp h
      refine k_aI e7 dX11_couldBe_48 ?_
      refine x_iconst 5 dX11_couldBe_49 (by decide) ?_
      obtain ⟨_, e12, h⟩ := Option.bind_eq_some_iff.mp h
      obtain ⟨fse12, e12⟩ := kO_ok e12
      obtain ⟨r9, e10, h⟩ := Option.bind_eq_some_iff.mp h
      replace h := xI_ok h
      obtain ⟨v11, P8, rfl, h⟩ := h
      refine x_callV (c_X11_of hl e10) dX11_couldBe_50 cw_X11_of wl_X11_240 wi_X11_of wse_X11_of rfl e12 (by decide) rfl (by omega) (by decide) rfl (Nat.le_of_ble_eq_true rfl) rfl (fun v9 P9 hq9 => ?_) (fun i9 P9 hq9 => by cases hq9)
      cases hq9
      obtain ⟨r14, e15, h⟩ := Option.bind_eq_some_iff.mp h
      replace h := xI_ok h
      obtain ⟨v16, P13, rfl, h⟩ := h
      refine x_callS (c_X11_between hl e15) dX11_couldBe_53 cw_X11_between wl_X11_334 ws_X11_between rfl (by omega) (by decide) rfl (Nat.le_of_ble_eq_true rfl) rfl (fun v9 P9 hq9 => ?_) (fun i9 P9 hq9 => by cases hq9)
      cases hq9
      refine x_aload_nr dX11_couldBe_56 rfl ?_
      obtain ⟨v17, e18, h⟩ := Option.bind_eq_some_iff.mp h
      refine k_rA e18 dX11_couldBe_57 f_X11_20 ?_
      refine x_bipush 6 dX11_couldBe_60 (by decide) ?_
      obtain ⟨v19, e20, h⟩ := Option.bind_eq_some_iff.mp h
      refine k_aI e20 dX11_couldBe_62 ?_
      refine x_iload_n dX11_couldBe_63 rfl ?_
      refine x_aload_nr dX11_couldBe_64 rfl ?_
      refine x_aload_nr dX11_couldBe_65 rfl ?_
      obtain ⟨v21, e22, h⟩ := Option.bind_eq_some_iff.mp h
      refine k_rA e22 dX11_couldBe_66 f_X11_49 ?_
      refine x_iload dX11_couldBe_69 rfl ?_
      obtain ⟨v23, e24, h⟩ := Option.bind_eq_some_iff.mp h
      refine k_aI e24 dX11_couldBe_71 ?_
      refine x_bipush 6 dX11_couldBe_72 (by decide) ?_
      obtain ⟨_, e29, h⟩ := Option.bind_eq_some_iff.mp h
      obtain ⟨fse29, e29⟩ := kO_ok e29
      obtain ⟨r26, e27, h⟩ := Option.bind_eq_some_iff.mp h
      replace h := xI_ok h
      obtain ⟨v28, P25, rfl, h⟩ := h
      refine x_callV (c_X11_of hl e27) dX11_couldBe_74 cw_X11_of wl_X11_240 wi_X11_of wse_X11_of rfl e29 (by decide) rfl (by omega) (by decide) rfl (Nat.le_of_ble_eq_true rfl) rfl (fun v9 P9 hq9 => ?_) (fun i9 P9 hq9 => by cases hq9)
      cases hq9
      refine x_isub dX11_couldBe_77 ?_
      refine x_mabs dX11_couldBe_78 wl_X11_75 (Nat.le_of_ble_eq_true rfl) (by omega) ?_
      refine x_imul dX11_couldBe_81 ?_
      refine x_icmp_gt 89 dX11_couldBe_82 (by decide) (fun q30 => ?_) (fun q30 => ?_)
      · rw [if_pos q30] at h
        refine x_iconst 0 dX11_couldBe_89 (by decide) ?_
        refine x_istore dX11_couldBe_90 (Nat.le_of_ble_eq_true rfl) ?_
        refine x_iinc (a7 + 1) dX11_couldBe_92 rfl (by rfl) ?_
        refine x_goto 25 dX11_couldBe_95 (by decide) ?_
        exact Wp.mask [true, true, true, true, true, true, true, true] (hrec 25 _ _ _ h _ _ rfl _ hQ)
      · rw [if_neg q30] at h
        refine x_iconst 1 dX11_couldBe_85 (by decide) ?_
        refine x_goto 90 dX11_couldBe_86 (by decide) ?_
        refine x_istore dX11_couldBe_90 (Nat.le_of_ble_eq_true rfl) ?_
        refine x_iinc (a7 + 1) dX11_couldBe_92 rfl (by rfl) ?_
        refine x_goto 25 dX11_couldBe_95 (by decide) ?_
        exact Wp.mask [true, true, true, true, true, true, true, true] (hrec 25 _ _ _ h _ _ rfl _ hQ)
theorem s_X11_couldBe {G : xG} {l : Launch} (hl : l.stackTraces = false) : ∀ n pc env P z, f_X11_couldBe n pc env P = some z → ∀ L st, lay_X11_couldBe pc env = some (L, st) → ∀ Q : xR → xH → Prop, Q z.1 z.2 → Wp G l 8 mX11_couldBe pc L st P Q := by
  intro n
  induction n with
  | zero => intro pc env P z h; cases h
  | succ n ih =>
    intro pc env P z h L st hlay Q hQ
    unfold f_X11_couldBe at h
    split at h
    · cases hlay
      exact t_X11_couldBe_0 hl ih h hQ
    · cases hlay
      exact t_X11_couldBe_12 hl ih h hQ
    · cases hlay
      exact t_X11_couldBe_25 hl ih h hQ
    · cases h
theorem c_X11_couldBe {G : xG} {l : Launch} (hl : l.stackTraces = false) {n : Nat} {as : List Value} {P : xH} {z : xR × xH} (h : f_X11_couldBe n 0 as P = some z) : Ct G l 8 mX11_couldBe as P (fun r P1 => (r, P1) = z) := by
  cases n with
  | zero => cases h
  | succ n =>
    unfold f_X11_couldBe at h
    split at h
    · exact Ct.of hl (by decide +kernel) wc_X11_couldBe (Nat.le_of_ble_eq_true rfl) (t_X11_couldBe_0 hl (s_X11_couldBe hl _) h rfl)
    all_goals first | (cases h; done) | (rename_i q9 _; exact absurd q9 (by decide)) | (rename_i q9; exact absurd q9 (by decide)) | contradiction
/-! QuakeNetModel.could(III)I -/
def b_X11_could_0 (n : Nat) (rec : Nat → List Value → xH → xO) (a0 : Nat) (a1 : Int32) (a2 : Int32) (a3 : Int32) (P : xH) : xO :=
  (wV P a0 11 0 (.int 0)).bind fun P1 =>
  (f_X11_noPerson n 0 [.int a1] P1).bind fun r4 => xI r4 fun v6 P3 =>
  (kO P3 a0 11).bind fun _ =>
  (f_X11_throwsIf n 0 [.ref a0, .int v6, .int 1] P3).bind fun r8 => xI r8 fun v10 P7 =>
  if ¬ v10 = 0 then
    some (.inl (some (.int 0)), P7)
  else
    (f_X11_in n 0 [.int a2, .int 0, .int 400] P7).bind fun r13 => xI r13 fun v15 P12 =>
    if ¬ v15 = 0 then
      rec 34 [.ref a0, .int a1, .int a2, .int a3, .ref a0, .int 0] P12
    else
      rec 34 [.ref a0, .int a1, .int a2, .int a3, .ref a0, .int 1] P12
def b_X11_could_34 (n : Nat) (rec : Nat → List Value → xH → xO) (a0 : Nat) (a1 : Int32) (a2 : Int32) (a3 : Int32) (s0 : Nat) (s1 : Int32) (P : xH) : xO :=
  (kO P s0 11).bind fun _ =>
  (f_X11_throwsIf n 0 [.ref s0, .int s1, .int 2] P).bind fun r2 => xI r2 fun v4 P1 =>
  if v4 = 0 then
    (kO P1 a0 11).bind fun _ =>
    (f_X11_couldBe n 0 [.ref a0, .int a1, .int a2, .int a3] P1).bind fun r7 => xI r7 fun v9 P6 =>
    some (.inl (some (.int v9)), P6)
  else
    some (.inl (some (.int 0)), P1)
def lay_X11_could : Nat → List Value → Option (xL × List Value)
  | 0, [a0, a1, a2, a3] => some ([some a0, some a1, some a2, some a3], [])
  | 34, [a0, a1, a2, a3, s0, s1] => some ([some a0, some a1, some a2, some a3], [s1, s0])
  | _, _ => none
def f_X11_could : Nat → Nat → List Value → xH → xO
  | 0 => fun _ _ _ => none
  | n + 1 => fun pc env P => match pc, env with
    | 0, [.ref a0, .int a1, .int a2, .int a3] => b_X11_could_0 n (f_X11_could n) a0 a1 a2 a3 P
    | 34, [.ref a0, .int a1, .int a2, .int a3, .ref s0, .int s1] => b_X11_could_34 n (f_X11_could n) a0 a1 a2 a3 s0 s1 P
    | _, _ => none
set_option maxHeartbeats 2000000 in
set_option maxRecDepth 20000 in
theorem t_X11_could_0 {G : xG} {l : Launch} (hl : l.stackTraces = false) {n : Nat} {rec : Nat → List Value → xH → xO} (hrec : ∀ pc env P z, rec pc env P = some z → ∀ L st, lay_X11_could pc env = some (L, st) → ∀ Q : xR → xH → Prop, Q z.1 z.2 → Wp G l 9 mX11_could pc L st P Q) {a0 a1 a2 a3} {P : xH} {z : xR × xH} (h : b_X11_could_0 n rec a0 a1 a2 a3 P = some z) {Q : xR → xH → Prop} (hQ : Q z.1 z.2) : Wp G l 9 mX11_could 0 [some (.ref a0), some (.int a1), some (.int a2), some (.int a3)] [] P Q := by
  unfold b_X11_could_0 at h
  refine x_aload_nr dX11_could_0 rfl ?_
  refine x_iconst 0 dX11_could_1 (by decide) ?_
  obtain ⟨P1, e2, h⟩ := Option.bind_eq_some_iff.mp h
  refine k_wI e2 dX11_could_2 f_X11_3 (Or.inl (by decide)) rfl ?_
  refine x_aload_nr dX11_could_5 rfl ?_
  refine x_iload_n dX11_could_6 rfl ?_
  obtain ⟨r4, e5, h⟩ := Option.bind_eq_some_iff.mp h
  replace h := xI_ok h
  obtain ⟨v6, P3, rfl, h⟩ := h
  refine x_callS (c_X11_noPerson hl e5) dX11_could_7 cw_X11_noPerson wl_X11_312 ws_X11_noPerson rfl (by omega) (by decide) rfl (Nat.le_of_ble_eq_true rfl) rfl (fun v9 P9 hq9 => ?_) (fun i9 P9 hq9 => by cases hq9)
  cases hq9
  refine x_iconst 1 dX11_could_10 (by decide) ?_
  obtain ⟨_, e11, h⟩ := Option.bind_eq_some_iff.mp h
  obtain ⟨fse11, e11⟩ := kO_ok e11
  obtain ⟨r8, e9, h⟩ := Option.bind_eq_some_iff.mp h
  replace h := xI_ok h
  obtain ⟨v10, P7, rfl, h⟩ := h
  refine x_callV (c_X11_throwsIf hl e9) dX11_could_11 cw_X11_throwsIf wl_X11_93 wi_X11_throwsIf wse_X11_throwsIf rfl e11 (by decide) rfl (by omega) (by decide) rfl (Nat.le_of_ble_eq_true rfl) rfl (fun v9 P9 hq9 => ?_) (fun i9 P9 hq9 => by cases hq9)
  cases hq9
  refine x_if_ne 41 dX11_could_14 (by decide) (fun q17 => ?_) (fun q17 => ?_)
  · rw [if_pos q17] at h
    refine x_iconst 0 dX11_could_41 (by decide) ?_
    refine x_goto 52 dX11_could_42 (by decide) ?_
    cases h
    exact x_iret .int rfl rfl dX11_could_52 hQ
  · rw [if_neg (fun z9 => z9 q17)] at h
    refine x_aload_nr dX11_could_17 rfl ?_
    refine x_iload_n dX11_could_18 rfl ?_
    refine x_iconst 0 dX11_could_19 (by decide) ?_
    refine x_sipush 400 dX11_could_20 (by decide) ?_
    obtain ⟨r13, e14, h⟩ := Option.bind_eq_some_iff.mp h
    replace h := xI_ok h
    obtain ⟨v15, P12, rfl, h⟩ := h
    refine x_callS (c_X11_in hl e14) dX11_could_23 cw_X11_in wl_X11_68 ws_X11_in rfl (by omega) (by decide) rfl (Nat.le_of_ble_eq_true rfl) rfl (fun v9 P9 hq9 => ?_) (fun i9 P9 hq9 => by cases hq9)
    cases hq9
    refine x_if_ne 33 dX11_could_26 (by decide) (fun q16 => ?_) (fun q16 => ?_)
    · rw [if_pos q16] at h
      refine x_iconst 0 dX11_could_33 (by decide) ?_
      exact Wp.mask [true, true, true, true] (hrec 34 _ _ _ h _ _ rfl _ hQ)
    · rw [if_neg (fun z9 => z9 q16)] at h
      refine x_iconst 1 dX11_could_29 (by decide) ?_
      refine x_goto 34 dX11_could_30 (by decide) ?_
      exact Wp.mask [true, true, true, true] (hrec 34 _ _ _ h _ _ rfl _ hQ)
set_option maxHeartbeats 2000000 in
set_option maxRecDepth 20000 in
theorem t_X11_could_34 {G : xG} {l : Launch} (hl : l.stackTraces = false) {n : Nat} {rec : Nat → List Value → xH → xO} (hrec : ∀ pc env P z, rec pc env P = some z → ∀ L st, lay_X11_could pc env = some (L, st) → ∀ Q : xR → xH → Prop, Q z.1 z.2 → Wp G l 9 mX11_could pc L st P Q) {a0 a1 a2 a3 s0 s1} {P : xH} {z : xR × xH} (h : b_X11_could_34 n rec a0 a1 a2 a3 s0 s1 P = some z) {Q : xR → xH → Prop} (hQ : Q z.1 z.2) : Wp G l 9 mX11_could 34 [some (.ref a0), some (.int a1), some (.int a2), some (.int a3)] [.int s1, .ref s0] P Q := by
  unfold b_X11_could_34 at h
  refine x_iconst 2 dX11_could_34 (by decide) ?_
  obtain ⟨_, e5, h⟩ := Option.bind_eq_some_iff.mp h
  obtain ⟨fse5, e5⟩ := kO_ok e5
  obtain ⟨r2, e3, h⟩ := Option.bind_eq_some_iff.mp h
  replace h := xI_ok h
  obtain ⟨v4, P1, rfl, h⟩ := h
  refine x_callV (c_X11_throwsIf hl e3) dX11_could_35 cw_X11_throwsIf wl_X11_93 wi_X11_throwsIf wse_X11_throwsIf rfl e5 (by decide) rfl (by omega) (by decide) rfl (Nat.le_of_ble_eq_true rfl) rfl (fun v9 P9 hq9 => ?_) (fun i9 P9 hq9 => by cases hq9)
  cases hq9
  refine x_if_eq 45 dX11_could_38 (by decide) (fun q11 => ?_) (fun q11 => ?_)
  · rw [if_pos q11] at h
    refine x_aload_nr dX11_could_45 rfl ?_
    refine x_iload_n dX11_could_46 rfl ?_
    refine x_iload_n dX11_could_47 rfl ?_
    refine x_iload_n dX11_could_48 rfl ?_
    obtain ⟨_, e10, h⟩ := Option.bind_eq_some_iff.mp h
    obtain ⟨fse10, e10⟩ := kO_ok e10
    obtain ⟨r7, e8, h⟩ := Option.bind_eq_some_iff.mp h
    replace h := xI_ok h
    obtain ⟨v9, P6, rfl, h⟩ := h
    refine x_callV (c_X11_couldBe hl e8) dX11_could_49 cw_X11_couldBe wl_X11_345 wi_X11_couldBe wse_X11_couldBe rfl e10 (by decide) rfl (by omega) (by decide) rfl (Nat.le_of_ble_eq_true rfl) rfl (fun v9 P9 hq9 => ?_) (fun i9 P9 hq9 => by cases hq9)
    cases hq9
    cases h
    exact x_iret .int rfl rfl dX11_could_52 hQ
  · rw [if_neg q11] at h
    refine x_iconst 0 dX11_could_41 (by decide) ?_
    refine x_goto 52 dX11_could_42 (by decide) ?_
    cases h
    exact x_iret .int rfl rfl dX11_could_52 hQ
theorem s_X11_could {G : xG} {l : Launch} (hl : l.stackTraces = false) : ∀ n pc env P z, f_X11_could n pc env P = some z → ∀ L st, lay_X11_could pc env = some (L, st) → ∀ Q : xR → xH → Prop, Q z.1 z.2 → Wp G l 9 mX11_could pc L st P Q := by
  intro n
  induction n with
  | zero => intro pc env P z h; cases h
  | succ n ih =>
    intro pc env P z h L st hlay Q hQ
    unfold f_X11_could at h
    split at h
    · cases hlay
      exact t_X11_could_0 hl ih h hQ
    · cases hlay
      exact t_X11_could_34 hl ih h hQ
    · cases h
theorem c_X11_could {G : xG} {l : Launch} (hl : l.stackTraces = false) {n : Nat} {as : List Value} {P : xH} {z : xR × xH} (h : f_X11_could n 0 as P = some z) : Ct G l 9 mX11_could as P (fun r P1 => (r, P1) = z) := by
  cases n with
  | zero => cases h
  | succ n =>
    unfold f_X11_could at h
    split at h
    · exact Ct.of hl (by decide +kernel) wc_X11_could (Nat.le_of_ble_eq_true rfl) (t_X11_could_0 hl (s_X11_could hl _) h rfl)
    all_goals first | (cases h; done) | (rename_i q9 _; exact absurd q9 (by decide)) | (rename_i q9; exact absurd q9 (by decide)) | contradiction
/-! QuakeNetModel.against(II)Z -/
def b_X11_against_0 (n : Nat) (rec : Nat → List Value → xH → xO) (a0 : Nat) (a1 : Int32) (a2 : Int32) (P : xH) : xO :=
  (kO P a0 11).bind fun _ =>
  (f_X11_of n 0 [.ref a0, .int a1, .int 5] P).bind fun r2 => xI r2 fun v4 P1 =>
  (kO P1 a0 11).bind fun _ =>
  (f_X11_of n 0 [.ref a0, .int a2, .int 5] P1).bind fun r7 => xI r7 fun v9 P6 =>
  (f_X11_between n 0 [.int v4, .int v9] P6).bind fun r12 => xI r12 fun v14 P11 =>
  (rA P11 a0 11 3).bind fun v15 =>
  (aI P11 v15 6).bind fun v17 =>
  (kO P11 a0 11).bind fun _ =>
  (f_X11_of n 0 [.ref a0, .int a1, .int 6] P11).bind fun r20 => xI r20 fun v22 P19 =>
  (kO P19 a0 11).bind fun _ =>
  (f_X11_of n 0 [.ref a0, .int a2, .int 6] P19).bind fun r25 => xI r25 fun v27 P24 =>
  if v14 ≤ ((v17 * ((mAbs ((v22 - v27)))))) then
    some (.inl (some (.int 0)), P24)
  else
    some (.inl (some (.int 1)), P24)
def lay_X11_against : Nat → List Value → Option (xL × List Value)
  | 0, [a0, a1, a2] => some ([some a0, some a1, some a2], [])
  | _, _ => none
def f_X11_against : Nat → Nat → List Value → xH → xO
  | 0 => fun _ _ _ => none
  | n + 1 => fun pc env P => match pc, env with
    | 0, [.ref a0, .int a1, .int a2] => b_X11_against_0 n (f_X11_against n) a0 a1 a2 P
    | _, _ => none
set_option maxHeartbeats 2000000 in
set_option maxRecDepth 20000 in
theorem t_X11_against_0 {G : xG} {l : Launch} (hl : l.stackTraces = false) {n : Nat} {rec : Nat → List Value → xH → xO} (hrec : ∀ pc env P z, rec pc env P = some z → ∀ L st, lay_X11_against pc env = some (L, st) → ∀ Q : xR → xH → Prop, Q z.1 z.2 → Wp G l 8 mX11_against pc L st P Q) {a0 a1 a2} {P : xH} {z : xR × xH} (h : b_X11_against_0 n rec a0 a1 a2 P = some z) {Q : xR → xH → Prop} (hQ : Q z.1 z.2) : Wp G l 8 mX11_against 0 [some (.ref a0), some (.int a1), some (.int a2)] [] P Q := by
  unfold b_X11_against_0 at h
  refine x_aload_nr dX11_against_0 rfl ?_
  refine x_iload_n dX11_against_1 rfl ?_
  refine x_iconst 5 dX11_against_2 (by decide) ?_
  obtain ⟨_, e5, h⟩ := Option.bind_eq_some_iff.mp h
  obtain ⟨fse5, e5⟩ := kO_ok e5
  obtain ⟨r2, e3, h⟩ := Option.bind_eq_some_iff.mp h
  replace h := xI_ok h
  obtain ⟨v4, P1, rfl, h⟩ := h
  refine x_callV (c_X11_of hl e3) dX11_against_3 cw_X11_of wl_X11_240 wi_X11_of wse_X11_of rfl e5 (by decide) rfl (by omega) (by decide) rfl (Nat.le_of_ble_eq_true rfl) rfl (fun v9 P9 hq9 => ?_) (fun i9 P9 hq9 => by cases hq9)
  cases hq9
  refine x_aload_nr dX11_against_6 rfl ?_
  refine x_iload_n dX11_against_7 rfl ?_
  refine x_iconst 5 dX11_against_8 (by decide) ?_
  obtain ⟨_, e10, h⟩ := Option.bind_eq_some_iff.mp h
  obtain ⟨fse10, e10⟩ := kO_ok e10
  obtain ⟨r7, e8, h⟩ := Option.bind_eq_some_iff.mp h
  replace h := xI_ok h
  obtain ⟨v9, P6, rfl, h⟩ := h
  refine x_callV (c_X11_of hl e8) dX11_against_9 cw_X11_of wl_X11_240 wi_X11_of wse_X11_of rfl e10 (by decide) rfl (by omega) (by decide) rfl (Nat.le_of_ble_eq_true rfl) rfl (fun v9 P9 hq9 => ?_) (fun i9 P9 hq9 => by cases hq9)
  cases hq9
  obtain ⟨r12, e13, h⟩ := Option.bind_eq_some_iff.mp h
  replace h := xI_ok h
  obtain ⟨v14, P11, rfl, h⟩ := h
  refine x_callS (c_X11_between hl e13) dX11_against_12 cw_X11_between wl_X11_334 ws_X11_between rfl (by omega) (by decide) rfl (Nat.le_of_ble_eq_true rfl) rfl (fun v9 P9 hq9 => ?_) (fun i9 P9 hq9 => by cases hq9)
  cases hq9
  refine x_aload_nr dX11_against_15 rfl ?_
  obtain ⟨v15, e16, h⟩ := Option.bind_eq_some_iff.mp h
  refine k_rA e16 dX11_against_16 f_X11_20 ?_
  refine x_bipush 6 dX11_against_19 (by decide) ?_
  obtain ⟨v17, e18, h⟩ := Option.bind_eq_some_iff.mp h
  refine k_aI e18 dX11_against_21 ?_
  refine x_aload_nr dX11_against_22 rfl ?_
  refine x_iload_n dX11_against_23 rfl ?_
  refine x_bipush 6 dX11_against_24 (by decide) ?_
  obtain ⟨_, e23, h⟩ := Option.bind_eq_some_iff.mp h
  obtain ⟨fse23, e23⟩ := kO_ok e23
  obtain ⟨r20, e21, h⟩ := Option.bind_eq_some_iff.mp h
  replace h := xI_ok h
  obtain ⟨v22, P19, rfl, h⟩ := h
  refine x_callV (c_X11_of hl e21) dX11_against_26 cw_X11_of wl_X11_240 wi_X11_of wse_X11_of rfl e23 (by decide) rfl (by omega) (by decide) rfl (Nat.le_of_ble_eq_true rfl) rfl (fun v9 P9 hq9 => ?_) (fun i9 P9 hq9 => by cases hq9)
  cases hq9
  refine x_aload_nr dX11_against_29 rfl ?_
  refine x_iload_n dX11_against_30 rfl ?_
  refine x_bipush 6 dX11_against_31 (by decide) ?_
  obtain ⟨_, e28, h⟩ := Option.bind_eq_some_iff.mp h
  obtain ⟨fse28, e28⟩ := kO_ok e28
  obtain ⟨r25, e26, h⟩ := Option.bind_eq_some_iff.mp h
  replace h := xI_ok h
  obtain ⟨v27, P24, rfl, h⟩ := h
  refine x_callV (c_X11_of hl e26) dX11_against_33 cw_X11_of wl_X11_240 wi_X11_of wse_X11_of rfl e28 (by decide) rfl (by omega) (by decide) rfl (Nat.le_of_ble_eq_true rfl) rfl (fun v9 P9 hq9 => ?_) (fun i9 P9 hq9 => by cases hq9)
  cases hq9
  refine x_isub dX11_against_36 ?_
  refine x_mabs dX11_against_37 wl_X11_75 (Nat.le_of_ble_eq_true rfl) (by omega) ?_
  refine x_imul dX11_against_40 ?_
  refine x_icmp_le 48 dX11_against_41 (by decide) (fun q29 => ?_) (fun q29 => ?_)
  · rw [if_pos q29] at h
    refine x_iconst 0 dX11_against_48 (by decide) ?_
    cases h
    exact x_iret .boolean rfl rfl dX11_against_49 hQ
  · rw [if_neg q29] at h
    refine x_iconst 1 dX11_against_44 (by decide) ?_
    refine x_goto 49 dX11_against_45 (by decide) ?_
    cases h
    exact x_iret .boolean rfl rfl dX11_against_49 hQ
theorem s_X11_against {G : xG} {l : Launch} (hl : l.stackTraces = false) : ∀ n pc env P z, f_X11_against n pc env P = some z → ∀ L st, lay_X11_against pc env = some (L, st) → ∀ Q : xR → xH → Prop, Q z.1 z.2 → Wp G l 8 mX11_against pc L st P Q := by
  intro n
  induction n with
  | zero => intro pc env P z h; cases h
  | succ n ih =>
    intro pc env P z h L st hlay Q hQ
    unfold f_X11_against at h
    split at h
    · cases hlay
      exact t_X11_against_0 hl ih h hQ
    · cases h
theorem c_X11_against {G : xG} {l : Launch} (hl : l.stackTraces = false) {n : Nat} {as : List Value} {P : xH} {z : xR × xH} (h : f_X11_against n 0 as P = some z) : Ct G l 8 mX11_against as P (fun r P1 => (r, P1) = z) := by
  cases n with
  | zero => cases h
  | succ n =>
    unfold f_X11_against at h
    split at h
    · exact Ct.of hl (by decide +kernel) wc_X11_against (Nat.le_of_ble_eq_true rfl) (t_X11_against_0 hl (s_X11_against hl _) h rfl)
    all_goals first | (cases h; done) | (rename_i q9 _; exact absurd q9 (by decide)) | (rename_i q9; exact absurd q9 (by decide)) | contradiction
/-! QuakeNetModel.least(IIZ)I -/
def b_X11_least_0 (n : Nat) (rec : Nat → List Value → xH → xO) (a0 : Nat) (a1 : Int32) (a2 : Int32) (a3 : Int32) (P : xH) : xO :=
  (wV P a0 11 0 (.int 0)).bind fun P1 =>
  (f_X11_noPerson n 0 [.int a1] P1).bind fun r4 => xI r4 fun v6 P3 =>
  (kO P3 a0 11).bind fun _ =>
  (f_X11_throwsIf n 0 [.ref a0, .int v6, .int 1] P3).bind fun r8 => xI r8 fun v10 P7 =>
  if v10 = 0 then
    (kO P7 a0 11).bind fun _ =>
    (f_X11_gathers n 0 [.ref a0, .int a1, .int a2] P7).bind fun r13 => xU r13 fun P12 =>
    (rI P12 a0 11 22).bind fun v16 =>
    rec 47 [.ref a0, .int a1, .int a2, .int a3, .int ((mMin 10 v16)), .int ((((1 <<< (((mMin 10 v16)) &&& 31))) - 1)), .int 0] P12
  else
    some (.inl (some (.int 0)), P7)
def b_X11_least_47 (n : Nat) (rec : Nat → List Value → xH → xO) (a0 : Nat) (a1 : Int32) (a2 : Int32) (a3 : Int32) (a4 : Int32) (a5 : Int32) (a6 : Int32) (P : xH) : xO :=
  if ((1 <<< (a4 &&& 31))) ≤ a6 then
    if a3 = 0 then
      (f_J6_bitCount_0f7a4 n 0 [.int a5] P).bind fun r2 => xI r2 fun v4 P1 =>
      some (.inl (some (.int v4)), P1)
    else
      some (.inl (some (.int a5)), P)
  else
    (f_J6_bitCount_0f7a4 n 0 [.int a6] P).bind fun r7 => xI r7 fun v9 P6 =>
    (f_J6_bitCount_0f7a4 n 0 [.int a5] P6).bind fun r11 => xI r11 fun v13 P10 =>
    if v9 < v13 then
      rec 78 [.ref a0, .int a1, .int a2, .int a3, .int a4, .int a5, .int a6, .int 1, .int 0] P10
    else
      rec 47 [.ref a0, .int a1, .int a2, .int a3, .int a4, .int a5, .int ((a6 + 1))] P10
def b_X11_least_78 (n : Nat) (rec : Nat → List Value → xH → xO) (a0 : Nat) (a1 : Int32) (a2 : Int32) (a3 : Int32) (a4 : Int32) (a5 : Int32) (a6 : Int32) (a7 : Int32) (a8 : Int32) (P : xH) : xO :=
  if a4 ≤ a8 then
    rec 170 [.ref a0, .int a1, .int a2, .int a3, .int a4, .int a5, .int a6, .int a7, .int a8] P
  else
    if a7 = 0 then
      rec 170 [.ref a0, .int a1, .int a2, .int a3, .int a4, .int a5, .int a6, .int a7, .int a8] P
    else
      rec 96 [.ref a0, .int a1, .int a2, .int a3, .int a4, .int a5, .int a6, .int a7, .int a8, .int ((a8 + 1))] P
def b_X11_least_96 (n : Nat) (rec : Nat → List Value → xH → xO) (a0 : Nat) (a1 : Int32) (a2 : Int32) (a3 : Int32) (a4 : Int32) (a5 : Int32) (a6 : Int32) (a7 : Int32) (a8 : Int32) (a9 : Int32) (P : xH) : xO :=
  if a4 ≤ a9 then
    rec 78 [.ref a0, .int a1, .int a2, .int a3, .int a4, .int a5, .int a6, .int a7, .int ((a8 + 1))] P
  else
    if a7 = 0 then
      rec 78 [.ref a0, .int a1, .int a2, .int a3, .int a4, .int a5, .int a6, .int a7, .int ((a8 + 1))] P
    else
      if ((((a6 >>> (a8 &&& 31))) &&& 1)) = 1 then
        rec 96 [.ref a0, .int a1, .int a2, .int a3, .int a4, .int a5, .int a6, .int 1, .int a8, .int ((a9 + 1))] P
      else
        if ((((a6 >>> (a9 &&& 31))) &&& 1)) = 1 then
          rec 96 [.ref a0, .int a1, .int a2, .int a3, .int a4, .int a5, .int a6, .int 1, .int a8, .int ((a9 + 1))] P
        else
          (rA P a0 11 21).bind fun v1 =>
          (aI P v1 a8).bind fun v3 =>
          (rA P a0 11 21).bind fun v5 =>
          (aI P v5 a9).bind fun v7 =>
          (kO P a0 11).bind fun _ =>
          (f_X11_against n 0 [.ref a0, .int v3, .int v7] P).bind fun r10 => xI r10 fun v12 P9 =>
          if ¬ v12 = 0 then
            rec 96 [.ref a0, .int a1, .int a2, .int a3, .int a4, .int a5, .int a6, .int 0, .int a8, .int ((a9 + 1))] P9
          else
            rec 96 [.ref a0, .int a1, .int a2, .int a3, .int a4, .int a5, .int a6, .int 1, .int a8, .int ((a9 + 1))] P9
def b_X11_least_170 (n : Nat) (rec : Nat → List Value → xH → xO) (a0 : Nat) (a1 : Int32) (a2 : Int32) (a3 : Int32) (a4 : Int32) (a5 : Int32) (a6 : Int32) (a7 : Int32) (a8 : Int32) (P : xH) : xO :=
  if a7 = 0 then
    rec 47 [.ref a0, .int a1, .int a2, .int a3, .int a4, .int a5, .int ((a6 + 1))] P
  else
    rec 47 [.ref a0, .int a1, .int a2, .int a3, .int a4, .int a6, .int ((a6 + 1))] P
def lay_X11_least : Nat → List Value → Option (xL × List Value)
  | 0, [a0, a1, a2, a3] => some ([some a0, some a1, some a2, some a3, none, none, none, none, none, none], [])
  | 47, [a0, a1, a2, a3, a4, a5, a6] => some ([some a0, some a1, some a2, some a3, some a4, some a5, some a6, none, none, none], [])
  | 78, [a0, a1, a2, a3, a4, a5, a6, a7, a8] => some ([some a0, some a1, some a2, some a3, some a4, some a5, some a6, some a7, some a8, none], [])
  | 96, [a0, a1, a2, a3, a4, a5, a6, a7, a8, a9] => some ([some a0, some a1, some a2, some a3, some a4, some a5, some a6, some a7, some a8, some a9], [])
  | 170, [a0, a1, a2, a3, a4, a5, a6, a7, a8] => some ([some a0, some a1, some a2, some a3, some a4, some a5, some a6, some a7, some a8, none], [])
  | _, _ => none
def f_X11_least : Nat → Nat → List Value → xH → xO
  | 0 => fun _ _ _ => none
  | n + 1 => fun pc env P => match pc, env with
    | 0, [.ref a0, .int a1, .int a2, .int a3] => b_X11_least_0 n (f_X11_least n) a0 a1 a2 a3 P
    | 47, [.ref a0, .int a1, .int a2, .int a3, .int a4, .int a5, .int a6] => b_X11_least_47 n (f_X11_least n) a0 a1 a2 a3 a4 a5 a6 P
    | 78, [.ref a0, .int a1, .int a2, .int a3, .int a4, .int a5, .int a6, .int a7, .int a8] => b_X11_least_78 n (f_X11_least n) a0 a1 a2 a3 a4 a5 a6 a7 a8 P
    | 96, [.ref a0, .int a1, .int a2, .int a3, .int a4, .int a5, .int a6, .int a7, .int a8, .int a9] => b_X11_least_96 n (f_X11_least n) a0 a1 a2 a3 a4 a5 a6 a7 a8 a9 P
    | 170, [.ref a0, .int a1, .int a2, .int a3, .int a4, .int a5, .int a6, .int a7, .int a8] => b_X11_least_170 n (f_X11_least n) a0 a1 a2 a3 a4 a5 a6 a7 a8 P
    | _, _ => none
set_option maxHeartbeats 2000000 in
set_option maxRecDepth 20000 in
theorem t_X11_least_0 {G : xG} {l : Launch} (hl : l.stackTraces = false) {n : Nat} {rec : Nat → List Value → xH → xO} (hrec : ∀ pc env P z, rec pc env P = some z → ∀ L st, lay_X11_least pc env = some (L, st) → ∀ Q : xR → xH → Prop, Q z.1 z.2 → Wp G l 9 mX11_least pc L st P Q) {a0 a1 a2 a3} {P : xH} {z : xR × xH} (h : b_X11_least_0 n rec a0 a1 a2 a3 P = some z) {Q : xR → xH → Prop} (hQ : Q z.1 z.2) : Wp G l 9 mX11_least 0 [some (.ref a0), some (.int a1), some (.int a2), some (.int a3), none, none, none, none, none, none] [] P Q := by
  unfold b_X11_least_0 at h
  refine x_aload_nr dX11_least_0 rfl ?_
  refine x_iconst 0 dX11_least_1 (by decide) ?_
  obtain ⟨P1, e2, h⟩ := Option.bind_eq_some_iff.mp h
  refine k_wI e2 dX11_least_2 f_X11_3 (Or.inl (by decide)) rfl ?_
  refine x_aload_nr dX11_least_5 rfl ?_
  refine x_iload_n dX11_least_6 rfl ?_
  obtain ⟨r4, e5, h⟩ := Option.bind_eq_some_iff.mp h
  replace h := xI_ok h
  obtain ⟨v6, P3, rfl, h⟩ := h
  refine x_callS (c_X11_noPerson hl e5) dX11_least_7 cw_X11_noPerson wl_X11_312 ws_X11_noPerson rfl (by omega) (by decide) rfl (Nat.le_of_ble_eq_true rfl) rfl (fun v9 P9 hq9 => ?_) (fun i9 P9 hq9 => by cases hq9)
  cases hq9
  refine x_iconst 1 dX11_least_10 (by decide) ?_
  obtain ⟨_, e11, h⟩ := Option.bind_eq_some_iff.mp h
  obtain ⟨fse11, e11⟩ := kO_ok e11
  obtain ⟨r8, e9, h⟩ := Option.bind_eq_some_iff.mp h
  replace h := xI_ok h
  obtain ⟨v10, P7, rfl, h⟩ := h
  refine x_callV (c_X11_throwsIf hl e9) dX11_least_11 cw_X11_throwsIf wl_X11_93 wi_X11_throwsIf wse_X11_throwsIf rfl e11 (by decide) rfl (by omega) (by decide) rfl (Nat.le_of_ble_eq_true rfl) rfl (fun v9 P9 hq9 => ?_) (fun i9 P9 hq9 => by cases hq9)
  cases hq9
  refine x_if_eq 19 dX11_least_14 (by decide) (fun q18 => ?_) (fun q18 => ?_)
  · rw [if_pos q18] at h
    refine x_aload_nr dX11_least_19 rfl ?_
    refine x_iload_n dX11_least_20 rfl ?_
    refine x_iload_n dX11_least_21 rfl ?_
    obtain ⟨_, e15, h⟩ := Option.bind_eq_some_iff.mp h
    obtain ⟨fse15, e15⟩ := kO_ok e15
    obtain ⟨r13, e14, h⟩ := Option.bind_eq_some_iff.mp h
    replace h := xU_ok h
    obtain ⟨P12, rfl, h⟩ := h
    refine x_callV (c_X11_gathers hl e14) dX11_least_22 cw_X11_gathers wl_X11_337 wi_X11_gathers wse_X11_gathers rfl e15 (by decide) rfl (by omega) (by decide) rfl (Nat.le_of_ble_eq_true rfl) rfl (fun v9 P9 hq9 => ?_) (fun i9 P9 hq9 => by cases hq9)
    cases hq9
    refine x_bipush 10 dX11_least_25 (by decide) ?_
    refine x_aload_nr dX11_least_27 rfl ?_
    obtain ⟨v16, e17, h⟩ := Option.bind_eq_some_iff.mp h
    refine k_rI e17 dX11_least_28 f_X11_328 ?_
    refine x_mmin dX11_least_31 wl_X11_280 (Nat.le_of_ble_eq_true rfl) (by omega) ?_
    refine x_istore dX11_least_34 (Nat.le_of_ble_eq_true rfl) ?_
    refine x_iconst 1 dX11_least_36 (by decide) ?_
    refine x_iload dX11_least_37 rfl ?_
    refine x_ishl dX11_least_39 ?_
    refine x_iconst 1 dX11_least_40 (by decide) ?_
    refine x_isub dX11_least_41 ?_
    refine x_istore dX11_least_42 (Nat.le_of_ble_eq_true rfl) ?_
    refine x_iconst 0 dX11_least_44 (by decide) ?_
    refine x_istore dX11_least_45 (Nat.le_of_ble_eq_true rfl) ?_
    exact Wp.mask [true, true, true, true, true, true, true, false, false, false] (hrec 47 _ _ _ h _ _ rfl _ hQ)
  · rw [if_neg q18] at h
    refine x_iconst 0 dX11_least_17 (by decide) ?_
    cases h
    exact x_iret .int rfl rfl dX11_least_18 hQ
set_option maxHeartbeats 2000000 in
set_option maxRecDepth 20000 in
theorem t_X11_least_47 {G : xG} {l : Launch} (hl : l.stackTraces = false) {n : Nat} {rec : Nat → List Value → xH → xO} (hrec : ∀ pc env P z, rec pc env P = some z → ∀ L st, lay_X11_least pc env = some (L, st) → ∀ Q : xR → xH → Prop, Q z.1 z.2 → Wp G l 9 mX11_least pc L st P Q) {a0 a1 a2 a3 a4 a5 a6} {P : xH} {z : xR × xH} (h : b_X11_least_47 n rec a0 a1 a2 a3 a4 a5 a6 P = some z) {Q : xR → xH → Prop} (hQ : Q z.1 z.2) : Wp G l 9 mX11_least 47 [some (.ref a0), some (.int a1), some (.int a2), some (.int a3), some (.int a4), some (.int a5), some (.int a6), none, none, none] [] P Q := by
  unfold b_X11_least_47 at h
  refine x_iload dX11_least_47 rfl ?_
  refine x_iconst 1 dX11_least_49 (by decide) ?_
  refine x_iload dX11_least_50 rfl ?_
  refine x_ishl dX11_least_52 ?_
  refine x_icmp_ge 185 dX11_least_53 (by decide) (fun q15 => ?_) (fun q15 => ?_)
  · rw [if_pos q15] at h
    refine x_iload_n dX11_least_185 rfl ?_
    refine x_if_eq 194 dX11_least_186 (by decide) (fun q5 => ?_) (fun q5 => ?_)
    · rw [if_pos q5] at h
      refine x_iload dX11_least_194 rfl ?_
      obtain ⟨r2, e3, h⟩ := Option.bind_eq_some_iff.mp h
      replace h := xI_ok h
      obtain ⟨v4, P1, rfl, h⟩ := h
      refine x_callS (c_J6_bitCount_0f7a4 hl e3) dX11_least_196 cw_J6_bitCount_0f7a4 wl_X11_340 ws_J6_bitCount_0f7a4 rfl (by omega) (by decide) rfl (Nat.le_of_ble_eq_true rfl) rfl (fun v9 P9 hq9 => ?_) (fun i9 P9 hq9 => by cases hq9)
      cases hq9
      cases h
      exact x_iret .int rfl rfl dX11_least_199 hQ
    · rw [if_neg q5] at h
      refine x_iload dX11_least_189 rfl ?_
      refine x_goto 199 dX11_least_191 (by decide) ?_
      cases h
      exact x_iret .int rfl rfl dX11_least_199 hQ
  · rw [if_neg q15] at h
    refine x_iload dX11_least_56 rfl ?_
    obtain ⟨r7, e8, h⟩ := Option.bind_eq_some_iff.mp h
    replace h := xI_ok h
    obtain ⟨v9, P6, rfl, h⟩ := h
    refine x_callS (c_J6_bitCount_0f7a4 hl e8) dX11_least_58 cw_J6_bitCount_0f7a4 wl_X11_340 ws_J6_bitCount_0f7a4 rfl (by omega) (by decide) rfl (Nat.le_of_ble_eq_true rfl) rfl (fun v9 P9 hq9 => ?_) (fun i9 P9 hq9 => by cases hq9)
    cases hq9
    refine x_iload dX11_least_61 rfl ?_
    obtain ⟨r11, e12, h⟩ := Option.bind_eq_some_iff.mp h
    replace h := xI_ok h
    obtain ⟨v13, P10, rfl, h⟩ := h
    refine x_callS (c_J6_bitCount_0f7a4 hl e12) dX11_least_63 cw_J6_bitCount_0f7a4 wl_X11_340 ws_J6_bitCount_0f7a4 rfl (by omega) (by decide) rfl (Nat.le_of_ble_eq_true rfl) rfl (fun v9 P9 hq9 => ?_) (fun i9 P9 hq9 => by cases hq9)
    cases hq9
    refine x_icmp_lt 72 dX11_least_66 (by decide) (fun q14 => ?_) (fun q14 => ?_)
    · rw [if_pos q14] at h
      refine x_iconst 1 dX11_least_72 (by decide) ?_
      refine x_istore dX11_least_73 (Nat.le_of_ble_eq_true rfl) ?_
      refine x_iconst 0 dX11_least_75 (by decide) ?_
      refine x_istore dX11_least_76 (Nat.le_of_ble_eq_true rfl) ?_
      exact Wp.mask [true, true, true, true, true, true, true, true, true, false] (hrec 78 _ _ _ h _ _ rfl _ hQ)
    · rw [if_neg q14] at h
      refine x_goto 179 dX11_least_69 (by decide) ?_
      refine x_iinc (a6 + 1) dX11_least_179 rfl (by rfl) ?_
      refine x_goto 47 dX11_least_182 (by decide) ?_
      exact Wp.mask [true, true, true, true, true, true, true, false, false, false] (hrec 47 _ _ _ h _ _ rfl _ hQ)
set_option maxHeartbeats 2000000 in
set_option maxRecDepth 20000 in
theorem t_X11_least_78 {G : xG} {l : Launch} (hl : l.stackTraces = false) {n : Nat} {rec : Nat → List Value → xH → xO} (hrec : ∀ pc env P z, rec pc env P = some z → ∀ L st, lay_X11_least pc env = some (L, st) → ∀ Q : xR → xH → Prop, Q z.1 z.2 → Wp G l 9 mX11_least pc L st P Q) {a0 a1 a2 a3 a4 a5 a6 a7 a8} {P : xH} {z : xR × xH} (h : b_X11_least_78 n rec a0 a1 a2 a3 a4 a5 a6 a7 a8 P = some z) {Q : xR → xH → Prop} (hQ : Q z.1 z.2) : Wp G l 9 mX11_least 78 [some (.ref a0), some (.int a1), some (.int a2), some (.int a3), some (.int a4), some (.int a5), some (.int a6), some (.int a7), some (.int a8), none] [] P Q := by
  unfold b_X11_least_78 at h
  refine x_iload dX11_least_78 rfl ?_
  refine x_iload dX11_least_80 rfl ?_
  refine x_icmp_ge 170 dX11_least_82 (by decide) (fun q2 => ?_) (fun q2 => ?_)
  · rw [if_pos q2] at h
    exact Wp.mask [true, true, true, true, true, true, true, true, true, false] (hrec 170 _ _ _ h _ _ rfl _ hQ)
  · rw [if_neg q2] at h
    refine x_iload dX11_least_85 rfl ?_
    refine x_if_eq 170 dX11_least_87 (by decide) (fun q1 => ?_) (fun q1 => ?_)
    · rw [if_pos q1] at h
      exact Wp.mask [true, true, true, true, true, true, true, true, true, false] (hrec 170 _ _ _ h _ _ rfl _ hQ)
    · rw [if_neg q1] at h
      refine x_iload dX11_least_90 rfl ?_
      refine x_iconst 1 dX11_least_92 (by decide) ?_
      refine x_iadd dX11_least_93 ?_
      refine x_istore dX11_least_94 (Nat.le_of_ble_eq_true rfl) ?_
      exact Wp.mask [true, true, true, true, true, true, true, true, true, true] (hrec 96 _ _ _ h _ _ rfl _ hQ)
set_option maxHeartbeats 2000000 in
set_option maxRecDepth 20000 in
theorem t_X11_least_96 {G : xG} {l : Launch} (hl : l.stackTraces = false) {n : Nat} {rec : Nat → List Value → xH → xO} (hrec : ∀ pc env P z, rec pc env P = some z → ∀ L st, lay_X11_least pc env = some (L, st) → ∀ Q : xR → xH → Prop, Q z.1 z.2 → Wp G l 9 mX11_least pc L st P Q) {a0 a1 a2 a3 a4 a5 a6 a7 a8 a9} {P : xH} {z : xR × xH} (h : b_X11_least_96 n rec a0 a1 a2 a3 a4 a5 a6 a7 a8 a9 P = some z) {Q : xR → xH → Prop} (hQ : Q z.1 z.2) : Wp G l 9 mX11_least 96 [some (.ref a0), some (.int a1), some (.int a2), some (.int a3), some (.int a4), some (.int a5), some (.int a6), some (.int a7), some (.int a8), some (.int a9)] [] P Q := by
  unfold b_X11_least_96 at h
  refine x_iload dX11_least_96 rfl ?_
  refine x_iload dX11_least_98 rfl ?_
  refine x_icmp_ge 164 dX11_least_100 (by decide) (fun q18 => ?_) (fun q18 => ?_)
  · rw [if_pos q18] at h
    refine x_iinc (a8 + 1) dX11_least_164 rfl (by rfl) ?_
    refine x_goto 78 dX11_least_167 (by decide) ?_
    exact Wp.mask [true, true, true, true, true, true, true, true, true, false] (hrec 78 _ _ _ h _ _ rfl _ hQ)
  · rw [if_neg q18] at h
    refine x_iload dX11_least_103 rfl ?_
    refine x_if_eq 164 dX11_least_105 (by decide) (fun q17 => ?_) (fun q17 => ?_)
    · rw [if_pos q17] at h
      refine x_iinc (a8 + 1) dX11_least_164 rfl (by rfl) ?_
      refine x_goto 78 dX11_least_167 (by decide) ?_
      exact Wp.mask [true, true, true, true, true, true, true, true, true, false] (hrec 78 _ _ _ h _ _ rfl _ hQ)
    · rw [if_neg q17] at h
      refine x_iload dX11_least_108 rfl ?_
      refine x_iload dX11_least_110 rfl ?_
      refine x_ishr dX11_least_112 ?_
      refine x_iconst 1 dX11_least_113 (by decide) ?_
      refine x_iand dX11_least_114 ?_
      refine x_iconst 1 dX11_least_115 (by decide) ?_
      refine x_icmp_eq 151 dX11_least_116 (by decide) (fun q16 => ?_) (fun q16 => ?_)
      · rw [if_pos q16] at h
        refine x_iconst 1 dX11_least_151 (by decide) ?_
        refine x_goto 156 dX11_least_152 (by decide) ?_
        refine x_istore dX11_least_156 (Nat.le_of_ble_eq_true rfl) ?_
        refine x_iinc (a9 + 1) dX11_least_158 rfl (by rfl) ?_
        refine x_goto 96 dX11_least_161 (by decide) ?_
        exact Wp.mask [true, true, true, true, true, true, true, true, true, true] (hrec 96 _ _ _ h _ _ rfl _ hQ)
      · rw [if_neg q16] at h
        refine x_iload dX11_least_119 rfl ?_
        refine x_iload dX11_least_121 rfl ?_
        refine x_ishr dX11_least_123 ?_
        refine x_iconst 1 dX11_least_124 (by decide) ?_
        refine x_iand dX11_least_125 ?_
        refine x_iconst 1 dX11_least_126 (by decide) ?_
        refine x_icmp_eq 151 dX11_least_127 (by decide) (fun q15 => ?_) (fun q15 => ?_)
        · rw [if_pos q15] at h
          refine x_iconst 1 dX11_least_151 (by decide) ?_
          refine x_goto 156 dX11_least_152 (by decide) ?_
          refine x_istore dX11_least_156 (Nat.le_of_ble_eq_true rfl) ?_
          refine x_iinc (a9 + 1) dX11_least_158 rfl (by rfl) ?_
          refine x_goto 96 dX11_least_161 (by decide) ?_
          exact Wp.mask [true, true, true, true, true, true, true, true, true, true] (hrec 96 _ _ _ h _ _ rfl _ hQ)
        · rw [if_neg q15] at h
          refine x_aload_nr dX11_least_130 rfl ?_
          refine x_aload_nr dX11_least_131 rfl ?_
          obtain ⟨v1, e2, h⟩ := Option.bind_eq_some_iff.mp h
          refine k_rA e2 dX11_least_132 f_X11_49 ?_
          refine x_iload dX11_least_135 rfl ?_
          obtain ⟨v3, e4, h⟩ := Option.bind_eq_some_iff.mp h
          refine k_aI e4 dX11_least_137 ?_
          refine x_aload_nr dX11_least_138 rfl ?_
          obtain ⟨v5, e6, h⟩ := Option.bind_eq_some_iff.mp h
          refine k_rA e6 dX11_least_139 f_X11_49 ?_
          refine x_iload dX11_least_142 rfl ?_
          obtain ⟨v7, e8, h⟩ := Option.bind_eq_some_iff.mp h
          refine k_aI e8 dX11_least_144 ?_
          obtain ⟨_, e13, h⟩ := Option.bind_eq_some_iff.mp h
          obtain ⟨fse13, e13⟩ := kO_ok e13
          obtain ⟨r10, e11, h⟩ := Option.bind_eq_some_iff.mp h
          replace h := xI_ok h
          obtain ⟨v12, P9, rfl, h⟩ := h
          refine x_callV (c_X11_against hl e11) dX11_least_145 cw_X11_against wl_X11_348 wi_X11_against wse_X11_against rfl e13 (by decide) rfl (by omega) (by decide) rfl (Nat.le_of_ble_eq_true rfl) rfl (fun v9 P9 hq9 => ?_) (fun i9 P9 hq9 => by cases hq9)
          cases hq9
          refine x_if_ne 155 dX11_least_148 (by decide) (fun q14 => ?_) (fun q14 => ?_)
          · rw [if_pos q14] at h
            refine x_iconst 0 dX11_least_155 (by decide) ?_
            refine x_istore dX11_least_156 (Nat.le_of_ble_eq_true rfl) ?_
            refine x_iinc (a9 + 1) dX11_least_158 rfl (by rfl) ?_
            refine x_goto 96 dX11_least_161 (by decide) ?_
            exact Wp.mask [true, true, true, true, true, true, true, true, true, true] (hrec 96 _ _ _ h _ _ rfl _ hQ)
          · rw [if_neg (fun z9 => z9 q14)] at h
            refine x_iconst 1 dX11_least_151 (by decide) ?_
            refine x_goto 156 dX11_least_152 (by decide) ?_
            refine x_istore dX11_least_156 (Nat.le_of_ble_eq_true rfl) ?_
            refine x_iinc (a9 + 1) dX11_least_158 rfl (by rfl) ?_
            refine x_goto 96 dX11_least_161 (by decide) ?_
            exact Wp.mask [true, true, true, true, true, true, true, true, true, true] (hrec 96 _ _ _ h _ _ rfl _ hQ)
set_option maxHeartbeats 2000000 in
set_option maxRecDepth 20000 in
theorem t_X11_least_170 {G : xG} {l : Launch} (hl : l.stackTraces = false) {n : Nat} {rec : Nat → List Value → xH → xO} (hrec : ∀ pc env P z, rec pc env P = some z → ∀ L st, lay_X11_least pc env = some (L, st) → ∀ Q : xR → xH → Prop, Q z.1 z.2 → Wp G l 9 mX11_least pc L st P Q) {a0 a1 a2 a3 a4 a5 a6 a7 a8} {P : xH} {z : xR × xH} (h : b_X11_least_170 n rec a0 a1 a2 a3 a4 a5 a6 a7 a8 P = some z) {Q : xR → xH → Prop} (hQ : Q z.1 z.2) : Wp G l 9 mX11_least 170 [some (.ref a0), some (.int a1), some (.int a2), some (.int a3), some (.int a4), some (.int a5), some (.int a6), some (.int a7), some (.int a8), none] [] P Q := by
  unfold b_X11_least_170 at h
  refine x_iload dX11_least_170 rfl ?_
  refine x_if_eq 179 dX11_least_172 (by decide) (fun q1 => ?_) (fun q1 => ?_)
  · rw [if_pos q1] at h
    refine x_iinc (a6 + 1) dX11_least_179 rfl (by rfl) ?_
    refine x_goto 47 dX11_least_182 (by decide) ?_
    exact Wp.mask [true, true, true, true, true, true, true, false, false, false] (hrec 47 _ _ _ h _ _ rfl _ hQ)
  · rw [if_neg q1] at h
    refine x_iload dX11_least_175 rfl ?_
    refine x_istore dX11_least_177 (Nat.le_of_ble_eq_true rfl) ?_
    refine x_iinc (a6 + 1) dX11_least_179 rfl (by rfl) ?_
    refine x_goto 47 dX11_least_182 (by decide) ?_
    exact Wp.mask [true, true, true, true, true, true, true, false, false, false] (hrec 47 _ _ _ h _ _ rfl _ hQ)
theorem s_X11_least {G : xG} {l : Launch} (hl : l.stackTraces = false) : ∀ n pc env P z, f_X11_least n pc env P = some z → ∀ L st, lay_X11_least pc env = some (L, st) → ∀ Q : xR → xH → Prop, Q z.1 z.2 → Wp G l 9 mX11_least pc L st P Q := by
  intro n
  induction n with
  | zero => intro pc env P z h; cases h
  | succ n ih =>
    intro pc env P z h L st hlay Q hQ
    unfold f_X11_least at h
    split at h
    · cases hlay
      exact t_X11_least_0 hl ih h hQ
    · cases hlay
      exact t_X11_least_47 hl ih h hQ
    · cases hlay
      exact t_X11_least_78 hl ih h hQ
    · cases hlay
      exact t_X11_least_96 hl ih h hQ
    · cases hlay
      exact t_X11_least_170 hl ih h hQ
    · cases h
theorem c_X11_least {G : xG} {l : Launch} (hl : l.stackTraces = false) {n : Nat} {as : List Value} {P : xH} {z : xR × xH} (h : f_X11_least n 0 as P = some z) : Ct G l 9 mX11_least as P (fun r P1 => (r, P1) = z) := by
  cases n with
  | zero => cases h
  | succ n =>
    unfold f_X11_least at h
    split at h
    · exact Ct.of hl (by decide +kernel) wc_X11_least (Nat.le_of_ble_eq_true rfl) (t_X11_least_0 hl (s_X11_least hl _) h rfl)
    all_goals first | (cases h; done) | (rename_i q9 _; exact absurd q9 (by decide)) | (rename_i q9; exact absurd q9 (by decide)) | contradiction
/-! QuakeNetModel.judge(IZ)Z -/
def b_X11_judge_0 (n : Nat) (rec : Nat → List Value → xH → xO) (a0 : Nat) (a1 : Int32) (a2 : Int32) (P : xH) : xO :=
  (wV P a0 11 0 (.int 0)).bind fun P1 =>
  (kO P1 a0 11).bind fun _ =>
  (f_X11_noWord n 0 [.ref a0, .int a1] P1).bind fun r4 => xI r4 fun v6 P3 =>
  (kO P3 a0 11).bind fun _ =>
  (f_X11_throwsIf n 0 [.ref a0, .int v6, .int 1] P3).bind fun r9 => xI r9 fun v11 P8 =>
  if v11 = 0 then
    if a2 = 0 then
      rec 41 [.ref a0, .int a1, .int a2, .int ((((761 + ((10 * a1)))) + 9)), .int 2] P8
    else
      rec 41 [.ref a0, .int a1, .int a2, .int ((((761 + ((10 * a1)))) + 9)), .int 1] P8
  else
    some (.inl (some (.int 0)), P8)
def b_X11_judge_41 (n : Nat) (rec : Nat → List Value → xH → xO) (a0 : Nat) (a1 : Int32) (a2 : Int32) (a3 : Int32) (s0 : Int32) (P : xH) : xO :=
  (rA P a0 11 3).bind fun v1 =>
  (aI P v1 a3).bind fun v3 =>
  if ¬ v3 = s0 then
    (rA P a0 11 3).bind fun v5 =>
    (sI P v5 a3 s0).bind fun P7 =>
    some (.inl (some (.int 1)), P7)
  else
    some (.inl (some (.int 0)), P)
def lay_X11_judge : Nat → List Value → Option (xL × List Value)
  | 0, [a0, a1, a2] => some ([some a0, some a1, some a2, none, none], [])
  | 41, [a0, a1, a2, a3, s0] => some ([some a0, some a1, some a2, some a3, none], [s0])
  | _, _ => none
def f_X11_judge : Nat → Nat → List Value → xH → xO
  | 0 => fun _ _ _ => none
  | n + 1 => fun pc env P => match pc, env with
    | 0, [.ref a0, .int a1, .int a2] => b_X11_judge_0 n (f_X11_judge n) a0 a1 a2 P
    | 41, [.ref a0, .int a1, .int a2, .int a3, .int s0] => b_X11_judge_41 n (f_X11_judge n) a0 a1 a2 a3 s0 P
    | _, _ => none
set_option maxHeartbeats 2000000 in
set_option maxRecDepth 20000 in
theorem t_X11_judge_0 {G : xG} {l : Launch} (hl : l.stackTraces = false) {n : Nat} {rec : Nat → List Value → xH → xO} (hrec : ∀ pc env P z, rec pc env P = some z → ∀ L st, lay_X11_judge pc env = some (L, st) → ∀ Q : xR → xH → Prop, Q z.1 z.2 → Wp G l 5 mX11_judge pc L st P Q) {a0 a1 a2} {P : xH} {z : xR × xH} (h : b_X11_judge_0 n rec a0 a1 a2 P = some z) {Q : xR → xH → Prop} (hQ : Q z.1 z.2) : Wp G l 5 mX11_judge 0 [some (.ref a0), some (.int a1), some (.int a2), none, none] [] P Q := by
  unfold b_X11_judge_0 at h
  refine x_aload_nr dX11_judge_0 rfl ?_
  refine x_iconst 0 dX11_judge_1 (by decide) ?_
  obtain ⟨P1, e2, h⟩ := Option.bind_eq_some_iff.mp h
  refine k_wI e2 dX11_judge_2 f_X11_3 (Or.inl (by decide)) rfl ?_
  refine x_aload_nr dX11_judge_5 rfl ?_
  refine x_aload_nr dX11_judge_6 rfl ?_
  refine x_iload_n dX11_judge_7 rfl ?_
  obtain ⟨_, e7, h⟩ := Option.bind_eq_some_iff.mp h
  obtain ⟨fse7, e7⟩ := kO_ok e7
  obtain ⟨r4, e5, h⟩ := Option.bind_eq_some_iff.mp h
  replace h := xI_ok h
  obtain ⟨v6, P3, rfl, h⟩ := h
  refine x_callV (c_X11_noWord hl e5) dX11_judge_8 cw_X11_noWord wl_X11_322 wi_X11_noWord wse_X11_noWord rfl e7 (by decide) rfl (by omega) (by decide) rfl (Nat.le_of_ble_eq_true rfl) rfl (fun v9 P9 hq9 => ?_) (fun i9 P9 hq9 => by cases hq9)
  cases hq9
  refine x_iconst 1 dX11_judge_11 (by decide) ?_
  obtain ⟨_, e12, h⟩ := Option.bind_eq_some_iff.mp h
  obtain ⟨fse12, e12⟩ := kO_ok e12
  obtain ⟨r9, e10, h⟩ := Option.bind_eq_some_iff.mp h
  replace h := xI_ok h
  obtain ⟨v11, P8, rfl, h⟩ := h
  refine x_callV (c_X11_throwsIf hl e10) dX11_judge_12 cw_X11_throwsIf wl_X11_93 wi_X11_throwsIf wse_X11_throwsIf rfl e12 (by decide) rfl (by omega) (by decide) rfl (Nat.le_of_ble_eq_true rfl) rfl (fun v9 P9 hq9 => ?_) (fun i9 P9 hq9 => by cases hq9)
  cases hq9
  refine x_if_eq 20 dX11_judge_15 (by decide) (fun q14 => ?_) (fun q14 => ?_)
  · rw [if_pos q14] at h
    refine x_sipush 761 dX11_judge_20 (by decide) ?_
    refine x_bipush 10 dX11_judge_23 (by decide) ?_
    refine x_iload_n dX11_judge_25 rfl ?_
    refine x_imul dX11_judge_26 ?_
    refine x_iadd dX11_judge_27 ?_
    refine x_bipush 9 dX11_judge_28 (by decide) ?_
    refine x_iadd dX11_judge_30 ?_
    refine x_istore_n dX11_judge_31 (Nat.le_of_ble_eq_true rfl) ?_
    refine x_iload_n dX11_judge_32 rfl ?_
    refine x_if_eq 40 dX11_judge_33 (by decide) (fun q13 => ?_) (fun q13 => ?_)
    · rw [if_pos q13] at h
      refine x_iconst 2 dX11_judge_40 (by decide) ?_
      exact Wp.mask [true, true, true, true, false] (hrec 41 _ _ _ h _ _ rfl _ hQ)
    · rw [if_neg q13] at h
      refine x_iconst 1 dX11_judge_36 (by decide) ?_
      refine x_goto 41 dX11_judge_37 (by decide) ?_
      exact Wp.mask [true, true, true, true, false] (hrec 41 _ _ _ h _ _ rfl _ hQ)
  · rw [if_neg q14] at h
    refine x_iconst 0 dX11_judge_18 (by decide) ?_
    cases h
    exact x_iret .boolean rfl rfl dX11_judge_19 hQ
set_option maxHeartbeats 2000000 in
set_option maxRecDepth 20000 in
theorem t_X11_judge_41 {G : xG} {l : Launch} (hl : l.stackTraces = false) {n : Nat} {rec : Nat → List Value → xH → xO} (hrec : ∀ pc env P z, rec pc env P = some z → ∀ L st, lay_X11_judge pc env = some (L, st) → ∀ Q : xR → xH → Prop, Q z.1 z.2 → Wp G l 5 mX11_judge pc L st P Q) {a0 a1 a2 a3 s0} {P : xH} {z : xR × xH} (h : b_X11_judge_41 n rec a0 a1 a2 a3 s0 P = some z) {Q : xR → xH → Prop} (hQ : Q z.1 z.2) : Wp G l 5 mX11_judge 41 [some (.ref a0), some (.int a1), some (.int a2), some (.int a3), none] [.int s0] P Q := by
  unfold b_X11_judge_41 at h
  refine x_istore dX11_judge_41 (Nat.le_of_ble_eq_true rfl) ?_
  refine x_aload_nr dX11_judge_43 rfl ?_
  obtain ⟨v1, e2, h⟩ := Option.bind_eq_some_iff.mp h
  refine k_rA e2 dX11_judge_44 f_X11_20 ?_
  refine x_iload_n dX11_judge_47 rfl ?_
  obtain ⟨v3, e4, h⟩ := Option.bind_eq_some_iff.mp h
  refine k_aI e4 dX11_judge_48 ?_
  refine x_iload dX11_judge_49 rfl ?_
  refine x_icmp_ne 56 dX11_judge_51 (by decide) (fun q9 => ?_) (fun q9 => ?_)
  · rw [if_pos q9] at h
    refine x_aload_nr dX11_judge_56 rfl ?_
    obtain ⟨v5, e6, h⟩ := Option.bind_eq_some_iff.mp h
    refine k_rA e6 dX11_judge_57 f_X11_20 ?_
    refine x_iload_n dX11_judge_60 rfl ?_
    refine x_iload dX11_judge_61 rfl ?_
    obtain ⟨P7, e8, h⟩ := Option.bind_eq_some_iff.mp h
    refine k_sI e8 dX11_judge_63 ?_
    refine x_iconst 1 dX11_judge_64 (by decide) ?_
    cases h
    exact x_iret .boolean rfl rfl dX11_judge_65 hQ
  · rw [if_neg (fun z9 => z9 q9)] at h
    refine x_iconst 0 dX11_judge_54 (by decide) ?_
    cases h
    exact x_iret .boolean rfl rfl dX11_judge_55 hQ
theorem s_X11_judge {G : xG} {l : Launch} (hl : l.stackTraces = false) : ∀ n pc env P z, f_X11_judge n pc env P = some z → ∀ L st, lay_X11_judge pc env = some (L, st) → ∀ Q : xR → xH → Prop, Q z.1 z.2 → Wp G l 5 mX11_judge pc L st P Q := by
  intro n
  induction n with
  | zero => intro pc env P z h; cases h
  | succ n ih =>
    intro pc env P z h L st hlay Q hQ
    unfold f_X11_judge at h
    split at h
    · cases hlay
      exact t_X11_judge_0 hl ih h hQ
    · cases hlay
      exact t_X11_judge_41 hl ih h hQ
    · cases h
theorem c_X11_judge {G : xG} {l : Launch} (hl : l.stackTraces = false) {n : Nat} {as : List Value} {P : xH} {z : xR × xH} (h : f_X11_judge n 0 as P = some z) : Ct G l 5 mX11_judge as P (fun r P1 => (r, P1) = z) := by
  cases n with
  | zero => cases h
  | succ n =>
    unfold f_X11_judge at h
    split at h
    · exact Ct.of hl (by decide +kernel) wc_X11_judge (Nat.le_of_ble_eq_true rfl) (t_X11_judge_0 hl (s_X11_judge hl _) h rfl)
    all_goals first | (cases h; done) | (rename_i q9 _; exact absurd q9 (by decide)) | (rename_i q9; exact absurd q9 (by decide)) | contradiction
/-! QuakeNetModel.weightOf(I)I -/
def b_X11_weightOf_0 (n : Nat) (rec : Nat → List Value → xH → xO) (a0 : Nat) (a1 : Int32) (P : xH) : xO :=
  rec 7 [.ref a0, .int a1, .int 1, .int 2, .int 0] P
def b_X11_weightOf_7 (n : Nat) (rec : Nat → List Value → xH → xO) (a0 : Nat) (a1 : Int32) (a2 : Int32) (a3 : Int32) (a4 : Int32) (P : xH) : xO :=
  (kO P a0 11).bind fun _ =>
  (f_X11_words n 0 [.ref a0] P).bind fun r2 => xI r2 fun v4 P1 =>
  if v4 ≤ a4 then
    if a3 = 0 then none else
    some (.inl (some (.int ((((1000 * a2)) / a3)))), P1)
  else
    (kO P1 a0 11).bind fun _ =>
    (f_X11_of n 0 [.ref a0, .int a4, .int 1] P1).bind fun r8 => xI r8 fun v10 P7 =>
    if ¬ v10 = a1 then
      rec 7 [.ref a0, .int a1, .int a2, .int a3, .int ((a4 + 1))] P7
    else
      (kO P7 a0 11).bind fun _ =>
      (f_X11_of n 0 [.ref a0, .int a4, .int 9] P7).bind fun r13 => xI r13 fun v15 P12 =>
      if ¬ v15 = 0 then
        (kO P12 a0 11).bind fun _ =>
        (f_X11_of n 0 [.ref a0, .int a4, .int 9] P12).bind fun r18 => xI r18 fun v20 P17 =>
        if ¬ v20 = 1 then
          rec 7 [.ref a0, .int a1, .int ((a2 + 0)), .int ((a3 + 1)), .int ((a4 + 1))] P17
        else
          rec 7 [.ref a0, .int a1, .int ((a2 + 1)), .int ((a3 + 1)), .int ((a4 + 1))] P17
      else
        rec 7 [.ref a0, .int a1, .int a2, .int a3, .int ((a4 + 1))] P12
def lay_X11_weightOf : Nat → List Value → Option (xL × List Value)
  | 0, [a0, a1] => some ([some a0, some a1, none, none, none], [])
  | 7, [a0, a1, a2, a3, a4] => some ([some a0, some a1, some a2, some a3, some a4], [])
  | _, _ => none
def f_X11_weightOf : Nat → Nat → List Value → xH → xO
  | 0 => fun _ _ _ => none
  | n + 1 => fun pc env P => match pc, env with
    | 0, [.ref a0, .int a1] => b_X11_weightOf_0 n (f_X11_weightOf n) a0 a1 P
    | 7, [.ref a0, .int a1, .int a2, .int a3, .int a4] => b_X11_weightOf_7 n (f_X11_weightOf n) a0 a1 a2 a3 a4 P
    | _, _ => none
set_option maxHeartbeats 2000000 in
set_option maxRecDepth 20000 in
theorem t_X11_weightOf_0 {G : xG} {l : Launch} (hl : l.stackTraces = false) {n : Nat} {rec : Nat → List Value → xH → xO} (hrec : ∀ pc env P z, rec pc env P = some z → ∀ L st, lay_X11_weightOf pc env = some (L, st) → ∀ Q : xR → xH → Prop, Q z.1 z.2 → Wp G l 4 mX11_weightOf pc L st P Q) {a0 a1} {P : xH} {z : xR × xH} (h : b_X11_weightOf_0 n rec a0 a1 P = some z) {Q : xR → xH → Prop} (hQ : Q z.1 z.2) : Wp G l 4 mX11_weightOf 0 [some (.ref a0), some (.int a1), none, none, none] [] P Q := by
  unfold b_X11_weightOf_0 at h
  refine x_iconst 1 dX11_weightOf_0 (by decide) ?_
  refine x_istore_n dX11_weightOf_1 (Nat.le_of_ble_eq_true rfl) ?_
  refine x_iconst 2 dX11_weightOf_2 (by decide) ?_
  refine x_istore_n dX11_weightOf_3 (Nat.le_of_ble_eq_true rfl) ?_
  refine x_iconst 0 dX11_weightOf_4 (by decide) ?_
  refine x_istore dX11_weightOf_5 (Nat.le_of_ble_eq_true rfl) ?_
  exact Wp.mask [true, true, true, true, true] (hrec 7 _ _ _ h _ _ rfl _ hQ)
set_option maxHeartbeats 2000000 in
set_option maxRecDepth 20000 in
theorem t_X11_weightOf_7 {G : xG} {l : Launch} (hl : l.stackTraces = false) {n : Nat} {rec : Nat → List Value → xH → xO} (hrec : ∀ pc env P z, rec pc env P = some z → ∀ L st, lay_X11_weightOf pc env = some (L, st) → ∀ Q : xR → xH → Prop, Q z.1 z.2 → Wp G l 4 mX11_weightOf pc L st P Q) {a0 a1 a2 a3 a4} {P : xH} {z : xR × xH} (h : b_X11_weightOf_7 n rec a0 a1 a2 a3 a4 P = some z) {Q : xR → xH → Prop} (hQ : Q z.1 z.2) : Wp G l 4 mX11_weightOf 7 [some (.ref a0), some (.int a1), some (.int a2), some (.int a3), some (.int a4)] [] P Q := by
  unfold b_X11_weightOf_7 at h
  refine x_iload dX11_weightOf_7 rfl ?_
  refine x_aload_nr dX11_weightOf_9 rfl ?_
  obtain ⟨_, e5, h⟩ := Option.bind_eq_some_iff.mp h
  obtain ⟨fse5, e5⟩ := kO_ok e5
  obtain ⟨r2, e3, h⟩ := Option.bind_eq_some_iff.mp h
  replace h := xI_ok h
  obtain ⟨v4, P1, rfl, h⟩ := h
  refine x_callV (c_X11_words hl e3) dX11_weightOf_10 cw_X11_words wl_X11_72 wi_X11_words wse_X11_words rfl e5 (by decide) rfl (by omega) (by decide) rfl (Nat.le_of_ble_eq_true rfl) rfl (fun v9 P9 hq9 => ?_) (fun i9 P9 hq9 => by cases hq9)
  cases hq9
  refine x_icmp_ge 70 dX11_weightOf_13 (by decide) (fun q25 => ?_) (fun q25 => ?_)
  · rw [if_pos q25] at h
    refine x_sipush 1000 dX11_weightOf_70 (by decide) ?_
    refine x_iload_n dX11_weightOf_73 rfl ?_
    refine x_imul dX11_weightOf_74 ?_
    refine x_iload_n dX11_weightOf_75 rfl ?_
    by_cases q6 : a3 = 0
    · rw [if_pos q6] at h; cases h
    rw [if_neg q6] at h
    refine x_idiv dX11_weightOf_76 q6 ?_
    cases h
    exact x_iret .int rfl rfl dX11_weightOf_77 hQ
  · rw [if_neg q25] at h
    refine x_aload_nr dX11_weightOf_16 rfl ?_
    refine x_iload dX11_weightOf_17 rfl ?_
    refine x_iconst 1 dX11_weightOf_19 (by decide) ?_
    obtain ⟨_, e11, h⟩ := Option.bind_eq_some_iff.mp h
    obtain ⟨fse11, e11⟩ := kO_ok e11
    obtain ⟨r8, e9, h⟩ := Option.bind_eq_some_iff.mp h
    replace h := xI_ok h
    obtain ⟨v10, P7, rfl, h⟩ := h
    refine x_callV (c_X11_of hl e9) dX11_weightOf_20 cw_X11_of wl_X11_240 wi_X11_of wse_X11_of rfl e11 (by decide) rfl (by omega) (by decide) rfl (Nat.le_of_ble_eq_true rfl) rfl (fun v9 P9 hq9 => ?_) (fun i9 P9 hq9 => by cases hq9)
    cases hq9
    refine x_iload_n dX11_weightOf_23 rfl ?_
    refine x_icmp_ne 64 dX11_weightOf_24 (by decide) (fun q24 => ?_) (fun q24 => ?_)
    · rw [if_pos q24] at h
      refine x_iinc (a4 + 1) dX11_weightOf_64 rfl (by rfl) ?_
      refine x_goto 7 dX11_weightOf_67 (by decide) ?_
      exact Wp.mask [true, true, true, true, true] (hrec 7 _ _ _ h _ _ rfl _ hQ)
    · rw [if_neg (fun z9 => z9 q24)] at h
      refine x_aload_nr dX11_weightOf_27 rfl ?_
      refine x_iload dX11_weightOf_28 rfl ?_
      refine x_bipush 9 dX11_weightOf_30 (by decide) ?_
      obtain ⟨_, e16, h⟩ := Option.bind_eq_some_iff.mp h
      obtain ⟨fse16, e16⟩ := kO_ok e16
      obtain ⟨r13, e14, h⟩ := Option.bind_eq_some_iff.mp h
      replace h := xI_ok h
      obtain ⟨v15, P12, rfl, h⟩ := h
      refine x_callV (c_X11_of hl e14) dX11_weightOf_32 cw_X11_of wl_X11_240 wi_X11_of wse_X11_of rfl e16 (by decide) rfl (by omega) (by decide) rfl (Nat.le_of_ble_eq_true rfl) rfl (fun v9 P9 hq9 => ?_) (fun i9 P9 hq9 => by cases hq9)
      cases hq9
      refine x_if_ne 41 dX11_weightOf_35 (by decide) (fun q23 => ?_) (fun q23 => ?_)
      · rw [if_pos q23] at h
        refine x_iinc (a3 + 1) dX11_weightOf_41 rfl (by rfl) ?_
        refine x_iload_n dX11_weightOf_44 rfl ?_
        refine x_aload_nr dX11_weightOf_45 rfl ?_
        refine x_iload dX11_weightOf_46 rfl ?_
        refine x_bipush 9 dX11_weightOf_48 (by decide) ?_
        obtain ⟨_, e21, h⟩ := Option.bind_eq_some_iff.mp h
        obtain ⟨fse21, e21⟩ := kO_ok e21
        obtain ⟨r18, e19, h⟩ := Option.bind_eq_some_iff.mp h
        replace h := xI_ok h
        obtain ⟨v20, P17, rfl, h⟩ := h
        refine x_callV (c_X11_of hl e19) dX11_weightOf_50 cw_X11_of wl_X11_240 wi_X11_of wse_X11_of rfl e21 (by decide) rfl (by omega) (by decide) rfl (Nat.le_of_ble_eq_true rfl) rfl (fun v9 P9 hq9 => ?_) (fun i9 P9 hq9 => by cases hq9)
        cases hq9
        refine x_iconst 1 dX11_weightOf_53 (by decide) ?_
        refine x_icmp_ne 61 dX11_weightOf_54 (by decide) (fun q22 => ?_) (fun q22 => ?_)
        · rw [if_pos q22] at h
          refine x_iconst 0 dX11_weightOf_61 (by decide) ?_
          refine x_iadd dX11_weightOf_62 ?_
          refine x_istore_n dX11_weightOf_63 (Nat.le_of_ble_eq_true rfl) ?_
          refine x_iinc (a4 + 1) dX11_weightOf_64 rfl (by rfl) ?_
          refine x_goto 7 dX11_weightOf_67 (by decide) ?_
          exact Wp.mask [true, true, true, true, true] (hrec 7 _ _ _ h _ _ rfl _ hQ)
        · rw [if_neg (fun z9 => z9 q22)] at h
          refine x_iconst 1 dX11_weightOf_57 (by decide) ?_
          refine x_goto 62 dX11_weightOf_58 (by decide) ?_
          refine x_iadd dX11_weightOf_62 ?_
          refine x_istore_n dX11_weightOf_63 (Nat.le_of_ble_eq_true rfl) ?_
          refine x_iinc (a4 + 1) dX11_weightOf_64 rfl (by rfl) ?_
          refine x_goto 7 dX11_weightOf_67 (by decide) ?_
          exact Wp.mask [true, true, true, true, true] (hrec 7 _ _ _ h _ _ rfl _ hQ)
      · rw [if_neg (fun z9 => z9 q23)] at h
        refine x_goto 64 dX11_weightOf_38 (by decide) ?_
        refine x_iinc (a4 + 1) dX11_weightOf_64 rfl (by rfl) ?_
        refine x_goto 7 dX11_weightOf_67 (by decide) ?_
        exact Wp.mask [true, true, true, true, true] (hrec 7 _ _ _ h _ _ rfl _ hQ)
theorem s_X11_weightOf {G : xG} {l : Launch} (hl : l.stackTraces = false) : ∀ n pc env P z, f_X11_weightOf n pc env P = some z → ∀ L st, lay_X11_weightOf pc env = some (L, st) → ∀ Q : xR → xH → Prop, Q z.1 z.2 → Wp G l 4 mX11_weightOf pc L st P Q := by
  intro n
  induction n with
  | zero => intro pc env P z h; cases h
  | succ n ih =>
    intro pc env P z h L st hlay Q hQ
    unfold f_X11_weightOf at h
    split at h
    · cases hlay
      exact t_X11_weightOf_0 hl ih h hQ
    · cases hlay
      exact t_X11_weightOf_7 hl ih h hQ
    · cases h
theorem c_X11_weightOf {G : xG} {l : Launch} (hl : l.stackTraces = false) {n : Nat} {as : List Value} {P : xH} {z : xR × xH} (h : f_X11_weightOf n 0 as P = some z) : Ct G l 4 mX11_weightOf as P (fun r P1 => (r, P1) = z) := by
  cases n with
  | zero => cases h
  | succ n =>
    unfold f_X11_weightOf at h
    split at h
    · exact Ct.of hl (by decide +kernel) wc_X11_weightOf (Nat.le_of_ble_eq_true rfl) (t_X11_weightOf_0 hl (s_X11_weightOf hl _) h rfl)
    all_goals first | (cases h; done) | (rename_i q9 _; exact absurd q9 (by decide)) | (rename_i q9; exact absurd q9 (by decide)) | contradiction
/-! QuakeNetModel.weight(I)I -/
def b_X11_weight_0 (n : Nat) (rec : Nat → List Value → xH → xO) (a0 : Nat) (a1 : Int32) (P : xH) : xO :=
  (wV P a0 11 0 (.int 0)).bind fun P1 =>
  (kO P1 a0 11).bind fun _ =>
  (f_X11_noPhone n 0 [.ref a0, .int a1] P1).bind fun r4 => xI r4 fun v6 P3 =>
  (kO P3 a0 11).bind fun _ =>
  (f_X11_throwsIf n 0 [.ref a0, .int v6, .int 1] P3).bind fun r9 => xI r9 fun v11 P8 =>
  if v11 = 0 then
    (kO P8 a0 11).bind fun _ =>
    (f_X11_weightOf n 0 [.ref a0, .int a1] P8).bind fun r14 => xI r14 fun v16 P13 =>
    some (.inl (some (.int v16)), P13)
  else
    some (.inl (some (.int 0)), P8)
def lay_X11_weight : Nat → List Value → Option (xL × List Value)
  | 0, [a0, a1] => some ([some a0, some a1], [])
  | _, _ => none
def f_X11_weight : Nat → Nat → List Value → xH → xO
  | 0 => fun _ _ _ => none
  | n + 1 => fun pc env P => match pc, env with
    | 0, [.ref a0, .int a1] => b_X11_weight_0 n (f_X11_weight n) a0 a1 P
    | _, _ => none
set_option maxHeartbeats 2000000 in
set_option maxRecDepth 20000 in
theorem t_X11_weight_0 {G : xG} {l : Launch} (hl : l.stackTraces = false) {n : Nat} {rec : Nat → List Value → xH → xO} (hrec : ∀ pc env P z, rec pc env P = some z → ∀ L st, lay_X11_weight pc env = some (L, st) → ∀ Q : xR → xH → Prop, Q z.1 z.2 → Wp G l 5 mX11_weight pc L st P Q) {a0 a1} {P : xH} {z : xR × xH} (h : b_X11_weight_0 n rec a0 a1 P = some z) {Q : xR → xH → Prop} (hQ : Q z.1 z.2) : Wp G l 5 mX11_weight 0 [some (.ref a0), some (.int a1)] [] P Q := by
  unfold b_X11_weight_0 at h
  refine x_aload_nr dX11_weight_0 rfl ?_
  refine x_iconst 0 dX11_weight_1 (by decide) ?_
  obtain ⟨P1, e2, h⟩ := Option.bind_eq_some_iff.mp h
  refine k_wI e2 dX11_weight_2 f_X11_3 (Or.inl (by decide)) rfl ?_
  refine x_aload_nr dX11_weight_5 rfl ?_
  refine x_aload_nr dX11_weight_6 rfl ?_
  refine x_iload_n dX11_weight_7 rfl ?_
  obtain ⟨_, e7, h⟩ := Option.bind_eq_some_iff.mp h
  obtain ⟨fse7, e7⟩ := kO_ok e7
  obtain ⟨r4, e5, h⟩ := Option.bind_eq_some_iff.mp h
  replace h := xI_ok h
  obtain ⟨v6, P3, rfl, h⟩ := h
  refine x_callV (c_X11_noPhone hl e5) dX11_weight_8 cw_X11_noPhone wl_X11_104 wi_X11_noPhone wse_X11_noPhone rfl e7 (by decide) rfl (by omega) (by decide) rfl (Nat.le_of_ble_eq_true rfl) rfl (fun v9 P9 hq9 => ?_) (fun i9 P9 hq9 => by cases hq9)
  cases hq9
  refine x_iconst 1 dX11_weight_11 (by decide) ?_
  obtain ⟨_, e12, h⟩ := Option.bind_eq_some_iff.mp h
  obtain ⟨fse12, e12⟩ := kO_ok e12
  obtain ⟨r9, e10, h⟩ := Option.bind_eq_some_iff.mp h
  replace h := xI_ok h
  obtain ⟨v11, P8, rfl, h⟩ := h
  refine x_callV (c_X11_throwsIf hl e10) dX11_weight_12 cw_X11_throwsIf wl_X11_93 wi_X11_throwsIf wse_X11_throwsIf rfl e12 (by decide) rfl (by omega) (by decide) rfl (Nat.le_of_ble_eq_true rfl) rfl (fun v9 P9 hq9 => ?_) (fun i9 P9 hq9 => by cases hq9)
  cases hq9
  refine x_if_eq 22 dX11_weight_15 (by decide) (fun q18 => ?_) (fun q18 => ?_)
  · rw [if_pos q18] at h
    refine x_aload_nr dX11_weight_22 rfl ?_
    refine x_iload_n dX11_weight_23 rfl ?_
    obtain ⟨_, e17, h⟩ := Option.bind_eq_some_iff.mp h
    obtain ⟨fse17, e17⟩ := kO_ok e17
    obtain ⟨r14, e15, h⟩ := Option.bind_eq_some_iff.mp h
    replace h := xI_ok h
    obtain ⟨v16, P13, rfl, h⟩ := h
    refine x_callV (c_X11_weightOf hl e15) dX11_weight_24 cw_X11_weightOf wl_X11_351 wi_X11_weightOf wse_X11_weightOf rfl e17 (by decide) rfl (by omega) (by decide) rfl (Nat.le_of_ble_eq_true rfl) rfl (fun v9 P9 hq9 => ?_) (fun i9 P9 hq9 => by cases hq9)
    cases hq9
    cases h
    exact x_iret .int rfl rfl dX11_weight_27 hQ
  · rw [if_neg q18] at h
    refine x_iconst 0 dX11_weight_18 (by decide) ?_
    refine x_goto 27 dX11_weight_19 (by decide) ?_
    cases h
    exact x_iret .int rfl rfl dX11_weight_27 hQ
theorem s_X11_weight {G : xG} {l : Launch} (hl : l.stackTraces = false) : ∀ n pc env P z, f_X11_weight n pc env P = some z → ∀ L st, lay_X11_weight pc env = some (L, st) → ∀ Q : xR → xH → Prop, Q z.1 z.2 → Wp G l 5 mX11_weight pc L st P Q := by
  intro n
  induction n with
  | zero => intro pc env P z h; cases h
  | succ n ih =>
    intro pc env P z h L st hlay Q hQ
    unfold f_X11_weight at h
    split at h
    · cases hlay
      exact t_X11_weight_0 hl ih h hQ
    · cases h
theorem c_X11_weight {G : xG} {l : Launch} (hl : l.stackTraces = false) {n : Nat} {as : List Value} {P : xH} {z : xR × xH} (h : f_X11_weight n 0 as P = some z) : Ct G l 5 mX11_weight as P (fun r P1 => (r, P1) = z) := by
  cases n with
  | zero => cases h
  | succ n =>
    unfold f_X11_weight at h
    split at h
    · exact Ct.of hl (by decide +kernel) wc_X11_weight (Nat.le_of_ble_eq_true rfl) (t_X11_weight_0 hl (s_X11_weight hl _) h rfl)
    all_goals first | (cases h; done) | (rename_i q9 _; exact absurd q9 (by decide)) | (rename_i q9; exact absurd q9 (by decide)) | contradiction
/-! QuakeNetModel.sure(II)I -/
def b_X11_sure_0 (n : Nat) (rec : Nat → List Value → xH → xO) (a0 : Nat) (a1 : Int32) (a2 : Int32) (P : xH) : xO :=
  (wV P a0 11 0 (.int 0)).bind fun P1 =>
  (f_X11_noPerson n 0 [.int a1] P1).bind fun r4 => xI r4 fun v6 P3 =>
  if ¬ v6 = 0 then
    rec 25 [.ref a0, .int a1, .int a2, .ref a0, .int 1] P3
  else
    (f_X11_noPlace n 0 [.int a2] P3).bind fun r8 => xI r8 fun v10 P7 =>
    if v10 = 0 then
      rec 25 [.ref a0, .int a1, .int a2, .ref a0, .int 0] P7
    else
      rec 25 [.ref a0, .int a1, .int a2, .ref a0, .int 1] P7
def b_X11_sure_25 (n : Nat) (rec : Nat → List Value → xH → xO) (a0 : Nat) (a1 : Int32) (a2 : Int32) (s0 : Nat) (s1 : Int32) (P : xH) : xO :=
  (kO P s0 11).bind fun _ =>
  (f_X11_throwsIf n 0 [.ref s0, .int s1, .int 1] P).bind fun r2 => xI r2 fun v4 P1 =>
  if v4 = 0 then
    (kO P1 a0 11).bind fun _ =>
    (f_X11_tick n 0 [.ref a0] P1).bind fun r7 => xI r7 fun v9 P6 =>
    (kO P6 a0 11).bind fun _ =>
    (f_X11_gathers n 0 [.ref a0, .int a1, .int v9] P6).bind fun r12 => xU r12 fun P11 =>
    rec 48 [.ref a0, .int a1, .int a2, .int 0, .int 0] P11
  else
    some (.inl (some (.int 0)), P1)
def b_X11_sure_48 (n : Nat) (rec : Nat → List Value → xH → xO) (a0 : Nat) (a1 : Int32) (a2 : Int32) (a3 : Int32) (a4 : Int32) (P : xH) : xO :=
  (rI P a0 11 22).bind fun v1 =>
  if v1 ≤ a4 then
    rec 146 [.ref a0, .int a1, .int a2, .int a3, .int 0, .int 0] P
  else
    rec 63 [.ref a0, .int a1, .int a2, .int a3, .int a4, .int ((a4 + 1))] P
def b_X11_sure_63 (n : Nat) (rec : Nat → List Value → xH → xO) (a0 : Nat) (a1 : Int32) (a2 : Int32) (a3 : Int32) (a4 : Int32) (a5 : Int32) (P : xH) : xO :=
  (rI P a0 11 22).bind fun v1 =>
  if v1 ≤ a5 then
    (rA P a0 11 21).bind fun v3 =>
    (aI P v3 a4).bind fun v5 =>
    (kO P a0 11).bind fun _ =>
    (f_X11_of n 0 [.ref a0, .int v5, .int 5] P).bind fun r8 => xI r8 fun v10 P7 =>
    if ¬ v10 = a2 then
      rec 48 [.ref a0, .int a1, .int a2, .int a3, .int ((a4 + 1))] P7
    else
      (rA P7 a0 11 21).bind fun v12 =>
      (aI P7 v12 a4).bind fun v14 =>
      (kO P7 a0 11).bind fun _ =>
      (f_X11_of n 0 [.ref a0, .int v14, .int 1] P7).bind fun r17 => xI r17 fun v19 P16 =>
      rec 48 [.ref a0, .int a1, .int a2, .int ((a3 ||| ((1 <<< (v19 &&& 31))))), .int ((a4 + 1))] P16
  else
    (rA P a0 11 21).bind fun v22 =>
    (aI P v22 a4).bind fun v24 =>
    (rA P a0 11 21).bind fun v26 =>
    (aI P v26 a5).bind fun v28 =>
    (kO P a0 11).bind fun _ =>
    (f_X11_against n 0 [.ref a0, .int v24, .int v28] P).bind fun r31 => xI r31 fun v33 P30 =>
    if v33 = 0 then
      rec 63 [.ref a0, .int a1, .int a2, .int a3, .int a4, .int ((a5 + 1))] P30
    else
      some (.inl (some (.int 0)), P30)
def b_X11_sure_146 (n : Nat) (rec : Nat → List Value → xH → xO) (a0 : Nat) (a1 : Int32) (a2 : Int32) (a3 : Int32) (a4 : Int32) (a5 : Int32) (P : xH) : xO :=
  (kO P a0 11).bind fun _ =>
  (f_X11_phones n 0 [.ref a0] P).bind fun r2 => xI r2 fun v4 P1 =>
  if v4 ≤ a5 then
    some (.inl (some (.int a4)), P1)
  else
    if ¬ ((((a3 >>> (a5 &&& 31))) &&& 1)) = 1 then
      rec 146 [.ref a0, .int a1, .int a2, .int a3, .int ((a4 + 0)), .int ((a5 + 1))] P1
    else
      (kO P1 a0 11).bind fun _ =>
      (f_X11_weightOf n 0 [.ref a0, .int a5] P1).bind fun r7 => xI r7 fun v9 P6 =>
      rec 146 [.ref a0, .int a1, .int a2, .int a3, .int ((a4 + v9)), .int ((a5 + 1))] P6
def lay_X11_sure : Nat → List Value → Option (xL × List Value)
  | 0, [a0, a1, a2] => some ([some a0, some a1, some a2, none, none, none], [])
  | 25, [a0, a1, a2, s0, s1] => some ([some a0, some a1, some a2, none, none, none], [s1, s0])
  | 48, [a0, a1, a2, a3, a4] => some ([some a0, some a1, some a2, some a3, some a4, none], [])
  | 63, [a0, a1, a2, a3, a4, a5] => some ([some a0, some a1, some a2, some a3, some a4, some a5], [])
  | 146, [a0, a1, a2, a3, a4, a5] => some ([some a0, some a1, some a2, some a3, some a4, some a5], [])
  | _, _ => none
def f_X11_sure : Nat → Nat → List Value → xH → xO
  | 0 => fun _ _ _ => none
  | n + 1 => fun pc env P => match pc, env with
    | 0, [.ref a0, .int a1, .int a2] => b_X11_sure_0 n (f_X11_sure n) a0 a1 a2 P
    | 25, [.ref a0, .int a1, .int a2, .ref s0, .int s1] => b_X11_sure_25 n (f_X11_sure n) a0 a1 a2 s0 s1 P
    | 48, [.ref a0, .int a1, .int a2, .int a3, .int a4] => b_X11_sure_48 n (f_X11_sure n) a0 a1 a2 a3 a4 P
    | 63, [.ref a0, .int a1, .int a2, .int a3, .int a4, .int a5] => b_X11_sure_63 n (f_X11_sure n) a0 a1 a2 a3 a4 a5 P
    | 146, [.ref a0, .int a1, .int a2, .int a3, .int a4, .int a5] => b_X11_sure_146 n (f_X11_sure n) a0 a1 a2 a3 a4 a5 P
    | _, _ => none
set_option maxHeartbeats 2000000 in
set_option maxRecDepth 20000 in
theorem t_X11_sure_0 {G : xG} {l : Launch} (hl : l.stackTraces = false) {n : Nat} {rec : Nat → List Value → xH → xO} (hrec : ∀ pc env P z, rec pc env P = some z → ∀ L st, lay_X11_sure pc env = some (L, st) → ∀ Q : xR → xH → Prop, Q z.1 z.2 → Wp G l 9 mX11_sure pc L st P Q) {a0 a1 a2} {P : xH} {z : xR × xH} (h : b_X11_sure_0 n rec a0 a1 a2 P = some z) {Q : xR → xH → Prop} (hQ : Q z.1 z.2) : Wp G l 9 mX11_sure 0 [some (.ref a0), some (.int a1), some (.int a2), none, none, none] [] P Q := by
  unfold b_X11_sure_0 at h
  refine x_aload_nr dX11_sure_0 rfl ?_
  refine x_iconst 0 dX11_sure_1 (by decide) ?_
  obtain ⟨P1, e2, h⟩ := Option.bind_eq_some_iff.mp h
  refine k_wI e2 dX11_sure_2 f_X11_3 (Or.inl (by decide)) rfl ?_
  refine x_aload_nr dX11_sure_5 rfl ?_
  refine x_iload_n dX11_sure_6 rfl ?_
  obtain ⟨r4, e5, h⟩ := Option.bind_eq_some_iff.mp h
  replace h := xI_ok h
  obtain ⟨v6, P3, rfl, h⟩ := h
  refine x_callS (c_X11_noPerson hl e5) dX11_sure_7 cw_X11_noPerson wl_X11_312 ws_X11_noPerson rfl (by omega) (by decide) rfl (Nat.le_of_ble_eq_true rfl) rfl (fun v9 P9 hq9 => ?_) (fun i9 P9 hq9 => by cases hq9)
  cases hq9
  refine x_if_ne 20 dX11_sure_10 (by decide) (fun q12 => ?_) (fun q12 => ?_)
  · rw [if_pos q12] at h
    refine x_iconst 1 dX11_sure_20 (by decide) ?_
    refine x_goto 25 dX11_sure_21 (by decide) ?_
    exact Wp.mask [true, true, true, false, false, false] (hrec 25 _ _ _ h _ _ rfl _ hQ)
  · rw [if_neg (fun z9 => z9 q12)] at h
    refine x_iload_n dX11_sure_13 rfl ?_
    obtain ⟨r8, e9, h⟩ := Option.bind_eq_some_iff.mp h
    replace h := xI_ok h
    obtain ⟨v10, P7, rfl, h⟩ := h
    refine x_callS (c_X11_noPlace hl e9) dX11_sure_14 cw_X11_noPlace wl_X11_89 ws_X11_noPlace rfl (by omega) (by decide) rfl (Nat.le_of_ble_eq_true rfl) rfl (fun v9 P9 hq9 => ?_) (fun i9 P9 hq9 => by cases hq9)
    cases hq9
    refine x_if_eq 24 dX11_sure_17 (by decide) (fun q11 => ?_) (fun q11 => ?_)
    · rw [if_pos q11] at h
      refine x_iconst 0 dX11_sure_24 (by decide) ?_
      exact Wp.mask [true, true, true, false, false, false] (hrec 25 _ _ _ h _ _ rfl _ hQ)
    · rw [if_neg q11] at h
      refine x_iconst 1 dX11_sure_20 (by decide) ?_
      refine x_goto 25 dX11_sure_21 (by decide) ?_
      exact Wp.mask [true, true, true, false, false, false] (hrec 25 _ _ _ h _ _ rfl _ hQ)
set_option maxHeartbeats 2000000 in
set_option maxRecDepth 20000 in
theorem t_X11_sure_25 {G : xG} {l : Launch} (hl : l.stackTraces = false) {n : Nat} {rec : Nat → List Value → xH → xO} (hrec : ∀ pc env P z, rec pc env P = some z → ∀ L st, lay_X11_sure pc env = some (L, st) → ∀ Q : xR → xH → Prop, Q z.1 z.2 → Wp G l 9 mX11_sure pc L st P Q) {a0 a1 a2 s0 s1} {P : xH} {z : xR × xH} (h : b_X11_sure_25 n rec a0 a1 a2 s0 s1 P = some z) {Q : xR → xH → Prop} (hQ : Q z.1 z.2) : Wp G l 9 mX11_sure 25 [some (.ref a0), some (.int a1), some (.int a2), none, none, none] [.int s1, .ref s0] P Q := by
  unfold b_X11_sure_25 at h
  refine x_iconst 1 dX11_sure_25 (by decide) ?_
  obtain ⟨_, e5, h⟩ := Option.bind_eq_some_iff.mp h
  obtain ⟨fse5, e5⟩ := kO_ok e5
  obtain ⟨r2, e3, h⟩ := Option.bind_eq_some_iff.mp h
  replace h := xI_ok h
  obtain ⟨v4, P1, rfl, h⟩ := h
  refine x_callV (c_X11_throwsIf hl e3) dX11_sure_26 cw_X11_throwsIf wl_X11_93 wi_X11_throwsIf wse_X11_throwsIf rfl e5 (by decide) rfl (by omega) (by decide) rfl (Nat.le_of_ble_eq_true rfl) rfl (fun v9 P9 hq9 => ?_) (fun i9 P9 hq9 => by cases hq9)
  cases hq9
  refine x_if_eq 34 dX11_sure_29 (by decide) (fun q15 => ?_) (fun q15 => ?_)
  · rw [if_pos q15] at h
    refine x_aload_nr dX11_sure_34 rfl ?_
    refine x_iload_n dX11_sure_35 rfl ?_
    refine x_aload_nr dX11_sure_36 rfl ?_
    obtain ⟨_, e10, h⟩ := Option.bind_eq_some_iff.mp h
    obtain ⟨fse10, e10⟩ := kO_ok e10
    obtain ⟨r7, e8, h⟩ := Option.bind_eq_some_iff.mp h
    replace h := xI_ok h
    obtain ⟨v9, P6, rfl, h⟩ := h
    refine x_callV (c_X11_tick hl e8) dX11_sure_37 cw_X11_tick wl_X11_97 wi_X11_tick wse_X11_tick rfl e10 (by decide) rfl (by omega) (by decide) rfl (Nat.le_of_ble_eq_true rfl) rfl (fun v9 P9 hq9 => ?_) (fun i9 P9 hq9 => by cases hq9)
    cases hq9
    obtain ⟨_, e14, h⟩ := Option.bind_eq_some_iff.mp h
    obtain ⟨fse14, e14⟩ := kO_ok e14
    obtain ⟨r12, e13, h⟩ := Option.bind_eq_some_iff.mp h
    replace h := xU_ok h
    obtain ⟨P11, rfl, h⟩ := h
    refine x_callV (c_X11_gathers hl e13) dX11_sure_40 cw_X11_gathers wl_X11_337 wi_X11_gathers wse_X11_gathers rfl e14 (by decide) rfl (by omega) (by decide) rfl (Nat.le_of_ble_eq_true rfl) rfl (fun v9 P9 hq9 => ?_) (fun i9 P9 hq9 => by cases hq9)
    cases hq9
    refine x_iconst 0 dX11_sure_43 (by decide) ?_
    refine x_istore_n dX11_sure_44 (Nat.le_of_ble_eq_true rfl) ?_
    refine x_iconst 0 dX11_sure_45 (by decide) ?_
    refine x_istore dX11_sure_46 (Nat.le_of_ble_eq_true rfl) ?_
    exact Wp.mask [true, true, true, true, true, false] (hrec 48 _ _ _ h _ _ rfl _ hQ)
  · rw [if_neg q15] at h
    refine x_iconst 0 dX11_sure_32 (by decide) ?_
    cases h
    exact x_iret .int rfl rfl dX11_sure_33 hQ
set_option maxHeartbeats 2000000 in
set_option maxRecDepth 20000 in
theorem t_X11_sure_48 {G : xG} {l : Launch} (hl : l.stackTraces = false) {n : Nat} {rec : Nat → List Value → xH → xO} (hrec : ∀ pc env P z, rec pc env P = some z → ∀ L st, lay_X11_sure pc env = some (L, st) → ∀ Q : xR → xH → Prop, Q z.1 z.2 → Wp G l 9 mX11_sure pc L st P Q) {a0 a1 a2 a3 a4} {P : xH} {z : xR × xH} (h : b_X11_sure_48 n rec a0 a1 a2 a3 a4 P = some z) {Q : xR → xH → Prop} (hQ : Q z.1 z.2) : Wp G l 9 mX11_sure 48 [some (.ref a0), some (.int a1), some (.int a2), some (.int a3), some (.int a4), none] [] P Q := by
  unfold b_X11_sure_48 at h
  refine x_iload dX11_sure_48 rfl ?_
  refine x_aload_nr dX11_sure_50 rfl ?_
  obtain ⟨v1, e2, h⟩ := Option.bind_eq_some_iff.mp h
  refine k_rI e2 dX11_sure_51 f_X11_328 ?_
  refine x_icmp_ge 140 dX11_sure_54 (by decide) (fun q3 => ?_) (fun q3 => ?_)
  · rw [if_pos q3] at h
    refine x_iconst 0 dX11_sure_140 (by decide) ?_
    refine x_istore dX11_sure_141 (Nat.le_of_ble_eq_true rfl) ?_
    refine x_iconst 0 dX11_sure_143 (by decide) ?_
    refine x_istore dX11_sure_144 (Nat.le_of_ble_eq_true rfl) ?_
    exact Wp.mask [true, true, true, true, true, true] (hrec 146 _ _ _ h _ _ rfl _ hQ)
  · rw [if_neg q3] at h
    refine x_iload dX11_sure_57 rfl ?_
    refine x_iconst 1 dX11_sure_59 (by decide) ?_
    refine x_iadd dX11_sure_60 ?_
    refine x_istore dX11_sure_61 (Nat.le_of_ble_eq_true rfl) ?_
    exact Wp.mask [true, true, true, true, true, true] (hrec 63 _ _ _ h _ _ rfl _ hQ)
set_option maxHeartbeats 2000000 in
set_option maxRecDepth 20000 in
theorem t_X11_sure_63 {G : xG} {l : Launch} (hl : l.stackTraces = false) {n : Nat} {rec : Nat → List Value → xH → xO} (hrec : ∀ pc env P z, rec pc env P = some z → ∀ L st, lay_X11_sure pc env = some (L, st) → ∀ Q : xR → xH → Prop, Q z.1 z.2 → Wp G l 9 mX11_sure pc L st P Q) {a0 a1 a2 a3 a4 a5} {P : xH} {z : xR × xH} (h : b_X11_sure_63 n rec a0 a1 a2 a3 a4 a5 P = some z) {Q : xR → xH → Prop} (hQ : Q z.1 z.2) : Wp G l 9 mX11_sure 63 [some (.ref a0), some (.int a1), some (.int a2), some (.int a3), some (.int a4), some (.int a5)] [] P Q := by
  unfold b_X11_sure_63 at h
  refine x_iload dX11_sure_63 rfl ?_
  refine x_aload_nr dX11_sure_65 rfl ?_
  obtain ⟨v1, e2, h⟩ := Option.bind_eq_some_iff.mp h
  refine k_rI e2 dX11_sure_66 f_X11_328 ?_
  refine x_icmp_ge 101 dX11_sure_69 (by decide) (fun q36 => ?_) (fun q36 => ?_)
  · rw [if_pos q36] at h
    refine x_aload_nr dX11_sure_101 rfl ?_
    refine x_aload_nr dX11_sure_102 rfl ?_
    obtain ⟨v3, e4, h⟩ := Option.bind_eq_some_iff.mp h
    refine k_rA e4 dX11_sure_103 f_X11_49 ?_
    refine x_iload dX11_sure_106 rfl ?_
    obtain ⟨v5, e6, h⟩ := Option.bind_eq_some_iff.mp h
    refine k_aI e6 dX11_sure_108 ?_
    refine x_iconst 5 dX11_sure_109 (by decide) ?_
    obtain ⟨_, e11, h⟩ := Option.bind_eq_some_iff.mp h
    obtain ⟨fse11, e11⟩ := kO_ok e11
    obtain ⟨r8, e9, h⟩ := Option.bind_eq_some_iff.mp h
    replace h := xI_ok h
    obtain ⟨v10, P7, rfl, h⟩ := h
    refine x_callV (c_X11_of hl e9) dX11_sure_110 cw_X11_of wl_X11_240 wi_X11_of wse_X11_of rfl e11 (by decide) rfl (by omega) (by decide) rfl (Nat.le_of_ble_eq_true rfl) rfl (fun v9 P9 hq9 => ?_) (fun i9 P9 hq9 => by cases hq9)
    cases hq9
    refine x_iload_n dX11_sure_113 rfl ?_
    refine x_icmp_ne 134 dX11_sure_114 (by decide) (fun q21 => ?_) (fun q21 => ?_)
    · rw [if_pos q21] at h
      refine x_iinc (a4 + 1) dX11_sure_134 rfl (by rfl) ?_
      refine x_goto 48 dX11_sure_137 (by decide) ?_
      exact Wp.mask [true, true, true, true, true, false] (hrec 48 _ _ _ h _ _ rfl _ hQ)
    · rw [if_neg (fun z9 => z9 q21)] at h
      refine x_iload_n dX11_sure_117 rfl ?_
      refine x_iconst 1 dX11_sure_118 (by decide) ?_
      refine x_aload_nr dX11_sure_119 rfl ?_
      refine x_aload_nr dX11_sure_120 rfl ?_
      obtain ⟨v12, e13, h⟩ := Option.bind_eq_some_iff.mp h
      refine k_rA e13 dX11_sure_121 f_X11_49 ?_
      refine x_iload dX11_sure_124 rfl ?_
      obtain ⟨v14, e15, h⟩ := Option.bind_eq_some_iff.mp h
      refine k_aI e15 dX11_sure_126 ?_
      refine x_iconst 1 dX11_sure_127 (by decide) ?_
      obtain ⟨_, e20, h⟩ := Option.bind_eq_some_iff.mp h
      obtain ⟨fse20, e20⟩ := kO_ok e20
      obtain ⟨r17, e18, h⟩ := Option.bind_eq_some_iff.mp h
      replace h := xI_ok h
      obtain ⟨v19, P16, rfl, h⟩ := h
      refine x_callV (c_X11_of hl e18) dX11_sure_128 cw_X11_of wl_X11_240 wi_X11_of wse_X11_of rfl e20 (by decide) rfl (by omega) (by decide) rfl (Nat.le_of_ble_eq_true rfl) rfl (fun v9 P9 hq9 => ?_) (fun i9 P9 hq9 => by cases hq9)
      cases hq9
      refine x_ishl dX11_sure_131 ?_
      refine x_ior dX11_sure_132 ?_
      refine x_istore_n dX11_sure_133 (Nat.le_of_ble_eq_true rfl) ?_
      refine x_iinc (a4 + 1) dX11_sure_134 rfl (by rfl) ?_
      refine x_goto 48 dX11_sure_137 (by decide) ?_
      exact Wp.mask [true, true, true, true, true, false] (hrec 48 _ _ _ h _ _ rfl _ hQ)
  · rw [if_neg q36] at h
    refine x_aload_nr dX11_sure_72 rfl ?_
    refine x_aload_nr dX11_sure_73 rfl ?_
    obtain ⟨v22, e23, h⟩ := Option.bind_eq_some_iff.mp h
    refine k_rA e23 dX11_sure_74 f_X11_49 ?_
    refine x_iload dX11_sure_77 rfl ?_
    obtain ⟨v24, e25, h⟩ := Option.bind_eq_some_iff.mp h
    refine k_aI e25 dX11_sure_79 ?_
    refine x_aload_nr dX11_sure_80 rfl ?_
    obtain ⟨v26, e27, h⟩ := Option.bind_eq_some_iff.mp h
    refine k_rA e27 dX11_sure_81 f_X11_49 ?_
    refine x_iload dX11_sure_84 rfl ?_
    obtain ⟨v28, e29, h⟩ := Option.bind_eq_some_iff.mp h
    refine k_aI e29 dX11_sure_86 ?_
    obtain ⟨_, e34, h⟩ := Option.bind_eq_some_iff.mp h
    obtain ⟨fse34, e34⟩ := kO_ok e34
    obtain ⟨r31, e32, h⟩ := Option.bind_eq_some_iff.mp h
    replace h := xI_ok h
    obtain ⟨v33, P30, rfl, h⟩ := h
    refine x_callV (c_X11_against hl e32) dX11_sure_87 cw_X11_against wl_X11_348 wi_X11_against wse_X11_against rfl e34 (by decide) rfl (by omega) (by decide) rfl (Nat.le_of_ble_eq_true rfl) rfl (fun v9 P9 hq9 => ?_) (fun i9 P9 hq9 => by cases hq9)
    cases hq9
    refine x_if_eq 95 dX11_sure_90 (by decide) (fun q35 => ?_) (fun q35 => ?_)
    · rw [if_pos q35] at h
      refine x_iinc (a5 + 1) dX11_sure_95 rfl (by rfl) ?_
      refine x_goto 63 dX11_sure_98 (by decide) ?_
      exact Wp.mask [true, true, true, true, true, true] (hrec 63 _ _ _ h _ _ rfl _ hQ)
    · rw [if_neg q35] at h
      refine x_iconst 0 dX11_sure_93 (by decide) ?_
      cases h
      exact x_iret .int rfl rfl dX11_sure_94 hQ
set_option maxHeartbeats 2000000 in
set_option maxRecDepth 20000 in
theorem t_X11_sure_146 {G : xG} {l : Launch} (hl : l.stackTraces = false) {n : Nat} {rec : Nat → List Value → xH → xO} (hrec : ∀ pc env P z, rec pc env P = some z → ∀ L st, lay_X11_sure pc env = some (L, st) → ∀ Q : xR → xH → Prop, Q z.1 z.2 → Wp G l 9 mX11_sure pc L st P Q) {a0 a1 a2 a3 a4 a5} {P : xH} {z : xR × xH} (h : b_X11_sure_146 n rec a0 a1 a2 a3 a4 a5 P = some z) {Q : xR → xH → Prop} (hQ : Q z.1 z.2) : Wp G l 9 mX11_sure 146 [some (.ref a0), some (.int a1), some (.int a2), some (.int a3), some (.int a4), some (.int a5)] [] P Q := by
  unfold b_X11_sure_146 at h
  refine x_iload dX11_sure_146 rfl ?_
  refine x_aload_nr dX11_sure_148 rfl ?_
  obtain ⟨_, e5, h⟩ := Option.bind_eq_some_iff.mp h
  obtain ⟨fse5, e5⟩ := kO_ok e5
  obtain ⟨r2, e3, h⟩ := Option.bind_eq_some_iff.mp h
  replace h := xI_ok h
  obtain ⟨v4, P1, rfl, h⟩ := h
  refine x_callV (c_X11_phones hl e3) dX11_sure_149 cw_X11_phones wl_X11_64 wi_X11_phones wse_X11_phones rfl e5 (by decide) rfl (by omega) (by decide) rfl (Nat.le_of_ble_eq_true rfl) rfl (fun v9 P9 hq9 => ?_) (fun i9 P9 hq9 => by cases hq9)
  cases hq9
  refine x_icmp_ge 186 dX11_sure_152 (by decide) (fun q12 => ?_) (fun q12 => ?_)
  · rw [if_pos q12] at h
    refine x_iload dX11_sure_186 rfl ?_
    cases h
    exact x_iret .int rfl rfl dX11_sure_188 hQ
  · rw [if_neg q12] at h
    refine x_iload dX11_sure_155 rfl ?_
    refine x_iload_n dX11_sure_157 rfl ?_
    refine x_iload dX11_sure_158 rfl ?_
    refine x_ishr dX11_sure_160 ?_
    refine x_iconst 1 dX11_sure_161 (by decide) ?_
    refine x_iand dX11_sure_162 ?_
    refine x_iconst 1 dX11_sure_163 (by decide) ?_
    refine x_icmp_ne 176 dX11_sure_164 (by decide) (fun q11 => ?_) (fun q11 => ?_)
    · rw [if_pos q11] at h
      refine x_iconst 0 dX11_sure_176 (by decide) ?_
      refine x_iadd dX11_sure_177 ?_
      refine x_istore dX11_sure_178 (Nat.le_of_ble_eq_true rfl) ?_
      refine x_iinc (a5 + 1) dX11_sure_180 rfl (by rfl) ?_
      refine x_goto 146 dX11_sure_183 (by decide) ?_
      exact Wp.mask [true, true, true, true, true, true] (hrec 146 _ _ _ h _ _ rfl _ hQ)
    · rw [if_neg (fun z9 => z9 q11)] at h
      refine x_aload_nr dX11_sure_167 rfl ?_
      refine x_iload dX11_sure_168 rfl ?_
      obtain ⟨_, e10, h⟩ := Option.bind_eq_some_iff.mp h
      obtain ⟨fse10, e10⟩ := kO_ok e10
      obtain ⟨r7, e8, h⟩ := Option.bind_eq_some_iff.mp h
      replace h := xI_ok h
      obtain ⟨v9, P6, rfl, h⟩ := h
      refine x_callV (c_X11_weightOf hl e8) dX11_sure_170 cw_X11_weightOf wl_X11_351 wi_X11_weightOf wse_X11_weightOf rfl e10 (by decide) rfl (by omega) (by decide) rfl (Nat.le_of_ble_eq_true rfl) rfl (fun v9 P9 hq9 => ?_) (fun i9 P9 hq9 => by cases hq9)
      cases hq9
      refine x_goto 177 dX11_sure_173 (by decide) ?_
      refine x_iadd dX11_sure_177 ?_
      refine x_istore dX11_sure_178 (Nat.le_of_ble_eq_true rfl) ?_
      refine x_iinc (a5 + 1) dX11_sure_180 rfl (by rfl) ?_
      refine x_goto 146 dX11_sure_183 (by decide) ?_
      exact Wp.mask [true, true, true, true, true, true] (hrec 146 _ _ _ h _ _ rfl _ hQ)
theorem s_X11_sure {G : xG} {l : Launch} (hl : l.stackTraces = false) : ∀ n pc env P z, f_X11_sure n pc env P = some z → ∀ L st, lay_X11_sure pc env = some (L, st) → ∀ Q : xR → xH → Prop, Q z.1 z.2 → Wp G l 9 mX11_sure pc L st P Q := by
  intro n
  induction n with
  | zero => intro pc env P z h; cases h
  | succ n ih =>
    intro pc env P z h L st hlay Q hQ
    unfold f_X11_sure at h
    split at h
    · cases hlay
      exact t_X11_sure_0 hl ih h hQ
    · cases hlay
      exact t_X11_sure_25 hl ih h hQ
    · cases hlay
      exact t_X11_sure_48 hl ih h hQ
    · cases hlay
      exact t_X11_sure_63 hl ih h hQ
    · cases hlay
      exact t_X11_sure_146 hl ih h hQ
    · cases h
theorem c_X11_sure {G : xG} {l : Launch} (hl : l.stackTraces = false) {n : Nat} {as : List Value} {P : xH} {z : xR × xH} (h : f_X11_sure n 0 as P = some z) : Ct G l 9 mX11_sure as P (fun r P1 => (r, P1) = z) := by
  cases n with
  | zero => cases h
  | succ n =>
    unfold f_X11_sure at h
    split at h
    · exact Ct.of hl (by decide +kernel) wc_X11_sure (Nat.le_of_ble_eq_true rfl) (t_X11_sure_0 hl (s_X11_sure hl _) h rfl)
    all_goals first | (cases h; done) | (rename_i q9 _; exact absurd q9 (by decide)) | (rename_i q9; exact absurd q9 (by decide)) | contradiction
/-! QuakeNetModel.describe(III)I -/
def b_X11_describe_0 (n : Nat) (rec : Nat → List Value → xH → xO) (a0 : Nat) (a1 : Int32) (a2 : Int32) (a3 : Int32) (P : xH) : xO :=
  (wV P a0 11 0 (.int 0)).bind fun P1 =>
  (f_X11_in n 0 [.int a1, .int ((-1)), .int 99] P1).bind fun r4 => xI r4 fun v6 P3 =>
  if v6 = 0 then
    rec 41 [.ref a0, .int a1, .int a2, .int a3, .ref a0, .int 1] P3
  else
    (f_X11_in n 0 [.int a2, .int ((-1)), .int 99] P3).bind fun r8 => xI r8 fun v10 P7 =>
    if v10 = 0 then
      rec 41 [.ref a0, .int a1, .int a2, .int a3, .ref a0, .int 1] P7
    else
      (f_X11_in n 0 [.int a3, .int ((-1)), .int 9] P7).bind fun r12 => xI r12 fun v14 P11 =>
      if ¬ v14 = 0 then
        rec 41 [.ref a0, .int a1, .int a2, .int a3, .ref a0, .int 0] P11
      else
        rec 41 [.ref a0, .int a1, .int a2, .int a3, .ref a0, .int 1] P11
def b_X11_describe_41 (n : Nat) (rec : Nat → List Value → xH → xO) (a0 : Nat) (a1 : Int32) (a2 : Int32) (a3 : Int32) (s0 : Nat) (s1 : Int32) (P : xH) : xO :=
  (kO P s0 11).bind fun _ =>
  (f_X11_throwsIf n 0 [.ref s0, .int s1, .int 1] P).bind fun r2 => xI r2 fun v4 P1 =>
  if v4 = 0 then
    (rA P1 a0 11 3).bind fun v6 =>
    (aI P1 v6 8).bind fun v8 =>
    if ¬ v8 = 7 then
      (rA P1 a0 11 3).bind fun v10 =>
      (sI P1 v10 ((1061 + ((3 * v8)))) a1).bind fun P12 =>
      (rA P12 a0 11 3).bind fun v14 =>
      (sI P12 v14 ((((1061 + ((3 * v8)))) + 1)) a2).bind fun P16 =>
      (rA P16 a0 11 3).bind fun v18 =>
      (sI P16 v18 ((((1061 + ((3 * v8)))) + 2)) a3).bind fun P20 =>
      (rA P20 a0 11 3).bind fun v22 =>
      (aI P20 v22 8).bind fun v24 =>
      (sI P20 v22 8 ((v24 + 1))).bind fun P26 =>
      some (.inl (some (.int v8)), P26)
    else
      some (.inl (some (.int ((-1)))), P1)
  else
    some (.inl (some (.int 0)), P1)
def lay_X11_describe : Nat → List Value → Option (xL × List Value)
  | 0, [a0, a1, a2, a3] => some ([some a0, some a1, some a2, some a3, none], [])
  | 41, [a0, a1, a2, a3, s0, s1] => some ([some a0, some a1, some a2, some a3, none], [s1, s0])
  | _, _ => none
def f_X11_describe : Nat → Nat → List Value → xH → xO
  | 0 => fun _ _ _ => none
  | n + 1 => fun pc env P => match pc, env with
    | 0, [.ref a0, .int a1, .int a2, .int a3] => b_X11_describe_0 n (f_X11_describe n) a0 a1 a2 a3 P
    | 41, [.ref a0, .int a1, .int a2, .int a3, .ref s0, .int s1] => b_X11_describe_41 n (f_X11_describe n) a0 a1 a2 a3 s0 s1 P
    | _, _ => none
set_option maxHeartbeats 2000000 in
set_option maxRecDepth 20000 in
theorem t_X11_describe_0 {G : xG} {l : Launch} (hl : l.stackTraces = false) {n : Nat} {rec : Nat → List Value → xH → xO} (hrec : ∀ pc env P z, rec pc env P = some z → ∀ L st, lay_X11_describe pc env = some (L, st) → ∀ Q : xR → xH → Prop, Q z.1 z.2 → Wp G l 4 mX11_describe pc L st P Q) {a0 a1 a2 a3} {P : xH} {z : xR × xH} (h : b_X11_describe_0 n rec a0 a1 a2 a3 P = some z) {Q : xR → xH → Prop} (hQ : Q z.1 z.2) : Wp G l 4 mX11_describe 0 [some (.ref a0), some (.int a1), some (.int a2), some (.int a3), none] [] P Q := by
  unfold b_X11_describe_0 at h
  refine x_aload_nr dX11_describe_0 rfl ?_
  refine x_iconst 0 dX11_describe_1 (by decide) ?_
  obtain ⟨P1, e2, h⟩ := Option.bind_eq_some_iff.mp h
  refine k_wI e2 dX11_describe_2 f_X11_3 (Or.inl (by decide)) rfl ?_
  refine x_aload_nr dX11_describe_5 rfl ?_
  refine x_iload_n dX11_describe_6 rfl ?_
  refine x_iconst (-1) dX11_describe_7 (by decide) ?_
  refine x_bipush 99 dX11_describe_8 (by decide) ?_
  obtain ⟨r4, e5, h⟩ := Option.bind_eq_some_iff.mp h
  replace h := xI_ok h
  obtain ⟨v6, P3, rfl, h⟩ := h
  refine x_callS (c_X11_in hl e5) dX11_describe_10 cw_X11_in wl_X11_68 ws_X11_in rfl (by omega) (by decide) rfl (Nat.le_of_ble_eq_true rfl) rfl (fun v9 P9 hq9 => ?_) (fun i9 P9 hq9 => by cases hq9)
  cases hq9
  refine x_if_eq 36 dX11_describe_13 (by decide) (fun q17 => ?_) (fun q17 => ?_)
  · rw [if_pos q17] at h
    refine x_iconst 1 dX11_describe_36 (by decide) ?_
    refine x_goto 41 dX11_describe_37 (by decide) ?_
    exact Wp.mask [true, true, true, true, false] (hrec 41 _ _ _ h _ _ rfl _ hQ)
  · rw [if_neg q17] at h
    refine x_iload_n dX11_describe_16 rfl ?_
    refine x_iconst (-1) dX11_describe_17 (by decide) ?_
    refine x_bipush 99 dX11_describe_18 (by decide) ?_
    obtain ⟨r8, e9, h⟩ := Option.bind_eq_some_iff.mp h
    replace h := xI_ok h
    obtain ⟨v10, P7, rfl, h⟩ := h
    refine x_callS (c_X11_in hl e9) dX11_describe_20 cw_X11_in wl_X11_68 ws_X11_in rfl (by omega) (by decide) rfl (Nat.le_of_ble_eq_true rfl) rfl (fun v9 P9 hq9 => ?_) (fun i9 P9 hq9 => by cases hq9)
    cases hq9
    refine x_if_eq 36 dX11_describe_23 (by decide) (fun q16 => ?_) (fun q16 => ?_)
    · rw [if_pos q16] at h
      refine x_iconst 1 dX11_describe_36 (by decide) ?_
      refine x_goto 41 dX11_describe_37 (by decide) ?_
      exact Wp.mask [true, true, true, true, false] (hrec 41 _ _ _ h _ _ rfl _ hQ)
    · rw [if_neg q16] at h
      refine x_iload_n dX11_describe_26 rfl ?_
      refine x_iconst (-1) dX11_describe_27 (by decide) ?_
      refine x_bipush 9 dX11_describe_28 (by decide) ?_
      obtain ⟨r12, e13, h⟩ := Option.bind_eq_some_iff.mp h
      replace h := xI_ok h
      obtain ⟨v14, P11, rfl, h⟩ := h
      refine x_callS (c_X11_in hl e13) dX11_describe_30 cw_X11_in wl_X11_68 ws_X11_in rfl (by omega) (by decide) rfl (Nat.le_of_ble_eq_true rfl) rfl (fun v9 P9 hq9 => ?_) (fun i9 P9 hq9 => by cases hq9)
      cases hq9
      refine x_if_ne 40 dX11_describe_33 (by decide) (fun q15 => ?_) (fun q15 => ?_)
      · rw [if_pos q15] at h
        refine x_iconst 0 dX11_describe_40 (by decide) ?_
        exact Wp.mask [true, true, true, true, false] (hrec 41 _ _ _ h _ _ rfl _ hQ)
      · rw [if_neg (fun z9 => z9 q15)] at h
        refine x_iconst 1 dX11_describe_36 (by decide) ?_
        refine x_goto 41 dX11_describe_37 (by decide) ?_
        exact Wp.mask [true, true, true, true, false] (hrec 41 _ _ _ h _ _ rfl _ hQ)
set_option maxHeartbeats 2000000 in
set_option maxRecDepth 20000 in
theorem t_X11_describe_41 {G : xG} {l : Launch} (hl : l.stackTraces = false) {n : Nat} {rec : Nat → List Value → xH → xO} (hrec : ∀ pc env P z, rec pc env P = some z → ∀ L st, lay_X11_describe pc env = some (L, st) → ∀ Q : xR → xH → Prop, Q z.1 z.2 → Wp G l 4 mX11_describe pc L st P Q) {a0 a1 a2 a3 s0 s1} {P : xH} {z : xR × xH} (h : b_X11_describe_41 n rec a0 a1 a2 a3 s0 s1 P = some z) {Q : xR → xH → Prop} (hQ : Q z.1 z.2) : Wp G l 4 mX11_describe 41 [some (.ref a0), some (.int a1), some (.int a2), some (.int a3), none] [.int s1, .ref s0] P Q := by
  unfold b_X11_describe_41 at h
  refine x_iconst 1 dX11_describe_41 (by decide) ?_
  obtain ⟨_, e5, h⟩ := Option.bind_eq_some_iff.mp h
  obtain ⟨fse5, e5⟩ := kO_ok e5
  obtain ⟨r2, e3, h⟩ := Option.bind_eq_some_iff.mp h
  replace h := xI_ok h
  obtain ⟨v4, P1, rfl, h⟩ := h
  refine x_callV (c_X11_throwsIf hl e3) dX11_describe_42 cw_X11_throwsIf wl_X11_93 wi_X11_throwsIf wse_X11_throwsIf rfl e5 (by decide) rfl (by omega) (by decide) rfl (Nat.le_of_ble_eq_true rfl) rfl (fun v9 P9 hq9 => ?_) (fun i9 P9 hq9 => by cases hq9)
  cases hq9
  refine x_if_eq 50 dX11_describe_45 (by decide) (fun q29 => ?_) (fun q29 => ?_)
  · rw [if_pos q29] at h
    refine x_aload_nr dX11_describe_50 rfl ?_
    obtain ⟨v6, e7, h⟩ := Option.bind_eq_some_iff.mp h
    refine k_rA e7 dX11_describe_51 f_X11_20 ?_
    refine x_bipush 8 dX11_describe_54 (by decide) ?_
    obtain ⟨v8, e9, h⟩ := Option.bind_eq_some_iff.mp h
    refine k_aI e9 dX11_describe_56 ?_
    refine x_istore dX11_describe_57 (Nat.le_of_ble_eq_true rfl) ?_
    refine x_iload dX11_describe_59 rfl ?_
    refine x_bipush 7 dX11_describe_61 (by decide) ?_
    refine x_icmp_ne 68 dX11_describe_63 (by decide) (fun q28 => ?_) (fun q28 => ?_)
    · rw [if_pos q28] at h
      refine x_aload_nr dX11_describe_68 rfl ?_
      obtain ⟨v10, e11, h⟩ := Option.bind_eq_some_iff.mp h
      refine k_rA e11 dX11_describe_69 f_X11_20 ?_
      refine x_sipush 1061 dX11_describe_72 (by decide) ?_
      refine x_iconst 3 dX11_describe_75 (by decide) ?_
      refine x_iload dX11_describe_76 rfl ?_
      refine x_imul dX11_describe_78 ?_
      refine x_iadd dX11_describe_79 ?_
      refine x_iload_n dX11_describe_80 rfl ?_
      obtain ⟨P12, e13, h⟩ := Option.bind_eq_some_iff.mp h
      refine k_sI e13 dX11_describe_81 ?_
      refine x_aload_nr dX11_describe_82 rfl ?_
      obtain ⟨v14, e15, h⟩ := Option.bind_eq_some_iff.mp h
      refine k_rA e15 dX11_describe_83 f_X11_20 ?_
      refine x_sipush 1061 dX11_describe_86 (by decide) ?_
      refine x_iconst 3 dX11_describe_89 (by decide) ?_
      refine x_iload dX11_describe_90 rfl ?_
      refine x_imul dX11_describe_92 ?_
      refine x_iadd dX11_describe_93 ?_
      refine x_iconst 1 dX11_describe_94 (by decide) ?_
      refine x_iadd dX11_describe_95 ?_
      refine x_iload_n dX11_describe_96 rfl ?_
      obtain ⟨P16, e17, h⟩ := Option.bind_eq_some_iff.mp h
      refine k_sI e17 dX11_describe_97 ?_
      refine x_aload_nr dX11_describe_98 rfl ?_
      obtain ⟨v18, e19, h⟩ := Option.bind_eq_some_iff.mp h
      refine k_rA e19 dX11_describe_99 f_X11_20 ?_
      refine x_sipush 1061 dX11_describe_102 (by decide) ?_
      refine x_iconst 3 dX11_describe_105 (by decide) ?_
      refine x_iload dX11_describe_106 rfl ?_
      refine x_imul dX11_describe_108 ?_
      refine x_iadd dX11_describe_109 ?_
      refine x_iconst 2 dX11_describe_110 (by decide) ?_
      refine x_iadd dX11_describe_111 ?_
      refine x_iload_n dX11_describe_112 rfl ?_
      obtain ⟨P20, e21, h⟩ := Option.bind_eq_some_iff.mp h
      refine k_sI e21 dX11_describe_113 ?_
      refine x_aload_nr dX11_describe_114 rfl ?_
      obtain ⟨v22, e23, h⟩ := Option.bind_eq_some_iff.mp h
      refine k_rA e23 dX11_describe_115 f_X11_20 ?_
      refine x_bipush 8 dX11_describe_118 (by decide) ?_
      refine x_dup2 dX11_describe_120 rfl rfl ?_
      obtain ⟨v24, e25, h⟩ := Option.bind_eq_some_iff.mp h
      refine k_aI e25 dX11_describe_121 ?_
      refine x_iconst 1 dX11_describe_122 (by decide) ?_
      refine x_iadd dX11_describe_123 ?_
      obtain ⟨P26, e27, h⟩ := Option.bind_eq_some_iff.mp h
      refine k_sI e27 dX11_describe_124 ?_
      refine x_iload dX11_describe_125 rfl ?_
      cases h
      exact x_iret .int rfl rfl dX11_describe_127 hQ
    · rw [if_neg (fun z9 => z9 q28)] at h
      refine x_iconst (-1) dX11_describe_66 (by decide) ?_
      cases h
      exact x_iret .int rfl rfl dX11_describe_67 hQ
  · rw [if_neg q29] at h
    refine x_iconst 0 dX11_describe_48 (by decide) ?_
    cases h
    exact x_iret .int rfl rfl dX11_describe_49 hQ
theorem s_X11_describe {G : xG} {l : Launch} (hl : l.stackTraces = false) : ∀ n pc env P z, f_X11_describe n pc env P = some z → ∀ L st, lay_X11_describe pc env = some (L, st) → ∀ Q : xR → xH → Prop, Q z.1 z.2 → Wp G l 4 mX11_describe pc L st P Q := by
  intro n
  induction n with
  | zero => intro pc env P z h; cases h
  | succ n ih =>
    intro pc env P z h L st hlay Q hQ
    unfold f_X11_describe at h
    split at h
    · cases hlay
      exact t_X11_describe_0 hl ih h hQ
    · cases hlay
      exact t_X11_describe_41 hl ih h hQ
    · cases h
theorem c_X11_describe {G : xG} {l : Launch} (hl : l.stackTraces = false) {n : Nat} {as : List Value} {P : xH} {z : xR × xH} (h : f_X11_describe n 0 as P = some z) : Ct G l 4 mX11_describe as P (fun r P1 => (r, P1) = z) := by
  cases n with
  | zero => cases h
  | succ n =>
    unfold f_X11_describe at h
    split at h
    · exact Ct.of hl (by decide +kernel) wc_X11_describe (Nat.le_of_ble_eq_true rfl) (t_X11_describe_0 hl (s_X11_describe hl _) h rfl)
    all_goals first | (cases h; done) | (rename_i q9 _; exact absurd q9 (by decide)) | (rename_i q9; exact absurd q9 (by decide)) | contradiction
/-! QuakeNetModel.apart(I)V -/
def b_X11_apart_0 (n : Nat) (rec : Nat → List Value → xH → xO) (a0 : Nat) (a1 : Int32) (P : xH) : xO :=
  (wV P a0 11 0 (.int 0)).bind fun P1 =>
  (f_X11_in n 0 [.int a1, .int 0, .int 1000] P1).bind fun r4 => xI r4 fun v6 P3 =>
  if ¬ v6 = 0 then
    rec 22 [.ref a0, .int a1, .ref a0, .int 0] P3
  else
    rec 22 [.ref a0, .int a1, .ref a0, .int 1] P3
def b_X11_apart_22 (n : Nat) (rec : Nat → List Value → xH → xO) (a0 : Nat) (a1 : Int32) (s0 : Nat) (s1 : Int32) (P : xH) : xO :=
  (kO P s0 11).bind fun _ =>
  (f_X11_throwsIf n 0 [.ref s0, .int s1, .int 1] P).bind fun r2 => xI r2 fun v4 P1 =>
  if v4 = 0 then
    (rA P1 a0 11 3).bind fun v6 =>
    (sI P1 v6 7 a1).bind fun P8 =>
    some (.inl none, P8)
  else
    some (.inl none, P1)
def lay_X11_apart : Nat → List Value → Option (xL × List Value)
  | 0, [a0, a1] => some ([some a0, some a1], [])
  | 22, [a0, a1, s0, s1] => some ([some a0, some a1], [s1, s0])
  | _, _ => none
def f_X11_apart : Nat → Nat → List Value → xH → xO
  | 0 => fun _ _ _ => none
  | n + 1 => fun pc env P => match pc, env with
    | 0, [.ref a0, .int a1] => b_X11_apart_0 n (f_X11_apart n) a0 a1 P
    | 22, [.ref a0, .int a1, .ref s0, .int s1] => b_X11_apart_22 n (f_X11_apart n) a0 a1 s0 s1 P
    | _, _ => none
set_option maxHeartbeats 2000000 in
set_option maxRecDepth 20000 in
theorem t_X11_apart_0 {G : xG} {l : Launch} (hl : l.stackTraces = false) {n : Nat} {rec : Nat → List Value → xH → xO} (hrec : ∀ pc env P z, rec pc env P = some z → ∀ L st, lay_X11_apart pc env = some (L, st) → ∀ Q : xR → xH → Prop, Q z.1 z.2 → Wp G l 4 mX11_apart pc L st P Q) {a0 a1} {P : xH} {z : xR × xH} (h : b_X11_apart_0 n rec a0 a1 P = some z) {Q : xR → xH → Prop} (hQ : Q z.1 z.2) : Wp G l 4 mX11_apart 0 [some (.ref a0), some (.int a1)] [] P Q := by
  unfold b_X11_apart_0 at h
  refine x_aload_nr dX11_apart_0 rfl ?_
  refine x_iconst 0 dX11_apart_1 (by decide) ?_
  obtain ⟨P1, e2, h⟩ := Option.bind_eq_some_iff.mp h
  refine k_wI e2 dX11_apart_2 f_X11_3 (Or.inl (by decide)) rfl ?_
  refine x_aload_nr dX11_apart_5 rfl ?_
  refine x_iload_n dX11_apart_6 rfl ?_
  refine x_iconst 0 dX11_apart_7 (by decide) ?_
  refine x_sipush 1000 dX11_apart_8 (by decide) ?_
  obtain ⟨r4, e5, h⟩ := Option.bind_eq_some_iff.mp h
  replace h := xI_ok h
  obtain ⟨v6, P3, rfl, h⟩ := h
  refine x_callS (c_X11_in hl e5) dX11_apart_11 cw_X11_in wl_X11_68 ws_X11_in rfl (by omega) (by decide) rfl (Nat.le_of_ble_eq_true rfl) rfl (fun v9 P9 hq9 => ?_) (fun i9 P9 hq9 => by cases hq9)
  cases hq9
  refine x_if_ne 21 dX11_apart_14 (by decide) (fun q7 => ?_) (fun q7 => ?_)
  · rw [if_pos q7] at h
    refine x_iconst 0 dX11_apart_21 (by decide) ?_
    exact Wp.mask [true, true] (hrec 22 _ _ _ h _ _ rfl _ hQ)
  · rw [if_neg (fun z9 => z9 q7)] at h
    refine x_iconst 1 dX11_apart_17 (by decide) ?_
    refine x_goto 22 dX11_apart_18 (by decide) ?_
    exact Wp.mask [true, true] (hrec 22 _ _ _ h _ _ rfl _ hQ)
set_option maxHeartbeats 2000000 in
set_option maxRecDepth 20000 in
theorem t_X11_apart_22 {G : xG} {l : Launch} (hl : l.stackTraces = false) {n : Nat} {rec : Nat → List Value → xH → xO} (hrec : ∀ pc env P z, rec pc env P = some z → ∀ L st, lay_X11_apart pc env = some (L, st) → ∀ Q : xR → xH → Prop, Q z.1 z.2 → Wp G l 4 mX11_apart pc L st P Q) {a0 a1 s0 s1} {P : xH} {z : xR × xH} (h : b_X11_apart_22 n rec a0 a1 s0 s1 P = some z) {Q : xR → xH → Prop} (hQ : Q z.1 z.2) : Wp G l 4 mX11_apart 22 [some (.ref a0), some (.int a1)] [.int s1, .ref s0] P Q := by
  unfold b_X11_apart_22 at h
  refine x_iconst 1 dX11_apart_22 (by decide) ?_
  obtain ⟨_, e5, h⟩ := Option.bind_eq_some_iff.mp h
  obtain ⟨fse5, e5⟩ := kO_ok e5
  obtain ⟨r2, e3, h⟩ := Option.bind_eq_some_iff.mp h
  replace h := xI_ok h
  obtain ⟨v4, P1, rfl, h⟩ := h
  refine x_callV (c_X11_throwsIf hl e3) dX11_apart_23 cw_X11_throwsIf wl_X11_93 wi_X11_throwsIf wse_X11_throwsIf rfl e5 (by decide) rfl (by omega) (by decide) rfl (Nat.le_of_ble_eq_true rfl) rfl (fun v9 P9 hq9 => ?_) (fun i9 P9 hq9 => by cases hq9)
  cases hq9
  refine x_if_eq 30 dX11_apart_26 (by decide) (fun q10 => ?_) (fun q10 => ?_)
  · rw [if_pos q10] at h
    refine x_aload_nr dX11_apart_30 rfl ?_
    obtain ⟨v6, e7, h⟩ := Option.bind_eq_some_iff.mp h
    refine k_rA e7 dX11_apart_31 f_X11_20 ?_
    refine x_bipush 7 dX11_apart_34 (by decide) ?_
    refine x_iload_n dX11_apart_36 rfl ?_
    obtain ⟨P8, e9, h⟩ := Option.bind_eq_some_iff.mp h
    refine k_sI e9 dX11_apart_37 ?_
    cases h
    exact x_ret rfl dX11_apart_38 hQ
  · rw [if_neg q10] at h
    cases h
    exact x_ret rfl dX11_apart_29 hQ
theorem s_X11_apart {G : xG} {l : Launch} (hl : l.stackTraces = false) : ∀ n pc env P z, f_X11_apart n pc env P = some z → ∀ L st, lay_X11_apart pc env = some (L, st) → ∀ Q : xR → xH → Prop, Q z.1 z.2 → Wp G l 4 mX11_apart pc L st P Q := by
  intro n
  induction n with
  | zero => intro pc env P z h; cases h
  | succ n ih =>
    intro pc env P z h L st hlay Q hQ
    unfold f_X11_apart at h
    split at h
    · cases hlay
      exact t_X11_apart_0 hl ih h hQ
    · cases hlay
      exact t_X11_apart_22 hl ih h hQ
    · cases h
theorem c_X11_apart {G : xG} {l : Launch} (hl : l.stackTraces = false) {n : Nat} {as : List Value} {P : xH} {z : xR × xH} (h : f_X11_apart n 0 as P = some z) : Ct G l 4 mX11_apart as P (fun r P1 => (r, P1) = z) := by
  cases n with
  | zero => cases h
  | succ n =>
    unfold f_X11_apart at h
    split at h
    · exact Ct.of hl (by decide +kernel) wc_X11_apart (Nat.le_of_ble_eq_true rfl) (t_X11_apart_0 hl (s_X11_apart hl _) h rfl)
    all_goals first | (cases h; done) | (rename_i q9 _; exact absurd q9 (by decide)) | (rename_i q9; exact absurd q9 (by decide)) | contradiction
/-! QuakeNetModel.priceOf(II)I -/
def b_X11_priceOf_0 (n : Nat) (rec : Nat → List Value → xH → xO) (a0 : Nat) (a1 : Int32) (a2 : Int32) (P : xH) : xO :=
  (rA P a0 11 3).bind fun v1 =>
  (aI P v1 ((1061 + ((3 * a1))))).bind fun v3 =>
  if v3 < 0 then
    rec 58 [.ref a0, .int a1, .int a2, .int ((1061 + ((3 * a1)))), .int ((1061 + ((3 * a2)))), .int 0] P
  else
    (rA P a0 11 3).bind fun v5 =>
    (aI P v5 ((1061 + ((3 * a2))))).bind fun v7 =>
    if v7 < 0 then
      rec 58 [.ref a0, .int a1, .int a2, .int ((1061 + ((3 * a1)))), .int ((1061 + ((3 * a2)))), .int 0] P
    else
      (rA P a0 11 3).bind fun v9 =>
      (aI P v9 ((1061 + ((3 * a1))))).bind fun v11 =>
      (rA P a0 11 3).bind fun v13 =>
      (aI P v13 ((1061 + ((3 * a2))))).bind fun v15 =>
      if v11 = v15 then
        rec 58 [.ref a0, .int a1, .int a2, .int ((1061 + ((3 * a1)))), .int ((1061 + ((3 * a2)))), .int 0] P
      else
        rec 58 [.ref a0, .int a1, .int a2, .int ((1061 + ((3 * a1)))), .int ((1061 + ((3 * a2)))), .int ((0 + 20))] P
def b_X11_priceOf_58 (n : Nat) (rec : Nat → List Value → xH → xO) (a0 : Nat) (a1 : Int32) (a2 : Int32) (a3 : Int32) (a4 : Int32) (a5 : Int32) (P : xH) : xO :=
  (rA P a0 11 3).bind fun v1 =>
  (aI P v1 ((a3 + 1))).bind fun v3 =>
  if v3 < 0 then
    rec 107 [.ref a0, .int a1, .int a2, .int a3, .int a4, .int a5] P
  else
    (rA P a0 11 3).bind fun v5 =>
    (aI P v5 ((a4 + 1))).bind fun v7 =>
    if v7 < 0 then
      rec 107 [.ref a0, .int a1, .int a2, .int a3, .int a4, .int a5] P
    else
      (rA P a0 11 3).bind fun v9 =>
      (aI P v9 ((a3 + 1))).bind fun v11 =>
      (rA P a0 11 3).bind fun v13 =>
      (aI P v13 ((a4 + 1))).bind fun v15 =>
      rec 107 [.ref a0, .int a1, .int a2, .int a3, .int a4, .int ((a5 + ((mAbs ((v11 - v15))))))] P
def b_X11_priceOf_107 (n : Nat) (rec : Nat → List Value → xH → xO) (a0 : Nat) (a1 : Int32) (a2 : Int32) (a3 : Int32) (a4 : Int32) (a5 : Int32) (P : xH) : xO :=
  (rA P a0 11 3).bind fun v1 =>
  (aI P v1 ((a3 + 2))).bind fun v3 =>
  if v3 < 0 then
    some (.inl (some (.int a5)), P)
  else
    (rA P a0 11 3).bind fun v5 =>
    (aI P v5 ((a4 + 2))).bind fun v7 =>
    if v7 < 0 then
      some (.inl (some (.int a5)), P)
    else
      (rA P a0 11 3).bind fun v9 =>
      (aI P v9 ((a3 + 2))).bind fun v11 =>
      (rA P a0 11 3).bind fun v13 =>
      (aI P v13 ((a4 + 2))).bind fun v15 =>
      if v11 = v15 then
        some (.inl (some (.int a5)), P)
      else
        some (.inl (some (.int ((a5 + 7)))), P)
def lay_X11_priceOf : Nat → List Value → Option (xL × List Value)
  | 0, [a0, a1, a2] => some ([some a0, some a1, some a2, none, none, none], [])
  | 58, [a0, a1, a2, a3, a4, a5] => some ([some a0, some a1, some a2, some a3, some a4, some a5], [])
  | 107, [a0, a1, a2, a3, a4, a5] => some ([some a0, some a1, some a2, some a3, some a4, some a5], [])
  | _, _ => none
def f_X11_priceOf : Nat → Nat → List Value → xH → xO
  | 0 => fun _ _ _ => none
  | n + 1 => fun pc env P => match pc, env with
    | 0, [.ref a0, .int a1, .int a2] => b_X11_priceOf_0 n (f_X11_priceOf n) a0 a1 a2 P
    | 58, [.ref a0, .int a1, .int a2, .int a3, .int a4, .int a5] => b_X11_priceOf_58 n (f_X11_priceOf n) a0 a1 a2 a3 a4 a5 P
    | 107, [.ref a0, .int a1, .int a2, .int a3, .int a4, .int a5] => b_X11_priceOf_107 n (f_X11_priceOf n) a0 a1 a2 a3 a4 a5 P
    | _, _ => none
set_option maxHeartbeats 2000000 in
set_option maxRecDepth 20000 in
theorem t_X11_priceOf_0 {G : xG} {l : Launch} (hl : l.stackTraces = false) {n : Nat} {rec : Nat → List Value → xH → xO} (hrec : ∀ pc env P z, rec pc env P = some z → ∀ L st, lay_X11_priceOf pc env = some (L, st) → ∀ Q : xR → xH → Prop, Q z.1 z.2 → Wp G l 7 mX11_priceOf pc L st P Q) {a0 a1 a2} {P : xH} {z : xR × xH} (h : b_X11_priceOf_0 n rec a0 a1 a2 P = some z) {Q : xR → xH → Prop} (hQ : Q z.1 z.2) : Wp G l 7 mX11_priceOf 0 [some (.ref a0), some (.int a1), some (.int a2), none, none, none] [] P Q := by
  unfold b_X11_priceOf_0 at h
  refine x_sipush 1061 dX11_priceOf_0 (by decide) ?_
  refine x_iconst 3 dX11_priceOf_3 (by decide) ?_
  refine x_iload_n dX11_priceOf_4 rfl ?_
  refine x_imul dX11_priceOf_5 ?_
  refine x_iadd dX11_priceOf_6 ?_
  refine x_istore_n dX11_priceOf_7 (Nat.le_of_ble_eq_true rfl) ?_
  refine x_sipush 1061 dX11_priceOf_8 (by decide) ?_
  refine x_iconst 3 dX11_priceOf_11 (by decide) ?_
  refine x_iload_n dX11_priceOf_12 rfl ?_
  refine x_imul dX11_priceOf_13 ?_
  refine x_iadd dX11_priceOf_14 ?_
  refine x_istore dX11_priceOf_15 (Nat.le_of_ble_eq_true rfl) ?_
  refine x_iconst 0 dX11_priceOf_17 (by decide) ?_
  refine x_istore dX11_priceOf_18 (Nat.le_of_ble_eq_true rfl) ?_
  refine x_aload_nr dX11_priceOf_20 rfl ?_
  obtain ⟨v1, e2, h⟩ := Option.bind_eq_some_iff.mp h
  refine k_rA e2 dX11_priceOf_21 f_X11_20 ?_
  refine x_iload_n dX11_priceOf_24 rfl ?_
  obtain ⟨v3, e4, h⟩ := Option.bind_eq_some_iff.mp h
  refine k_aI e4 dX11_priceOf_25 ?_
  refine x_if_lt 58 dX11_priceOf_26 (by decide) (fun q19 => ?_) (fun q19 => ?_)
  · rw [if_pos q19] at h
    exact Wp.mask [true, true, true, true, true, true] (hrec 58 _ _ _ h _ _ rfl _ hQ)
  · rw [if_neg q19] at h
    refine x_aload_nr dX11_priceOf_29 rfl ?_
    obtain ⟨v5, e6, h⟩ := Option.bind_eq_some_iff.mp h
    refine k_rA e6 dX11_priceOf_30 f_X11_20 ?_
    refine x_iload dX11_priceOf_33 rfl ?_
    obtain ⟨v7, e8, h⟩ := Option.bind_eq_some_iff.mp h
    refine k_aI e8 dX11_priceOf_35 ?_
    refine x_if_lt 58 dX11_priceOf_36 (by decide) (fun q18 => ?_) (fun q18 => ?_)
    · rw [if_pos q18] at h
      exact Wp.mask [true, true, true, true, true, true] (hrec 58 _ _ _ h _ _ rfl _ hQ)
    · rw [if_neg q18] at h
      refine x_aload_nr dX11_priceOf_39 rfl ?_
      obtain ⟨v9, e10, h⟩ := Option.bind_eq_some_iff.mp h
      refine k_rA e10 dX11_priceOf_40 f_X11_20 ?_
      refine x_iload_n dX11_priceOf_43 rfl ?_
      obtain ⟨v11, e12, h⟩ := Option.bind_eq_some_iff.mp h
      refine k_aI e12 dX11_priceOf_44 ?_
      refine x_aload_nr dX11_priceOf_45 rfl ?_
      obtain ⟨v13, e14, h⟩ := Option.bind_eq_some_iff.mp h
      refine k_rA e14 dX11_priceOf_46 f_X11_20 ?_
      refine x_iload dX11_priceOf_49 rfl ?_
      obtain ⟨v15, e16, h⟩ := Option.bind_eq_some_iff.mp h
      refine k_aI e16 dX11_priceOf_51 ?_
      refine x_icmp_eq 58 dX11_priceOf_52 (by decide) (fun q17 => ?_) (fun q17 => ?_)
      · rw [if_pos q17] at h
        exact Wp.mask [true, true, true, true, true, true] (hrec 58 _ _ _ h _ _ rfl _ hQ)
      · rw [if_neg q17] at h
        refine x_iinc (0 + 20) dX11_priceOf_55 rfl (by rfl) ?_
        exact Wp.mask [true, true, true, true, true, true] (hrec 58 _ _ _ h _ _ rfl _ hQ)
set_option maxHeartbeats 2000000 in
set_option maxRecDepth 20000 in
theorem t_X11_priceOf_58 {G : xG} {l : Launch} (hl : l.stackTraces = false) {n : Nat} {rec : Nat → List Value → xH → xO} (hrec : ∀ pc env P z, rec pc env P = some z → ∀ L st, lay_X11_priceOf pc env = some (L, st) → ∀ Q : xR → xH → Prop, Q z.1 z.2 → Wp G l 7 mX11_priceOf pc L st P Q) {a0 a1 a2 a3 a4 a5} {P : xH} {z : xR × xH} (h : b_X11_priceOf_58 n rec a0 a1 a2 a3 a4 a5 P = some z) {Q : xR → xH → Prop} (hQ : Q z.1 z.2) : Wp G l 7 mX11_priceOf 58 [some (.ref a0), some (.int a1), some (.int a2), some (.int a3), some (.int a4), some (.int a5)] [] P Q := by
  unfold b_X11_priceOf_58 at h
  refine x_aload_nr dX11_priceOf_58 rfl ?_
  obtain ⟨v1, e2, h⟩ := Option.bind_eq_some_iff.mp h
  refine k_rA e2 dX11_priceOf_59 f_X11_20 ?_
  refine x_iload_n dX11_priceOf_62 rfl ?_
  refine x_iconst 1 dX11_priceOf_63 (by decide) ?_
  refine x_iadd dX11_priceOf_64 ?_
  obtain ⟨v3, e4, h⟩ := Option.bind_eq_some_iff.mp h
  refine k_aI e4 dX11_priceOf_65 ?_
  refine x_if_lt 107 dX11_priceOf_66 (by decide) (fun q18 => ?_) (fun q18 => ?_)
  · rw [if_pos q18] at h
    exact Wp.mask [true, true, true, true, true, true] (hrec 107 _ _ _ h _ _ rfl _ hQ)
  · rw [if_neg q18] at h
    refine x_aload_nr dX11_priceOf_69 rfl ?_
    obtain ⟨v5, e6, h⟩ := Option.bind_eq_some_iff.mp h
    refine k_rA e6 dX11_priceOf_70 f_X11_20 ?_
    refine x_iload dX11_priceOf_73 rfl ?_
    refine x_iconst 1 dX11_priceOf_75 (by decide) ?_
    refine x_iadd dX11_priceOf_76 ?_
    obtain ⟨v7, e8, h⟩ := Option.bind_eq_some_iff.mp h
    refine k_aI e8 dX11_priceOf_77 ?_
    refine x_if_lt 107 dX11_priceOf_78 (by decide) (fun q17 => ?_) (fun q17 => ?_)
    · rw [if_pos q17] at h
      exact Wp.mask [true, true, true, true, true, true] (hrec 107 _ _ _ h _ _ rfl _ hQ)
    · rw [if_neg q17] at h
      refine x_iload dX11_priceOf_81 rfl ?_
      refine x_aload_nr dX11_priceOf_83 rfl ?_
      obtain ⟨v9, e10, h⟩ := Option.bind_eq_some_iff.mp h
      refine k_rA e10 dX11_priceOf_84 f_X11_20 ?_
      refine x_iload_n dX11_priceOf_87 rfl ?_
      refine x_iconst 1 dX11_priceOf_88 (by decide) ?_
      refine x_iadd dX11_priceOf_89 ?_
      obtain ⟨v11, e12, h⟩ := Option.bind_eq_some_iff.mp h
      refine k_aI e12 dX11_priceOf_90 ?_
      refine x_aload_nr dX11_priceOf_91 rfl ?_
      obtain ⟨v13, e14, h⟩ := Option.bind_eq_some_iff.mp h
      refine k_rA e14 dX11_priceOf_92 f_X11_20 ?_
      refine x_iload dX11_priceOf_95 rfl ?_
      refine x_iconst 1 dX11_priceOf_97 (by decide) ?_
      refine x_iadd dX11_priceOf_98 ?_
      obtain ⟨v15, e16, h⟩ := Option.bind_eq_some_iff.mp h
      refine k_aI e16 dX11_priceOf_99 ?_
      refine x_isub dX11_priceOf_100 ?_
      refine x_mabs dX11_priceOf_101 wl_X11_75 (Nat.le_of_ble_eq_true rfl) (by omega) ?_
      refine x_iadd dX11_priceOf_104 ?_
      refine x_istore dX11_priceOf_105 (Nat.le_of_ble_eq_true rfl) ?_
      exact Wp.mask [true, true, true, true, true, true] (hrec 107 _ _ _ h _ _ rfl _ hQ)
set_option maxHeartbeats 2000000 in
set_option maxRecDepth 20000 in
theorem t_X11_priceOf_107 {G : xG} {l : Launch} (hl : l.stackTraces = false) {n : Nat} {rec : Nat → List Value → xH → xO} (hrec : ∀ pc env P z, rec pc env P = some z → ∀ L st, lay_X11_priceOf pc env = some (L, st) → ∀ Q : xR → xH → Prop, Q z.1 z.2 → Wp G l 7 mX11_priceOf pc L st P Q) {a0 a1 a2 a3 a4 a5} {P : xH} {z : xR × xH} (h : b_X11_priceOf_107 n rec a0 a1 a2 a3 a4 a5 P = some z) {Q : xR → xH → Prop} (hQ : Q z.1 z.2) : Wp G l 7 mX11_priceOf 107 [some (.ref a0), some (.int a1), some (.int a2), some (.int a3), some (.int a4), some (.int a5)] [] P Q := by
  unfold b_X11_priceOf_107 at h
  refine x_aload_nr dX11_priceOf_107 rfl ?_
  obtain ⟨v1, e2, h⟩ := Option.bind_eq_some_iff.mp h
  refine k_rA e2 dX11_priceOf_108 f_X11_20 ?_
  refine x_iload_n dX11_priceOf_111 rfl ?_
  refine x_iconst 2 dX11_priceOf_112 (by decide) ?_
  refine x_iadd dX11_priceOf_113 ?_
  obtain ⟨v3, e4, h⟩ := Option.bind_eq_some_iff.mp h
  refine k_aI e4 dX11_priceOf_114 ?_
  refine x_if_lt 153 dX11_priceOf_115 (by decide) (fun q19 => ?_) (fun q19 => ?_)
  · rw [if_pos q19] at h
    refine x_iload dX11_priceOf_153 rfl ?_
    cases h
    exact x_iret .int rfl rfl dX11_priceOf_155 hQ
  · rw [if_neg q19] at h
    refine x_aload_nr dX11_priceOf_118 rfl ?_
    obtain ⟨v5, e6, h⟩ := Option.bind_eq_some_iff.mp h
    refine k_rA e6 dX11_priceOf_119 f_X11_20 ?_
    refine x_iload dX11_priceOf_122 rfl ?_
    refine x_iconst 2 dX11_priceOf_124 (by decide) ?_
    refine x_iadd dX11_priceOf_125 ?_
    obtain ⟨v7, e8, h⟩ := Option.bind_eq_some_iff.mp h
    refine k_aI e8 dX11_priceOf_126 ?_
    refine x_if_lt 153 dX11_priceOf_127 (by decide) (fun q18 => ?_) (fun q18 => ?_)
    · rw [if_pos q18] at h
      refine x_iload dX11_priceOf_153 rfl ?_
      cases h
      exact x_iret .int rfl rfl dX11_priceOf_155 hQ
    · rw [if_neg q18] at h
      refine x_aload_nr dX11_priceOf_130 rfl ?_
      obtain ⟨v9, e10, h⟩ := Option.bind_eq_some_iff.mp h
      refine k_rA e10 dX11_priceOf_131 f_X11_20 ?_
      refine x_iload_n dX11_priceOf_134 rfl ?_
      refine x_iconst 2 dX11_priceOf_135 (by decide) ?_
      refine x_iadd dX11_priceOf_136 ?_
      obtain ⟨v11, e12, h⟩ := Option.bind_eq_some_iff.mp h
      refine k_aI e12 dX11_priceOf_137 ?_
      refine x_aload_nr dX11_priceOf_138 rfl ?_
      obtain ⟨v13, e14, h⟩ := Option.bind_eq_some_iff.mp h
      refine k_rA e14 dX11_priceOf_139 f_X11_20 ?_
      refine x_iload dX11_priceOf_142 rfl ?_
      refine x_iconst 2 dX11_priceOf_144 (by decide) ?_
      refine x_iadd dX11_priceOf_145 ?_
      obtain ⟨v15, e16, h⟩ := Option.bind_eq_some_iff.mp h
      refine k_aI e16 dX11_priceOf_146 ?_
      refine x_icmp_eq 153 dX11_priceOf_147 (by decide) (fun q17 => ?_) (fun q17 => ?_)
      · rw [if_pos q17] at h
        refine x_iload dX11_priceOf_153 rfl ?_
        cases h
        exact x_iret .int rfl rfl dX11_priceOf_155 hQ
      · rw [if_neg q17] at h
        refine x_iinc (a5 + 7) dX11_priceOf_150 rfl (by rfl) ?_
        refine x_iload dX11_priceOf_153 rfl ?_
        cases h
        exact x_iret .int rfl rfl dX11_priceOf_155 hQ
theorem s_X11_priceOf {G : xG} {l : Launch} (hl : l.stackTraces = false) : ∀ n pc env P z, f_X11_priceOf n pc env P = some z → ∀ L st, lay_X11_priceOf pc env = some (L, st) → ∀ Q : xR → xH → Prop, Q z.1 z.2 → Wp G l 7 mX11_priceOf pc L st P Q := by
  intro n
  induction n with
  | zero => intro pc env P z h; cases h
  | succ n ih =>
    intro pc env P z h L st hlay Q hQ
    unfold f_X11_priceOf at h
    split at h
    · cases hlay
      exact t_X11_priceOf_0 hl ih h hQ
    · cases hlay
      exact t_X11_priceOf_58 hl ih h hQ
    · cases hlay
      exact t_X11_priceOf_107 hl ih h hQ
    · cases h
theorem c_X11_priceOf {G : xG} {l : Launch} (hl : l.stackTraces = false) {n : Nat} {as : List Value} {P : xH} {z : xR × xH} (h : f_X11_priceOf n 0 as P = some z) : Ct G l 7 mX11_priceOf as P (fun r P1 => (r, P1) = z) := by
  cases n with
  | zero => cases h
  | succ n =>
    unfold f_X11_priceOf at h
    split at h
    · exact Ct.of hl (by decide +kernel) wc_X11_priceOf (Nat.le_of_ble_eq_true rfl) (t_X11_priceOf_0 hl (s_X11_priceOf hl _) h rfl)
    all_goals first | (cases h; done) | (rename_i q9 _; exact absurd q9 (by decide)) | (rename_i q9; exact absurd q9 (by decide)) | contradiction
def mt_X11_parts : Nat → xM
  | _ => mX11_parts
/-! QuakeNetModel.parts(III)V -/
def b_X11_parts_0 (n : Nat) (cr : Nat → List Value → xH → xO) (rec : Nat → List Value → xH → xO) (a0 : Nat) (a1 : Int32) (a2 : Int32) (a3 : Int32) (P : xH) : xO :=
  (rA P a0 11 3).bind fun v1 =>
  (aI P v1 8).bind fun v3 =>
  if ¬ a1 = v3 then
    rec 86 [.ref a0, .int a1, .int a2, .int a3, .int 0] P
  else
    (rI P a0 11 25).bind fun v5 =>
    if v5 < 0 then
      rec 43 [.ref a0, .int a1, .int a2, .int a3] P
    else
      (rI P a0 11 25).bind fun v7 =>
      if v7 < a3 then
        some (.inl none, P)
      else
        (rI P a0 11 25).bind fun v9 =>
        if ¬ a3 = v9 then
          rec 43 [.ref a0, .int a1, .int a2, .int a3] P
        else
          (rI P a0 11 26).bind fun v11 =>
          if a2 < v11 then
            rec 43 [.ref a0, .int a1, .int a2, .int a3] P
          else
            some (.inl none, P)
def b_X11_parts_43 (n : Nat) (cr : Nat → List Value → xH → xO) (rec : Nat → List Value → xH → xO) (a0 : Nat) (a1 : Int32) (a2 : Int32) (a3 : Int32) (P : xH) : xO :=
  (wV P a0 11 25 (.int a3)).bind fun P1 =>
  (wV P1 a0 11 26 (.int a2)).bind fun P3 =>
  rec 56 [.ref a0, .int a1, .int a2, .int a3, .int 0] P3
def b_X11_parts_56 (n : Nat) (cr : Nat → List Value → xH → xO) (rec : Nat → List Value → xH → xO) (a0 : Nat) (a1 : Int32) (a2 : Int32) (a3 : Int32) (a4 : Int32) (P : xH) : xO :=
  if a1 ≤ a4 then
    some (.inl none, P)
  else
    (rA P a0 11 24).bind fun v1 =>
    (rA P a0 11 23).bind fun v3 =>
    (aI P v3 a4).bind fun v5 =>
    (sI P v1 a4 v5).bind fun P7 =>
    rec 56 [.ref a0, .int a1, .int a2, .int a3, .int ((a4 + 1))] P7
def b_X11_parts_86 (n : Nat) (cr : Nat → List Value → xH → xO) (rec : Nat → List Value → xH → xO) (a0 : Nat) (a1 : Int32) (a2 : Int32) (a3 : Int32) (a4 : Int32) (P : xH) : xO :=
  if a2 < a4 then
    some (.inl none, P)
  else
    if ¬ a4 = a2 then
      rec 114 [.ref a0, .int a1, .int a2, .int a3, .int a4, .int 0, .int 0] P
    else
      (rA P a0 11 3).bind fun v1 =>
      (aI P v1 7).bind fun v3 =>
      rec 114 [.ref a0, .int a1, .int a2, .int a3, .int a4, .int v3, .int 0] P
def b_X11_parts_114 (n : Nat) (cr : Nat → List Value → xH → xO) (rec : Nat → List Value → xH → xO) (a0 : Nat) (a1 : Int32) (a2 : Int32) (a3 : Int32) (a4 : Int32) (a5 : Int32) (a6 : Int32) (P : xH) : xO :=
  if a1 ≤ a6 then
    (rA P a0 11 23).bind fun v1 =>
    (sI P v1 a1 a4).bind fun P3 =>
    if ¬ a4 = a2 then
      rec 179 [.ref a0, .int a1, .int a2, .int a3, .int a4, .int a5, .int a6, .ref a0, .int ((a1 + 1)), .int a2] P3
    else
      rec 179 [.ref a0, .int a1, .int a2, .int a3, .int a4, .int a5, .int a6, .ref a0, .int ((a1 + 1)), .int ((a2 + 1))] P3
  else
    (rA P a0 11 23).bind fun v6 =>
    (aI P v6 a6).bind fun v8 =>
    if ¬ v8 = a4 then
      rec 114 [.ref a0, .int a1, .int a2, .int a3, .int a4, .int ((a5 + 0)), .int ((a6 + 1))] P
    else
      (kO P a0 11).bind fun _ =>
      (f_X11_priceOf n 0 [.ref a0, .int a6, .int a1] P).bind fun r11 => xI r11 fun v13 P10 =>
      rec 114 [.ref a0, .int a1, .int a2, .int a3, .int a4, .int ((a5 + v13)), .int ((a6 + 1))] P10
def b_X11_parts_179 (n : Nat) (cr : Nat → List Value → xH → xO) (rec : Nat → List Value → xH → xO) (a0 : Nat) (a1 : Int32) (a2 : Int32) (a3 : Int32) (a4 : Int32) (a5 : Int32) (a6 : Int32) (s0 : Nat) (s1 : Int32) (s2 : Int32) (P : xH) : xO :=
  (kO P s0 11).bind fun _ =>
  (cr 0 [.ref s0, .int s1, .int s2, .int ((a3 + a5))] P).bind fun r2 => xU r2 fun P1 =>
  rec 86 [.ref a0, .int a1, .int a2, .int a3, .int ((a4 + 1))] P1
def lay_X11_parts : Nat → List Value → Option (xL × List Value)
  | 0, [a0, a1, a2, a3] => some ([some a0, some a1, some a2, some a3, none, none, none], [])
  | 43, [a0, a1, a2, a3] => some ([some a0, some a1, some a2, some a3, none, none, none], [])
  | 56, [a0, a1, a2, a3, a4] => some ([some a0, some a1, some a2, some a3, some a4, none, none], [])
  | 86, [a0, a1, a2, a3, a4] => some ([some a0, some a1, some a2, some a3, some a4, none, none], [])
  | 114, [a0, a1, a2, a3, a4, a5, a6] => some ([some a0, some a1, some a2, some a3, some a4, some a5, some a6], [])
  | 179, [a0, a1, a2, a3, a4, a5, a6, s0, s1, s2] => some ([some a0, some a1, some a2, some a3, some a4, some a5, some a6], [s2, s1, s0])
  | _, _ => none
def g_X11_parts (cr : Nat → List Value → xH → xO) : Nat → Nat → List Value → xH → xO
  | 0 => fun _ _ _ => none
  | n + 1 => fun pc env P => match pc, env with
    | 0, [.ref a0, .int a1, .int a2, .int a3] => b_X11_parts_0 n cr (g_X11_parts cr n) a0 a1 a2 a3 P
    | 43, [.ref a0, .int a1, .int a2, .int a3] => b_X11_parts_43 n cr (g_X11_parts cr n) a0 a1 a2 a3 P
    | 56, [.ref a0, .int a1, .int a2, .int a3, .int a4] => b_X11_parts_56 n cr (g_X11_parts cr n) a0 a1 a2 a3 a4 P
    | 86, [.ref a0, .int a1, .int a2, .int a3, .int a4] => b_X11_parts_86 n cr (g_X11_parts cr n) a0 a1 a2 a3 a4 P
    | 114, [.ref a0, .int a1, .int a2, .int a3, .int a4, .int a5, .int a6] => b_X11_parts_114 n cr (g_X11_parts cr n) a0 a1 a2 a3 a4 a5 a6 P
    | 179, [.ref a0, .int a1, .int a2, .int a3, .int a4, .int a5, .int a6, .ref s0, .int s1, .int s2] => b_X11_parts_179 n cr (g_X11_parts cr n) a0 a1 a2 a3 a4 a5 a6 s0 s1 s2 P
    | _, _ => none
set_option maxHeartbeats 2000000 in
set_option maxRecDepth 20000 in
theorem t_X11_parts_0 {G : xG} {l : Launch} (hl : l.stackTraces = false) {dp : Nat} {cr : Nat → List Value → xH → xO} (hself : ∀ t as P z, cr t as P = some z → Ct G l (dp + 8 - 1) (mt_X11_parts t) as P (fun r P1 => (r, P1) = z)) {n : Nat} {rec : Nat → List Value → xH → xO} (hrec : ∀ pc env P z, rec pc env P = some z → ∀ L st, lay_X11_parts pc env = some (L, st) → ∀ Q : xR → xH → Prop, Q z.1 z.2 → Wp G l (dp + 8) mX11_parts pc L st P Q) {a0 a1 a2 a3} {P : xH} {z : xR × xH} (h : b_X11_parts_0 n cr rec a0 a1 a2 a3 P = some z) {Q : xR → xH → Prop} (hQ : Q z.1 z.2) : Wp G l (dp + 8) mX11_parts 0 [some (.ref a0), some (.int a1), some (.int a2), some (.int a3), none, none, none] [] P Q := by
  unfold b_X11_parts_0 at h
  refine x_iload_n dX11_parts_0 rfl ?_
  refine x_aload_nr dX11_parts_1 rfl ?_
  obtain ⟨v1, e2, h⟩ := Option.bind_eq_some_iff.mp h
  refine k_rA e2 dX11_parts_2 f_X11_20 ?_
  refine x_bipush 8 dX11_parts_5 (by decide) ?_
  obtain ⟨v3, e4, h⟩ := Option.bind_eq_some_iff.mp h
  refine k_aI e4 dX11_parts_7 ?_
  refine x_icmp_ne 83 dX11_parts_8 (by decide) (fun q17 => ?_) (fun q17 => ?_)
  · rw [if_pos q17] at h
    refine x_iconst 0 dX11_parts_83 (by decide) ?_
    refine x_istore dX11_parts_84 (Nat.le_of_ble_eq_true rfl) ?_
    exact Wp.mask [true, true, true, true, true, false, false] (hrec 86 _ _ _ h _ _ rfl _ hQ)
  · rw [if_neg (fun z9 => z9 q17)] at h
    refine x_aload_nr dX11_parts_11 rfl ?_
    obtain ⟨v5, e6, h⟩ := Option.bind_eq_some_iff.mp h
    refine k_rI e6 dX11_parts_12 f_X11_354 ?_
    refine x_if_lt 43 dX11_parts_15 (by decide) (fun q16 => ?_) (fun q16 => ?_)
    · rw [if_pos q16] at h
      exact Wp.mask [true, true, true, true, false, false, false] (hrec 43 _ _ _ h _ _ rfl _ hQ)
    · rw [if_neg q16] at h
      refine x_iload_n dX11_parts_18 rfl ?_
      refine x_aload_nr dX11_parts_19 rfl ?_
      obtain ⟨v7, e8, h⟩ := Option.bind_eq_some_iff.mp h
      refine k_rI e8 dX11_parts_20 f_X11_354 ?_
      refine x_icmp_gt 42 dX11_parts_23 (by decide) (fun q15 => ?_) (fun q15 => ?_)
      · rw [if_pos q15] at h
        cases h
        exact x_ret rfl dX11_parts_42 hQ
      · rw [if_neg q15] at h
        refine x_iload_n dX11_parts_26 rfl ?_
        refine x_aload_nr dX11_parts_27 rfl ?_
        obtain ⟨v9, e10, h⟩ := Option.bind_eq_some_iff.mp h
        refine k_rI e10 dX11_parts_28 f_X11_354 ?_
        refine x_icmp_ne 43 dX11_parts_31 (by decide) (fun q14 => ?_) (fun q14 => ?_)
        · rw [if_pos q14] at h
          exact Wp.mask [true, true, true, true, false, false, false] (hrec 43 _ _ _ h _ _ rfl _ hQ)
        · rw [if_neg (fun z9 => z9 q14)] at h
          refine x_iload_n dX11_parts_34 rfl ?_
          refine x_aload_nr dX11_parts_35 rfl ?_
          obtain ⟨v11, e12, h⟩ := Option.bind_eq_some_iff.mp h
          refine k_rI e12 dX11_parts_36 f_X11_357 ?_
          refine x_icmp_lt 43 dX11_parts_39 (by decide) (fun q13 => ?_) (fun q13 => ?_)
          · rw [if_pos q13] at h
            exact Wp.mask [true, true, true, true, false, false, false] (hrec 43 _ _ _ h _ _ rfl _ hQ)
          · rw [if_neg q13] at h
            cases h
            exact x_ret rfl dX11_parts_42 hQ
set_option maxHeartbeats 2000000 in
set_option maxRecDepth 20000 in
theorem t_X11_parts_43 {G : xG} {l : Launch} (hl : l.stackTraces = false) {dp : Nat} {cr : Nat → List Value → xH → xO} (hself : ∀ t as P z, cr t as P = some z → Ct G l (dp + 8 - 1) (mt_X11_parts t) as P (fun r P1 => (r, P1) = z)) {n : Nat} {rec : Nat → List Value → xH → xO} (hrec : ∀ pc env P z, rec pc env P = some z → ∀ L st, lay_X11_parts pc env = some (L, st) → ∀ Q : xR → xH → Prop, Q z.1 z.2 → Wp G l (dp + 8) mX11_parts pc L st P Q) {a0 a1 a2 a3} {P : xH} {z : xR × xH} (h : b_X11_parts_43 n cr rec a0 a1 a2 a3 P = some z) {Q : xR → xH → Prop} (hQ : Q z.1 z.2) : Wp G l (dp + 8) mX11_parts 43 [some (.ref a0), some (.int a1), some (.int a2), some (.int a3), none, none, none] [] P Q := by
  unfold b_X11_parts_43 at h
  refine x_aload_nr dX11_parts_43 rfl ?_
  refine x_iload_n dX11_parts_44 rfl ?_
  obtain ⟨P1, e2, h⟩ := Option.bind_eq_some_iff.mp h
  refine k_wI e2 dX11_parts_45 f_X11_354 (Or.inl (by decide)) rfl ?_
  refine x_aload_nr dX11_parts_48 rfl ?_
  refine x_iload_n dX11_parts_49 rfl ?_
  obtain ⟨P3, e4, h⟩ := Option.bind_eq_some_iff.mp h
  refine k_wI e4 dX11_parts_50 f_X11_357 (Or.inl (by decide)) rfl ?_
  refine x_iconst 0 dX11_parts_53 (by decide) ?_
  refine x_istore dX11_parts_54 (Nat.le_of_ble_eq_true rfl) ?_
  exact Wp.mask [true, true, true, true, true, false, false] (hrec 56 _ _ _ h _ _ rfl _ hQ)
set_option maxHeartbeats 2000000 in
set_option maxRecDepth 20000 in
theorem t_X11_parts_56 {G : xG} {l : Launch} (hl : l.stackTraces = false) {dp : Nat} {cr : Nat → List Value → xH → xO} (hself : ∀ t as P z, cr t as P = some z → Ct G l (dp + 8 - 1) (mt_X11_parts t) as P (fun r P1 => (r, P1) = z)) {n : Nat} {rec : Nat → List Value → xH → xO} (hrec : ∀ pc env P z, rec pc env P = some z → ∀ L st, lay_X11_parts pc env = some (L, st) → ∀ Q : xR → xH → Prop, Q z.1 z.2 → Wp G l (dp + 8) mX11_parts pc L st P Q) {a0 a1 a2 a3 a4} {P : xH} {z : xR × xH} (h : b_X11_parts_56 n cr rec a0 a1 a2 a3 a4 P = some z) {Q : xR → xH → Prop} (hQ : Q z.1 z.2) : Wp G l (dp + 8) mX11_parts 56 [some (.ref a0), some (.int a1), some (.int a2), some (.int a3), some (.int a4), none, none] [] P Q := by
  unfold b_X11_parts_56 at h
  refine x_iload dX11_parts_56 rfl ?_
  refine x_iload_n dX11_parts_58 rfl ?_
  refine x_icmp_ge 82 dX11_parts_59 (by decide) (fun q9 => ?_) (fun q9 => ?_)
  · rw [if_pos q9] at h
    cases h
    exact x_ret rfl dX11_parts_82 hQ
  · rw [if_neg q9] at h
    refine x_aload_nr dX11_parts_62 rfl ?_
    obtain ⟨v1, e2, h⟩ := Option.bind_eq_some_iff.mp h
    refine k_rA e2 dX11_parts_63 f_X11_55 ?_
    refine x_iload dX11_parts_66 rfl ?_
    refine x_aload_nr dX11_parts_68 rfl ?_
    obtain ⟨v3, e4, h⟩ := Option.bind_eq_some_iff.mp h
    refine k_rA e4 dX11_parts_69 f_X11_52 ?_
    refine x_iload dX11_parts_72 rfl ?_
    obtain ⟨v5, e6, h⟩ := Option.bind_eq_some_iff.mp h
    refine k_aI e6 dX11_parts_74 ?_
    obtain ⟨P7, e8, h⟩ := Option.bind_eq_some_iff.mp h
    refine k_sI e8 dX11_parts_75 ?_
    refine x_iinc (a4 + 1) dX11_parts_76 rfl (by rfl) ?_
    refine x_goto 56 dX11_parts_79 (by decide) ?_
    exact Wp.mask [true, true, true, true, true, false, false] (hrec 56 _ _ _ h _ _ rfl _ hQ)
set_option maxHeartbeats 2000000 in
set_option maxRecDepth 20000 in
theorem t_X11_parts_86 {G : xG} {l : Launch} (hl : l.stackTraces = false) {dp : Nat} {cr : Nat → List Value → xH → xO} (hself : ∀ t as P z, cr t as P = some z → Ct G l (dp + 8 - 1) (mt_X11_parts t) as P (fun r P1 => (r, P1) = z)) {n : Nat} {rec : Nat → List Value → xH → xO} (hrec : ∀ pc env P z, rec pc env P = some z → ∀ L st, lay_X11_parts pc env = some (L, st) → ∀ Q : xR → xH → Prop, Q z.1 z.2 → Wp G l (dp + 8) mX11_parts pc L st P Q) {a0 a1 a2 a3 a4} {P : xH} {z : xR × xH} (h : b_X11_parts_86 n cr rec a0 a1 a2 a3 a4 P = some z) {Q : xR → xH → Prop} (hQ : Q z.1 z.2) : Wp G l (dp + 8) mX11_parts 86 [some (.ref a0), some (.int a1), some (.int a2), some (.int a3), some (.int a4), none, none] [] P Q := by
  unfold b_X11_parts_86 at h
  refine x_iload dX11_parts_86 rfl ?_
  refine x_iload_n dX11_parts_88 rfl ?_
  refine x_icmp_gt 192 dX11_parts_89 (by decide) (fun q6 => ?_) (fun q6 => ?_)
  · rw [if_pos q6] at h
    cases h
    exact x_ret rfl dX11_parts_192 hQ
  · rw [if_neg q6] at h
    refine x_iload dX11_parts_92 rfl ?_
    refine x_iload_n dX11_parts_94 rfl ?_
    refine x_icmp_ne 108 dX11_parts_95 (by decide) (fun q5 => ?_) (fun q5 => ?_)
    · rw [if_pos q5] at h
      refine x_iconst 0 dX11_parts_108 (by decide) ?_
      refine x_istore dX11_parts_109 (Nat.le_of_ble_eq_true rfl) ?_
      refine x_iconst 0 dX11_parts_111 (by decide) ?_
      refine x_istore dX11_parts_112 (Nat.le_of_ble_eq_true rfl) ?_
      exact Wp.mask [true, true, true, true, true, true, true] (hrec 114 _ _ _ h _ _ rfl _ hQ)
    · rw [if_neg (fun z9 => z9 q5)] at h
      refine x_aload_nr dX11_parts_98 rfl ?_
      obtain ⟨v1, e2, h⟩ := Option.bind_eq_some_iff.mp h
      refine k_rA e2 dX11_parts_99 f_X11_20 ?_
      refine x_bipush 7 dX11_parts_102 (by decide) ?_
      obtain ⟨v3, e4, h⟩ := Option.bind_eq_some_iff.mp h
      refine k_aI e4 dX11_parts_104 ?_
      refine x_goto 109 dX11_parts_105 (by decide) ?_
      refine x_istore dX11_parts_109 (Nat.le_of_ble_eq_true rfl) ?_
      refine x_iconst 0 dX11_parts_111 (by decide) ?_
      refine x_istore dX11_parts_112 (Nat.le_of_ble_eq_true rfl) ?_
      exact Wp.mask [true, true, true, true, true, true, true] (hrec 114 _ _ _ h _ _ rfl _ hQ)
set_option maxHeartbeats 2000000 in
set_option maxRecDepth 20000 in
theorem t_X11_parts_114 {G : xG} {l : Launch} (hl : l.stackTraces = false) {dp : Nat} {cr : Nat → List Value → xH → xO} (hself : ∀ t as P z, cr t as P = some z → Ct G l (dp + 8 - 1) (mt_X11_parts t) as P (fun r P1 => (r, P1) = z)) {n : Nat} {rec : Nat → List Value → xH → xO} (hrec : ∀ pc env P z, rec pc env P = some z → ∀ L st, lay_X11_parts pc env = some (L, st) → ∀ Q : xR → xH → Prop, Q z.1 z.2 → Wp G l (dp + 8) mX11_parts pc L st P Q) {a0 a1 a2 a3 a4 a5 a6} {P : xH} {z : xR × xH} (h : b_X11_parts_114 n cr rec a0 a1 a2 a3 a4 a5 a6 P = some z) {Q : xR → xH → Prop} (hQ : Q z.1 z.2) : Wp G l (dp + 8) mX11_parts 114 [some (.ref a0), some (.int a1), some (.int a2), some (.int a3), some (.int a4), some (.int a5), some (.int a6)] [] P Q := by
  unfold b_X11_parts_114 at h
  refine x_iload dX11_parts_114 rfl ?_
  refine x_iload_n dX11_parts_116 rfl ?_
  refine x_icmp_ge 154 dX11_parts_117 (by decide) (fun q16 => ?_) (fun q16 => ?_)
  · rw [if_pos q16] at h
    refine x_aload_nr dX11_parts_154 rfl ?_
    obtain ⟨v1, e2, h⟩ := Option.bind_eq_some_iff.mp h
    refine k_rA e2 dX11_parts_155 f_X11_52 ?_
    refine x_iload_n dX11_parts_158 rfl ?_
    refine x_iload dX11_parts_159 rfl ?_
    obtain ⟨P3, e4, h⟩ := Option.bind_eq_some_iff.mp h
    refine k_sI e4 dX11_parts_161 ?_
    refine x_aload_nr dX11_parts_162 rfl ?_
    refine x_iload_n dX11_parts_163 rfl ?_
    refine x_iconst 1 dX11_parts_164 (by decide) ?_
    refine x_iadd dX11_parts_165 ?_
    refine x_iload dX11_parts_166 rfl ?_
    refine x_iload_n dX11_parts_168 rfl ?_
    refine x_icmp_ne 178 dX11_parts_169 (by decide) (fun q5 => ?_) (fun q5 => ?_)
    · rw [if_pos q5] at h
      refine x_iload_n dX11_parts_178 rfl ?_
      exact Wp.mask [true, true, true, true, true, true, true] (hrec 179 _ _ _ h _ _ rfl _ hQ)
    · rw [if_neg (fun z9 => z9 q5)] at h
      refine x_iload_n dX11_parts_172 rfl ?_
      refine x_iconst 1 dX11_parts_173 (by decide) ?_
      refine x_iadd dX11_parts_174 ?_
      refine x_goto 179 dX11_parts_175 (by decide) ?_
      exact Wp.mask [true, true, true, true, true, true, true] (hrec 179 _ _ _ h _ _ rfl _ hQ)
  · rw [if_neg q16] at h
    refine x_iload dX11_parts_120 rfl ?_
    refine x_aload_nr dX11_parts_122 rfl ?_
    obtain ⟨v6, e7, h⟩ := Option.bind_eq_some_iff.mp h
    refine k_rA e7 dX11_parts_123 f_X11_52 ?_
    refine x_iload dX11_parts_126 rfl ?_
    obtain ⟨v8, e9, h⟩ := Option.bind_eq_some_iff.mp h
    refine k_aI e9 dX11_parts_128 ?_
    refine x_iload dX11_parts_129 rfl ?_
    refine x_icmp_ne 144 dX11_parts_131 (by decide) (fun q15 => ?_) (fun q15 => ?_)
    · rw [if_pos q15] at h
      refine x_iconst 0 dX11_parts_144 (by decide) ?_
      refine x_iadd dX11_parts_145 ?_
      refine x_istore dX11_parts_146 (Nat.le_of_ble_eq_true rfl) ?_
      refine x_iinc (a6 + 1) dX11_parts_148 rfl (by rfl) ?_
      refine x_goto 114 dX11_parts_151 (by decide) ?_
      exact Wp.mask [true, true, true, true, true, true, true] (hrec 114 _ _ _ h _ _ rfl _ hQ)
    · rw [if_neg (fun z9 => z9 q15)] at h
      refine x_aload_nr dX11_parts_134 rfl ?_
      refine x_iload dX11_parts_135 rfl ?_
      refine x_iload_n dX11_parts_137 rfl ?_
      obtain ⟨_, e14, h⟩ := Option.bind_eq_some_iff.mp h
      obtain ⟨fse14, e14⟩ := kO_ok e14
      obtain ⟨r11, e12, h⟩ := Option.bind_eq_some_iff.mp h
      replace h := xI_ok h
      obtain ⟨v13, P10, rfl, h⟩ := h
      refine x_callV (c_X11_priceOf hl e12) dX11_parts_138 cw_X11_priceOf wl_X11_360 wi_X11_priceOf wse_X11_priceOf rfl e14 (by decide) rfl (by omega) (by decide) rfl (Nat.le_of_ble_eq_true rfl) rfl (fun v9 P9 hq9 => ?_) (fun i9 P9 hq9 => by cases hq9)
      cases hq9
      refine x_goto 145 dX11_parts_141 (by decide) ?_
      refine x_iadd dX11_parts_145 ?_
      refine x_istore dX11_parts_146 (Nat.le_of_ble_eq_true rfl) ?_
      refine x_iinc (a6 + 1) dX11_parts_148 rfl (by rfl) ?_
      refine x_goto 114 dX11_parts_151 (by decide) ?_
      exact Wp.mask [true, true, true, true, true, true, true] (hrec 114 _ _ _ h _ _ rfl _ hQ)
set_option maxHeartbeats 2000000 in
set_option maxRecDepth 20000 in
theorem t_X11_parts_179 {G : xG} {l : Launch} (hl : l.stackTraces = false) {dp : Nat} {cr : Nat → List Value → xH → xO} (hself : ∀ t as P z, cr t as P = some z → Ct G l (dp + 8 - 1) (mt_X11_parts t) as P (fun r P1 => (r, P1) = z)) {n : Nat} {rec : Nat → List Value → xH → xO} (hrec : ∀ pc env P z, rec pc env P = some z → ∀ L st, lay_X11_parts pc env = some (L, st) → ∀ Q : xR → xH → Prop, Q z.1 z.2 → Wp G l (dp + 8) mX11_parts pc L st P Q) {a0 a1 a2 a3 a4 a5 a6 s0 s1 s2} {P : xH} {z : xR × xH} (h : b_X11_parts_179 n cr rec a0 a1 a2 a3 a4 a5 a6 s0 s1 s2 P = some z) {Q : xR → xH → Prop} (hQ : Q z.1 z.2) : Wp G l (dp + 8) mX11_parts 179 [some (.ref a0), some (.int a1), some (.int a2), some (.int a3), some (.int a4), some (.int a5), some (.int a6)] [.int s2, .int s1, .ref s0] P Q := by
  unfold b_X11_parts_179 at h
  refine x_iload_n dX11_parts_179 rfl ?_
  refine x_iload dX11_parts_180 rfl ?_
  refine x_iadd dX11_parts_182 ?_
  obtain ⟨_, e4, h⟩ := Option.bind_eq_some_iff.mp h
  obtain ⟨fse4, e4⟩ := kO_ok e4
  obtain ⟨r2, e3, h⟩ := Option.bind_eq_some_iff.mp h
  replace h := xU_ok h
  obtain ⟨P1, rfl, h⟩ := h
  refine x_callV (hself 0 _ _ _ e3) dX11_parts_183 cw_X11_parts wl_X11_363 wi_X11_parts wse_X11_parts rfl e4 (by decide) rfl (by omega) (by decide) rfl (Nat.le_of_ble_eq_true rfl) rfl (fun v9 P9 hq9 => ?_) (fun i9 P9 hq9 => by cases hq9)
  cases hq9
  refine x_iinc (a4 + 1) dX11_parts_186 rfl (by rfl) ?_
  refine x_goto 86 dX11_parts_189 (by decide) ?_
  exact Wp.mask [true, true, true, true, true, false, false] (hrec 86 _ _ _ h _ _ rfl _ hQ)
theorem s_X11_parts {G : xG} {l : Launch} (hl : l.stackTraces = false) {dp : Nat} {cr : Nat → List Value → xH → xO} (hself : ∀ t as P z, cr t as P = some z → Ct G l (dp + 8 - 1) (mt_X11_parts t) as P (fun r P1 => (r, P1) = z)) : ∀ n pc env P z, g_X11_parts cr n pc env P = some z → ∀ L st, lay_X11_parts pc env = some (L, st) → ∀ Q : xR → xH → Prop, Q z.1 z.2 → Wp G l (dp + 8) mX11_parts pc L st P Q := by
  intro n
  induction n with
  | zero => intro pc env P z h; cases h
  | succ n ih =>
    intro pc env P z h L st hlay Q hQ
    unfold g_X11_parts at h
    split at h
    · cases hlay
      exact t_X11_parts_0 hl hself ih h hQ
    · cases hlay
      exact t_X11_parts_43 hl hself ih h hQ
    · cases hlay
      exact t_X11_parts_56 hl hself ih h hQ
    · cases hlay
      exact t_X11_parts_86 hl hself ih h hQ
    · cases hlay
      exact t_X11_parts_114 hl hself ih h hQ
    · cases hlay
      exact t_X11_parts_179 hl hself ih h hQ
    · cases h
theorem cg_X11_parts {G : xG} {l : Launch} (hl : l.stackTraces = false) {dp : Nat} {cr : Nat → List Value → xH → xO} (hself : ∀ t as P z, cr t as P = some z → Ct G l (dp + 8 - 1) (mt_X11_parts t) as P (fun r P1 => (r, P1) = z)) {n : Nat} {as : List Value} {P : xH} {z : xR × xH} (h : g_X11_parts cr n 0 as P = some z) : Ct G l (dp + 8) mX11_parts as P (fun r P1 => (r, P1) = z) := by
  cases n with
  | zero => cases h
  | succ n =>
    unfold g_X11_parts at h
    split at h
    · exact Ct.of hl (by decide +kernel) wc_X11_parts (Nat.le_of_ble_eq_true rfl) (t_X11_parts_0 hl hself (s_X11_parts hl hself _) h rfl)
    all_goals first | (cases h; done) | (rename_i q9 _; exact absurd q9 (by decide)) | (rename_i q9; exact absurd q9 (by decide)) | contradiction
def F_X11_parts (n : Nat) : Nat → Nat → List Value → xH → xO
  | 0 => fun _ _ _ => none
  | dp + 1 => fun t as P => match t with
    | 0 => g_X11_parts (F_X11_parts n dp) n 0 as P
    | _ => none
theorem cF_X11_parts {G : xG} {l : Launch} (hl : l.stackTraces = false) (n : Nat) : ∀ dp t as P z, F_X11_parts n dp t as P = some z → Ct G l (dp + 8) (mt_X11_parts t) as P (fun r P1 => (r, P1) = z) := by
  intro dp
  induction dp with
  | zero => intro t as P z h; cases h
  | succ dp ih =>
    intro t as P z h
    unfold F_X11_parts at h
    split at h
    · exact cg_X11_parts (dp := dp + 1) hl (fun t as P z h9 => (show dp + 1 + 8 - 1 = dp + 8 by omega) ▸ ih t as P z h9) h
    · cases h
def f_X11_parts (n pc : Nat) (as : List Value) (P : xH) : xO := if pc = 0 then F_X11_parts n 30 0 as P else none
theorem c_X11_parts {G : xG} {l : Launch} (hl : l.stackTraces = false) {n : Nat} {as : List Value} {P : xH} {z : xR × xH} (h : f_X11_parts n 0 as P = some z) : Ct G l 38 mX11_parts as P (fun r P1 => (r, P1) = z) := cF_X11_parts hl n 30 0 as P z h
