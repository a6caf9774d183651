/-! QuakeNetModel.copy([I[I)V -/
def b_X11_copy__0 (n : Nat) (rec : Nat → List Value → xH → xO) (a0 : Nat) (a1 : Nat) (a2 : Nat) (P : xH) : xO :=
  rec 2 [.ref a0, .ref a1, .ref a2, .int 0] P
def b_X11_copy__2 (n : Nat) (rec : Nat → List Value → xH → xO) (a0 : Nat) (a1 : Nat) (a2 : Nat) (a3 : Int32) (P : xH) : xO :=
  if 2301 ≤ a3 then
    some (.inl none, P)
  else
    (aI P a1 a3).bind fun v1 =>
    (sI P a2 a3 v1).bind fun P3 =>
    rec 2 [.ref a0, .ref a1, .ref a2, .int ((a3 + 1))] P3
def lay_X11_copy_ : Nat → List Value → Option (xL × List Value)
  | 0, [a0, a1, a2] => some ([some a0, some a1, some a2, none], [])
  | 2, [a0, a1, a2, a3] => some ([some a0, some a1, some a2, some a3], [])
  | _, _ => none
def f_X11_copy_ : Nat → Nat → List Value → xH → xO
  | 0 => fun _ _ _ => none
  | n + 1 => fun pc env P => match pc, env with
    | 0, [.ref a0, .ref a1, .ref a2] => b_X11_copy__0 n (f_X11_copy_ n) a0 a1 a2 P
    | 2, [.ref a0, .ref a1, .ref a2, .int a3] => b_X11_copy__2 n (f_X11_copy_ n) a0 a1 a2 a3 P
    | _, _ => none
set_option maxHeartbeats 2000000 in
set_option maxRecDepth 20000 in
theorem t_X11_copy__0 {G : xG} {l : Launch} (hl : l.stackTraces = false) {n : Nat} {rec : Nat → List Value → xH → xO} (hrec : ∀ pc env P z, rec pc env P = some z → ∀ L st, lay_X11_copy_ pc env = some (L, st) → ∀ Q : xR → xH → Prop, Q z.1 z.2 → Wp G l 3 mX11_copy_ pc L st P Q) {a0 a1 a2} {P : xH} {z : xR × xH} (h : b_X11_copy__0 n rec a0 a1 a2 P = some z) {Q : xR → xH → Prop} (hQ : Q z.1 z.2) : Wp G l 3 mX11_copy_ 0 [some (.ref a0), some (.ref a1), some (.ref a2), none] [] P Q := by
  unfold b_X11_copy__0 at h
  refine x_iconst 0 dX11_copy__0 (by decide) ?_
  refine x_istore_n dX11_copy__1 (Nat.le_of_ble_eq_true rfl) ?_
  exact Wp.mask [true, true, true, true] (hrec 2 _ _ _ h _ _ rfl _ hQ)
set_option maxHeartbeats 2000000 in
set_option maxRecDepth 20000 in
theorem t_X11_copy__2 {G : xG} {l : Launch} (hl : l.stackTraces = false) {n : Nat} {rec : Nat → List Value → xH → xO} (hrec : ∀ pc env P z, rec pc env P = some z → ∀ L st, lay_X11_copy_ pc env = some (L, st) → ∀ Q : xR → xH → Prop, Q z.1 z.2 → Wp G l 3 mX11_copy_ pc L st P Q) {a0 a1 a2 a3} {P : xH} {z : xR × xH} (h : b_X11_copy__2 n rec a0 a1 a2 a3 P = some z) {Q : xR → xH → Prop} (hQ : Q z.1 z.2) : Wp G l 3 mX11_copy_ 2 [some (.ref a0), some (.ref a1), some (.ref a2), some (.int a3)] [] P Q := by
  unfold b_X11_copy__2 at h
  refine x_iload_n dX11_copy__2 rfl ?_
  refine x_sipush 2301 dX11_copy__3 (by decide) ?_
  refine x_icmp_ge 21 dX11_copy__6 (by decide) (fun q5 => ?_) (fun q5 => ?_)
  · rw [if_pos q5] at h
    cases h
    exact x_ret rfl dX11_copy__21 hQ
  · rw [if_neg q5] at h
    refine x_aload_nr dX11_copy__9 rfl ?_
    refine x_iload_n dX11_copy__10 rfl ?_
    refine x_aload_nr dX11_copy__11 rfl ?_
    refine x_iload_n dX11_copy__12 rfl ?_
    obtain ⟨v1, e2, h⟩ := Option.bind_eq_some_iff.mp h
    refine k_aI e2 dX11_copy__13 ?_
    obtain ⟨P3, e4, h⟩ := Option.bind_eq_some_iff.mp h
    refine k_sI e4 dX11_copy__14 ?_
    refine x_iinc (a3 + 1) dX11_copy__15 rfl (by rfl) ?_
    refine x_goto 2 dX11_copy__18 (by decide) ?_
    exact Wp.mask [true, true, true, true] (hrec 2 _ _ _ h _ _ rfl _ hQ)
theorem s_X11_copy_ {G : xG} {l : Launch} (hl : l.stackTraces = false) : ∀ n pc env P z, f_X11_copy_ n pc env P = some z → ∀ L st, lay_X11_copy_ pc env = some (L, st) → ∀ Q : xR → xH → Prop, Q z.1 z.2 → Wp G l 3 mX11_copy_ pc L st P Q := by
  intro n
  induction n with
  | zero => intro pc env P z h; cases h
  | succ n ih =>
    intro pc env P z h L st hlay Q hQ
    unfold f_X11_copy_ at h
    split at h
    · cases hlay
      exact t_X11_copy__0 hl ih h hQ
    · cases hlay
      exact t_X11_copy__2 hl ih h hQ
    · cases h
theorem c_X11_copy_ {G : xG} {l : Launch} (hl : l.stackTraces = false) {n : Nat} {as : List Value} {P : xH} {z : xR × xH} (h : f_X11_copy_ n 0 as P = some z) : Ct G l 3 mX11_copy_ as P (fun r P1 => (r, P1) = z) := by
  cases n with
  | zero => cases h
  | succ n =>
    unfold f_X11_copy_ at h
    split at h
    · exact Ct.of hl (by decide +kernel) wc_X11_copy_ (Nat.le_of_ble_eq_true rfl) (t_X11_copy__0 hl (s_X11_copy_ hl _) h rfl)
    all_goals first | (cases h; done) | (rename_i q9 _; exact absurd q9 (by decide)) | (rename_i q9; exact absurd q9 (by decide)) | contradiction
/-! QuakeNetModel.runs(I)V -/
def b_X11_runs_0 (n : Nat) (rec : Nat → List Value → xH → xO) (a0 : Nat) (a1 : Int32) (P : xH) : xO :=
  (rA P a0 11 2).bind fun v1 =>
  (aI P v1 0).bind fun v3 =>
  if v3 ≤ 0 then
    rec 40 [.ref a0, .int a1] P
  else
    rec 11 [.ref a0, .int a1, .int 0] P
def b_X11_runs_11 (n : Nat) (rec : Nat → List Value → xH → xO) (a0 : Nat) (a1 : Int32) (a2 : Int32) (P : xH) : xO :=
  if 2301 ≤ a2 then
    rec 40 [.ref a0, .int a1] P
  else
    (rA P a0 11 1).bind fun v1 =>
    (rA P a0 11 3).bind fun v3 =>
    (aI P v3 ((1938 + a2))).bind fun v5 =>
    (sI P v1 a2 v5).bind fun P7 =>
    rec 11 [.ref a0, .int a1, .int ((a2 + 1))] P7
def b_X11_runs_40 (n : Nat) (rec : Nat → List Value → xH → xO) (a0 : Nat) (a1 : Int32) (P : xH) : xO :=
  (kO P a0 11).bind fun _ =>
  (f_X11_tick n 0 [.ref a0] P).bind fun r2 => xI r2 fun v4 P1 =>
  if a1 ≤ v4 then
    some (.inl none, P1)
  else
    (kO P1 a0 11).bind fun _ =>
    (f_X11_goesOn n 0 [.ref a0] P1).bind fun r7 => xU r7 fun P6 =>
    rec 54 [.ref a0, .int a1, .int 0] P6
def b_X11_runs_54 (n : Nat) (rec : Nat → List Value → xH → xO) (a0 : Nat) (a1 : Int32) (a2 : Int32) (P : xH) : xO :=
  (kO P a0 11).bind fun _ =>
  (f_X11_words n 0 [.ref a0] P).bind fun r2 => xI r2 fun v4 P1 =>
  if v4 ≤ a2 then
    rec 40 [.ref a0, .int a1] P1
  else
    (kO P1 a0 11).bind fun _ =>
    (f_X11_of n 0 [.ref a0, .int a2, .int 2] P1).bind fun r7 => xI r7 fun v9 P6 =>
    (kO P6 a0 11).bind fun _ =>
    (f_X11_tick n 0 [.ref a0] P6).bind fun r12 => xI r12 fun v14 P11 =>
    if ¬ v9 = v14 then
      rec 54 [.ref a0, .int a1, .int ((a2 + 1))] P11
    else
      (kO P11 a0 11).bind fun _ =>
      (f_X11_tells n 0 [.ref a0, .int a2] P11).bind fun r17 => xU r17 fun P16 =>
      rec 54 [.ref a0, .int a1, .int ((a2 + 1))] P16
def lay_X11_runs : Nat → List Value → Option (xL × List Value)
  | 0, [a0, a1] => some ([some a0, some a1, none], [])
  | 11, [a0, a1, a2] => some ([some a0, some a1, some a2], [])
  | 40, [a0, a1] => some ([some a0, some a1, none], [])
  | 54, [a0, a1, a2] => some ([some a0, some a1, some a2], [])
  | _, _ => none
def f_X11_runs : Nat → Nat → List Value → xH → xO
  | 0 => fun _ _ _ => none
  | n + 1 => fun pc env P => match pc, env with
    | 0, [.ref a0, .int a1] => b_X11_runs_0 n (f_X11_runs n) a0 a1 P
    | 11, [.ref a0, .int a1, .int a2] => b_X11_runs_11 n (f_X11_runs n) a0 a1 a2 P
    | 40, [.ref a0, .int a1] => b_X11_runs_40 n (f_X11_runs n) a0 a1 P
    | 54, [.ref a0, .int a1, .int a2] => b_X11_runs_54 n (f_X11_runs n) a0 a1 a2 P
    | _, _ => none
set_option maxHeartbeats 2000000 in
set_option maxRecDepth 20000 in
theorem t_X11_runs_0 {G : xG} {l : Launch} (hl : l.stackTraces = false) {n : Nat} {rec : Nat → List Value → xH → xO} (hrec : ∀ pc env P z, rec pc env P = some z → ∀ L st, lay_X11_runs pc env = some (L, st) → ∀ Q : xR → xH → Prop, Q z.1 z.2 → Wp G l 12 mX11_runs pc L st P Q) {a0 a1} {P : xH} {z : xR × xH} (h : b_X11_runs_0 n rec a0 a1 P = some z) {Q : xR → xH → Prop} (hQ : Q z.1 z.2) : Wp G l 12 mX11_runs 0 [some (.ref a0), some (.int a1), none] [] P Q := by
  unfold b_X11_runs_0 at h
  refine x_aload_nr dX11_runs_0 rfl ?_
  obtain ⟨v1, e2, h⟩ := Option.bind_eq_some_iff.mp h
  refine k_rA e2 dX11_runs_1 f_X11_17 ?_
  refine x_iconst 0 dX11_runs_4 (by decide) ?_
  obtain ⟨v3, e4, h⟩ := Option.bind_eq_some_iff.mp h
  refine k_aI e4 dX11_runs_5 ?_
  refine x_if_le 40 dX11_runs_6 (by decide) (fun q5 => ?_) (fun q5 => ?_)
  · rw [if_pos q5] at h
    exact Wp.mask [true, true, false] (hrec 40 _ _ _ h _ _ rfl _ hQ)
  · rw [if_neg q5] at h
    refine x_iconst 0 dX11_runs_9 (by decide) ?_
    refine x_istore_n dX11_runs_10 (Nat.le_of_ble_eq_true rfl) ?_
    exact Wp.mask [true, true, true] (hrec 11 _ _ _ h _ _ rfl _ hQ)
set_option maxHeartbeats 2000000 in
set_option maxRecDepth 20000 in
theorem t_X11_runs_11 {G : xG} {l : Launch} (hl : l.stackTraces = false) {n : Nat} {rec : Nat → List Value → xH → xO} (hrec : ∀ pc env P z, rec pc env P = some z → ∀ L st, lay_X11_runs pc env = some (L, st) → ∀ Q : xR → xH → Prop, Q z.1 z.2 → Wp G l 12 mX11_runs pc L st P Q) {a0 a1 a2} {P : xH} {z : xR × xH} (h : b_X11_runs_11 n rec a0 a1 a2 P = some z) {Q : xR → xH → Prop} (hQ : Q z.1 z.2) : Wp G l 12 mX11_runs 11 [some (.ref a0), some (.int a1), some (.int a2)] [] P Q := by
  unfold b_X11_runs_11 at h
  refine x_iload_n dX11_runs_11 rfl ?_
  refine x_sipush 2301 dX11_runs_12 (by decide) ?_
  refine x_icmp_ge 40 dX11_runs_15 (by decide) (fun q9 => ?_) (fun q9 => ?_)
  · rw [if_pos q9] at h
    exact Wp.mask [true, true, false] (hrec 40 _ _ _ h _ _ rfl _ hQ)
  · rw [if_neg q9] at h
    refine x_aload_nr dX11_runs_18 rfl ?_
    obtain ⟨v1, e2, h⟩ := Option.bind_eq_some_iff.mp h
    refine k_rA e2 dX11_runs_19 f_X11_13 ?_
    refine x_iload_n dX11_runs_22 rfl ?_
    refine x_aload_nr dX11_runs_23 rfl ?_
    obtain ⟨v3, e4, h⟩ := Option.bind_eq_some_iff.mp h
    refine k_rA e4 dX11_runs_24 f_X11_20 ?_
    refine x_sipush 1938 dX11_runs_27 (by decide) ?_
    refine x_iload_n dX11_runs_30 rfl ?_
    refine x_iadd dX11_runs_31 ?_
    obtain ⟨v5, e6, h⟩ := Option.bind_eq_some_iff.mp h
    refine k_aI e6 dX11_runs_32 ?_
    obtain ⟨P7, e8, h⟩ := Option.bind_eq_some_iff.mp h
    refine k_sI e8 dX11_runs_33 ?_
    refine x_iinc (a2 + 1) dX11_runs_34 rfl (by rfl) ?_
    refine x_goto 11 dX11_runs_37 (by decide) ?_
    exact Wp.mask [true, true, true] (hrec 11 _ _ _ h _ _ rfl _ hQ)
set_option maxHeartbeats 2000000 in
set_option maxRecDepth 20000 in
theorem t_X11_runs_40 {G : xG} {l : Launch} (hl : l.stackTraces = false) {n : Nat} {rec : Nat → List Value → xH → xO} (hrec : ∀ pc env P z, rec pc env P = some z → ∀ L st, lay_X11_runs pc env = some (L, st) → ∀ Q : xR → xH → Prop, Q z.1 z.2 → Wp G l 12 mX11_runs pc L st P Q) {a0 a1} {P : xH} {z : xR × xH} (h : b_X11_runs_40 n rec a0 a1 P = some z) {Q : xR → xH → Prop} (hQ : Q z.1 z.2) : Wp G l 12 mX11_runs 40 [some (.ref a0), some (.int a1), none] [] P Q := by
  unfold b_X11_runs_40 at h
  refine x_aload_nr dX11_runs_40 rfl ?_
  obtain ⟨_, e5, h⟩ := Option.bind_eq_some_iff.mp h
  obtain ⟨fse5, e5⟩ := kO_ok e5
  obtain ⟨r2, e3, h⟩ := Option.bind_eq_some_iff.mp h
  replace h := xI_ok h
  obtain ⟨v4, P1, rfl, h⟩ := h
  refine x_callV (c_X11_tick hl e3) dX11_runs_41 cw_X11_tick wl_X11_97 wi_X11_tick wse_X11_tick rfl e5 (by decide) rfl (by omega) (by decide) rfl (Nat.le_of_ble_eq_true rfl) rfl (fun v9 P9 hq9 => ?_) (fun i9 P9 hq9 => by cases hq9)
  cases hq9
  refine x_iload_n dX11_runs_44 rfl ?_
  refine x_icmp_ge 89 dX11_runs_45 (by decide) (fun q10 => ?_) (fun q10 => ?_)
  · rw [if_pos q10] at h
    cases h
    exact x_ret rfl dX11_runs_89 hQ
  · rw [if_neg q10] at h
    refine x_aload_nr dX11_runs_48 rfl ?_
    obtain ⟨_, e9, h⟩ := Option.bind_eq_some_iff.mp h
    obtain ⟨fse9, e9⟩ := kO_ok e9
    obtain ⟨r7, e8, h⟩ := Option.bind_eq_some_iff.mp h
    replace h := xU_ok h
    obtain ⟨P6, rfl, h⟩ := h
    refine x_callV (c_X11_goesOn hl e8) dX11_runs_49 cw_X11_goesOn wl_X11_306 wi_X11_goesOn wse_X11_goesOn rfl e9 (by decide) rfl (by omega) (by decide) rfl (Nat.le_of_ble_eq_true rfl) rfl (fun v9 P9 hq9 => ?_) (fun i9 P9 hq9 => by cases hq9)
    cases hq9
    refine x_iconst 0 dX11_runs_52 (by decide) ?_
    refine x_istore_n dX11_runs_53 (Nat.le_of_ble_eq_true rfl) ?_
    exact Wp.mask [true, true, true] (hrec 54 _ _ _ h _ _ rfl _ hQ)
set_option maxHeartbeats 2000000 in
set_option maxRecDepth 20000 in
theorem t_X11_runs_54 {G : xG} {l : Launch} (hl : l.stackTraces = false) {n : Nat} {rec : Nat → List Value → xH → xO} (hrec : ∀ pc env P z, rec pc env P = some z → ∀ L st, lay_X11_runs pc env = some (L, st) → ∀ Q : xR → xH → Prop, Q z.1 z.2 → Wp G l 12 mX11_runs pc L st P Q) {a0 a1 a2} {P : xH} {z : xR × xH} (h : b_X11_runs_54 n rec a0 a1 a2 P = some z) {Q : xR → xH → Prop} (hQ : Q z.1 z.2) : Wp G l 12 mX11_runs 54 [some (.ref a0), some (.int a1), some (.int a2)] [] P Q := by
  unfold b_X11_runs_54 at h
  refine x_iload_n dX11_runs_54 rfl ?_
  refine x_aload_nr dX11_runs_55 rfl ?_
  obtain ⟨_, e5, h⟩ := Option.bind_eq_some_iff.mp h
  obtain ⟨fse5, e5⟩ := kO_ok e5
  obtain ⟨r2, e3, h⟩ := Option.bind_eq_some_iff.mp h
  replace h := xI_ok h
  obtain ⟨v4, P1, rfl, h⟩ := h
  refine x_callV (c_X11_words hl e3) dX11_runs_56 cw_X11_words wl_X11_72 wi_X11_words wse_X11_words rfl e5 (by decide) rfl (by omega) (by decide) rfl (Nat.le_of_ble_eq_true rfl) rfl (fun v9 P9 hq9 => ?_) (fun i9 P9 hq9 => by cases hq9)
  cases hq9
  refine x_icmp_ge 86 dX11_runs_59 (by decide) (fun q21 => ?_) (fun q21 => ?_)
  · rw [if_pos q21] at h
    refine x_goto 40 dX11_runs_86 (by decide) ?_
    exact Wp.mask [true, true, false] (hrec 40 _ _ _ h _ _ rfl _ hQ)
  · rw [if_neg q21] at h
    refine x_aload_nr dX11_runs_62 rfl ?_
    refine x_iload_n dX11_runs_63 rfl ?_
    refine x_iconst 2 dX11_runs_64 (by decide) ?_
    obtain ⟨_, e10, h⟩ := Option.bind_eq_some_iff.mp h
    obtain ⟨fse10, e10⟩ := kO_ok e10
    obtain ⟨r7, e8, h⟩ := Option.bind_eq_some_iff.mp h
    replace h := xI_ok h
    obtain ⟨v9, P6, rfl, h⟩ := h
    refine x_callV (c_X11_of hl e8) dX11_runs_65 cw_X11_of wl_X11_240 wi_X11_of wse_X11_of rfl e10 (by decide) rfl (by omega) (by decide) rfl (Nat.le_of_ble_eq_true rfl) rfl (fun v9 P9 hq9 => ?_) (fun i9 P9 hq9 => by cases hq9)
    cases hq9
    refine x_aload_nr dX11_runs_68 rfl ?_
    obtain ⟨_, e15, h⟩ := Option.bind_eq_some_iff.mp h
    obtain ⟨fse15, e15⟩ := kO_ok e15
    obtain ⟨r12, e13, h⟩ := Option.bind_eq_some_iff.mp h
    replace h := xI_ok h
    obtain ⟨v14, P11, rfl, h⟩ := h
    refine x_callV (c_X11_tick hl e13) dX11_runs_69 cw_X11_tick wl_X11_97 wi_X11_tick wse_X11_tick rfl e15 (by decide) rfl (by omega) (by decide) rfl (Nat.le_of_ble_eq_true rfl) rfl (fun v9 P9 hq9 => ?_) (fun i9 P9 hq9 => by cases hq9)
    cases hq9
    refine x_icmp_ne 80 dX11_runs_72 (by decide) (fun q20 => ?_) (fun q20 => ?_)
    · rw [if_pos q20] at h
      refine x_iinc (a2 + 1) dX11_runs_80 rfl (by rfl) ?_
      refine x_goto 54 dX11_runs_83 (by decide) ?_
      exact Wp.mask [true, true, true] (hrec 54 _ _ _ h _ _ rfl _ hQ)
    · rw [if_neg (fun z9 => z9 q20)] at h
      refine x_aload_nr dX11_runs_75 rfl ?_
      refine x_iload_n dX11_runs_76 rfl ?_
      obtain ⟨_, e19, h⟩ := Option.bind_eq_some_iff.mp h
      obtain ⟨fse19, e19⟩ := kO_ok e19
      obtain ⟨r17, e18, h⟩ := Option.bind_eq_some_iff.mp h
      replace h := xU_ok h
      obtain ⟨P16, rfl, h⟩ := h
      refine x_callV (c_X11_tells hl e18) dX11_runs_77 cw_X11_tells wl_X11_318 wi_X11_tells wse_X11_tells rfl e19 (by decide) rfl (by omega) (by decide) rfl (Nat.le_of_ble_eq_true rfl) rfl (fun v9 P9 hq9 => ?_) (fun i9 P9 hq9 => by cases hq9)
      cases hq9
      refine x_iinc (a2 + 1) dX11_runs_80 rfl (by rfl) ?_
      refine x_goto 54 dX11_runs_83 (by decide) ?_
      exact Wp.mask [true, true, true] (hrec 54 _ _ _ h _ _ rfl _ hQ)
theorem s_X11_runs {G : xG} {l : Launch} (hl : l.stackTraces = false) : ∀ n pc env P z, f_X11_runs n pc env P = some z → ∀ L st, lay_X11_runs pc env = some (L, st) → ∀ Q : xR → xH → Prop, Q z.1 z.2 → Wp G l 12 mX11_runs pc L st P Q := by
  intro n
  induction n with
  | zero => intro pc env P z h; cases h
  | succ n ih =>
    intro pc env P z h L st hlay Q hQ
    unfold f_X11_runs at h
    split at h
    · cases hlay
      exact t_X11_runs_0 hl ih h hQ
    · cases hlay
      exact t_X11_runs_11 hl ih h hQ
    · cases hlay
      exact t_X11_runs_40 hl ih h hQ
    · cases hlay
      exact t_X11_runs_54 hl ih h hQ
    · cases h
theorem c_X11_runs {G : xG} {l : Launch} (hl : l.stackTraces = false) {n : Nat} {as : List Value} {P : xH} {z : xR × xH} (h : f_X11_runs n 0 as P = some z) : Ct G l 12 mX11_runs as P (fun r P1 => (r, P1) = z) := by
  cases n with
  | zero => cases h
  | succ n =>
    unfold f_X11_runs at h
    split at h
    · exact Ct.of hl (by decide +kernel) wc_X11_runs (Nat.le_of_ble_eq_true rfl) (t_X11_runs_0 hl (s_X11_runs hl _) h rfl)
    all_goals first | (cases h; done) | (rename_i q9 _; exact absurd q9 (by decide)) | (rename_i q9; exact absurd q9 (by decide)) | contradiction
/-! QuakeNetModel.far(II)I -/
def b_X11_far_0 (n : Nat) (rec : Nat → List Value → xH → xO) (a0 : Nat) (a1 : Int32) (a2 : Int32) (P : xH) : xO :=
  (wV P a0 11 0 (.int 0)).bind fun P1 =>
  (kO P1 a0 11).bind fun _ =>
  (f_X11_noWord n 0 [.ref a0, .int a1] P1).bind fun r4 => xI r4 fun v6 P3 =>
  (kO P3 a0 11).bind fun _ =>
  (f_X11_throwsIf n 0 [.ref a0, .int v6, .int 1] P3).bind fun r9 => xI r9 fun v11 P8 =>
  if ¬ v11 = 0 then
    some (.inl (some (.int 0)), P8)
  else
    if 0 ≤ a2 then
      rec 28 [.ref a0, .int a1, .int a2, .ref a0, .int 0] P8
    else
      rec 28 [.ref a0, .int a1, .int a2, .ref a0, .int 1] P8
def b_X11_far_28 (n : Nat) (rec : Nat → List Value → xH → xO) (a0 : Nat) (a1 : Int32) (a2 : Int32) (s0 : Nat) (s1 : Int32) (P : xH) : xO :=
  (kO P s0 11).bind fun _ =>
  (f_X11_throwsIf n 0 [.ref s0, .int s1, .int 2] P).bind fun r2 => xI r2 fun v4 P1 =>
  if v4 = 0 then
    (kO P1 a0 11).bind fun _ =>
    (f_X11_tick n 0 [.ref a0] P1).bind fun r7 => xI r7 fun v9 P6 =>
    (kO P6 a0 11).bind fun _ =>
    (f_X11_of n 0 [.ref a0, .int a1, .int 2] P6).bind fun r12 => xI r12 fun v14 P11 =>
    if v14 ≤ ((mMin a2 v9)) then
      (rA P11 a0 11 1).bind fun v16 =>
      (rA P11 a0 11 2).bind fun v18 =>
      (kO P11 a0 11).bind fun _ =>
      (f_X11_copy_ n 0 [.ref a0, .ref v16, .ref v18] P11).bind fun r21 => xU r21 fun P20 =>
      rec 76 [.ref a0, .int a1, .int a2, .int ((mMin a2 v9)), .int 0, .int 0] P20
    else
      some (.inl (some (.int 0)), P11)
  else
    some (.inl (some (.int 0)), P1)
def b_X11_far_76 (n : Nat) (rec : Nat → List Value → xH → xO) (a0 : Nat) (a1 : Int32) (a2 : Int32) (a3 : Int32) (a4 : Int32) (a5 : Int32) (P : xH) : xO :=
  if 4 ≤ a5 then
    (wV P a0 11 7 (.int 0)).bind fun P1 =>
    (rA P1 a0 11 2).bind fun v3 =>
    (rA P1 a0 11 1).bind fun v5 =>
    (kO P1 a0 11).bind fun _ =>
    (f_X11_copy_ n 0 [.ref a0, .ref v3, .ref v5] P1).bind fun r8 => xU r8 fun P7 =>
    some (.inl (some (.int a4)), P7)
  else
    if a5 ≤ 0 then
      rec 102 [.ref a0, .int a1, .int a2, .int a3, .int a4, .int a5] P
    else
      (rA P a0 11 3).bind fun v11 =>
      (aI P v11 ((2 + a5))).bind fun v13 =>
      if ¬ v13 = 0 then
        rec 102 [.ref a0, .int a1, .int a2, .int a3, .int a4, .int a5] P
      else
        rec 76 [.ref a0, .int a1, .int a2, .int a3, .int a4, .int ((a5 + 1))] P
def b_X11_far_102 (n : Nat) (rec : Nat → List Value → xH → xO) (a0 : Nat) (a1 : Int32) (a2 : Int32) (a3 : Int32) (a4 : Int32) (a5 : Int32) (P : xH) : xO :=
  (wV P a0 11 7 (.int a5)).bind fun P1 =>
  (kO P1 a0 11).bind fun _ =>
  (f_X11_runs n 0 [.ref a0, .int a3] P1).bind fun r4 => xU r4 fun P3 =>
  (kO P3 a0 11).bind fun _ =>
  (f_X11_haveOf n 0 [.ref a0, .int a1] P3).bind fun r8 => xI r8 fun v10 P7 =>
  rec 76 [.ref a0, .int a1, .int a2, .int a3, .int ((a4 + v10)), .int ((a5 + 1))] P7
def lay_X11_far : Nat → List Value → Option (xL × List Value)
  | 0, [a0, a1, a2] => some ([some a0, some a1, some a2, none, none, none], [])
  | 28, [a0, a1, a2, s0, s1] => some ([some a0, some a1, some a2, none, none, none], [s1, s0])
  | 76, [a0, a1, a2, a3, a4, a5] => some ([some a0, some a1, some a2, some a3, some a4, some a5], [])
  | 102, [a0, a1, a2, a3, a4, a5] => some ([some a0, some a1, some a2, some a3, some a4, some a5], [])
  | _, _ => none
def f_X11_far : Nat → Nat → List Value → xH → xO
  | 0 => fun _ _ _ => none
  | n + 1 => fun pc env P => match pc, env with
    | 0, [.ref a0, .int a1, .int a2] => b_X11_far_0 n (f_X11_far n) a0 a1 a2 P
    | 28, [.ref a0, .int a1, .int a2, .ref s0, .int s1] => b_X11_far_28 n (f_X11_far n) a0 a1 a2 s0 s1 P
    | 76, [.ref a0, .int a1, .int a2, .int a3, .int a4, .int a5] => b_X11_far_76 n (f_X11_far n) a0 a1 a2 a3 a4 a5 P
    | 102, [.ref a0, .int a1, .int a2, .int a3, .int a4, .int a5] => b_X11_far_102 n (f_X11_far n) a0 a1 a2 a3 a4 a5 P
    | _, _ => none
set_option maxHeartbeats 2000000 in
set_option maxRecDepth 20000 in
theorem t_X11_far_0 {G : xG} {l : Launch} (hl : l.stackTraces = false) {n : Nat} {rec : Nat → List Value → xH → xO} (hrec : ∀ pc env P z, rec pc env P = some z → ∀ L st, lay_X11_far pc env = some (L, st) → ∀ Q : xR → xH → Prop, Q z.1 z.2 → Wp G l 13 mX11_far pc L st P Q) {a0 a1 a2} {P : xH} {z : xR × xH} (h : b_X11_far_0 n rec a0 a1 a2 P = some z) {Q : xR → xH → Prop} (hQ : Q z.1 z.2) : Wp G l 13 mX11_far 0 [some (.ref a0), some (.int a1), some (.int a2), none, none, none] [] P Q := by
  unfold b_X11_far_0 at h
  refine x_aload_nr dX11_far_0 rfl ?_
  refine x_iconst 0 dX11_far_1 (by decide) ?_
  obtain ⟨P1, e2, h⟩ := Option.bind_eq_some_iff.mp h
  refine k_wI e2 dX11_far_2 f_X11_3 (Or.inl (by decide)) rfl ?_
  refine x_aload_nr dX11_far_5 rfl ?_
  refine x_aload_nr dX11_far_6 rfl ?_
  refine x_iload_n dX11_far_7 rfl ?_
  obtain ⟨_, e7, h⟩ := Option.bind_eq_some_iff.mp h
  obtain ⟨fse7, e7⟩ := kO_ok e7
  obtain ⟨r4, e5, h⟩ := Option.bind_eq_some_iff.mp h
  replace h := xI_ok h
  obtain ⟨v6, P3, rfl, h⟩ := h
  refine x_callV (c_X11_noWord hl e5) dX11_far_8 cw_X11_noWord wl_X11_322 wi_X11_noWord wse_X11_noWord rfl e7 (by decide) rfl (by omega) (by decide) rfl (Nat.le_of_ble_eq_true rfl) rfl (fun v9 P9 hq9 => ?_) (fun i9 P9 hq9 => by cases hq9)
  cases hq9
  refine x_iconst 1 dX11_far_11 (by decide) ?_
  obtain ⟨_, e12, h⟩ := Option.bind_eq_some_iff.mp h
  obtain ⟨fse12, e12⟩ := kO_ok e12
  obtain ⟨r9, e10, h⟩ := Option.bind_eq_some_iff.mp h
  replace h := xI_ok h
  obtain ⟨v11, P8, rfl, h⟩ := h
  refine x_callV (c_X11_throwsIf hl e10) dX11_far_12 cw_X11_throwsIf wl_X11_93 wi_X11_throwsIf wse_X11_throwsIf rfl e12 (by decide) rfl (by omega) (by decide) rfl (Nat.le_of_ble_eq_true rfl) rfl (fun v9 P9 hq9 => ?_) (fun i9 P9 hq9 => by cases hq9)
  cases hq9
  refine x_if_ne 35 dX11_far_15 (by decide) (fun q14 => ?_) (fun q14 => ?_)
  · rw [if_pos q14] at h
    refine x_iconst 0 dX11_far_35 (by decide) ?_
    cases h
    exact x_iret .int rfl rfl dX11_far_36 hQ
  · rw [if_neg (fun z9 => z9 q14)] at h
    refine x_aload_nr dX11_far_18 rfl ?_
    refine x_iload_n dX11_far_19 rfl ?_
    refine x_if_ge 27 dX11_far_20 (by decide) (fun q13 => ?_) (fun q13 => ?_)
    · rw [if_pos q13] at h
      refine x_iconst 0 dX11_far_27 (by decide) ?_
      exact Wp.mask [true, true, true, false, false, false] (hrec 28 _ _ _ h _ _ rfl _ hQ)
    · rw [if_neg q13] at h
      refine x_iconst 1 dX11_far_23 (by decide) ?_
      refine x_goto 28 dX11_far_24 (by decide) ?_
      exact Wp.mask [true, true, true, false, false, false] (hrec 28 _ _ _ h _ _ rfl _ hQ)
set_option maxHeartbeats 2000000 in
set_option maxRecDepth 20000 in
theorem t_X11_far_28 {G : xG} {l : Launch} (hl : l.stackTraces = false) {n : Nat} {rec : Nat → List Value → xH → xO} (hrec : ∀ pc env P z, rec pc env P = some z → ∀ L st, lay_X11_far pc env = some (L, st) → ∀ Q : xR → xH → Prop, Q z.1 z.2 → Wp G l 13 mX11_far pc L st P Q) {a0 a1 a2 s0 s1} {P : xH} {z : xR × xH} (h : b_X11_far_28 n rec a0 a1 a2 s0 s1 P = some z) {Q : xR → xH → Prop} (hQ : Q z.1 z.2) : Wp G l 13 mX11_far 28 [some (.ref a0), some (.int a1), some (.int a2), none, none, none] [.int s1, .ref s0] P Q := by
  unfold b_X11_far_28 at h
  refine x_iconst 2 dX11_far_28 (by decide) ?_
  obtain ⟨_, e5, h⟩ := Option.bind_eq_some_iff.mp h
  obtain ⟨fse5, e5⟩ := kO_ok e5
  obtain ⟨r2, e3, h⟩ := Option.bind_eq_some_iff.mp h
  replace h := xI_ok h
  obtain ⟨v4, P1, rfl, h⟩ := h
  refine x_callV (c_X11_throwsIf hl e3) dX11_far_29 cw_X11_throwsIf wl_X11_93 wi_X11_throwsIf wse_X11_throwsIf rfl e5 (by decide) rfl (by omega) (by decide) rfl (Nat.le_of_ble_eq_true rfl) rfl (fun v9 P9 hq9 => ?_) (fun i9 P9 hq9 => by cases hq9)
  cases hq9
  refine x_if_eq 37 dX11_far_32 (by decide) (fun q25 => ?_) (fun q25 => ?_)
  · rw [if_pos q25] at h
    refine x_iload_n dX11_far_37 rfl ?_
    refine x_aload_nr dX11_far_38 rfl ?_
    obtain ⟨_, e10, h⟩ := Option.bind_eq_some_iff.mp h
    obtain ⟨fse10, e10⟩ := kO_ok e10
    obtain ⟨r7, e8, h⟩ := Option.bind_eq_some_iff.mp h
    replace h := xI_ok h
    obtain ⟨v9, P6, rfl, h⟩ := h
    refine x_callV (c_X11_tick hl e8) dX11_far_39 cw_X11_tick wl_X11_97 wi_X11_tick wse_X11_tick rfl e10 (by decide) rfl (by omega) (by decide) rfl (Nat.le_of_ble_eq_true rfl) rfl (fun v9 P9 hq9 => ?_) (fun i9 P9 hq9 => by cases hq9)
    cases hq9
    refine x_mmin dX11_far_42 wl_X11_280 (Nat.le_of_ble_eq_true rfl) (by omega) ?_
    refine x_istore_n dX11_far_45 (Nat.le_of_ble_eq_true rfl) ?_
    refine x_aload_nr dX11_far_46 rfl ?_
    refine x_iload_n dX11_far_47 rfl ?_
    refine x_iconst 2 dX11_far_48 (by decide) ?_
    obtain ⟨_, e15, h⟩ := Option.bind_eq_some_iff.mp h
    obtain ⟨fse15, e15⟩ := kO_ok e15
    obtain ⟨r12, e13, h⟩ := Option.bind_eq_some_iff.mp h
    replace h := xI_ok h
    obtain ⟨v14, P11, rfl, h⟩ := h
    refine x_callV (c_X11_of hl e13) dX11_far_49 cw_X11_of wl_X11_240 wi_X11_of wse_X11_of rfl e15 (by decide) rfl (by omega) (by decide) rfl (Nat.le_of_ble_eq_true rfl) rfl (fun v9 P9 hq9 => ?_) (fun i9 P9 hq9 => by cases hq9)
    cases hq9
    refine x_iload_n dX11_far_52 rfl ?_
    refine x_icmp_le 58 dX11_far_53 (by decide) (fun q24 => ?_) (fun q24 => ?_)
    · rw [if_pos q24] at h
      refine x_aload_nr dX11_far_58 rfl ?_
      refine x_aload_nr dX11_far_59 rfl ?_
      obtain ⟨v16, e17, h⟩ := Option.bind_eq_some_iff.mp h
      refine k_rA e17 dX11_far_60 f_X11_13 ?_
      refine x_aload_nr dX11_far_63 rfl ?_
      obtain ⟨v18, e19, h⟩ := Option.bind_eq_some_iff.mp h
      refine k_rA e19 dX11_far_64 f_X11_17 ?_
      obtain ⟨_, e23, h⟩ := Option.bind_eq_some_iff.mp h
      obtain ⟨fse23, e23⟩ := kO_ok e23
      obtain ⟨r21, e22, h⟩ := Option.bind_eq_some_iff.mp h
      replace h := xU_ok h
      obtain ⟨P20, rfl, h⟩ := h
      refine x_callV (c_X11_copy_ hl e22) dX11_far_67 cw_X11_copy_ wl_X11_382 wi_X11_copy_ wse_X11_copy_ rfl e23 (by decide) rfl (by omega) (by decide) rfl (Nat.le_of_ble_eq_true rfl) rfl (fun v9 P9 hq9 => ?_) (fun i9 P9 hq9 => by cases hq9)
      cases hq9
      refine x_iconst 0 dX11_far_70 (by decide) ?_
      refine x_istore dX11_far_71 (Nat.le_of_ble_eq_true rfl) ?_
      refine x_iconst 0 dX11_far_73 (by decide) ?_
      refine x_istore dX11_far_74 (Nat.le_of_ble_eq_true rfl) ?_
      exact Wp.mask [true, true, true, true, true, true] (hrec 76 _ _ _ h _ _ rfl _ hQ)
    · rw [if_neg q24] at h
      refine x_iconst 0 dX11_far_56 (by decide) ?_
      cases h
      exact x_iret .int rfl rfl dX11_far_57 hQ
  · rw [if_neg q25] at h
    refine x_iconst 0 dX11_far_35 (by decide) ?_
    cases h
    exact x_iret .int rfl rfl dX11_far_36 hQ
set_option maxHeartbeats 2000000 in
set_option maxRecDepth 20000 in
theorem t_X11_far_76 {G : xG} {l : Launch} (hl : l.stackTraces = false) {n : Nat} {rec : Nat → List Value → xH → xO} (hrec : ∀ pc env P z, rec pc env P = some z → ∀ L st, lay_X11_far pc env = some (L, st) → ∀ Q : xR → xH → Prop, Q z.1 z.2 → Wp G l 13 mX11_far pc L st P Q) {a0 a1 a2 a3 a4 a5} {P : xH} {z : xR × xH} (h : b_X11_far_76 n rec a0 a1 a2 a3 a4 a5 P = some z) {Q : xR → xH → Prop} (hQ : Q z.1 z.2) : Wp G l 13 mX11_far 76 [some (.ref a0), some (.int a1), some (.int a2), some (.int a3), some (.int a4), some (.int a5)] [] P Q := by
  unfold b_X11_far_76 at h
  refine x_iload dX11_far_76 rfl ?_
  refine x_iconst 4 dX11_far_78 (by decide) ?_
  refine x_icmp_ge 129 dX11_far_79 (by decide) (fun q17 => ?_) (fun q17 => ?_)
  · rw [if_pos q17] at h
    refine x_aload_nr dX11_far_129 rfl ?_
    refine x_iconst 0 dX11_far_130 (by decide) ?_
    obtain ⟨P1, e2, h⟩ := Option.bind_eq_some_iff.mp h
    refine k_wI e2 dX11_far_131 f_X11_107 (Or.inl (by decide)) rfl ?_
    refine x_aload_nr dX11_far_134 rfl ?_
    refine x_aload_nr dX11_far_135 rfl ?_
    obtain ⟨v3, e4, h⟩ := Option.bind_eq_some_iff.mp h
    refine k_rA e4 dX11_far_136 f_X11_17 ?_
    refine x_aload_nr dX11_far_139 rfl ?_
    obtain ⟨v5, e6, h⟩ := Option.bind_eq_some_iff.mp h
    refine k_rA e6 dX11_far_140 f_X11_13 ?_
    obtain ⟨_, e10, h⟩ := Option.bind_eq_some_iff.mp h
    obtain ⟨fse10, e10⟩ := kO_ok e10
    obtain ⟨r8, e9, h⟩ := Option.bind_eq_some_iff.mp h
    replace h := xU_ok h
    obtain ⟨P7, rfl, h⟩ := h
    refine x_callV (c_X11_copy_ hl e9) dX11_far_143 cw_X11_copy_ wl_X11_382 wi_X11_copy_ wse_X11_copy_ rfl e10 (by decide) rfl (by omega) (by decide) rfl (Nat.le_of_ble_eq_true rfl) rfl (fun v9 P9 hq9 => ?_) (fun i9 P9 hq9 => by cases hq9)
    cases hq9
    refine x_iload dX11_far_146 rfl ?_
    cases h
    exact x_iret .int rfl rfl dX11_far_148 hQ
  · rw [if_neg q17] at h
    refine x_iload dX11_far_82 rfl ?_
    refine x_if_le 102 dX11_far_84 (by decide) (fun q16 => ?_) (fun q16 => ?_)
    · rw [if_pos q16] at h
      exact Wp.mask [true, true, true, true, true, true] (hrec 102 _ _ _ h _ _ rfl _ hQ)
    · rw [if_neg q16] at h
      refine x_aload_nr dX11_far_87 rfl ?_
      obtain ⟨v11, e12, h⟩ := Option.bind_eq_some_iff.mp h
      refine k_rA e12 dX11_far_88 f_X11_20 ?_
      refine x_iconst 2 dX11_far_91 (by decide) ?_
      refine x_iload dX11_far_92 rfl ?_
      refine x_iadd dX11_far_94 ?_
      obtain ⟨v13, e14, h⟩ := Option.bind_eq_some_iff.mp h
      refine k_aI e14 dX11_far_95 ?_
      refine x_if_ne 102 dX11_far_96 (by decide) (fun q15 => ?_) (fun q15 => ?_)
      · rw [if_pos q15] at h
        exact Wp.mask [true, true, true, true, true, true] (hrec 102 _ _ _ h _ _ rfl _ hQ)
      · rw [if_neg (fun z9 => z9 q15)] at h
        refine x_goto 123 dX11_far_99 (by decide) ?_
        refine x_iinc (a5 + 1) dX11_far_123 rfl (by rfl) ?_
        refine x_goto 76 dX11_far_126 (by decide) ?_
        exact Wp.mask [true, true, true, true, true, true] (hrec 76 _ _ _ h _ _ rfl _ hQ)
set_option maxHeartbeats 2000000 in
set_option maxRecDepth 20000 in
theorem t_X11_far_102 {G : xG} {l : Launch} (hl : l.stackTraces = false) {n : Nat} {rec : Nat → List Value → xH → xO} (hrec : ∀ pc env P z, rec pc env P = some z → ∀ L st, lay_X11_far pc env = some (L, st) → ∀ Q : xR → xH → Prop, Q z.1 z.2 → Wp G l 13 mX11_far pc L st P Q) {a0 a1 a2 a3 a4 a5} {P : xH} {z : xR × xH} (h : b_X11_far_102 n rec a0 a1 a2 a3 a4 a5 P = some z) {Q : xR → xH → Prop} (hQ : Q z.1 z.2) : Wp G l 13 mX11_far 102 [some (.ref a0), some (.int a1), some (.int a2), some (.int a3), some (.int a4), some (.int a5)] [] P Q := by
  unfold b_X11_far_102 at h
  refine x_aload_nr dX11_far_102 rfl ?_
  refine x_iload dX11_far_103 rfl ?_
  obtain ⟨P1, e2, h⟩ := Option.bind_eq_some_iff.mp h
  refine k_wI e2 dX11_far_105 f_X11_107 (Or.inl (by decide)) rfl ?_
  refine x_aload_nr dX11_far_108 rfl ?_
  refine x_iload_n dX11_far_109 rfl ?_
  obtain ⟨_, e6, h⟩ := Option.bind_eq_some_iff.mp h
  obtain ⟨fse6, e6⟩ := kO_ok e6
  obtain ⟨r4, e5, h⟩ := Option.bind_eq_some_iff.mp h
  replace h := xU_ok h
  obtain ⟨P3, rfl, h⟩ := h
  refine x_callV (c_X11_runs hl e5) dX11_far_110 cw_X11_runs wl_X11_386 wi_X11_runs wse_X11_runs rfl e6 (by decide) rfl (by omega) (by decide) rfl (Nat.le_of_ble_eq_true rfl) rfl (fun v9 P9 hq9 => ?_) (fun i9 P9 hq9 => by cases hq9)
  cases hq9
  refine x_iload dX11_far_113 rfl ?_
  refine x_aload_nr dX11_far_115 rfl ?_
  refine x_iload_n dX11_far_116 rfl ?_
  obtain ⟨_, e11, h⟩ := Option.bind_eq_some_iff.mp h
  obtain ⟨fse11, e11⟩ := kO_ok e11
  obtain ⟨r8, e9, h⟩ := Option.bind_eq_some_iff.mp h
  replace h := xI_ok h
  obtain ⟨v10, P7, rfl, h⟩ := h
  refine x_callV (c_X11_haveOf hl e9) dX11_far_117 cw_X11_haveOf wl_X11_243 wi_X11_haveOf wse_X11_haveOf rfl e11 (by decide) rfl (by omega) (by decide) rfl (Nat.le_of_ble_eq_true rfl) rfl (fun v9 P9 hq9 => ?_) (fun i9 P9 hq9 => by cases hq9)
  cases hq9
  refine x_iadd dX11_far_120 ?_
  refine x_istore dX11_far_121 (Nat.le_of_ble_eq_true rfl) ?_
  refine x_iinc (a5 + 1) dX11_far_123 rfl (by rfl) ?_
  refine x_goto 76 dX11_far_126 (by decide) ?_
  exact Wp.mask [true, true, true, true, true, true] (hrec 76 _ _ _ h _ _ rfl _ hQ)
theorem s_X11_far {G : xG} {l : Launch} (hl : l.stackTraces = false) : ∀ n pc env P z, f_X11_far n pc env P = some z → ∀ L st, lay_X11_far pc env = some (L, st) → ∀ Q : xR → xH → Prop, Q z.1 z.2 → Wp G l 13 mX11_far pc L st P Q := by
  intro n
  induction n with
  | zero => intro pc env P z h; cases h
  | succ n ih =>
    intro pc env P z h L st hlay Q hQ
    unfold f_X11_far at h
    split at h
    · cases hlay
      exact t_X11_far_0 hl ih h hQ
    · cases hlay
      exact t_X11_far_28 hl ih h hQ
    · cases hlay
      exact t_X11_far_76 hl ih h hQ
    · cases hlay
      exact t_X11_far_102 hl ih h hQ
    · cases h
theorem c_X11_far {G : xG} {l : Launch} (hl : l.stackTraces = false) {n : Nat} {as : List Value} {P : xH} {z : xR × xH} (h : f_X11_far n 0 as P = some z) : Ct G l 13 mX11_far as P (fun r P1 => (r, P1) = z) := by
  cases n with
  | zero => cases h
  | succ n =>
    unfold f_X11_far at h
    split at h
    · exact Ct.of hl (by decide +kernel) wc_X11_far (Nat.le_of_ble_eq_true rfl) (t_X11_far_0 hl (s_X11_far hl _) h rfl)
    all_goals first | (cases h; done) | (rename_i q9 _; exact absurd q9 (by decide)) | (rename_i q9; exact absurd q9 (by decide)) | contradiction
/-! QuakeNetModel.would(I)I -/
def b_X11_would_0 (n : Nat) (rec : Nat → List Value → xH → xO) (a0 : Nat) (a1 : Int32) (P : xH) : xO :=
  (kO P a0 11).bind fun _ =>
  (f_X11_uses n 0 [.ref a0] P).bind fun r2 => xU r2 fun P1 =>
  (kO P1 a0 11).bind fun _ =>
  (f_X11_noWord n 0 [.ref a0, .int a1] P1).bind fun r6 => xI r6 fun v8 P5 =>
  (kO P5 a0 11).bind fun _ =>
  (f_X11_throwsIf n 0 [.ref a0, .int v8, .int 1] P5).bind fun r11 => xI r11 fun v13 P10 =>
  if v13 = 0 then
    (kO P10 a0 11).bind fun _ =>
    (f_X11_reads n 0 [.ref a0] P10).bind fun r16 => xI r16 fun v18 P15 =>
    if ¬ v18 = 0 then
      rec 32 [.ref a0, .int a1, .ref a0, .int 0] P15
    else
      rec 32 [.ref a0, .int a1, .ref a0, .int 1] P15
  else
    some (.inl (some (.int 0)), P10)
def b_X11_would_32 (n : Nat) (rec : Nat → List Value → xH → xO) (a0 : Nat) (a1 : Int32) (s0 : Nat) (s1 : Int32) (P : xH) : xO :=
  (kO P s0 11).bind fun _ =>
  (f_X11_throwsIf n 0 [.ref s0, .int s1, .int 2] P).bind fun r2 => xI r2 fun v4 P1 =>
  if v4 = 0 then
    (rA P1 a0 11 1).bind fun v6 =>
    (rA P1 a0 11 2).bind fun v8 =>
    (kO P1 a0 11).bind fun _ =>
    (f_X11_copy_ n 0 [.ref a0, .ref v6, .ref v8] P1).bind fun r11 => xU r11 fun P10 =>
    (wV P10 a0 11 6 (.int 1)).bind fun P14 =>
    (rA P14 a0 11 2).bind fun v16 =>
    (aI P14 v16 0).bind fun v18 =>
    (kO P14 a0 11).bind fun _ =>
    (f_X11_runs n 0 [.ref a0, .int v18] P14).bind fun r21 => xU r21 fun P20 =>
    (wV P20 a0 11 6 (.int 0)).bind fun P24 =>
    (rA P24 a0 11 1).bind fun v26 =>
    (f_X11_hadAt n 0 [.int a1, .int 0] P24).bind fun r29 => xI r29 fun v31 P28 =>
    (aI P28 v26 v31).bind fun v32 =>
    (rA P28 a0 11 2).bind fun v34 =>
    (rA P28 a0 11 1).bind fun v36 =>
    (kO P28 a0 11).bind fun _ =>
    (f_X11_copy_ n 0 [.ref a0, .ref v34, .ref v36] P28).bind fun r39 => xU r39 fun P38 =>
    some (.inl (some (.int v32)), P38)
  else
    some (.inl (some (.int 0)), P1)
def lay_X11_would : Nat → List Value → Option (xL × List Value)
  | 0, [a0, a1] => some ([some a0, some a1, none], [])
  | 32, [a0, a1, s0, s1] => some ([some a0, some a1, none], [s1, s0])
  | _, _ => none
def f_X11_would : Nat → Nat → List Value → xH → xO
  | 0 => fun _ _ _ => none
  | n + 1 => fun pc env P => match pc, env with
    | 0, [.ref a0, .int a1] => b_X11_would_0 n (f_X11_would n) a0 a1 P
    | 32, [.ref a0, .int a1, .ref s0, .int s1] => b_X11_would_32 n (f_X11_would n) a0 a1 s0 s1 P
    | _, _ => none
set_option maxHeartbeats 2000000 in
set_option maxRecDepth 20000 in
theorem t_X11_would_0 {G : xG} {l : Launch} (hl : l.stackTraces = false) {n : Nat} {rec : Nat → List Value → xH → xO} (hrec : ∀ pc env P z, rec pc env P = some z → ∀ L st, lay_X11_would pc env = some (L, st) → ∀ Q : xR → xH → Prop, Q z.1 z.2 → Wp G l 43 mX11_would pc L st P Q) {a0 a1} {P : xH} {z : xR × xH} (h : b_X11_would_0 n rec a0 a1 P = some z) {Q : xR → xH → Prop} (hQ : Q z.1 z.2) : Wp G l 43 mX11_would 0 [some (.ref a0), some (.int a1), none] [] P Q := by
  unfold b_X11_would_0 at h
  refine x_aload_nr dX11_would_0 rfl ?_
  obtain ⟨_, e4, h⟩ := Option.bind_eq_some_iff.mp h
  obtain ⟨fse4, e4⟩ := kO_ok e4
  obtain ⟨r2, e3, h⟩ := Option.bind_eq_some_iff.mp h
  replace h := xU_ok h
  obtain ⟨P1, rfl, h⟩ := h
  refine x_callV (c_X11_uses hl e3) dX11_would_1 cw_X11_uses wl_X11_231 wi_X11_uses wse_X11_uses rfl e4 (by decide) rfl (by omega) (by decide) rfl (Nat.le_of_ble_eq_true rfl) rfl (fun v9 P9 hq9 => ?_) (fun i9 P9 hq9 => by cases hq9)
  cases hq9
  refine x_aload_nr dX11_would_4 rfl ?_
  refine x_aload_nr dX11_would_5 rfl ?_
  refine x_iload_n dX11_would_6 rfl ?_
  obtain ⟨_, e9, h⟩ := Option.bind_eq_some_iff.mp h
  obtain ⟨fse9, e9⟩ := kO_ok e9
  obtain ⟨r6, e7, h⟩ := Option.bind_eq_some_iff.mp h
  replace h := xI_ok h
  obtain ⟨v8, P5, rfl, h⟩ := h
  refine x_callV (c_X11_noWord hl e7) dX11_would_7 cw_X11_noWord wl_X11_322 wi_X11_noWord wse_X11_noWord rfl e9 (by decide) rfl (by omega) (by decide) rfl (Nat.le_of_ble_eq_true rfl) rfl (fun v9 P9 hq9 => ?_) (fun i9 P9 hq9 => by cases hq9)
  cases hq9
  refine x_iconst 1 dX11_would_10 (by decide) ?_
  obtain ⟨_, e14, h⟩ := Option.bind_eq_some_iff.mp h
  obtain ⟨fse14, e14⟩ := kO_ok e14
  obtain ⟨r11, e12, h⟩ := Option.bind_eq_some_iff.mp h
  replace h := xI_ok h
  obtain ⟨v13, P10, rfl, h⟩ := h
  refine x_callV (c_X11_throwsIf hl e12) dX11_would_11 cw_X11_throwsIf wl_X11_93 wi_X11_throwsIf wse_X11_throwsIf rfl e14 (by decide) rfl (by omega) (by decide) rfl (Nat.le_of_ble_eq_true rfl) rfl (fun v9 P9 hq9 => ?_) (fun i9 P9 hq9 => by cases hq9)
  cases hq9
  refine x_if_eq 19 dX11_would_14 (by decide) (fun q21 => ?_) (fun q21 => ?_)
  · rw [if_pos q21] at h
    refine x_aload_nr dX11_would_19 rfl ?_
    refine x_aload_nr dX11_would_20 rfl ?_
    obtain ⟨_, e19, h⟩ := Option.bind_eq_some_iff.mp h
    obtain ⟨fse19, e19⟩ := kO_ok e19
    obtain ⟨r16, e17, h⟩ := Option.bind_eq_some_iff.mp h
    replace h := xI_ok h
    obtain ⟨v18, P15, rfl, h⟩ := h
    refine x_callV (c_X11_reads hl e17) dX11_would_21 cw_X11_reads wl_X11_234 wi_X11_reads wse_X11_reads rfl e19 (by decide) rfl (by omega) (by decide) rfl (Nat.le_of_ble_eq_true rfl) rfl (fun v9 P9 hq9 => ?_) (fun i9 P9 hq9 => by cases hq9)
    cases hq9
    refine x_if_ne 31 dX11_would_24 (by decide) (fun q20 => ?_) (fun q20 => ?_)
    · rw [if_pos q20] at h
      refine x_iconst 0 dX11_would_31 (by decide) ?_
      exact Wp.mask [true, true, false] (hrec 32 _ _ _ h _ _ rfl _ hQ)
    · rw [if_neg (fun z9 => z9 q20)] at h
      refine x_iconst 1 dX11_would_27 (by decide) ?_
      refine x_goto 32 dX11_would_28 (by decide) ?_
      exact Wp.mask [true, true, false] (hrec 32 _ _ _ h _ _ rfl _ hQ)
  · rw [if_neg q21] at h
    refine x_iconst 0 dX11_would_17 (by decide) ?_
    cases h
    exact x_iret .int rfl rfl dX11_would_18 hQ
set_option maxHeartbeats 2000000 in
set_option maxRecDepth 20000 in
theorem t_X11_would_32 {G : xG} {l : Launch} (hl : l.stackTraces = false) {n : Nat} {rec : Nat → List Value → xH → xO} (hrec : ∀ pc env P z, rec pc env P = some z → ∀ L st, lay_X11_would pc env = some (L, st) → ∀ Q : xR → xH → Prop, Q z.1 z.2 → Wp G l 43 mX11_would pc L st P Q) {a0 a1 s0 s1} {P : xH} {z : xR × xH} (h : b_X11_would_32 n rec a0 a1 s0 s1 P = some z) {Q : xR → xH → Prop} (hQ : Q z.1 z.2) : Wp G l 43 mX11_would 32 [some (.ref a0), some (.int a1), none] [.int s1, .ref s0] P Q := by
  unfold b_X11_would_32 at h
  refine x_iconst 2 dX11_would_32 (by decide) ?_
  obtain ⟨_, e5, h⟩ := Option.bind_eq_some_iff.mp h
  obtain ⟨fse5, e5⟩ := kO_ok e5
  obtain ⟨r2, e3, h⟩ := Option.bind_eq_some_iff.mp h
  replace h := xI_ok h
  obtain ⟨v4, P1, rfl, h⟩ := h
  refine x_callV (c_X11_throwsIf hl e3) dX11_would_33 cw_X11_throwsIf wl_X11_93 wi_X11_throwsIf wse_X11_throwsIf rfl e5 (by decide) rfl (by omega) (by decide) rfl (Nat.le_of_ble_eq_true rfl) rfl (fun v9 P9 hq9 => ?_) (fun i9 P9 hq9 => by cases hq9)
  cases hq9
  refine x_if_eq 41 dX11_would_36 (by decide) (fun q42 => ?_) (fun q42 => ?_)
  · rw [if_pos q42] at h
    refine x_aload_nr dX11_would_41 rfl ?_
    refine x_aload_nr dX11_would_42 rfl ?_
    obtain ⟨v6, e7, h⟩ := Option.bind_eq_some_iff.mp h
    refine k_rA e7 dX11_would_43 f_X11_13 ?_
    refine x_aload_nr dX11_would_46 rfl ?_
    obtain ⟨v8, e9, h⟩ := Option.bind_eq_some_iff.mp h
    refine k_rA e9 dX11_would_47 f_X11_17 ?_
    obtain ⟨_, e13, h⟩ := Option.bind_eq_some_iff.mp h
    obtain ⟨fse13, e13⟩ := kO_ok e13
    obtain ⟨r11, e12, h⟩ := Option.bind_eq_some_iff.mp h
    replace h := xU_ok h
    obtain ⟨P10, rfl, h⟩ := h
    refine x_callV (c_X11_copy_ hl e12) dX11_would_50 cw_X11_copy_ wl_X11_382 wi_X11_copy_ wse_X11_copy_ rfl e13 (by decide) rfl (by omega) (by decide) rfl (Nat.le_of_ble_eq_true rfl) rfl (fun v9 P9 hq9 => ?_) (fun i9 P9 hq9 => by cases hq9)
    cases hq9
    refine x_aload_nr dX11_would_53 rfl ?_
    refine x_iconst 1 dX11_would_54 (by decide) ?_
    obtain ⟨P14, e15, h⟩ := Option.bind_eq_some_iff.mp h
    refine k_wI e15 dX11_would_55 f_X11_246 (Or.inl (by decide)) rfl ?_
    refine x_aload_nr dX11_would_58 rfl ?_
    refine x_aload_nr dX11_would_59 rfl ?_
    obtain ⟨v16, e17, h⟩ := Option.bind_eq_some_iff.mp h
    refine k_rA e17 dX11_would_60 f_X11_17 ?_
    refine x_iconst 0 dX11_would_63 (by decide) ?_
    obtain ⟨v18, e19, h⟩ := Option.bind_eq_some_iff.mp h
    refine k_aI e19 dX11_would_64 ?_
    obtain ⟨_, e23, h⟩ := Option.bind_eq_some_iff.mp h
    obtain ⟨fse23, e23⟩ := kO_ok e23
    obtain ⟨r21, e22, h⟩ := Option.bind_eq_some_iff.mp h
    replace h := xU_ok h
    obtain ⟨P20, rfl, h⟩ := h
    refine x_callV (c_X11_runs hl e22) dX11_would_65 cw_X11_runs wl_X11_386 wi_X11_runs wse_X11_runs rfl e23 (by decide) rfl (by omega) (by decide) rfl (Nat.le_of_ble_eq_true rfl) rfl (fun v9 P9 hq9 => ?_) (fun i9 P9 hq9 => by cases hq9)
    cases hq9
    refine x_aload_nr dX11_would_68 rfl ?_
    refine x_iconst 0 dX11_would_69 (by decide) ?_
    obtain ⟨P24, e25, h⟩ := Option.bind_eq_some_iff.mp h
    refine k_wI e25 dX11_would_70 f_X11_246 (Or.inl (by decide)) rfl ?_
    refine x_aload_nr dX11_would_73 rfl ?_
    obtain ⟨v26, e27, h⟩ := Option.bind_eq_some_iff.mp h
    refine k_rA e27 dX11_would_74 f_X11_13 ?_
    refine x_iload_n dX11_would_77 rfl ?_
    refine x_iconst 0 dX11_would_78 (by decide) ?_
    obtain ⟨r29, e30, h⟩ := Option.bind_eq_some_iff.mp h
    replace h := xI_ok h
    obtain ⟨v31, P28, rfl, h⟩ := h
    refine x_callS (c_X11_hadAt hl e30) dX11_would_79 cw_X11_hadAt wl_X11_261 ws_X11_hadAt rfl (by omega) (by decide) rfl (Nat.le_of_ble_eq_true rfl) rfl (fun v9 P9 hq9 => ?_) (fun i9 P9 hq9 => by cases hq9)
    cases hq9
    obtain ⟨v32, e33, h⟩ := Option.bind_eq_some_iff.mp h
    refine k_aI e33 dX11_would_82 ?_
    refine x_istore_n dX11_would_83 (Nat.le_of_ble_eq_true rfl) ?_
    refine x_aload_nr dX11_would_84 rfl ?_
    refine x_aload_nr dX11_would_85 rfl ?_
    obtain ⟨v34, e35, h⟩ := Option.bind_eq_some_iff.mp h
    refine k_rA e35 dX11_would_86 f_X11_17 ?_
    refine x_aload_nr dX11_would_89 rfl ?_
    obtain ⟨v36, e37, h⟩ := Option.bind_eq_some_iff.mp h
    refine k_rA e37 dX11_would_90 f_X11_13 ?_
    obtain ⟨_, e41, h⟩ := Option.bind_eq_some_iff.mp h
    obtain ⟨fse41, e41⟩ := kO_ok e41
    obtain ⟨r39, e40, h⟩ := Option.bind_eq_some_iff.mp h
    replace h := xU_ok h
    obtain ⟨P38, rfl, h⟩ := h
    refine x_callV (c_X11_copy_ hl e40) dX11_would_93 cw_X11_copy_ wl_X11_382 wi_X11_copy_ wse_X11_copy_ rfl e41 (by decide) rfl (by omega) (by decide) rfl (Nat.le_of_ble_eq_true rfl) rfl (fun v9 P9 hq9 => ?_) (fun i9 P9 hq9 => by cases hq9)
    cases hq9
    refine x_iload_n dX11_would_96 rfl ?_
    cases h
    exact x_iret .int rfl rfl dX11_would_97 hQ
  · rw [if_neg q42] at h
    refine x_iconst 0 dX11_would_39 (by decide) ?_
    cases h
    exact x_iret .int rfl rfl dX11_would_40 hQ
theorem s_X11_would {G : xG} {l : Launch} (hl : l.stackTraces = false) : ∀ n pc env P z, f_X11_would n pc env P = some z → ∀ L st, lay_X11_would pc env = some (L, st) → ∀ Q : xR → xH → Prop, Q z.1 z.2 → Wp G l 43 mX11_would pc L st P Q := by
  intro n
  induction n with
  | zero => intro pc env P z h; cases h
  | succ n ih =>
    intro pc env P z h L st hlay Q hQ
    unfold f_X11_would at h
    split at h
    · cases hlay
      exact t_X11_would_0 hl ih h hQ
    · cases hlay
      exact t_X11_would_32 hl ih h hQ
    · cases h
theorem c_X11_would {G : xG} {l : Launch} (hl : l.stackTraces = false) {n : Nat} {as : List Value} {P : xH} {z : xR × xH} (h : f_X11_would n 0 as P = some z) : Ct G l 43 mX11_would as P (fun r P1 => (r, P1) = z) := by
  cases n with
  | zero => cases h
  | succ n =>
    unfold f_X11_would at h
    split at h
    · exact Ct.of hl (by decide +kernel) wc_X11_would (Nat.le_of_ble_eq_true rfl) (t_X11_would_0 hl (s_X11_would hl _) h rfl)
    all_goals first | (cases h; done) | (rename_i q9 _; exact absurd q9 (by decide)) | (rename_i q9; exact absurd q9 (by decide)) | contradiction
/-! QuakeNetModel.rowAt(I)I -/
def b_X11_rowAt_0 (n : Nat) (rec : Nat → List Value → xH → xO) (a0 : Nat) (a1 : Int32) (P : xH) : xO :=
  (kO P a0 11).bind fun _ =>
  (f_X11_tick n 0 [.ref a0] P).bind fun r2 => xI r2 fun v4 P1 =>
  (f_X11_in n 0 [.int a1, .int 0, .int ((((mMin 8 v4)) - 1))] P1).bind fun r7 => xI r7 fun v9 P6 =>
  if v9 = 0 then
    some (.inl (some (.int ((-1)))), P6)
  else
    (kO P6 a0 11).bind fun _ =>
    (f_X11_tick n 0 [.ref a0] P6).bind fun r11 => xI r11 fun v13 P10 =>
    some (.inl (some (.int ((1136 + ((2 * ((((((v13 - ((mMin 8 v4)))) + 1)) + a1)))))))), P10)
def lay_X11_rowAt : Nat → List Value → Option (xL × List Value)
  | 0, [a0, a1] => some ([some a0, some a1, none], [])
  | _, _ => none
def f_X11_rowAt : Nat → Nat → List Value → xH → xO
  | 0 => fun _ _ _ => none
  | n + 1 => fun pc env P => match pc, env with
    | 0, [.ref a0, .int a1] => b_X11_rowAt_0 n (f_X11_rowAt n) a0 a1 P
    | _, _ => none
set_option maxHeartbeats 2000000 in
set_option maxRecDepth 20000 in
theorem t_X11_rowAt_0 {G : xG} {l : Launch} (hl : l.stackTraces = false) {n : Nat} {rec : Nat → List Value → xH → xO} (hrec : ∀ pc env P z, rec pc env P = some z → ∀ L st, lay_X11_rowAt pc env = some (L, st) → ∀ Q : xR → xH → Prop, Q z.1 z.2 → Wp G l 7 mX11_rowAt pc L st P Q) {a0 a1} {P : xH} {z : xR × xH} (h : b_X11_rowAt_0 n rec a0 a1 P = some z) {Q : xR → xH → Prop} (hQ : Q z.1 z.2) : Wp G l 7 mX11_rowAt 0 [some (.ref a0), some (.int a1), none] [] P Q := by
  unfold b_X11_rowAt_0 at h
  refine x_bipush 8 dX11_rowAt_0 (by decide) ?_
  refine x_aload_nr dX11_rowAt_2 rfl ?_
  obtain ⟨_, e5, h⟩ := Option.bind_eq_some_iff.mp h
  obtain ⟨fse5, e5⟩ := kO_ok e5
  obtain ⟨r2, e3, h⟩ := Option.bind_eq_some_iff.mp h
  replace h := xI_ok h
  obtain ⟨v4, P1, rfl, h⟩ := h
  refine x_callV (c_X11_tick hl e3) dX11_rowAt_3 cw_X11_tick wl_X11_97 wi_X11_tick wse_X11_tick rfl e5 (by decide) rfl (by omega) (by decide) rfl (Nat.le_of_ble_eq_true rfl) rfl (fun v9 P9 hq9 => ?_) (fun i9 P9 hq9 => by cases hq9)
  cases hq9
  refine x_mmin dX11_rowAt_6 wl_X11_280 (Nat.le_of_ble_eq_true rfl) (by omega) ?_
  refine x_istore_n dX11_rowAt_9 (Nat.le_of_ble_eq_true rfl) ?_
  refine x_iload_n dX11_rowAt_10 rfl ?_
  refine x_iconst 0 dX11_rowAt_11 (by decide) ?_
  refine x_iload_n dX11_rowAt_12 rfl ?_
  refine x_iconst 1 dX11_rowAt_13 (by decide) ?_
  refine x_isub dX11_rowAt_14 ?_
  obtain ⟨r7, e8, h⟩ := Option.bind_eq_some_iff.mp h
  replace h := xI_ok h
  obtain ⟨v9, P6, rfl, h⟩ := h
  refine x_callS (c_X11_in hl e8) dX11_rowAt_15 cw_X11_in wl_X11_68 ws_X11_in rfl (by omega) (by decide) rfl (Nat.le_of_ble_eq_true rfl) rfl (fun v9 P9 hq9 => ?_) (fun i9 P9 hq9 => by cases hq9)
  cases hq9
  refine x_if_eq 40 dX11_rowAt_18 (by decide) (fun q15 => ?_) (fun q15 => ?_)
  · rw [if_pos q15] at h
    refine x_iconst (-1) dX11_rowAt_40 (by decide) ?_
    cases h
    exact x_iret .int rfl rfl dX11_rowAt_41 hQ
  · rw [if_neg q15] at h
    refine x_sipush 1136 dX11_rowAt_21 (by decide) ?_
    refine x_iconst 2 dX11_rowAt_24 (by decide) ?_
    refine x_aload_nr dX11_rowAt_25 rfl ?_
    obtain ⟨_, e14, h⟩ := Option.bind_eq_some_iff.mp h
    obtain ⟨fse14, e14⟩ := kO_ok e14
    obtain ⟨r11, e12, h⟩ := Option.bind_eq_some_iff.mp h
    replace h := xI_ok h
    obtain ⟨v13, P10, rfl, h⟩ := h
    refine x_callV (c_X11_tick hl e12) dX11_rowAt_26 cw_X11_tick wl_X11_97 wi_X11_tick wse_X11_tick rfl e14 (by decide) rfl (by omega) (by decide) rfl (Nat.le_of_ble_eq_true rfl) rfl (fun v9 P9 hq9 => ?_) (fun i9 P9 hq9 => by cases hq9)
    cases hq9
    refine x_iload_n dX11_rowAt_29 rfl ?_
    refine x_isub dX11_rowAt_30 ?_
    refine x_iconst 1 dX11_rowAt_31 (by decide) ?_
    refine x_iadd dX11_rowAt_32 ?_
    refine x_iload_n dX11_rowAt_33 rfl ?_
    refine x_iadd dX11_rowAt_34 ?_
    refine x_imul dX11_rowAt_35 ?_
    refine x_iadd dX11_rowAt_36 ?_
    refine x_goto 41 dX11_rowAt_37 (by decide) ?_
    cases h
    exact x_iret .int rfl rfl dX11_rowAt_41 hQ
theorem s_X11_rowAt {G : xG} {l : Launch} (hl : l.stackTraces = false) : ∀ n pc env P z, f_X11_rowAt n pc env P = some z → ∀ L st, lay_X11_rowAt pc env = some (L, st) → ∀ Q : xR → xH → Prop, Q z.1 z.2 → Wp G l 7 mX11_rowAt pc L st P Q := by
  intro n
  induction n with
  | zero => intro pc env P z h; cases h
  | succ n ih =>
    intro pc env P z h L st hlay Q hQ
    unfold f_X11_rowAt at h
    split at h
    · cases hlay
      exact t_X11_rowAt_0 hl ih h hQ
    · cases h
theorem c_X11_rowAt {G : xG} {l : Launch} (hl : l.stackTraces = false) {n : Nat} {as : List Value} {P : xH} {z : xR × xH} (h : f_X11_rowAt n 0 as P = some z) : Ct G l 7 mX11_rowAt as P (fun r P1 => (r, P1) = z) := by
  cases n with
  | zero => cases h
  | succ n =>
    unfold f_X11_rowAt at h
    split at h
    · exact Ct.of hl (by decide +kernel) wc_X11_rowAt (Nat.le_of_ble_eq_true rfl) (t_X11_rowAt_0 hl (s_X11_rowAt hl _) h rfl)
    all_goals first | (cases h; done) | (rename_i q9 _; exact absurd q9 (by decide)) | (rename_i q9; exact absurd q9 (by decide)) | contradiction
/-! QuakeNetModel.tear(II)I -/
def b_X11_tear_0 (n : Nat) (rec : Nat → List Value → xH → xO) (a0 : Nat) (a1 : Int32) (a2 : Int32) (P : xH) : xO :=
  (wV P a0 11 0 (.int 0)).bind fun P1 =>
  (kO P1 a0 11).bind fun _ =>
  (f_X11_rowAt n 0 [.ref a0, .int a1] P1).bind fun r4 => xI r4 fun v6 P3 =>
  if 0 ≤ v6 then
    rec 19 [.ref a0, .int a1, .int a2, .ref a0, .int 0] P3
  else
    rec 19 [.ref a0, .int a1, .int a2, .ref a0, .int 1] P3
def b_X11_tear_19 (n : Nat) (rec : Nat → List Value → xH → xO) (a0 : Nat) (a1 : Int32) (a2 : Int32) (s0 : Nat) (s1 : Int32) (P : xH) : xO :=
  (kO P s0 11).bind fun _ =>
  (f_X11_throwsIf n 0 [.ref s0, .int s1, .int 1] P).bind fun r2 => xI r2 fun v4 P1 =>
  if v4 = 0 then
    (rA P1 a0 11 3).bind fun v6 =>
    (kO P1 a0 11).bind fun _ =>
    (f_X11_rowAt n 0 [.ref a0, .int a1] P1).bind fun r9 => xI r9 fun v11 P8 =>
    (aI P8 v6 v11).bind fun v13 =>
    (sI P8 v6 v11 ((v13 ^^^ a2))).bind fun P15 =>
    (rA P15 a0 11 3).bind fun v17 =>
    (kO P15 a0 11).bind fun _ =>
    (f_X11_rowAt n 0 [.ref a0, .int a1] P15).bind fun r20 => xI r20 fun v22 P19 =>
    (aI P19 v17 v22).bind fun v24 =>
    some (.inl (some (.int v24)), P19)
  else
    some (.inl (some (.int 0)), P1)
def lay_X11_tear : Nat → List Value → Option (xL × List Value)
  | 0, [a0, a1, a2] => some ([some a0, some a1, some a2], [])
  | 19, [a0, a1, a2, s0, s1] => some ([some a0, some a1, some a2], [s1, s0])
  | _, _ => none
def f_X11_tear : Nat → Nat → List Value → xH → xO
  | 0 => fun _ _ _ => none
  | n + 1 => fun pc env P => match pc, env with
    | 0, [.ref a0, .int a1, .int a2] => b_X11_tear_0 n (f_X11_tear n) a0 a1 a2 P
    | 19, [.ref a0, .int a1, .int a2, .ref s0, .int s1] => b_X11_tear_19 n (f_X11_tear n) a0 a1 a2 s0 s1 P
    | _, _ => none
set_option maxHeartbeats 2000000 in
set_option maxRecDepth 20000 in
theorem t_X11_tear_0 {G : xG} {l : Launch} (hl : l.stackTraces = false) {n : Nat} {rec : Nat → List Value → xH → xO} (hrec : ∀ pc env P z, rec pc env P = some z → ∀ L st, lay_X11_tear pc env = some (L, st) → ∀ Q : xR → xH → Prop, Q z.1 z.2 → Wp G l 8 mX11_tear pc L st P Q) {a0 a1 a2} {P : xH} {z : xR × xH} (h : b_X11_tear_0 n rec a0 a1 a2 P = some z) {Q : xR → xH → Prop} (hQ : Q z.1 z.2) : Wp G l 8 mX11_tear 0 [some (.ref a0), some (.int a1), some (.int a2)] [] P Q := by
  unfold b_X11_tear_0 at h
  refine x_aload_nr dX11_tear_0 rfl ?_
  refine x_iconst 0 dX11_tear_1 (by decide) ?_
  obtain ⟨P1, e2, h⟩ := Option.bind_eq_some_iff.mp h
  refine k_wI e2 dX11_tear_2 f_X11_3 (Or.inl (by decide)) rfl ?_
  refine x_aload_nr dX11_tear_5 rfl ?_
  refine x_aload_nr dX11_tear_6 rfl ?_
  refine x_iload_n dX11_tear_7 rfl ?_
  obtain ⟨_, e7, h⟩ := Option.bind_eq_some_iff.mp h
  obtain ⟨fse7, e7⟩ := kO_ok e7
  obtain ⟨r4, e5, h⟩ := Option.bind_eq_some_iff.mp h
  replace h := xI_ok h
  obtain ⟨v6, P3, rfl, h⟩ := h
  refine x_callV (c_X11_rowAt hl e5) dX11_tear_8 cw_X11_rowAt wl_X11_389 wi_X11_rowAt wse_X11_rowAt rfl e7 (by decide) rfl (by omega) (by decide) rfl (Nat.le_of_ble_eq_true rfl) rfl (fun v9 P9 hq9 => ?_) (fun i9 P9 hq9 => by cases hq9)
  cases hq9
  refine x_if_ge 18 dX11_tear_11 (by decide) (fun q8 => ?_) (fun q8 => ?_)
  · rw [if_pos q8] at h
    refine x_iconst 0 dX11_tear_18 (by decide) ?_
    exact Wp.mask [true, true, true] (hrec 19 _ _ _ h _ _ rfl _ hQ)
  · rw [if_neg q8] at h
    refine x_iconst 1 dX11_tear_14 (by decide) ?_
    refine x_goto 19 dX11_tear_15 (by decide) ?_
    exact Wp.mask [true, true, true] (hrec 19 _ _ _ h _ _ rfl _ hQ)
set_option maxHeartbeats 2000000 in
set_option maxRecDepth 20000 in
theorem t_X11_tear_19 {G : xG} {l : Launch} (hl : l.stackTraces = false) {n : Nat} {rec : Nat → List Value → xH → xO} (hrec : ∀ pc env P z, rec pc env P = some z → ∀ L st, lay_X11_tear pc env = some (L, st) → ∀ Q : xR → xH → Prop, Q z.1 z.2 → Wp G l 8 mX11_tear pc L st P Q) {a0 a1 a2 s0 s1} {P : xH} {z : xR × xH} (h : b_X11_tear_19 n rec a0 a1 a2 s0 s1 P = some z) {Q : xR → xH → Prop} (hQ : Q z.1 z.2) : Wp G l 8 mX11_tear 19 [some (.ref a0), some (.int a1), some (.int a2)] [.int s1, .ref s0] P Q := by
  unfold b_X11_tear_19 at h
  refine x_iconst 1 dX11_tear_19 (by decide) ?_
  obtain ⟨_, e5, h⟩ := Option.bind_eq_some_iff.mp h
  obtain ⟨fse5, e5⟩ := kO_ok e5
  obtain ⟨r2, e3, h⟩ := Option.bind_eq_some_iff.mp h
  replace h := xI_ok h
  obtain ⟨v4, P1, rfl, h⟩ := h
  refine x_callV (c_X11_throwsIf hl e3) dX11_tear_20 cw_X11_throwsIf wl_X11_93 wi_X11_throwsIf wse_X11_throwsIf rfl e5 (by decide) rfl (by omega) (by decide) rfl (Nat.le_of_ble_eq_true rfl) rfl (fun v9 P9 hq9 => ?_) (fun i9 P9 hq9 => by cases hq9)
  cases hq9
  refine x_if_eq 28 dX11_tear_23 (by decide) (fun q26 => ?_) (fun q26 => ?_)
  · rw [if_pos q26] at h
    refine x_aload_nr dX11_tear_28 rfl ?_
    obtain ⟨v6, e7, h⟩ := Option.bind_eq_some_iff.mp h
    refine k_rA e7 dX11_tear_29 f_X11_20 ?_
    refine x_aload_nr dX11_tear_32 rfl ?_
    refine x_iload_n dX11_tear_33 rfl ?_
    obtain ⟨_, e12, h⟩ := Option.bind_eq_some_iff.mp h
    obtain ⟨fse12, e12⟩ := kO_ok e12
    obtain ⟨r9, e10, h⟩ := Option.bind_eq_some_iff.mp h
    replace h := xI_ok h
    obtain ⟨v11, P8, rfl, h⟩ := h
    refine x_callV (c_X11_rowAt hl e10) dX11_tear_34 cw_X11_rowAt wl_X11_389 wi_X11_rowAt wse_X11_rowAt rfl e12 (by decide) rfl (by omega) (by decide) rfl (Nat.le_of_ble_eq_true rfl) rfl (fun v9 P9 hq9 => ?_) (fun i9 P9 hq9 => by cases hq9)
    cases hq9
    refine x_dup2 dX11_tear_37 rfl rfl ?_
    obtain ⟨v13, e14, h⟩ := Option.bind_eq_some_iff.mp h
    refine k_aI e14 dX11_tear_38 ?_
    refine x_iload_n dX11_tear_39 rfl ?_
    refine x_ixor dX11_tear_40 ?_
    obtain ⟨P15, e16, h⟩ := Option.bind_eq_some_iff.mp h
    refine k_sI e16 dX11_tear_41 ?_
    refine x_aload_nr dX11_tear_42 rfl ?_
    obtain ⟨v17, e18, h⟩ := Option.bind_eq_some_iff.mp h
    refine k_rA e18 dX11_tear_43 f_X11_20 ?_
    refine x_aload_nr dX11_tear_46 rfl ?_
    refine x_iload_n dX11_tear_47 rfl ?_
    obtain ⟨_, e23, h⟩ := Option.bind_eq_some_iff.mp h
    obtain ⟨fse23, e23⟩ := kO_ok e23
    obtain ⟨r20, e21, h⟩ := Option.bind_eq_some_iff.mp h
    replace h := xI_ok h
    obtain ⟨v22, P19, rfl, h⟩ := h
    refine x_callV (c_X11_rowAt hl e21) dX11_tear_48 cw_X11_rowAt wl_X11_389 wi_X11_rowAt wse_X11_rowAt rfl e23 (by decide) rfl (by omega) (by decide) rfl (Nat.le_of_ble_eq_true rfl) rfl (fun v9 P9 hq9 => ?_) (fun i9 P9 hq9 => by cases hq9)
    cases hq9
    obtain ⟨v24, e25, h⟩ := Option.bind_eq_some_iff.mp h
    refine k_aI e25 dX11_tear_51 ?_
    cases h
    exact x_iret .int rfl rfl dX11_tear_52 hQ
  · rw [if_neg q26] at h
    refine x_iconst 0 dX11_tear_26 (by decide) ?_
    cases h
    exact x_iret .int rfl rfl dX11_tear_27 hQ
theorem s_X11_tear {G : xG} {l : Launch} (hl : l.stackTraces = false) : ∀ n pc env P z, f_X11_tear n pc env P = some z → ∀ L st, lay_X11_tear pc env = some (L, st) → ∀ Q : xR → xH → Prop, Q z.1 z.2 → Wp G l 8 mX11_tear pc L st P Q := by
  intro n
  induction n with
  | zero => intro pc env P z h; cases h
  | succ n ih =>
    intro pc env P z h L st hlay Q hQ
    unfold f_X11_tear at h
    split at h
    · cases hlay
      exact t_X11_tear_0 hl ih h hQ
    · cases hlay
      exact t_X11_tear_19 hl ih h hQ
    · cases h
theorem c_X11_tear {G : xG} {l : Launch} (hl : l.stackTraces = false) {n : Nat} {as : List Value} {P : xH} {z : xR × xH} (h : f_X11_tear n 0 as P = some z) : Ct G l 8 mX11_tear as P (fun r P1 => (r, P1) = z) := by
  cases n with
  | zero => cases h
  | succ n =>
    unfold f_X11_tear at h
    split at h
    · exact Ct.of hl (by decide +kernel) wc_X11_tear (Nat.le_of_ble_eq_true rfl) (t_X11_tear_0 hl (s_X11_tear hl _) h rfl)
    all_goals first | (cases h; done) | (rename_i q9 _; exact absurd q9 (by decide)) | (rename_i q9; exact absurd q9 (by decide)) | contradiction
/-! QuakeNetModel.check()I -/
def b_X11_check_0 (n : Nat) (rec : Nat → List Value → xH → xO) (a0 : Nat) (P : xH) : xO :=
  (wV P a0 11 0 (.int 0)).bind fun P1 =>
  rec 7 [.ref a0, .int 0] P1
def b_X11_check_7 (n : Nat) (rec : Nat → List Value → xH → xO) (a0 : Nat) (a1 : Int32) (P : xH) : xO :=
  (kO P a0 11).bind fun _ =>
  (f_X11_tick n 0 [.ref a0] P).bind fun r2 => xI r2 fun v4 P1 =>
  if ((mMin 8 v4)) ≤ a1 then
    some (.inl (some (.int ((-1)))), P1)
  else
    (rA P1 a0 11 3).bind fun v6 =>
    (kO P1 a0 11).bind fun _ =>
    (f_X11_rowAt n 0 [.ref a0, .int a1] P1).bind fun r9 => xI r9 fun v11 P8 =>
    (aI P8 v6 v11).bind fun v13 =>
    (rA P8 a0 11 3).bind fun v15 =>
    (kO P8 a0 11).bind fun _ =>
    (f_X11_rowAt n 0 [.ref a0, .int a1] P8).bind fun r18 => xI r18 fun v20 P17 =>
    (aI P17 v15 ((v20 + 1))).bind fun v22 =>
    if v13 = v22 then
      rec 7 [.ref a0, .int ((a1 + 1))] P17
    else
      some (.inl (some (.int a1)), P17)
def lay_X11_check : Nat → List Value → Option (xL × List Value)
  | 0, [a0] => some ([some a0, none], [])
  | 7, [a0, a1] => some ([some a0, some a1], [])
  | _, _ => none
def f_X11_check : Nat → Nat → List Value → xH → xO
  | 0 => fun _ _ _ => none
  | n + 1 => fun pc env P => match pc, env with
    | 0, [.ref a0] => b_X11_check_0 n (f_X11_check n) a0 P
    | 7, [.ref a0, .int a1] => b_X11_check_7 n (f_X11_check n) a0 a1 P
    | _, _ => none
set_option maxHeartbeats 2000000 in
set_option maxRecDepth 20000 in
theorem t_X11_check_0 {G : xG} {l : Launch} (hl : l.stackTraces = false) {n : Nat} {rec : Nat → List Value → xH → xO} (hrec : ∀ pc env P z, rec pc env P = some z → ∀ L st, lay_X11_check pc env = some (L, st) → ∀ Q : xR → xH → Prop, Q z.1 z.2 → Wp G l 8 mX11_check pc L st P Q) {a0} {P : xH} {z : xR × xH} (h : b_X11_check_0 n rec a0 P = some z) {Q : xR → xH → Prop} (hQ : Q z.1 z.2) : Wp G l 8 mX11_check 0 [some (.ref a0), none] [] P Q := by
  unfold b_X11_check_0 at h
  refine x_aload_nr dX11_check_0 rfl ?_
  refine x_iconst 0 dX11_check_1 (by decide) ?_
  obtain ⟨P1, e2, h⟩ := Option.bind_eq_some_iff.mp h
  refine k_wI e2 dX11_check_2 f_X11_3 (Or.inl (by decide)) rfl ?_
  refine x_iconst 0 dX11_check_5 (by decide) ?_
  refine x_istore_n dX11_check_6 (Nat.le_of_ble_eq_true rfl) ?_
  exact Wp.mask [true, true] (hrec 7 _ _ _ h _ _ rfl _ hQ)
set_option maxHeartbeats 2000000 in
set_option maxRecDepth 20000 in
theorem t_X11_check_7 {G : xG} {l : Launch} (hl : l.stackTraces = false) {n : Nat} {rec : Nat → List Value → xH → xO} (hrec : ∀ pc env P z, rec pc env P = some z → ∀ L st, lay_X11_check pc env = some (L, st) → ∀ Q : xR → xH → Prop, Q z.1 z.2 → Wp G l 8 mX11_check pc L st P Q) {a0 a1} {P : xH} {z : xR × xH} (h : b_X11_check_7 n rec a0 a1 P = some z) {Q : xR → xH → Prop} (hQ : Q z.1 z.2) : Wp G l 8 mX11_check 7 [some (.ref a0), some (.int a1)] [] P Q := by
  unfold b_X11_check_7 at h
  refine x_iload_n dX11_check_7 rfl ?_
  refine x_bipush 8 dX11_check_8 (by decide) ?_
  refine x_aload_nr dX11_check_10 rfl ?_
  obtain ⟨_, e5, h⟩ := Option.bind_eq_some_iff.mp h
  obtain ⟨fse5, e5⟩ := kO_ok e5
  obtain ⟨r2, e3, h⟩ := Option.bind_eq_some_iff.mp h
  replace h := xI_ok h
  obtain ⟨v4, P1, rfl, h⟩ := h
  refine x_callV (c_X11_tick hl e3) dX11_check_11 cw_X11_tick wl_X11_97 wi_X11_tick wse_X11_tick rfl e5 (by decide) rfl (by omega) (by decide) rfl (Nat.le_of_ble_eq_true rfl) rfl (fun v9 P9 hq9 => ?_) (fun i9 P9 hq9 => by cases hq9)
  cases hq9
  refine x_mmin dX11_check_14 wl_X11_280 (Nat.le_of_ble_eq_true rfl) (by omega) ?_
  refine x_icmp_ge 53 dX11_check_17 (by decide) (fun q25 => ?_) (fun q25 => ?_)
  · rw [if_pos q25] at h
    refine x_iconst (-1) dX11_check_53 (by decide) ?_
    cases h
    exact x_iret .int rfl rfl dX11_check_54 hQ
  · rw [if_neg q25] at h
    refine x_aload_nr dX11_check_20 rfl ?_
    obtain ⟨v6, e7, h⟩ := Option.bind_eq_some_iff.mp h
    refine k_rA e7 dX11_check_21 f_X11_20 ?_
    refine x_aload_nr dX11_check_24 rfl ?_
    refine x_iload_n dX11_check_25 rfl ?_
    obtain ⟨_, e12, h⟩ := Option.bind_eq_some_iff.mp h
    obtain ⟨fse12, e12⟩ := kO_ok e12
    obtain ⟨r9, e10, h⟩ := Option.bind_eq_some_iff.mp h
    replace h := xI_ok h
    obtain ⟨v11, P8, rfl, h⟩ := h
    refine x_callV (c_X11_rowAt hl e10) dX11_check_26 cw_X11_rowAt wl_X11_389 wi_X11_rowAt wse_X11_rowAt rfl e12 (by decide) rfl (by omega) (by decide) rfl (Nat.le_of_ble_eq_true rfl) rfl (fun v9 P9 hq9 => ?_) (fun i9 P9 hq9 => by cases hq9)
    cases hq9
    obtain ⟨v13, e14, h⟩ := Option.bind_eq_some_iff.mp h
    refine k_aI e14 dX11_check_29 ?_
    refine x_aload_nr dX11_check_30 rfl ?_
    obtain ⟨v15, e16, h⟩ := Option.bind_eq_some_iff.mp h
    refine k_rA e16 dX11_check_31 f_X11_20 ?_
    refine x_aload_nr dX11_check_34 rfl ?_
    refine x_iload_n dX11_check_35 rfl ?_
    obtain ⟨_, e21, h⟩ := Option.bind_eq_some_iff.mp h
    obtain ⟨fse21, e21⟩ := kO_ok e21
    obtain ⟨r18, e19, h⟩ := Option.bind_eq_some_iff.mp h
    replace h := xI_ok h
    obtain ⟨v20, P17, rfl, h⟩ := h
    refine x_callV (c_X11_rowAt hl e19) dX11_check_36 cw_X11_rowAt wl_X11_389 wi_X11_rowAt wse_X11_rowAt rfl e21 (by decide) rfl (by omega) (by decide) rfl (Nat.le_of_ble_eq_true rfl) rfl (fun v9 P9 hq9 => ?_) (fun i9 P9 hq9 => by cases hq9)
    cases hq9
    refine x_iconst 1 dX11_check_39 (by decide) ?_
    refine x_iadd dX11_check_40 ?_
    obtain ⟨v22, e23, h⟩ := Option.bind_eq_some_iff.mp h
    refine k_aI e23 dX11_check_41 ?_
    refine x_icmp_eq 47 dX11_check_42 (by decide) (fun q24 => ?_) (fun q24 => ?_)
    · rw [if_pos q24] at h
      refine x_iinc (a1 + 1) dX11_check_47 rfl (by rfl) ?_
      refine x_goto 7 dX11_check_50 (by decide) ?_
      exact Wp.mask [true, true] (hrec 7 _ _ _ h _ _ rfl _ hQ)
    · rw [if_neg q24] at h
      refine x_iload_n dX11_check_45 rfl ?_
      cases h
      exact x_iret .int rfl rfl dX11_check_46 hQ
theorem s_X11_check {G : xG} {l : Launch} (hl : l.stackTraces = false) : ∀ n pc env P z, f_X11_check n pc env P = some z → ∀ L st, lay_X11_check pc env = some (L, st) → ∀ Q : xR → xH → Prop, Q z.1 z.2 → Wp G l 8 mX11_check pc L st P Q := by
  intro n
  induction n with
  | zero => intro pc env P z h; cases h
  | succ n ih =>
    intro pc env P z h L st hlay Q hQ
    unfold f_X11_check at h
    split at h
    · cases hlay
      exact t_X11_check_0 hl ih h hQ
    · cases hlay
      exact t_X11_check_7 hl ih h hQ
    · cases h
theorem c_X11_check {G : xG} {l : Launch} (hl : l.stackTraces = false) {n : Nat} {as : List Value} {P : xH} {z : xR × xH} (h : f_X11_check n 0 as P = some z) : Ct G l 8 mX11_check as P (fun r P1 => (r, P1) = z) := by
  cases n with
  | zero => cases h
  | succ n =>
    unfold f_X11_check at h
    split at h
    · exact Ct.of hl (by decide +kernel) wc_X11_check (Nat.le_of_ble_eq_true rfl) (t_X11_check_0 hl (s_X11_check hl _) h rfl)
    all_goals first | (cases h; done) | (rename_i q9 _; exact absurd q9 (by decide)) | (rename_i q9; exact absurd q9 (by decide)) | contradiction
/-! QuakeNetModel.sumOf(I)I -/
def b_X11_sumOf_0 (n : Nat) (rec : Nat → List Value → xH → xO) (a0 : Nat) (a1 : Int32) (P : xH) : xO :=
  rec 4 [.ref a0, .int a1, .int 0, .int 0] P
def b_X11_sumOf_4 (n : Nat) (rec : Nat → List Value → xH → xO) (a0 : Nat) (a1 : Int32) (a2 : Int32) (a3 : Int32) (P : xH) : xO :=
  (kO P a0 11).bind fun _ =>
  (f_X11_phones n 0 [.ref a0] P).bind fun r2 => xI r2 fun v4 P1 =>
  if v4 ≤ a3 then
    some (.inl (some (.int a2)), P1)
  else
    (rA P1 a0 11 1).bind fun v6 =>
    (f_X11_phoneAt n 0 [.int a3, .int a1] P1).bind fun r9 => xI r9 fun v11 P8 =>
    (aI P8 v6 v11).bind fun v12 =>
    rec 4 [.ref a0, .int a1, .int ((a2 + v12)), .int ((a3 + 1))] P8
def lay_X11_sumOf : Nat → List Value → Option (xL × List Value)
  | 0, [a0, a1] => some ([some a0, some a1, none, none], [])
  | 4, [a0, a1, a2, a3] => some ([some a0, some a1, some a2, some a3], [])
  | _, _ => none
def f_X11_sumOf : Nat → Nat → List Value → xH → xO
  | 0 => fun _ _ _ => none
  | n + 1 => fun pc env P => match pc, env with
    | 0, [.ref a0, .int a1] => b_X11_sumOf_0 n (f_X11_sumOf n) a0 a1 P
    | 4, [.ref a0, .int a1, .int a2, .int a3] => b_X11_sumOf_4 n (f_X11_sumOf n) a0 a1 a2 a3 P
    | _, _ => none
set_option maxHeartbeats 2000000 in
set_option maxRecDepth 20000 in
theorem t_X11_sumOf_0 {G : xG} {l : Launch} (hl : l.stackTraces = false) {n : Nat} {rec : Nat → List Value → xH → xO} (hrec : ∀ pc env P z, rec pc env P = some z → ∀ L st, lay_X11_sumOf pc env = some (L, st) → ∀ Q : xR → xH → Prop, Q z.1 z.2 → Wp G l 4 mX11_sumOf pc L st P Q) {a0 a1} {P : xH} {z : xR × xH} (h : b_X11_sumOf_0 n rec a0 a1 P = some z) {Q : xR → xH → Prop} (hQ : Q z.1 z.2) : Wp G l 4 mX11_sumOf 0 [some (.ref a0), some (.int a1), none, none] [] P Q := by
  unfold b_X11_sumOf_0 at h
  refine x_iconst 0 dX11_sumOf_0 (by decide) ?_
  refine x_istore_n dX11_sumOf_1 (Nat.le_of_ble_eq_true rfl) ?_
  refine x_iconst 0 dX11_sumOf_2 (by decide) ?_
  refine x_istore_n dX11_sumOf_3 (Nat.le_of_ble_eq_true rfl) ?_
  exact Wp.mask [true, true, true, true] (hrec 4 _ _ _ h _ _ rfl _ hQ)
set_option maxHeartbeats 2000000 in
set_option maxRecDepth 20000 in
theorem t_X11_sumOf_4 {G : xG} {l : Launch} (hl : l.stackTraces = false) {n : Nat} {rec : Nat → List Value → xH → xO} (hrec : ∀ pc env P z, rec pc env P = some z → ∀ L st, lay_X11_sumOf pc env = some (L, st) → ∀ Q : xR → xH → Prop, Q z.1 z.2 → Wp G l 4 mX11_sumOf pc L st P Q) {a0 a1 a2 a3} {P : xH} {z : xR × xH} (h : b_X11_sumOf_4 n rec a0 a1 a2 a3 P = some z) {Q : xR → xH → Prop} (hQ : Q z.1 z.2) : Wp G l 4 mX11_sumOf 4 [some (.ref a0), some (.int a1), some (.int a2), some (.int a3)] [] P Q := by
  unfold b_X11_sumOf_4 at h
  refine x_iload_n dX11_sumOf_4 rfl ?_
  refine x_aload_nr dX11_sumOf_5 rfl ?_
  obtain ⟨_, e5, h⟩ := Option.bind_eq_some_iff.mp h
  obtain ⟨fse5, e5⟩ := kO_ok e5
  obtain ⟨r2, e3, h⟩ := Option.bind_eq_some_iff.mp h
  replace h := xI_ok h
  obtain ⟨v4, P1, rfl, h⟩ := h
  refine x_callV (c_X11_phones hl e3) dX11_sumOf_6 cw_X11_phones wl_X11_64 wi_X11_phones wse_X11_phones rfl e5 (by decide) rfl (by omega) (by decide) rfl (Nat.le_of_ble_eq_true rfl) rfl (fun v9 P9 hq9 => ?_) (fun i9 P9 hq9 => by cases hq9)
  cases hq9
  refine x_icmp_ge 31 dX11_sumOf_9 (by decide) (fun q14 => ?_) (fun q14 => ?_)
  · rw [if_pos q14] at h
    refine x_iload_n dX11_sumOf_31 rfl ?_
    cases h
    exact x_iret .int rfl rfl dX11_sumOf_32 hQ
  · rw [if_neg q14] at h
    refine x_iload_n dX11_sumOf_12 rfl ?_
    refine x_aload_nr dX11_sumOf_13 rfl ?_
    obtain ⟨v6, e7, h⟩ := Option.bind_eq_some_iff.mp h
    refine k_rA e7 dX11_sumOf_14 f_X11_13 ?_
    refine x_iload_n dX11_sumOf_17 rfl ?_
    refine x_iload_n dX11_sumOf_18 rfl ?_
    obtain ⟨r9, e10, h⟩ := Option.bind_eq_some_iff.mp h
    replace h := xI_ok h
    obtain ⟨v11, P8, rfl, h⟩ := h
    refine x_callS (c_X11_phoneAt hl e10) dX11_sumOf_19 cw_X11_phoneAt wl_X11_100 ws_X11_phoneAt rfl (by omega) (by decide) rfl (Nat.le_of_ble_eq_true rfl) rfl (fun v9 P9 hq9 => ?_) (fun i9 P9 hq9 => by cases hq9)
    cases hq9
    obtain ⟨v12, e13, h⟩ := Option.bind_eq_some_iff.mp h
    refine k_aI e13 dX11_sumOf_22 ?_
    refine x_iadd dX11_sumOf_23 ?_
    refine x_istore_n dX11_sumOf_24 (Nat.le_of_ble_eq_true rfl) ?_
    refine x_iinc (a3 + 1) dX11_sumOf_25 rfl (by rfl) ?_
    refine x_goto 4 dX11_sumOf_28 (by decide) ?_
    exact Wp.mask [true, true, true, true] (hrec 4 _ _ _ h _ _ rfl _ hQ)
theorem s_X11_sumOf {G : xG} {l : Launch} (hl : l.stackTraces = false) : ∀ n pc env P z, f_X11_sumOf n pc env P = some z → ∀ L st, lay_X11_sumOf pc env = some (L, st) → ∀ Q : xR → xH → Prop, Q z.1 z.2 → Wp G l 4 mX11_sumOf pc L st P Q := by
  intro n
  induction n with
  | zero => intro pc env P z h; cases h
  | succ n ih =>
    intro pc env P z h L st hlay Q hQ
    unfold f_X11_sumOf at h
    split at h
    · cases hlay
      exact t_X11_sumOf_0 hl ih h hQ
    · cases hlay
      exact t_X11_sumOf_4 hl ih h hQ
    · cases h
theorem c_X11_sumOf {G : xG} {l : Launch} (hl : l.stackTraces = false) {n : Nat} {as : List Value} {P : xH} {z : xR × xH} (h : f_X11_sumOf n 0 as P = some z) : Ct G l 4 mX11_sumOf as P (fun r P1 => (r, P1) = z) := by
  cases n with
  | zero => cases h
  | succ n =>
    unfold f_X11_sumOf at h
    split at h
    · exact Ct.of hl (by decide +kernel) wc_X11_sumOf (Nat.le_of_ble_eq_true rfl) (t_X11_sumOf_0 hl (s_X11_sumOf hl _) h rfl)
    all_goals first | (cases h; done) | (rename_i q9 _; exact absurd q9 (by decide)) | (rename_i q9; exact absurd q9 (by decide)) | contradiction
/-! QuakeNetModel.count(I)I -/
def b_X11_count_0 (n : Nat) (rec : Nat → List Value → xH → xO) (a0 : Nat) (a1 : Int32) (P : xH) : xO :=
  (wV P a0 11 0 (.int 0)).bind fun P1 =>
  if Int32.toInt a1 < 0 ∨ 11 < Int32.toInt a1 then
    some (.inl (some (.int ((-1)))), P1)
  else
  if a1 = 0 then
    (kO P1 a0 11).bind fun _ =>
    (f_X11_tick n 0 [.ref a0] P1).bind fun r5 => xI r5 fun v7 P4 =>
    some (.inl (some (.int v7)), P4)
  else
  if a1 = 1 then
    (kO P1 a0 11).bind fun _ =>
    (f_X11_phones n 0 [.ref a0] P1).bind fun r11 => xI r11 fun v13 P10 =>
    some (.inl (some (.int v13)), P10)
  else
  if a1 = 2 then
    (kO P1 a0 11).bind fun _ =>
    (f_X11_words n 0 [.ref a0] P1).bind fun r17 => xI r17 fun v19 P16 =>
    some (.inl (some (.int v19)), P16)
  else
  if a1 = 3 then
    (rA P1 a0 11 3).bind fun v22 =>
    (f_X11_ruleAt n 0 [.int 0] P1).bind fun r25 => xI r25 fun v27 P24 =>
    (aI P24 v22 v27).bind fun v28 =>
    some (.inl (some (.int v28)), P24)
  else
  if a1 = 4 then
    (kO P1 a0 11).bind fun _ =>
    (f_X11_allCopies n 0 [.ref a0] P1).bind fun r32 => xI r32 fun v34 P31 =>
    some (.inl (some (.int v34)), P31)
  else
  if a1 = 5 then
    (kO P1 a0 11).bind fun _ =>
    (f_X11_sumOf n 0 [.ref a0, .int 2] P1).bind fun r38 => xI r38 fun v40 P37 =>
    some (.inl (some (.int v40)), P37)
  else
  if a1 = 6 then
    (kO P1 a0 11).bind fun _ =>
    (f_X11_sumOf n 0 [.ref a0, .int 4] P1).bind fun r44 => xI r44 fun v46 P43 =>
    some (.inl (some (.int v46)), P43)
  else
  if a1 = 7 then
    rec 116 [.ref a0, .int a1, .int 0, .int 0] P1
  else
  if a1 = 8 then
    (rA P1 a0 11 3).bind fun v50 =>
    (aI P1 v50 8).bind fun v52 =>
    some (.inl (some (.int v52)), P1)
  else
  if a1 = 9 then
    (rA P1 a0 11 3).bind fun v55 =>
    (aI P1 v55 9).bind fun v57 =>
    some (.inl (some (.int v57)), P1)
  else
  if a1 = 10 then
    (rA P1 a0 11 3).bind fun v60 =>
    (aI P1 v60 10).bind fun v62 =>
    some (.inl (some (.int v62)), P1)
  else
  if a1 = 11 then
    rec 179 [.ref a0, .int a1, .int 0, .int 0] P1
  else
  none
def b_X11_count_116 (n : Nat) (rec : Nat → List Value → xH → xO) (a0 : Nat) (a1 : Int32) (a2 : Int32) (a3 : Int32) (P : xH) : xO :=
  (kO P a0 11).bind fun _ =>
  (f_X11_words n 0 [.ref a0] P).bind fun r2 => xI r2 fun v4 P1 =>
  if v4 ≤ a3 then
    some (.inl (some (.int a2)), P1)
  else
    (rA P1 a0 11 1).bind fun v6 =>
    (f_X11_hadAt n 0 [.int a3, .int 0] P1).bind fun r9 => xI r9 fun v11 P8 =>
    (aI P8 v6 v11).bind fun v12 =>
    if v12 < 0 then
      rec 116 [.ref a0, .int a1, .int ((a2 + 0)), .int ((a3 + 1))] P8
    else
      rec 116 [.ref a0, .int a1, .int ((a2 + 1)), .int ((a3 + 1))] P8
def b_X11_count_179 (n : Nat) (rec : Nat → List Value → xH → xO) (a0 : Nat) (a1 : Int32) (a2 : Int32) (a3 : Int32) (P : xH) : xO :=
  if 4 ≤ a3 then
    some (.inl (some (.int a2)), P)
  else
    (rA P a0 11 3).bind fun v1 =>
    (aI P v1 ((2 + a3))).bind fun v3 =>
    if v3 ≤ 0 then
      rec 179 [.ref a0, .int a1, .int ((a2 + 0)), .int ((a3 + 1))] P
    else
      rec 179 [.ref a0, .int a1, .int ((a2 + 1)), .int ((a3 + 1))] P
def lay_X11_count : Nat → List Value → Option (xL × List Value)
  | 0, [a0, a1] => some ([some a0, some a1, none, none], [])
  | 116, [a0, a1, a2, a3] => some ([some a0, some a1, some a2, some a3], [])
  | 179, [a0, a1, a2, a3] => some ([some a0, some a1, some a2, some a3], [])
  | _, _ => none
def f_X11_count : Nat → Nat → List Value → xH → xO
  | 0 => fun _ _ _ => none
  | n + 1 => fun pc env P => match pc, env with
    | 0, [.ref a0, .int a1] => b_X11_count_0 n (f_X11_count n) a0 a1 P
    | 116, [.ref a0, .int a1, .int a2, .int a3] => b_X11_count_116 n (f_X11_count n) a0 a1 a2 a3 P
    | 179, [.ref a0, .int a1, .int a2, .int a3] => b_X11_count_179 n (f_X11_count n) a0 a1 a2 a3 P
    | _, _ => none
set_option maxHeartbeats 2000000 in
set_option maxRecDepth 20000 in
theorem t_X11_count_0 {G : xG} {l : Launch} (hl : l.stackTraces = false) {n : Nat} {rec : Nat → List Value → xH → xO} (hrec : ∀ pc env P z, rec pc env P = some z → ∀ L st, lay_X11_count pc env = some (L, st) → ∀ Q : xR → xH → Prop, Q z.1 z.2 → Wp G l 7 mX11_count pc L st P Q) {a0 a1} {P : xH} {z : xR × xH} (h : b_X11_count_0 n rec a0 a1 P = some z) {Q : xR → xH → Prop} (hQ : Q z.1 z.2) : Wp G l 7 mX11_count 0 [some (.ref a0), some (.int a1), none, none] [] P Q := by
  unfold b_X11_count_0 at h
  refine x_aload_nr dX11_count_0 rfl ?_
  refine x_iconst 0 dX11_count_1 (by decide) ?_
  obtain ⟨P1, e2, h⟩ := Option.bind_eq_some_iff.mp h
  refine k_wI e2 dX11_count_2 f_X11_3 (Or.inl (by decide)) rfl ?_
  refine x_iconst 0 dX11_count_5 (by decide) ?_
  refine x_istore_n dX11_count_6 (Nat.le_of_ble_eq_true rfl) ?_
  refine x_iload_n dX11_count_7 rfl ?_
  by_cases q3 : Int32.toInt a1 < 0 ∨ 11 < Int32.toInt a1
  · rw [if_pos q3] at h
    refine x_tabOut 211 dX11_count_8 q3 (by decide) ?_
    refine x_iconst (-1) dX11_count_211 (by decide) ?_
    cases h
    exact x_iret .int rfl rfl dX11_count_212 hQ
  · rw [if_neg q3] at h
    by_cases q9 : a1 = 0
    · rw [if_pos q9] at h
      refine x_tabIn 72 dX11_count_8 (fun w9 => q3 (Or.inl w9)) (fun w9 => q3 (Or.inr w9)) (by rw [q9]; rfl) (by decide) ?_
      refine x_aload_nr dX11_count_72 rfl ?_
      obtain ⟨_, e8, h⟩ := Option.bind_eq_some_iff.mp h
      obtain ⟨fse8, e8⟩ := kO_ok e8
      obtain ⟨r5, e6, h⟩ := Option.bind_eq_some_iff.mp h
      replace h := xI_ok h
      obtain ⟨v7, P4, rfl, h⟩ := h
      refine x_callV (c_X11_tick hl e6) dX11_count_73 cw_X11_tick wl_X11_97 wi_X11_tick wse_X11_tick rfl e8 (by decide) rfl (by omega) (by decide) rfl (Nat.le_of_ble_eq_true rfl) rfl (fun v9 P9 hq9 => ?_) (fun i9 P9 hq9 => by cases hq9)
      cases hq9
      cases h
      exact x_iret .int rfl rfl dX11_count_76 hQ
    · rw [if_neg q9] at h
      by_cases q15 : a1 = 1
      · rw [if_pos q15] at h
        refine x_tabIn 77 dX11_count_8 (fun w9 => q3 (Or.inl w9)) (fun w9 => q3 (Or.inr w9)) (by rw [q15]; rfl) (by decide) ?_
        refine x_aload_nr dX11_count_77 rfl ?_
        obtain ⟨_, e14, h⟩ := Option.bind_eq_some_iff.mp h
        obtain ⟨fse14, e14⟩ := kO_ok e14
        obtain ⟨r11, e12, h⟩ := Option.bind_eq_some_iff.mp h
        replace h := xI_ok h
        obtain ⟨v13, P10, rfl, h⟩ := h
        refine x_callV (c_X11_phones hl e12) dX11_count_78 cw_X11_phones wl_X11_64 wi_X11_phones wse_X11_phones rfl e14 (by decide) rfl (by omega) (by decide) rfl (Nat.le_of_ble_eq_true rfl) rfl (fun v9 P9 hq9 => ?_) (fun i9 P9 hq9 => by cases hq9)
        cases hq9
        cases h
        exact x_iret .int rfl rfl dX11_count_81 hQ
      · rw [if_neg q15] at h
        by_cases q21 : a1 = 2
        · rw [if_pos q21] at h
          refine x_tabIn 82 dX11_count_8 (fun w9 => q3 (Or.inl w9)) (fun w9 => q3 (Or.inr w9)) (by rw [q21]; rfl) (by decide) ?_
          refine x_aload_nr dX11_count_82 rfl ?_
          obtain ⟨_, e20, h⟩ := Option.bind_eq_some_iff.mp h
          obtain ⟨fse20, e20⟩ := kO_ok e20
          obtain ⟨r17, e18, h⟩ := Option.bind_eq_some_iff.mp h
          replace h := xI_ok h
          obtain ⟨v19, P16, rfl, h⟩ := h
          refine x_callV (c_X11_words hl e18) dX11_count_83 cw_X11_words wl_X11_72 wi_X11_words wse_X11_words rfl e20 (by decide) rfl (by omega) (by decide) rfl (Nat.le_of_ble_eq_true rfl) rfl (fun v9 P9 hq9 => ?_) (fun i9 P9 hq9 => by cases hq9)
          cases hq9
          cases h
          exact x_iret .int rfl rfl dX11_count_86 hQ
        · rw [if_neg q21] at h
          by_cases q30 : a1 = 3
          · rw [if_pos q30] at h
            refine x_tabIn 87 dX11_count_8 (fun w9 => q3 (Or.inl w9)) (fun w9 => q3 (Or.inr w9)) (by rw [q30]; rfl) (by decide) ?_
            refine x_aload_nr dX11_count_87 rfl ?_
            obtain ⟨v22, e23, h⟩ := Option.bind_eq_some_iff.mp h
            refine k_rA e23 dX11_count_88 f_X11_20 ?_
            refine x_iconst 0 dX11_count_91 (by decide) ?_
            obtain ⟨r25, e26, h⟩ := Option.bind_eq_some_iff.mp h
            replace h := xI_ok h
            obtain ⟨v27, P24, rfl, h⟩ := h
            refine x_callS (c_X11_ruleAt hl e26) dX11_count_92 cw_X11_ruleAt wl_X11_148 ws_X11_ruleAt rfl (by omega) (by decide) rfl (Nat.le_of_ble_eq_true rfl) rfl (fun v9 P9 hq9 => ?_) (fun i9 P9 hq9 => by cases hq9)
            cases hq9
            obtain ⟨v28, e29, h⟩ := Option.bind_eq_some_iff.mp h
            refine k_aI e29 dX11_count_95 ?_
            cases h
            exact x_iret .int rfl rfl dX11_count_96 hQ
          · rw [if_neg q30] at h
            by_cases q36 : a1 = 4
            · rw [if_pos q36] at h
              refine x_tabIn 97 dX11_count_8 (fun w9 => q3 (Or.inl w9)) (fun w9 => q3 (Or.inr w9)) (by rw [q36]; rfl) (by decide) ?_
              refine x_aload_nr dX11_count_97 rfl ?_
              obtain ⟨_, e35, h⟩ := Option.bind_eq_some_iff.mp h
              obtain ⟨fse35, e35⟩ := kO_ok e35
              obtain ⟨r32, e33, h⟩ := Option.bind_eq_some_iff.mp h
              replace h := xI_ok h
              obtain ⟨v34, P31, rfl, h⟩ := h
              refine x_callV (c_X11_allCopies hl e33) dX11_count_98 cw_X11_allCopies wl_X11_309 wi_X11_allCopies wse_X11_allCopies rfl e35 (by decide) rfl (by omega) (by decide) rfl (Nat.le_of_ble_eq_true rfl) rfl (fun v9 P9 hq9 => ?_) (fun i9 P9 hq9 => by cases hq9)
              cases hq9
              cases h
              exact x_iret .int rfl rfl dX11_count_101 hQ
            · rw [if_neg q36] at h
              by_cases q42 : a1 = 5
              · rw [if_pos q42] at h
                refine x_tabIn 102 dX11_count_8 (fun w9 => q3 (Or.inl w9)) (fun w9 => q3 (Or.inr w9)) (by rw [q42]; rfl) (by decide) ?_
                refine x_aload_nr dX11_count_102 rfl ?_
                refine x_iconst 2 dX11_count_103 (by decide) ?_
                obtain ⟨_, e41, h⟩ := Option.bind_eq_some_iff.mp h
                obtain ⟨fse41, e41⟩ := kO_ok e41
                obtain ⟨r38, e39, h⟩ := Option.bind_eq_some_iff.mp h
                replace h := xI_ok h
                obtain ⟨v40, P37, rfl, h⟩ := h
                refine x_callV (c_X11_sumOf hl e39) dX11_count_104 cw_X11_sumOf wl_X11_392 wi_X11_sumOf wse_X11_sumOf rfl e41 (by decide) rfl (by omega) (by decide) rfl (Nat.le_of_ble_eq_true rfl) rfl (fun v9 P9 hq9 => ?_) (fun i9 P9 hq9 => by cases hq9)
                cases hq9
                cases h
                exact x_iret .int rfl rfl dX11_count_107 hQ
              · rw [if_neg q42] at h
                by_cases q48 : a1 = 6
                · rw [if_pos q48] at h
                  refine x_tabIn 108 dX11_count_8 (fun w9 => q3 (Or.inl w9)) (fun w9 => q3 (Or.inr w9)) (by rw [q48]; rfl) (by decide) ?_
                  refine x_aload_nr dX11_count_108 rfl ?_
                  refine x_iconst 4 dX11_count_109 (by decide) ?_
                  obtain ⟨_, e47, h⟩ := Option.bind_eq_some_iff.mp h
                  obtain ⟨fse47, e47⟩ := kO_ok e47
                  obtain ⟨r44, e45, h⟩ := Option.bind_eq_some_iff.mp h
                  replace h := xI_ok h
                  obtain ⟨v46, P43, rfl, h⟩ := h
                  refine x_callV (c_X11_sumOf hl e45) dX11_count_110 cw_X11_sumOf wl_X11_392 wi_X11_sumOf wse_X11_sumOf rfl e47 (by decide) rfl (by omega) (by decide) rfl (Nat.le_of_ble_eq_true rfl) rfl (fun v9 P9 hq9 => ?_) (fun i9 P9 hq9 => by cases hq9)
                  cases hq9
                  cases h
                  exact x_iret .int rfl rfl dX11_count_113 hQ
                · rw [if_neg q48] at h
                  by_cases q49 : a1 = 7
                  · rw [if_pos q49] at h
                    refine x_tabIn 114 dX11_count_8 (fun w9 => q3 (Or.inl w9)) (fun w9 => q3 (Or.inr w9)) (by rw [q49]; rfl) (by decide) ?_
                    refine x_iconst 0 dX11_count_114 (by decide) ?_
                    refine x_istore_n dX11_count_115 (Nat.le_of_ble_eq_true rfl) ?_
                    exact Wp.mask [true, true, true, true] (hrec 116 _ _ _ h _ _ rfl _ hQ)
                  · rw [if_neg q49] at h
                    by_cases q54 : a1 = 8
                    · rw [if_pos q54] at h
                      refine x_tabIn 153 dX11_count_8 (fun w9 => q3 (Or.inl w9)) (fun w9 => q3 (Or.inr w9)) (by rw [q54]; rfl) (by decide) ?_
                      refine x_aload_nr dX11_count_153 rfl ?_
                      obtain ⟨v50, e51, h⟩ := Option.bind_eq_some_iff.mp h
                      refine k_rA e51 dX11_count_154 f_X11_20 ?_
                      refine x_bipush 8 dX11_count_157 (by decide) ?_
                      obtain ⟨v52, e53, h⟩ := Option.bind_eq_some_iff.mp h
                      refine k_aI e53 dX11_count_159 ?_
                      cases h
                      exact x_iret .int rfl rfl dX11_count_160 hQ
                    · rw [if_neg q54] at h
                      by_cases q59 : a1 = 9
                      · rw [if_pos q59] at h
                        refine x_tabIn 161 dX11_count_8 (fun w9 => q3 (Or.inl w9)) (fun w9 => q3 (Or.inr w9)) (by rw [q59]; rfl) (by decide) ?_
                        refine x_aload_nr dX11_count_161 rfl ?_
                        obtain ⟨v55, e56, h⟩ := Option.bind_eq_some_iff.mp h
                        refine k_rA e56 dX11_count_162 f_X11_20 ?_
                        refine x_bipush 9 dX11_count_165 (by decide) ?_
                        obtain ⟨v57, e58, h⟩ := Option.bind_eq_some_iff.mp h
                        refine k_aI e58 dX11_count_167 ?_
                        cases h
                        exact x_iret .int rfl rfl dX11_count_168 hQ
                      · rw [if_neg q59] at h
                        by_cases q64 : a1 = 10
                        · rw [if_pos q64] at h
                          refine x_tabIn 169 dX11_count_8 (fun w9 => q3 (Or.inl w9)) (fun w9 => q3 (Or.inr w9)) (by rw [q64]; rfl) (by decide) ?_
                          refine x_aload_nr dX11_count_169 rfl ?_
                          obtain ⟨v60, e61, h⟩ := Option.bind_eq_some_iff.mp h
                          refine k_rA e61 dX11_count_170 f_X11_20 ?_
                          refine x_bipush 10 dX11_count_173 (by decide) ?_
                          obtain ⟨v62, e63, h⟩ := Option.bind_eq_some_iff.mp h
                          refine k_aI e63 dX11_count_175 ?_
                          cases h
                          exact x_iret .int rfl rfl dX11_count_176 hQ
                        · rw [if_neg q64] at h
                          by_cases q65 : a1 = 11
                          · rw [if_pos q65] at h
                            refine x_tabIn 177 dX11_count_8 (fun w9 => q3 (Or.inl w9)) (fun w9 => q3 (Or.inr w9)) (by rw [q65]; rfl) (by decide) ?_
                            refine x_iconst 0 dX11_count_177 (by decide) ?_
                            refine x_istore_n dX11_count_178 (Nat.le_of_ble_eq_true rfl) ?_
                            exact Wp.mask [true, true, true, true] (hrec 179 _ _ _ h _ _ rfl _ hQ)
                          · rw [if_neg q65] at h
                            cases h
set_option maxHeartbeats 2000000 in
set_option maxRecDepth 20000 in
theorem t_X11_count_116 {G : xG} {l : Launch} (hl : l.stackTraces = false) {n : Nat} {rec : Nat → List Value → xH → xO} (hrec : ∀ pc env P z, rec pc env P = some z → ∀ L st, lay_X11_count pc env = some (L, st) → ∀ Q : xR → xH → Prop, Q z.1 z.2 → Wp G l 7 mX11_count pc L st P Q) {a0 a1 a2 a3} {P : xH} {z : xR × xH} (h : b_X11_count_116 n rec a0 a1 a2 a3 P = some z) {Q : xR → xH → Prop} (hQ : Q z.1 z.2) : Wp G l 7 mX11_count 116 [some (.ref a0), some (.int a1), some (.int a2), some (.int a3)] [] P Q := by
  unfold b_X11_count_116 at h
  refine x_iload_n dX11_count_116 rfl ?_
  refine x_aload_nr dX11_count_117 rfl ?_
  obtain ⟨_, e5, h⟩ := Option.bind_eq_some_iff.mp h
  obtain ⟨fse5, e5⟩ := kO_ok e5
  obtain ⟨r2, e3, h⟩ := Option.bind_eq_some_iff.mp h
  replace h := xI_ok h
  obtain ⟨v4, P1, rfl, h⟩ := h
  refine x_callV (c_X11_words hl e3) dX11_count_118 cw_X11_words wl_X11_72 wi_X11_words wse_X11_words rfl e5 (by decide) rfl (by omega) (by decide) rfl (Nat.le_of_ble_eq_true rfl) rfl (fun v9 P9 hq9 => ?_) (fun i9 P9 hq9 => by cases hq9)
  cases hq9
  refine x_icmp_ge 151 dX11_count_121 (by decide) (fun q15 => ?_) (fun q15 => ?_)
  · rw [if_pos q15] at h
    refine x_iload_n dX11_count_151 rfl ?_
    cases h
    exact x_iret .int rfl rfl dX11_count_152 hQ
  · rw [if_neg q15] at h
    refine x_iload_n dX11_count_124 rfl ?_
    refine x_aload_nr dX11_count_125 rfl ?_
    obtain ⟨v6, e7, h⟩ := Option.bind_eq_some_iff.mp h
    refine k_rA e7 dX11_count_126 f_X11_13 ?_
    refine x_iload_n dX11_count_129 rfl ?_
    refine x_iconst 0 dX11_count_130 (by decide) ?_
    obtain ⟨r9, e10, h⟩ := Option.bind_eq_some_iff.mp h
    replace h := xI_ok h
    obtain ⟨v11, P8, rfl, h⟩ := h
    refine x_callS (c_X11_hadAt hl e10) dX11_count_131 cw_X11_hadAt wl_X11_261 ws_X11_hadAt rfl (by omega) (by decide) rfl (Nat.le_of_ble_eq_true rfl) rfl (fun v9 P9 hq9 => ?_) (fun i9 P9 hq9 => by cases hq9)
    cases hq9
    obtain ⟨v12, e13, h⟩ := Option.bind_eq_some_iff.mp h
    refine k_aI e13 dX11_count_134 ?_
    refine x_if_lt 142 dX11_count_135 (by decide) (fun q14 => ?_) (fun q14 => ?_)
    · rw [if_pos q14] at h
      refine x_iconst 0 dX11_count_142 (by decide) ?_
      refine x_iadd dX11_count_143 ?_
      refine x_istore_n dX11_count_144 (Nat.le_of_ble_eq_true rfl) ?_
      refine x_iinc (a3 + 1) dX11_count_145 rfl (by rfl) ?_
      refine x_goto 116 dX11_count_148 (by decide) ?_
      exact Wp.mask [true, true, true, true] (hrec 116 _ _ _ h _ _ rfl _ hQ)
    · rw [if_neg q14] at h
      refine x_iconst 1 dX11_count_138 (by decide) ?_
      refine x_goto 143 dX11_count_139 (by decide) ?_
      refine x_iadd dX11_count_143 ?_
      refine x_istore_n dX11_count_144 (Nat.le_of_ble_eq_true rfl) ?_
      refine x_iinc (a3 + 1) dX11_count_145 rfl (by rfl) ?_
      refine x_goto 116 dX11_count_148 (by decide) ?_
      exact Wp.mask [true, true, true, true] (hrec 116 _ _ _ h _ _ rfl _ hQ)
set_option maxHeartbeats 2000000 in
set_option maxRecDepth 20000 in
theorem t_X11_count_179 {G : xG} {l : Launch} (hl : l.stackTraces = false) {n : Nat} {rec : Nat → List Value → xH → xO} (hrec : ∀ pc env P z, rec pc env P = some z → ∀ L st, lay_X11_count pc env = some (L, st) → ∀ Q : xR → xH → Prop, Q z.1 z.2 → Wp G l 7 mX11_count pc L st P Q) {a0 a1 a2 a3} {P : xH} {z : xR × xH} (h : b_X11_count_179 n rec a0 a1 a2 a3 P = some z) {Q : xR → xH → Prop} (hQ : Q z.1 z.2) : Wp G l 7 mX11_count 179 [some (.ref a0), some (.int a1), some (.int a2), some (.int a3)] [] P Q := by
  unfold b_X11_count_179 at h
  refine x_iload_n dX11_count_179 rfl ?_
  refine x_iconst 4 dX11_count_180 (by decide) ?_
  refine x_icmp_ge 209 dX11_count_181 (by decide) (fun q6 => ?_) (fun q6 => ?_)
  · rw [if_pos q6] at h
    refine x_iload_n dX11_count_209 rfl ?_
    cases h
    exact x_iret .int rfl rfl dX11_count_210 hQ
  · rw [if_neg q6] at h
    refine x_iload_n dX11_count_184 rfl ?_
    refine x_aload_nr dX11_count_185 rfl ?_
    obtain ⟨v1, e2, h⟩ := Option.bind_eq_some_iff.mp h
    refine k_rA e2 dX11_count_186 f_X11_20 ?_
    refine x_iconst 2 dX11_count_189 (by decide) ?_
    refine x_iload_n dX11_count_190 rfl ?_
    refine x_iadd dX11_count_191 ?_
    obtain ⟨v3, e4, h⟩ := Option.bind_eq_some_iff.mp h
    refine k_aI e4 dX11_count_192 ?_
    refine x_if_le 200 dX11_count_193 (by decide) (fun q5 => ?_) (fun q5 => ?_)
    · rw [if_pos q5] at h
      refine x_iconst 0 dX11_count_200 (by decide) ?_
      refine x_iadd dX11_count_201 ?_
      refine x_istore_n dX11_count_202 (Nat.le_of_ble_eq_true rfl) ?_
      refine x_iinc (a3 + 1) dX11_count_203 rfl (by rfl) ?_
      refine x_goto 179 dX11_count_206 (by decide) ?_
      exact Wp.mask [true, true, true, true] (hrec 179 _ _ _ h _ _ rfl _ hQ)
    · rw [if_neg q5] at h
      refine x_iconst 1 dX11_count_196 (by decide) ?_
      refine x_goto 201 dX11_count_197 (by decide) ?_
      refine x_iadd dX11_count_201 ?_
      refine x_istore_n dX11_count_202 (Nat.le_of_ble_eq_true rfl) ?_
      refine x_iinc (a3 + 1) dX11_count_203 rfl (by rfl) ?_
      refine x_goto 179 dX11_count_206 (by decide) ?_
      exact Wp.mask [true, true, true, true] (hrec 179 _ _ _ h _ _ rfl _ hQ)
theorem s_X11_count {G : xG} {l : Launch} (hl : l.stackTraces = false) : ∀ n pc env P z, f_X11_count n pc env P = some z → ∀ L st, lay_X11_count pc env = some (L, st) → ∀ Q : xR → xH → Prop, Q z.1 z.2 → Wp G l 7 mX11_count pc L st P Q := by
  intro n
  induction n with
  | zero => intro pc env P z h; cases h
  | succ n ih =>
    intro pc env P z h L st hlay Q hQ
    unfold f_X11_count at h
    split at h
    · cases hlay
      exact t_X11_count_0 hl ih h hQ
    · cases hlay
      exact t_X11_count_116 hl ih h hQ
    · cases hlay
      exact t_X11_count_179 hl ih h hQ
    · cases h
theorem c_X11_count {G : xG} {l : Launch} (hl : l.stackTraces = false) {n : Nat} {as : List Value} {P : xH} {z : xR × xH} (h : f_X11_count n 0 as P = some z) : Ct G l 7 mX11_count as P (fun r P1 => (r, P1) = z) := by
  cases n with
  | zero => cases h
  | succ n =>
    unfold f_X11_count at h
    split at h
    · exact Ct.of hl (by decide +kernel) wc_X11_count (Nat.le_of_ble_eq_true rfl) (t_X11_count_0 hl (s_X11_count hl _) h rfl)
    all_goals first | (cases h; done) | (rename_i q9 _; exact absurd q9 (by decide)) | (rename_i q9; exact absurd q9 (by decide)) | contradiction
