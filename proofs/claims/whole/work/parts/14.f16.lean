/-! QuakeNetModel.readAll()I -/
def b_X11_readAll_0 (n : Nat) (rec : Nat → List Value → xH → xO) (a0 : Nat) (P : xH) : xO :=
  (wV P a0 11 16 (.int 0)).bind fun P1 =>
  (kO P1 a0 11).bind fun _ =>
  (f_X11_blanks n 0 [.ref a0] P1).bind fun r4 => xU r4 fun P3 =>
  (rI P3 a0 11 10).bind fun v7 =>
  (rI P3 a0 11 11).bind fun v9 =>
  if ¬ v7 = v9 then
    rec 24 [.ref a0, .int 0] P3
  else
    some (.inl (some (.int 0)), P3)
def b_X11_readAll_24 (n : Nat) (rec : Nat → List Value → xH → xO) (a0 : Nat) (a1 : Int32) (P : xH) : xO :=
  (kO P a0 11).bind fun _ =>
  (f_X11_readLine n 0 [.ref a0, .int a1] P).bind fun r2 => xI r2 fun v4 P1 =>
  if ¬ v4 = 0 then
    (kO P1 a0 11).bind fun _ =>
    (f_X11_blanks n 0 [.ref a0] P1).bind fun r7 => xU r7 fun P6 =>
    (rI P6 a0 11 10).bind fun v10 =>
    (rI P6 a0 11 11).bind fun v12 =>
    if ¬ v10 = v12 then
      (kO P6 a0 11).bind fun _ =>
      (f_X11_isAt n 0 [.ref a0, .int 59, .int 59] P6).bind fun r15 => xI r15 fun v17 P14 =>
      if ¬ v17 = 0 then
        (rI P14 a0 11 10).bind fun v19 =>
        (wV P14 a0 11 10 (.int ((v19 + 1)))).bind fun P21 =>
        rec 24 [.ref a0, .int ((a1 + 1))] P21
      else
        some (.inl (some (.int ((-1)))), P14)
    else
      some (.inl (some (.int ((a1 + 1)))), P6)
  else
    some (.inl (some (.int ((-1)))), P1)
def lay_X11_readAll : Nat → List Value → Option (xL × List Value)
  | 0, [a0] => some ([some a0, none], [])
  | 24, [a0, a1] => some ([some a0, some a1], [])
  | _, _ => none
def f_X11_readAll : Nat → Nat → List Value → xH → xO
  | 0 => fun _ _ _ => none
  | n + 1 => fun pc env P => match pc, env with
    | 0, [.ref a0] => b_X11_readAll_0 n (f_X11_readAll n) a0 P
    | 24, [.ref a0, .int a1] => b_X11_readAll_24 n (f_X11_readAll n) a0 a1 P
    | _, _ => none
set_option maxHeartbeats 2000000 in
set_option maxRecDepth 20000 in
theorem t_X11_readAll_0 {G : xG} {l : Launch} (hl : l.stackTraces = false) {n : Nat} {rec : Nat → List Value → xH → xO} (hrec : ∀ pc env P z, rec pc env P = some z → ∀ L st, lay_X11_readAll pc env = some (L, st) → ∀ Q : xR → xH → Prop, Q z.1 z.2 → Wp G l 41 mX11_readAll pc L st P Q) {a0} {P : xH} {z : xR × xH} (h : b_X11_readAll_0 n rec a0 P = some z) {Q : xR → xH → Prop} (hQ : Q z.1 z.2) : Wp G l 41 mX11_readAll 0 [some (.ref a0), none] [] P Q := by
  unfold b_X11_readAll_0 at h
  refine x_aload_nr dX11_readAll_0 rfl ?_
  refine x_iconst 0 dX11_readAll_1 (by decide) ?_
  obtain ⟨P1, e2, h⟩ := Option.bind_eq_some_iff.mp h
  refine k_wI e2 dX11_readAll_2 f_X11_151 (Or.inl (by decide)) rfl ?_
  refine x_aload_nr dX11_readAll_5 rfl ?_
  obtain ⟨_, e6, h⟩ := Option.bind_eq_some_iff.mp h
  obtain ⟨fse6, e6⟩ := kO_ok e6
  obtain ⟨r4, e5, h⟩ := Option.bind_eq_some_iff.mp h
  replace h := xU_ok h
  obtain ⟨P3, rfl, h⟩ := h
  refine x_callV (c_X11_blanks hl e5) dX11_readAll_6 cw_X11_blanks wl_X11_129 wi_X11_blanks wse_X11_blanks rfl e6 (by decide) rfl (by omega) (by decide) rfl (Nat.le_of_ble_eq_true rfl) rfl (fun v9 P9 hq9 => ?_) (fun i9 P9 hq9 => by cases hq9)
  cases hq9
  refine x_aload_nr dX11_readAll_9 rfl ?_
  obtain ⟨v7, e8, h⟩ := Option.bind_eq_some_iff.mp h
  refine k_rI e8 dX11_readAll_10 f_X11_119 ?_
  refine x_aload_nr dX11_readAll_13 rfl ?_
  obtain ⟨v9, e10, h⟩ := Option.bind_eq_some_iff.mp h
  refine k_rI e10 dX11_readAll_14 f_X11_116 ?_
  refine x_icmp_ne 22 dX11_readAll_17 (by decide) (fun q11 => ?_) (fun q11 => ?_)
  · rw [if_pos q11] at h
    refine x_iconst 0 dX11_readAll_22 (by decide) ?_
    refine x_istore_n dX11_readAll_23 (Nat.le_of_ble_eq_true rfl) ?_
    exact Wp.mask [true, true] (hrec 24 _ _ _ h _ _ rfl _ hQ)
  · rw [if_neg (fun z9 => z9 q11)] at h
    refine x_iconst 0 dX11_readAll_20 (by decide) ?_
    cases h
    exact x_iret .int rfl rfl dX11_readAll_21 hQ
set_option maxHeartbeats 2000000 in
set_option maxRecDepth 20000 in
theorem t_X11_readAll_24 {G : xG} {l : Launch} (hl : l.stackTraces = false) {n : Nat} {rec : Nat → List Value → xH → xO} (hrec : ∀ pc env P z, rec pc env P = some z → ∀ L st, lay_X11_readAll pc env = some (L, st) → ∀ Q : xR → xH → Prop, Q z.1 z.2 → Wp G l 41 mX11_readAll pc L st P Q) {a0 a1} {P : xH} {z : xR × xH} (h : b_X11_readAll_24 n rec a0 a1 P = some z) {Q : xR → xH → Prop} (hQ : Q z.1 z.2) : Wp G l 41 mX11_readAll 24 [some (.ref a0), some (.int a1)] [] P Q := by
  unfold b_X11_readAll_24 at h
  refine x_aload_nr dX11_readAll_24 rfl ?_
  refine x_iload_n dX11_readAll_25 rfl ?_
  obtain ⟨_, e5, h⟩ := Option.bind_eq_some_iff.mp h
  obtain ⟨fse5, e5⟩ := kO_ok e5
  obtain ⟨r2, e3, h⟩ := Option.bind_eq_some_iff.mp h
  replace h := xI_ok h
  obtain ⟨v4, P1, rfl, h⟩ := h
  refine x_callV (c_X11_readLine hl e3) dX11_readAll_26 cw_X11_readLine wl_X11_222 wi_X11_readLine wse_X11_readLine rfl e5 (by decide) rfl (by omega) (by decide) rfl (Nat.le_of_ble_eq_true rfl) rfl (fun v9 P9 hq9 => ?_) (fun i9 P9 hq9 => by cases hq9)
  cases hq9
  refine x_if_ne 34 dX11_readAll_29 (by decide) (fun q25 => ?_) (fun q25 => ?_)
  · rw [if_pos q25] at h
    refine x_aload_nr dX11_readAll_34 rfl ?_
    obtain ⟨_, e9, h⟩ := Option.bind_eq_some_iff.mp h
    obtain ⟨fse9, e9⟩ := kO_ok e9
    obtain ⟨r7, e8, h⟩ := Option.bind_eq_some_iff.mp h
    replace h := xU_ok h
    obtain ⟨P6, rfl, h⟩ := h
    refine x_callV (c_X11_blanks hl e8) dX11_readAll_35 cw_X11_blanks wl_X11_129 wi_X11_blanks wse_X11_blanks rfl e9 (by decide) rfl (by omega) (by decide) rfl (Nat.le_of_ble_eq_true rfl) rfl (fun v9 P9 hq9 => ?_) (fun i9 P9 hq9 => by cases hq9)
    cases hq9
    refine x_aload_nr dX11_readAll_38 rfl ?_
    obtain ⟨v10, e11, h⟩ := Option.bind_eq_some_iff.mp h
    refine k_rI e11 dX11_readAll_39 f_X11_119 ?_
    refine x_aload_nr dX11_readAll_42 rfl ?_
    obtain ⟨v12, e13, h⟩ := Option.bind_eq_some_iff.mp h
    refine k_rI e13 dX11_readAll_43 f_X11_116 ?_
    refine x_icmp_ne 53 dX11_readAll_46 (by decide) (fun q24 => ?_) (fun q24 => ?_)
    · rw [if_pos q24] at h
      refine x_aload_nr dX11_readAll_53 rfl ?_
      refine x_bipush 59 dX11_readAll_54 (by decide) ?_
      refine x_bipush 59 dX11_readAll_56 (by decide) ?_
      obtain ⟨_, e18, h⟩ := Option.bind_eq_some_iff.mp h
      obtain ⟨fse18, e18⟩ := kO_ok e18
      obtain ⟨r15, e16, h⟩ := Option.bind_eq_some_iff.mp h
      replace h := xI_ok h
      obtain ⟨v17, P14, rfl, h⟩ := h
      refine x_callV (c_X11_isAt hl e16) dX11_readAll_58 cw_X11_isAt wl_X11_122 wi_X11_isAt wse_X11_isAt rfl e18 (by decide) rfl (by omega) (by decide) rfl (Nat.le_of_ble_eq_true rfl) rfl (fun v9 P9 hq9 => ?_) (fun i9 P9 hq9 => by cases hq9)
      cases hq9
      refine x_if_ne 66 dX11_readAll_61 (by decide) (fun q23 => ?_) (fun q23 => ?_)
      · rw [if_pos q23] at h
        refine x_aload_nr dX11_readAll_66 rfl ?_
        refine x_dup dX11_readAll_67 rfl ?_
        obtain ⟨v19, e20, h⟩ := Option.bind_eq_some_iff.mp h
        refine k_rI e20 dX11_readAll_68 f_X11_119 ?_
        refine x_iconst 1 dX11_readAll_71 (by decide) ?_
        refine x_iadd dX11_readAll_72 ?_
        obtain ⟨P21, e22, h⟩ := Option.bind_eq_some_iff.mp h
        refine k_wI e22 dX11_readAll_73 f_X11_119 (Or.inl (by decide)) rfl ?_
        refine x_iinc (a1 + 1) dX11_readAll_76 rfl (by rfl) ?_
        refine x_goto 24 dX11_readAll_79 (by decide) ?_
        exact Wp.mask [true, true] (hrec 24 _ _ _ h _ _ rfl _ hQ)
      · rw [if_neg (fun z9 => z9 q23)] at h
        refine x_iconst (-1) dX11_readAll_64 (by decide) ?_
        cases h
        exact x_iret .int rfl rfl dX11_readAll_65 hQ
    · rw [if_neg (fun z9 => z9 q24)] at h
      refine x_iload_n dX11_readAll_49 rfl ?_
      refine x_iconst 1 dX11_readAll_50 (by decide) ?_
      refine x_iadd dX11_readAll_51 ?_
      cases h
      exact x_iret .int rfl rfl dX11_readAll_52 hQ
  · rw [if_neg (fun z9 => z9 q25)] at h
    refine x_iconst (-1) dX11_readAll_32 (by decide) ?_
    cases h
    exact x_iret .int rfl rfl dX11_readAll_33 hQ
theorem s_X11_readAll {G : xG} {l : Launch} (hl : l.stackTraces = false) : ∀ n pc env P z, f_X11_readAll n pc env P = some z → ∀ L st, lay_X11_readAll pc env = some (L, st) → ∀ Q : xR → xH → Prop, Q z.1 z.2 → Wp G l 41 mX11_readAll pc L st P Q := by
  intro n
  induction n with
  | zero => intro pc env P z h; cases h
  | succ n ih =>
    intro pc env P z h L st hlay Q hQ
    unfold f_X11_readAll at h
    split at h
    · cases hlay
      exact t_X11_readAll_0 hl ih h hQ
    · cases hlay
      exact t_X11_readAll_24 hl ih h hQ
    · cases h
theorem c_X11_readAll {G : xG} {l : Launch} (hl : l.stackTraces = false) {n : Nat} {as : List Value} {P : xH} {z : xR × xH} (h : f_X11_readAll n 0 as P = some z) : Ct G l 41 mX11_readAll as P (fun r P1 => (r, P1) = z) := by
  cases n with
  | zero => cases h
  | succ n =>
    unfold f_X11_readAll at h
    split at h
    · exact Ct.of hl (by decide +kernel) wc_X11_readAll (Nat.le_of_ble_eq_true rfl) (t_X11_readAll_0 hl (s_X11_readAll hl _) h rfl)
    all_goals first | (cases h; done) | (rename_i q9 _; exact absurd q9 (by decide)) | (rename_i q9; exact absurd q9 (by decide)) | contradiction
/-! QuakeNetModel.reads()Z -/
def b_X11_reads_0 (n : Nat) (rec : Nat → List Value → xH → xO) (a0 : Nat) (P : xH) : xO :=
  (kO P a0 11).bind fun _ =>
  (f_X11_readAll n 0 [.ref a0] P).bind fun r2 => xI r2 fun v4 P1 =>
  if 0 ≤ v4 then
    rec 18 [.ref a0, .int v4, .ref a0, .int ((-1))] P1
  else
    (rI P1 a0 11 12).bind fun v6 =>
    rec 18 [.ref a0, .int v4, .ref a0, .int v6] P1
def b_X11_reads_18 (n : Nat) (rec : Nat → List Value → xH → xO) (a0 : Nat) (a1 : Int32) (s0 : Nat) (s1 : Int32) (P : xH) : xO :=
  (wV P s0 11 14 (.int s1)).bind fun P1 =>
  (rA P1 a0 11 3).bind fun v3 =>
  (f_X11_ruleAt n 0 [.int 1] P1).bind fun r6 => xI r6 fun v8 P5 =>
  (sI P5 v3 v8 ((mMax 0 a1))).bind fun P9 =>
  if a1 < 0 then
    some (.inl (some (.int 0)), P9)
  else
    some (.inl (some (.int 1)), P9)
def lay_X11_reads : Nat → List Value → Option (xL × List Value)
  | 0, [a0] => some ([some a0, none], [])
  | 18, [a0, a1, s0, s1] => some ([some a0, some a1], [s1, s0])
  | _, _ => none
def f_X11_reads : Nat → Nat → List Value → xH → xO
  | 0 => fun _ _ _ => none
  | n + 1 => fun pc env P => match pc, env with
    | 0, [.ref a0] => b_X11_reads_0 n (f_X11_reads n) a0 P
    | 18, [.ref a0, .int a1, .ref s0, .int s1] => b_X11_reads_18 n (f_X11_reads n) a0 a1 s0 s1 P
    | _, _ => none
set_option maxHeartbeats 2000000 in
set_option maxRecDepth 20000 in
theorem t_X11_reads_0 {G : xG} {l : Launch} (hl : l.stackTraces = false) {n : Nat} {rec : Nat → List Value → xH → xO} (hrec : ∀ pc env P z, rec pc env P = some z → ∀ L st, lay_X11_reads pc env = some (L, st) → ∀ Q : xR → xH → Prop, Q z.1 z.2 → Wp G l 42 mX11_reads pc L st P Q) {a0} {P : xH} {z : xR × xH} (h : b_X11_reads_0 n rec a0 P = some z) {Q : xR → xH → Prop} (hQ : Q z.1 z.2) : Wp G l 42 mX11_reads 0 [some (.ref a0), none] [] P Q := by
  unfold b_X11_reads_0 at h
  refine x_aload_nr dX11_reads_0 rfl ?_
  obtain ⟨_, e5, h⟩ := Option.bind_eq_some_iff.mp h
  obtain ⟨fse5, e5⟩ := kO_ok e5
  obtain ⟨r2, e3, h⟩ := Option.bind_eq_some_iff.mp h
  replace h := xI_ok h
  obtain ⟨v4, P1, rfl, h⟩ := h
  refine x_callV (c_X11_readAll hl e3) dX11_reads_1 cw_X11_readAll wl_X11_225 wi_X11_readAll wse_X11_readAll rfl e5 (by decide) rfl (by omega) (by decide) rfl (Nat.le_of_ble_eq_true rfl) rfl (fun v9 P9 hq9 => ?_) (fun i9 P9 hq9 => by cases hq9)
  cases hq9
  refine x_istore_n dX11_reads_4 (Nat.le_of_ble_eq_true rfl) ?_
  refine x_aload_nr dX11_reads_5 rfl ?_
  refine x_iload_n dX11_reads_6 rfl ?_
  refine x_if_ge 17 dX11_reads_7 (by decide) (fun q8 => ?_) (fun q8 => ?_)
  · rw [if_pos q8] at h
    refine x_iconst (-1) dX11_reads_17 (by decide) ?_
    exact Wp.mask [true, true] (hrec 18 _ _ _ h _ _ rfl _ hQ)
  · rw [if_neg q8] at h
    refine x_aload_nr dX11_reads_10 rfl ?_
    obtain ⟨v6, e7, h⟩ := Option.bind_eq_some_iff.mp h
    refine k_rI e7 dX11_reads_11 f_X11_126 ?_
    refine x_goto 18 dX11_reads_14 (by decide) ?_
    exact Wp.mask [true, true] (hrec 18 _ _ _ h _ _ rfl _ hQ)
set_option maxHeartbeats 2000000 in
set_option maxRecDepth 20000 in
theorem t_X11_reads_18 {G : xG} {l : Launch} (hl : l.stackTraces = false) {n : Nat} {rec : Nat → List Value → xH → xO} (hrec : ∀ pc env P z, rec pc env P = some z → ∀ L st, lay_X11_reads pc env = some (L, st) → ∀ Q : xR → xH → Prop, Q z.1 z.2 → Wp G l 42 mX11_reads pc L st P Q) {a0 a1 s0 s1} {P : xH} {z : xR × xH} (h : b_X11_reads_18 n rec a0 a1 s0 s1 P = some z) {Q : xR → xH → Prop} (hQ : Q z.1 z.2) : Wp G l 42 mX11_reads 18 [some (.ref a0), some (.int a1)] [.int s1, .ref s0] P Q := by
  unfold b_X11_reads_18 at h
  obtain ⟨P1, e2, h⟩ := Option.bind_eq_some_iff.mp h
  refine k_wI e2 dX11_reads_18 f_X11_30 (Or.inl (by decide)) rfl ?_
  refine x_aload_nr dX11_reads_21 rfl ?_
  obtain ⟨v3, e4, h⟩ := Option.bind_eq_some_iff.mp h
  refine k_rA e4 dX11_reads_22 f_X11_20 ?_
  refine x_iconst 1 dX11_reads_25 (by decide) ?_
  obtain ⟨r6, e7, h⟩ := Option.bind_eq_some_iff.mp h
  replace h := xI_ok h
  obtain ⟨v8, P5, rfl, h⟩ := h
  refine x_callS (c_X11_ruleAt hl e7) dX11_reads_26 cw_X11_ruleAt wl_X11_148 ws_X11_ruleAt rfl (by omega) (by decide) rfl (Nat.le_of_ble_eq_true rfl) rfl (fun v9 P9 hq9 => ?_) (fun i9 P9 hq9 => by cases hq9)
  cases hq9
  refine x_iconst 0 dX11_reads_29 (by decide) ?_
  refine x_iload_n dX11_reads_30 rfl ?_
  refine x_mmax dX11_reads_31 wl_X11_228 (Nat.le_of_ble_eq_true rfl) (by omega) ?_
  obtain ⟨P9, e10, h⟩ := Option.bind_eq_some_iff.mp h
  refine k_sI e10 dX11_reads_34 ?_
  refine x_iload_n dX11_reads_35 rfl ?_
  refine x_if_lt 43 dX11_reads_36 (by decide) (fun q11 => ?_) (fun q11 => ?_)
  · rw [if_pos q11] at h
    refine x_iconst 0 dX11_reads_43 (by decide) ?_
    cases h
    exact x_iret .boolean rfl rfl dX11_reads_44 hQ
  · rw [if_neg q11] at h
    refine x_iconst 1 dX11_reads_39 (by decide) ?_
    refine x_goto 44 dX11_reads_40 (by decide) ?_
    cases h
    exact x_iret .boolean rfl rfl dX11_reads_44 hQ
theorem s_X11_reads {G : xG} {l : Launch} (hl : l.stackTraces = false) : ∀ n pc env P z, f_X11_reads n pc env P = some z → ∀ L st, lay_X11_reads pc env = some (L, st) → ∀ Q : xR → xH → Prop, Q z.1 z.2 → Wp G l 42 mX11_reads pc L st P Q := by
  intro n
  induction n with
  | zero => intro pc env P z h; cases h
  | succ n ih =>
    intro pc env P z h L st hlay Q hQ
    unfold f_X11_reads at h
    split at h
    · cases hlay
      exact t_X11_reads_0 hl ih h hQ
    · cases hlay
      exact t_X11_reads_18 hl ih h hQ
    · cases h
theorem c_X11_reads {G : xG} {l : Launch} (hl : l.stackTraces = false) {n : Nat} {as : List Value} {P : xH} {z : xR × xH} (h : f_X11_reads n 0 as P = some z) : Ct G l 42 mX11_reads as P (fun r P1 => (r, P1) = z) := by
  cases n with
  | zero => cases h
  | succ n =>
    unfold f_X11_reads at h
    split at h
    · exact Ct.of hl (by decide +kernel) wc_X11_reads (Nat.le_of_ble_eq_true rfl) (t_X11_reads_0 hl (s_X11_reads hl _) h rfl)
    all_goals first | (cases h; done) | (rename_i q9 _; exact absurd q9 (by decide)) | (rename_i q9; exact absurd q9 (by decide)) | contradiction
/-! QuakeNetModel.uses()V -/
def b_X11_uses_0 (n : Nat) (rec : Nat → List Value → xH → xO) (a0 : Nat) (P : xH) : xO :=
  (wV P a0 11 0 (.int 0)).bind fun P1 =>
  (rI P1 a0 11 9).bind fun v3 =>
  (wV P1 a0 11 11 (.int v3)).bind fun P5 =>
  (wV P5 a0 11 9 (.int 0)).bind fun P7 =>
  (wV P7 a0 11 10 (.int 0)).bind fun P9 =>
  some (.inl none, P9)
def lay_X11_uses : Nat → List Value → Option (xL × List Value)
  | 0, [a0] => some ([some a0], [])
  | _, _ => none
def f_X11_uses : Nat → Nat → List Value → xH → xO
  | 0 => fun _ _ _ => none
  | n + 1 => fun pc env P => match pc, env with
    | 0, [.ref a0] => b_X11_uses_0 n (f_X11_uses n) a0 P
    | _, _ => none
set_option maxHeartbeats 2000000 in
set_option maxRecDepth 20000 in
theorem t_X11_uses_0 {G : xG} {l : Launch} (hl : l.stackTraces = false) {n : Nat} {rec : Nat → List Value → xH → xO} (hrec : ∀ pc env P z, rec pc env P = some z → ∀ L st, lay_X11_uses pc env = some (L, st) → ∀ Q : xR → xH → Prop, Q z.1 z.2 → Wp G l 3 mX11_uses pc L st P Q) {a0} {P : xH} {z : xR × xH} (h : b_X11_uses_0 n rec a0 P = some z) {Q : xR → xH → Prop} (hQ : Q z.1 z.2) : Wp G l 3 mX11_uses 0 [some (.ref a0)] [] P Q := by
  unfold b_X11_uses_0 at h
  refine x_aload_nr dX11_uses_0 rfl ?_
  refine x_iconst 0 dX11_uses_1 (by decide) ?_
  obtain ⟨P1, e2, h⟩ := Option.bind_eq_some_iff.mp h
  refine k_wI e2 dX11_uses_2 f_X11_3 (Or.inl (by decide)) rfl ?_
  refine x_aload_nr dX11_uses_5 rfl ?_
  refine x_aload_nr dX11_uses_6 rfl ?_
  obtain ⟨v3, e4, h⟩ := Option.bind_eq_some_iff.mp h
  refine k_rI e4 dX11_uses_7 f_X11_113 ?_
  obtain ⟨P5, e6, h⟩ := Option.bind_eq_some_iff.mp h
  refine k_wI e6 dX11_uses_10 f_X11_116 (Or.inl (by decide)) rfl ?_
  refine x_aload_nr dX11_uses_13 rfl ?_
  refine x_iconst 0 dX11_uses_14 (by decide) ?_
  obtain ⟨P7, e8, h⟩ := Option.bind_eq_some_iff.mp h
  refine k_wI e8 dX11_uses_15 f_X11_113 (Or.inl (by decide)) rfl ?_
  refine x_aload_nr dX11_uses_18 rfl ?_
  refine x_iconst 0 dX11_uses_19 (by decide) ?_
  obtain ⟨P9, e10, h⟩ := Option.bind_eq_some_iff.mp h
  refine k_wI e10 dX11_uses_20 f_X11_119 (Or.inl (by decide)) rfl ?_
  cases h
  exact x_ret rfl dX11_uses_23 hQ
theorem s_X11_uses {G : xG} {l : Launch} (hl : l.stackTraces = false) : ∀ n pc env P z, f_X11_uses n pc env P = some z → ∀ L st, lay_X11_uses pc env = some (L, st) → ∀ Q : xR → xH → Prop, Q z.1 z.2 → Wp G l 3 mX11_uses pc L st P Q := by
  intro n
  induction n with
  | zero => intro pc env P z h; cases h
  | succ n ih =>
    intro pc env P z h L st hlay Q hQ
    unfold f_X11_uses at h
    split at h
    · cases hlay
      exact t_X11_uses_0 hl ih h hQ
    · cases h
theorem c_X11_uses {G : xG} {l : Launch} (hl : l.stackTraces = false) {n : Nat} {as : List Value} {P : xH} {z : xR × xH} (h : f_X11_uses n 0 as P = some z) : Ct G l 3 mX11_uses as P (fun r P1 => (r, P1) = z) := by
  cases n with
  | zero => cases h
  | succ n =>
    unfold f_X11_uses at h
    split at h
    · exact Ct.of hl (by decide +kernel) wc_X11_uses (Nat.le_of_ble_eq_true rfl) (t_X11_uses_0 hl (s_X11_uses hl _) h rfl)
    all_goals first | (cases h; done) | (rename_i q9 _; exact absurd q9 (by decide)) | (rename_i q9; exact absurd q9 (by decide)) | contradiction
/-! QuakeNetModel.rules()I -/
def b_X11_rules_0 (n : Nat) (rec : Nat → List Value → xH → xO) (a0 : Nat) (P : xH) : xO :=
  (kO P a0 11).bind fun _ =>
  (f_X11_uses n 0 [.ref a0] P).bind fun r2 => xU r2 fun P1 =>
  (kO P1 a0 11).bind fun _ =>
  (f_X11_reads n 0 [.ref a0] P1).bind fun r6 => xI r6 fun v8 P5 =>
  if ¬ v8 = 0 then
    rec 17 [.ref a0, .ref a0, .int 0] P5
  else
    rec 17 [.ref a0, .ref a0, .int 1] P5
def b_X11_rules_17 (n : Nat) (rec : Nat → List Value → xH → xO) (a0 : Nat) (s0 : Nat) (s1 : Int32) (P : xH) : xO :=
  (kO P s0 11).bind fun _ =>
  (f_X11_throwsIf n 0 [.ref s0, .int s1, .int 1] P).bind fun r2 => xI r2 fun v4 P1 =>
  if ¬ v4 = 0 then
    some (.inl (some (.int 0)), P1)
  else
    (kO P1 a0 11).bind fun _ =>
    (f_X11_tick n 0 [.ref a0] P1).bind fun r7 => xI r7 fun v9 P6 =>
    if v9 ≤ 0 then
      rec 37 [.ref a0, .ref a0, .int 0] P6
    else
      rec 37 [.ref a0, .ref a0, .int 1] P6
def b_X11_rules_37 (n : Nat) (rec : Nat → List Value → xH → xO) (a0 : Nat) (s0 : Nat) (s1 : Int32) (P : xH) : xO :=
  (kO P s0 11).bind fun _ =>
  (f_X11_throwsIf n 0 [.ref s0, .int s1, .int 2] P).bind fun r2 => xI r2 fun v4 P1 =>
  if v4 = 0 then
    rec 48 [.ref a0, .int 0] P1
  else
    some (.inl (some (.int 0)), P1)
def b_X11_rules_48 (n : Nat) (rec : Nat → List Value → xH → xO) (a0 : Nat) (a1 : Int32) (P : xH) : xO :=
  if 841 ≤ a1 then
    (rA P a0 11 3).bind fun v1 =>
    (f_X11_ruleAt n 0 [.int 0] P).bind fun r4 => xI r4 fun v6 P3 =>
    (aI P3 v1 v6).bind fun v7 =>
    some (.inl (some (.int v7)), P3)
  else
    (rA P a0 11 3).bind fun v9 =>
    (f_X11_ruleAt n 0 [.int 0] P).bind fun r12 => xI r12 fun v14 P11 =>
    (rA P11 a0 11 3).bind fun v15 =>
    (f_X11_ruleAt n 0 [.int 1] P11).bind fun r18 => xI r18 fun v20 P17 =>
    (aI P17 v15 ((v20 + a1))).bind fun v21 =>
    (sI P17 v9 ((v14 + a1)) v21).bind fun P23 =>
    rec 48 [.ref a0, .int ((a1 + 1))] P23
def lay_X11_rules : Nat → List Value → Option (xL × List Value)
  | 0, [a0] => some ([some a0, none], [])
  | 17, [a0, s0, s1] => some ([some a0, none], [s1, s0])
  | 37, [a0, s0, s1] => some ([some a0, none], [s1, s0])
  | 48, [a0, a1] => some ([some a0, some a1], [])
  | _, _ => none
def f_X11_rules : Nat → Nat → List Value → xH → xO
  | 0 => fun _ _ _ => none
  | n + 1 => fun pc env P => match pc, env with
    | 0, [.ref a0] => b_X11_rules_0 n (f_X11_rules n) a0 P
    | 17, [.ref a0, .ref s0, .int s1] => b_X11_rules_17 n (f_X11_rules n) a0 s0 s1 P
    | 37, [.ref a0, .ref s0, .int s1] => b_X11_rules_37 n (f_X11_rules n) a0 s0 s1 P
    | 48, [.ref a0, .int a1] => b_X11_rules_48 n (f_X11_rules n) a0 a1 P
    | _, _ => none
set_option maxHeartbeats 2000000 in
set_option maxRecDepth 20000 in
theorem t_X11_rules_0 {G : xG} {l : Launch} (hl : l.stackTraces = false) {n : Nat} {rec : Nat → List Value → xH → xO} (hrec : ∀ pc env P z, rec pc env P = some z → ∀ L st, lay_X11_rules pc env = some (L, st) → ∀ Q : xR → xH → Prop, Q z.1 z.2 → Wp G l 43 mX11_rules pc L st P Q) {a0} {P : xH} {z : xR × xH} (h : b_X11_rules_0 n rec a0 P = some z) {Q : xR → xH → Prop} (hQ : Q z.1 z.2) : Wp G l 43 mX11_rules 0 [some (.ref a0), none] [] P Q := by
  unfold b_X11_rules_0 at h
  refine x_aload_nr dX11_rules_0 rfl ?_
  obtain ⟨_, e4, h⟩ := Option.bind_eq_some_iff.mp h
  obtain ⟨fse4, e4⟩ := kO_ok e4
  obtain ⟨r2, e3, h⟩ := Option.bind_eq_some_iff.mp h
  replace h := xU_ok h
  obtain ⟨P1, rfl, h⟩ := h
  refine x_callV (c_X11_uses hl e3) dX11_rules_1 cw_X11_uses wl_X11_231 wi_X11_uses wse_X11_uses rfl e4 (by decide) rfl (by omega) (by decide) rfl (Nat.le_of_ble_eq_true rfl) rfl (fun v9 P9 hq9 => ?_) (fun i9 P9 hq9 => by cases hq9)
  cases hq9
  refine x_aload_nr dX11_rules_4 rfl ?_
  refine x_aload_nr dX11_rules_5 rfl ?_
  obtain ⟨_, e9, h⟩ := Option.bind_eq_some_iff.mp h
  obtain ⟨fse9, e9⟩ := kO_ok e9
  obtain ⟨r6, e7, h⟩ := Option.bind_eq_some_iff.mp h
  replace h := xI_ok h
  obtain ⟨v8, P5, rfl, h⟩ := h
  refine x_callV (c_X11_reads hl e7) dX11_rules_6 cw_X11_reads wl_X11_234 wi_X11_reads wse_X11_reads rfl e9 (by decide) rfl (by omega) (by decide) rfl (Nat.le_of_ble_eq_true rfl) rfl (fun v9 P9 hq9 => ?_) (fun i9 P9 hq9 => by cases hq9)
  cases hq9
  refine x_if_ne 16 dX11_rules_9 (by decide) (fun q10 => ?_) (fun q10 => ?_)
  · rw [if_pos q10] at h
    refine x_iconst 0 dX11_rules_16 (by decide) ?_
    exact Wp.mask [true, false] (hrec 17 _ _ _ h _ _ rfl _ hQ)
  · rw [if_neg (fun z9 => z9 q10)] at h
    refine x_iconst 1 dX11_rules_12 (by decide) ?_
    refine x_goto 17 dX11_rules_13 (by decide) ?_
    exact Wp.mask [true, false] (hrec 17 _ _ _ h _ _ rfl _ hQ)
set_option maxHeartbeats 2000000 in
set_option maxRecDepth 20000 in
theorem t_X11_rules_17 {G : xG} {l : Launch} (hl : l.stackTraces = false) {n : Nat} {rec : Nat → List Value → xH → xO} (hrec : ∀ pc env P z, rec pc env P = some z → ∀ L st, lay_X11_rules pc env = some (L, st) → ∀ Q : xR → xH → Prop, Q z.1 z.2 → Wp G l 43 mX11_rules pc L st P Q) {a0 s0 s1} {P : xH} {z : xR × xH} (h : b_X11_rules_17 n rec a0 s0 s1 P = some z) {Q : xR → xH → Prop} (hQ : Q z.1 z.2) : Wp G l 43 mX11_rules 17 [some (.ref a0), none] [.int s1, .ref s0] P Q := by
  unfold b_X11_rules_17 at h
  refine x_iconst 1 dX11_rules_17 (by decide) ?_
  obtain ⟨_, e5, h⟩ := Option.bind_eq_some_iff.mp h
  obtain ⟨fse5, e5⟩ := kO_ok e5
  obtain ⟨r2, e3, h⟩ := Option.bind_eq_some_iff.mp h
  replace h := xI_ok h
  obtain ⟨v4, P1, rfl, h⟩ := h
  refine x_callV (c_X11_throwsIf hl e3) dX11_rules_18 cw_X11_throwsIf wl_X11_93 wi_X11_throwsIf wse_X11_throwsIf rfl e5 (by decide) rfl (by omega) (by decide) rfl (Nat.le_of_ble_eq_true rfl) rfl (fun v9 P9 hq9 => ?_) (fun i9 P9 hq9 => by cases hq9)
  cases hq9
  refine x_if_ne 44 dX11_rules_21 (by decide) (fun q12 => ?_) (fun q12 => ?_)
  · rw [if_pos q12] at h
    refine x_iconst 0 dX11_rules_44 (by decide) ?_
    cases h
    exact x_iret .int rfl rfl dX11_rules_45 hQ
  · rw [if_neg (fun z9 => z9 q12)] at h
    refine x_aload_nr dX11_rules_24 rfl ?_
    refine x_aload_nr dX11_rules_25 rfl ?_
    obtain ⟨_, e10, h⟩ := Option.bind_eq_some_iff.mp h
    obtain ⟨fse10, e10⟩ := kO_ok e10
    obtain ⟨r7, e8, h⟩ := Option.bind_eq_some_iff.mp h
    replace h := xI_ok h
    obtain ⟨v9, P6, rfl, h⟩ := h
    refine x_callV (c_X11_tick hl e8) dX11_rules_26 cw_X11_tick wl_X11_97 wi_X11_tick wse_X11_tick rfl e10 (by decide) rfl (by omega) (by decide) rfl (Nat.le_of_ble_eq_true rfl) rfl (fun v9 P9 hq9 => ?_) (fun i9 P9 hq9 => by cases hq9)
    cases hq9
    refine x_if_le 36 dX11_rules_29 (by decide) (fun q11 => ?_) (fun q11 => ?_)
    · rw [if_pos q11] at h
      refine x_iconst 0 dX11_rules_36 (by decide) ?_
      exact Wp.mask [true, false] (hrec 37 _ _ _ h _ _ rfl _ hQ)
    · rw [if_neg q11] at h
      refine x_iconst 1 dX11_rules_32 (by decide) ?_
      refine x_goto 37 dX11_rules_33 (by decide) ?_
      exact Wp.mask [true, false] (hrec 37 _ _ _ h _ _ rfl _ hQ)
set_option maxHeartbeats 2000000 in
set_option maxRecDepth 20000 in
theorem t_X11_rules_37 {G : xG} {l : Launch} (hl : l.stackTraces = false) {n : Nat} {rec : Nat → List Value → xH → xO} (hrec : ∀ pc env P z, rec pc env P = some z → ∀ L st, lay_X11_rules pc env = some (L, st) → ∀ Q : xR → xH → Prop, Q z.1 z.2 → Wp G l 43 mX11_rules pc L st P Q) {a0 s0 s1} {P : xH} {z : xR × xH} (h : b_X11_rules_37 n rec a0 s0 s1 P = some z) {Q : xR → xH → Prop} (hQ : Q z.1 z.2) : Wp G l 43 mX11_rules 37 [some (.ref a0), none] [.int s1, .ref s0] P Q := by
  unfold b_X11_rules_37 at h
  refine x_iconst 2 dX11_rules_37 (by decide) ?_
  obtain ⟨_, e5, h⟩ := Option.bind_eq_some_iff.mp h
  obtain ⟨fse5, e5⟩ := kO_ok e5
  obtain ⟨r2, e3, h⟩ := Option.bind_eq_some_iff.mp h
  replace h := xI_ok h
  obtain ⟨v4, P1, rfl, h⟩ := h
  refine x_callV (c_X11_throwsIf hl e3) dX11_rules_38 cw_X11_throwsIf wl_X11_93 wi_X11_throwsIf wse_X11_throwsIf rfl e5 (by decide) rfl (by omega) (by decide) rfl (Nat.le_of_ble_eq_true rfl) rfl (fun v9 P9 hq9 => ?_) (fun i9 P9 hq9 => by cases hq9)
  cases hq9
  refine x_if_eq 46 dX11_rules_41 (by decide) (fun q6 => ?_) (fun q6 => ?_)
  · rw [if_pos q6] at h
    refine x_iconst 0 dX11_rules_46 (by decide) ?_
    refine x_istore_n dX11_rules_47 (Nat.le_of_ble_eq_true rfl) ?_
    exact Wp.mask [true, true] (hrec 48 _ _ _ h _ _ rfl _ hQ)
  · rw [if_neg q6] at h
    refine x_iconst 0 dX11_rules_44 (by decide) ?_
    cases h
    exact x_iret .int rfl rfl dX11_rules_45 hQ
set_option maxHeartbeats 2000000 in
set_option maxRecDepth 20000 in
theorem t_X11_rules_48 {G : xG} {l : Launch} (hl : l.stackTraces = false) {n : Nat} {rec : Nat → List Value → xH → xO} (hrec : ∀ pc env P z, rec pc env P = some z → ∀ L st, lay_X11_rules pc env = some (L, st) → ∀ Q : xR → xH → Prop, Q z.1 z.2 → Wp G l 43 mX11_rules pc L st P Q) {a0 a1} {P : xH} {z : xR × xH} (h : b_X11_rules_48 n rec a0 a1 P = some z) {Q : xR → xH → Prop} (hQ : Q z.1 z.2) : Wp G l 43 mX11_rules 48 [some (.ref a0), some (.int a1)] [] P Q := by
  unfold b_X11_rules_48 at h
  refine x_iload_n dX11_rules_48 rfl ?_
  refine x_sipush 841 dX11_rules_49 (by decide) ?_
  refine x_icmp_ge 83 dX11_rules_52 (by decide) (fun q25 => ?_) (fun q25 => ?_)
  · rw [if_pos q25] at h
    refine x_aload_nr dX11_rules_83 rfl ?_
    obtain ⟨v1, e2, h⟩ := Option.bind_eq_some_iff.mp h
    refine k_rA e2 dX11_rules_84 f_X11_20 ?_
    refine x_iconst 0 dX11_rules_87 (by decide) ?_
    obtain ⟨r4, e5, h⟩ := Option.bind_eq_some_iff.mp h
    replace h := xI_ok h
    obtain ⟨v6, P3, rfl, h⟩ := h
    refine x_callS (c_X11_ruleAt hl e5) dX11_rules_88 cw_X11_ruleAt wl_X11_148 ws_X11_ruleAt rfl (by omega) (by decide) rfl (Nat.le_of_ble_eq_true rfl) rfl (fun v9 P9 hq9 => ?_) (fun i9 P9 hq9 => by cases hq9)
    cases hq9
    obtain ⟨v7, e8, h⟩ := Option.bind_eq_some_iff.mp h
    refine k_aI e8 dX11_rules_91 ?_
    cases h
    exact x_iret .int rfl rfl dX11_rules_92 hQ
  · rw [if_neg q25] at h
    refine x_aload_nr dX11_rules_55 rfl ?_
    obtain ⟨v9, e10, h⟩ := Option.bind_eq_some_iff.mp h
    refine k_rA e10 dX11_rules_56 f_X11_20 ?_
    refine x_iconst 0 dX11_rules_59 (by decide) ?_
    obtain ⟨r12, e13, h⟩ := Option.bind_eq_some_iff.mp h
    replace h := xI_ok h
    obtain ⟨v14, P11, rfl, h⟩ := h
    refine x_callS (c_X11_ruleAt hl e13) dX11_rules_60 cw_X11_ruleAt wl_X11_148 ws_X11_ruleAt rfl (by omega) (by decide) rfl (Nat.le_of_ble_eq_true rfl) rfl (fun v9 P9 hq9 => ?_) (fun i9 P9 hq9 => by cases hq9)
    cases hq9
    refine x_iload_n dX11_rules_63 rfl ?_
    refine x_iadd dX11_rules_64 ?_
    refine x_aload_nr dX11_rules_65 rfl ?_
    obtain ⟨v15, e16, h⟩ := Option.bind_eq_some_iff.mp h
    refine k_rA e16 dX11_rules_66 f_X11_20 ?_
    refine x_iconst 1 dX11_rules_69 (by decide) ?_
    obtain ⟨r18, e19, h⟩ := Option.bind_eq_some_iff.mp h
    replace h := xI_ok h
    obtain ⟨v20, P17, rfl, h⟩ := h
    refine x_callS (c_X11_ruleAt hl e19) dX11_rules_70 cw_X11_ruleAt wl_X11_148 ws_X11_ruleAt rfl (by omega) (by decide) rfl (Nat.le_of_ble_eq_true rfl) rfl (fun v9 P9 hq9 => ?_) (fun i9 P9 hq9 => by cases hq9)
    cases hq9
    refine x_iload_n dX11_rules_73 rfl ?_
    refine x_iadd dX11_rules_74 ?_
    obtain ⟨v21, e22, h⟩ := Option.bind_eq_some_iff.mp h
    refine k_aI e22 dX11_rules_75 ?_
    obtain ⟨P23, e24, h⟩ := Option.bind_eq_some_iff.mp h
    refine k_sI e24 dX11_rules_76 ?_
    refine x_iinc (a1 + 1) dX11_rules_77 rfl (by rfl) ?_
    refine x_goto 48 dX11_rules_80 (by decide) ?_
    exact Wp.mask [true, true] (hrec 48 _ _ _ h _ _ rfl _ hQ)
theorem s_X11_rules {G : xG} {l : Launch} (hl : l.stackTraces = false) : ∀ n pc env P z, f_X11_rules n pc env P = some z → ∀ L st, lay_X11_rules pc env = some (L, st) → ∀ Q : xR → xH → Prop, Q z.1 z.2 → Wp G l 43 mX11_rules pc L st P Q := by
  intro n
  induction n with
  | zero => intro pc env P z h; cases h
  | succ n ih =>
    intro pc env P z h L st hlay Q hQ
    unfold f_X11_rules at h
    split at h
    · cases hlay
      exact t_X11_rules_0 hl ih h hQ
    · cases hlay
      exact t_X11_rules_17 hl ih h hQ
    · cases hlay
      exact t_X11_rules_37 hl ih h hQ
    · cases hlay
      exact t_X11_rules_48 hl ih h hQ
    · cases h
theorem c_X11_rules {G : xG} {l : Launch} (hl : l.stackTraces = false) {n : Nat} {as : List Value} {P : xH} {z : xR × xH} (h : f_X11_rules n 0 as P = some z) : Ct G l 43 mX11_rules as P (fun r P1 => (r, P1) = z) := by
  cases n with
  | zero => cases h
  | succ n =>
    unfold f_X11_rules at h
    split at h
    · exact Ct.of hl (by decide +kernel) wc_X11_rules (Nat.le_of_ble_eq_true rfl) (t_X11_rules_0 hl (s_X11_rules hl _) h rfl)
    all_goals first | (cases h; done) | (rename_i q9 _; exact absurd q9 (by decide)) | (rename_i q9; exact absurd q9 (by decide)) | contradiction
/-! QuakeNetModel.has(II)Z -/
def b_X11_has_0 (n : Nat) (rec : Nat → List Value → xH → xO) (a0 : Nat) (a1 : Int32) (a2 : Int32) (P : xH) : xO :=
  (rA P a0 11 1).bind fun v1 =>
  (f_X11_copyAt n 0 [.int a1, .int a2, .int 0] P).bind fun r4 => xI r4 fun v6 P3 =>
  (aI P3 v1 v6).bind fun v7 =>
  if ¬ v7 = 1 then
    some (.inl (some (.int 0)), P3)
  else
    some (.inl (some (.int 1)), P3)
def lay_X11_has : Nat → List Value → Option (xL × List Value)
  | 0, [a0, a1, a2] => some ([some a0, some a1, some a2], [])
  | _, _ => none
def f_X11_has : Nat → Nat → List Value → xH → xO
  | 0 => fun _ _ _ => none
  | n + 1 => fun pc env P => match pc, env with
    | 0, [.ref a0, .int a1, .int a2] => b_X11_has_0 n (f_X11_has n) a0 a1 a2 P
    | _, _ => none
set_option maxHeartbeats 2000000 in
set_option maxRecDepth 20000 in
theorem t_X11_has_0 {G : xG} {l : Launch} (hl : l.stackTraces = false) {n : Nat} {rec : Nat → List Value → xH → xO} (hrec : ∀ pc env P z, rec pc env P = some z → ∀ L st, lay_X11_has pc env = some (L, st) → ∀ Q : xR → xH → Prop, Q z.1 z.2 → Wp G l 4 mX11_has pc L st P Q) {a0 a1 a2} {P : xH} {z : xR × xH} (h : b_X11_has_0 n rec a0 a1 a2 P = some z) {Q : xR → xH → Prop} (hQ : Q z.1 z.2) : Wp G l 4 mX11_has 0 [some (.ref a0), some (.int a1), some (.int a2)] [] P Q := by
  unfold b_X11_has_0 at h
  refine x_aload_nr dX11_has_0 rfl ?_
  obtain ⟨v1, e2, h⟩ := Option.bind_eq_some_iff.mp h
  refine k_rA e2 dX11_has_1 f_X11_13 ?_
  refine x_iload_n dX11_has_4 rfl ?_
  refine x_iload_n dX11_has_5 rfl ?_
  refine x_iconst 0 dX11_has_6 (by decide) ?_
  obtain ⟨r4, e5, h⟩ := Option.bind_eq_some_iff.mp h
  replace h := xI_ok h
  obtain ⟨v6, P3, rfl, h⟩ := h
  refine x_callS (c_X11_copyAt hl e5) dX11_has_7 cw_X11_copyAt wl_X11_85 ws_X11_copyAt rfl (by omega) (by decide) rfl (Nat.le_of_ble_eq_true rfl) rfl (fun v9 P9 hq9 => ?_) (fun i9 P9 hq9 => by cases hq9)
  cases hq9
  obtain ⟨v7, e8, h⟩ := Option.bind_eq_some_iff.mp h
  refine k_aI e8 dX11_has_10 ?_
  refine x_iconst 1 dX11_has_11 (by decide) ?_
  refine x_icmp_ne 19 dX11_has_12 (by decide) (fun q9 => ?_) (fun q9 => ?_)
  · rw [if_pos q9] at h
    refine x_iconst 0 dX11_has_19 (by decide) ?_
    cases h
    exact x_iret .boolean rfl rfl dX11_has_20 hQ
  · rw [if_neg (fun z9 => z9 q9)] at h
    refine x_iconst 1 dX11_has_15 (by decide) ?_
    refine x_goto 20 dX11_has_16 (by decide) ?_
    cases h
    exact x_iret .boolean rfl rfl dX11_has_20 hQ
theorem s_X11_has {G : xG} {l : Launch} (hl : l.stackTraces = false) : ∀ n pc env P z, f_X11_has n pc env P = some z → ∀ L st, lay_X11_has pc env = some (L, st) → ∀ Q : xR → xH → Prop, Q z.1 z.2 → Wp G l 4 mX11_has pc L st P Q := by
  intro n
  induction n with
  | zero => intro pc env P z h; cases h
  | succ n ih =>
    intro pc env P z h L st hlay Q hQ
    unfold f_X11_has at h
    split at h
    · cases hlay
      exact t_X11_has_0 hl ih h hQ
    · cases h
theorem c_X11_has {G : xG} {l : Launch} (hl : l.stackTraces = false) {n : Nat} {as : List Value} {P : xH} {z : xR × xH} (h : f_X11_has n 0 as P = some z) : Ct G l 4 mX11_has as P (fun r P1 => (r, P1) = z) := by
  cases n with
  | zero => cases h
  | succ n =>
    unfold f_X11_has at h
    split at h
    · exact Ct.of hl (by decide +kernel) wc_X11_has (Nat.le_of_ble_eq_true rfl) (t_X11_has_0 hl (s_X11_has hl _) h rfl)
    all_goals first | (cases h; done) | (rename_i q9 _; exact absurd q9 (by decide)) | (rename_i q9; exact absurd q9 (by decide)) | contradiction
/-! QuakeNetModel.words()I -/
def b_X11_words_0 (n : Nat) (rec : Nat → List Value → xH → xO) (a0 : Nat) (P : xH) : xO :=
  (rA P a0 11 3).bind fun v1 =>
  (aI P v1 1).bind fun v3 =>
  some (.inl (some (.int v3)), P)
def lay_X11_words : Nat → List Value → Option (xL × List Value)
  | 0, [a0] => some ([some a0], [])
  | _, _ => none
def f_X11_words : Nat → Nat → List Value → xH → xO
  | 0 => fun _ _ _ => none
  | n + 1 => fun pc env P => match pc, env with
    | 0, [.ref a0] => b_X11_words_0 n (f_X11_words n) a0 P
    | _, _ => none
set_option maxHeartbeats 2000000 in
set_option maxRecDepth 20000 in
theorem t_X11_words_0 {G : xG} {l : Launch} (hl : l.stackTraces = false) {n : Nat} {rec : Nat → List Value → xH → xO} (hrec : ∀ pc env P z, rec pc env P = some z → ∀ L st, lay_X11_words pc env = some (L, st) → ∀ Q : xR → xH → Prop, Q z.1 z.2 → Wp G l 3 mX11_words pc L st P Q) {a0} {P : xH} {z : xR × xH} (h : b_X11_words_0 n rec a0 P = some z) {Q : xR → xH → Prop} (hQ : Q z.1 z.2) : Wp G l 3 mX11_words 0 [some (.ref a0)] [] P Q := by
  unfold b_X11_words_0 at h
  refine x_aload_nr dX11_words_0 rfl ?_
  obtain ⟨v1, e2, h⟩ := Option.bind_eq_some_iff.mp h
  refine k_rA e2 dX11_words_1 f_X11_20 ?_
  refine x_iconst 1 dX11_words_4 (by decide) ?_
  obtain ⟨v3, e4, h⟩ := Option.bind_eq_some_iff.mp h
  refine k_aI e4 dX11_words_5 ?_
  cases h
  exact x_iret .int rfl rfl dX11_words_6 hQ
theorem s_X11_words {G : xG} {l : Launch} (hl : l.stackTraces = false) : ∀ n pc env P z, f_X11_words n pc env P = some z → ∀ L st, lay_X11_words pc env = some (L, st) → ∀ Q : xR → xH → Prop, Q z.1 z.2 → Wp G l 3 mX11_words pc L st P Q := by
  intro n
  induction n with
  | zero => intro pc env P z h; cases h
  | succ n ih =>
    intro pc env P z h L st hlay Q hQ
    unfold f_X11_words at h
    split at h
    · cases hlay
      exact t_X11_words_0 hl ih h hQ
    · cases h
theorem c_X11_words {G : xG} {l : Launch} (hl : l.stackTraces = false) {n : Nat} {as : List Value} {P : xH} {z : xR × xH} (h : f_X11_words n 0 as P = some z) : Ct G l 3 mX11_words as P (fun r P1 => (r, P1) = z) := by
  cases n with
  | zero => cases h
  | succ n =>
    unfold f_X11_words at h
    split at h
    · exact Ct.of hl (by decide +kernel) wc_X11_words (Nat.le_of_ble_eq_true rfl) (t_X11_words_0 hl (s_X11_words hl _) h rfl)
    all_goals first | (cases h; done) | (rename_i q9 _; exact absurd q9 (by decide)) | (rename_i q9; exact absurd q9 (by decide)) | contradiction
/-! QuakeNetModel.copies(I)I -/
def b_X11_copies_0 (n : Nat) (rec : Nat → List Value → xH → xO) (a0 : Nat) (a1 : Int32) (P : xH) : xO :=
  rec 4 [.ref a0, .int a1, .int 0, .int 0] P
def b_X11_copies_4 (n : Nat) (rec : Nat → List Value → xH → xO) (a0 : Nat) (a1 : Int32) (a2 : Int32) (a3 : Int32) (P : xH) : xO :=
  (kO P a0 11).bind fun _ =>
  (f_X11_words n 0 [.ref a0] P).bind fun r2 => xI r2 fun v4 P1 =>
  if v4 ≤ a3 then
    some (.inl (some (.int a2)), P1)
  else
    (kO P1 a0 11).bind fun _ =>
    (f_X11_has n 0 [.ref a0, .int a1, .int a3] P1).bind fun r7 => xI r7 fun v9 P6 =>
    if v9 = 0 then
      rec 4 [.ref a0, .int a1, .int ((a2 + 0)), .int ((a3 + 1))] P6
    else
      rec 4 [.ref a0, .int a1, .int ((a2 + 1)), .int ((a3 + 1))] P6
def lay_X11_copies : Nat → List Value → Option (xL × List Value)
  | 0, [a0, a1] => some ([some a0, some a1, none, none], [])
  | 4, [a0, a1, a2, a3] => some ([some a0, some a1, some a2, some a3], [])
  | _, _ => none
def f_X11_copies : Nat → Nat → List Value → xH → xO
  | 0 => fun _ _ _ => none
  | n + 1 => fun pc env P => match pc, env with
    | 0, [.ref a0, .int a1] => b_X11_copies_0 n (f_X11_copies n) a0 a1 P
    | 4, [.ref a0, .int a1, .int a2, .int a3] => b_X11_copies_4 n (f_X11_copies n) a0 a1 a2 a3 P
    | _, _ => none
set_option maxHeartbeats 2000000 in
set_option maxRecDepth 20000 in
theorem t_X11_copies_0 {G : xG} {l : Launch} (hl : l.stackTraces = false) {n : Nat} {rec : Nat → List Value → xH → xO} (hrec : ∀ pc env P z, rec pc env P = some z → ∀ L st, lay_X11_copies pc env = some (L, st) → ∀ Q : xR → xH → Prop, Q z.1 z.2 → Wp G l 5 mX11_copies pc L st P Q) {a0 a1} {P : xH} {z : xR × xH} (h : b_X11_copies_0 n rec a0 a1 P = some z) {Q : xR → xH → Prop} (hQ : Q z.1 z.2) : Wp G l 5 mX11_copies 0 [some (.ref a0), some (.int a1), none, none] [] P Q := by
  unfold b_X11_copies_0 at h
  refine x_iconst 0 dX11_copies_0 (by decide) ?_
  refine x_istore_n dX11_copies_1 (Nat.le_of_ble_eq_true rfl) ?_
  refine x_iconst 0 dX11_copies_2 (by decide) ?_
  refine x_istore_n dX11_copies_3 (Nat.le_of_ble_eq_true rfl) ?_
  exact Wp.mask [true, true, true, true] (hrec 4 _ _ _ h _ _ rfl _ hQ)
set_option maxHeartbeats 2000000 in
set_option maxRecDepth 20000 in
theorem t_X11_copies_4 {G : xG} {l : Launch} (hl : l.stackTraces = false) {n : Nat} {rec : Nat → List Value → xH → xO} (hrec : ∀ pc env P z, rec pc env P = some z → ∀ L st, lay_X11_copies pc env = some (L, st) → ∀ Q : xR → xH → Prop, Q z.1 z.2 → Wp G l 5 mX11_copies pc L st P Q) {a0 a1 a2 a3} {P : xH} {z : xR × xH} (h : b_X11_copies_4 n rec a0 a1 a2 a3 P = some z) {Q : xR → xH → Prop} (hQ : Q z.1 z.2) : Wp G l 5 mX11_copies 4 [some (.ref a0), some (.int a1), some (.int a2), some (.int a3)] [] P Q := by
  unfold b_X11_copies_4 at h
  refine x_iload_n dX11_copies_4 rfl ?_
  refine x_aload_nr dX11_copies_5 rfl ?_
  obtain ⟨_, e5, h⟩ := Option.bind_eq_some_iff.mp h
  obtain ⟨fse5, e5⟩ := kO_ok e5
  obtain ⟨r2, e3, h⟩ := Option.bind_eq_some_iff.mp h
  replace h := xI_ok h
  obtain ⟨v4, P1, rfl, h⟩ := h
  refine x_callV (c_X11_words hl e3) dX11_copies_6 cw_X11_words wl_X11_72 wi_X11_words wse_X11_words rfl e5 (by decide) rfl (by omega) (by decide) rfl (Nat.le_of_ble_eq_true rfl) rfl (fun v9 P9 hq9 => ?_) (fun i9 P9 hq9 => by cases hq9)
  cases hq9
  refine x_icmp_ge 35 dX11_copies_9 (by decide) (fun q12 => ?_) (fun q12 => ?_)
  · rw [if_pos q12] at h
    refine x_iload_n dX11_copies_35 rfl ?_
    cases h
    exact x_iret .int rfl rfl dX11_copies_36 hQ
  · rw [if_neg q12] at h
    refine x_iload_n dX11_copies_12 rfl ?_
    refine x_aload_nr dX11_copies_13 rfl ?_
    refine x_iload_n dX11_copies_14 rfl ?_
    refine x_iload_n dX11_copies_15 rfl ?_
    obtain ⟨_, e10, h⟩ := Option.bind_eq_some_iff.mp h
    obtain ⟨fse10, e10⟩ := kO_ok e10
    obtain ⟨r7, e8, h⟩ := Option.bind_eq_some_iff.mp h
    replace h := xI_ok h
    obtain ⟨v9, P6, rfl, h⟩ := h
    refine x_callV (c_X11_has hl e8) dX11_copies_16 cw_X11_has wl_X11_237 wi_X11_has wse_X11_has rfl e10 (by decide) rfl (by omega) (by decide) rfl (Nat.le_of_ble_eq_true rfl) rfl (fun v9 P9 hq9 => ?_) (fun i9 P9 hq9 => by cases hq9)
    cases hq9
    refine x_if_eq 26 dX11_copies_19 (by decide) (fun q11 => ?_) (fun q11 => ?_)
    · rw [if_pos q11] at h
      refine x_iconst 0 dX11_copies_26 (by decide) ?_
      refine x_iadd dX11_copies_27 ?_
      refine x_istore_n dX11_copies_28 (Nat.le_of_ble_eq_true rfl) ?_
      refine x_iinc (a3 + 1) dX11_copies_29 rfl (by rfl) ?_
      refine x_goto 4 dX11_copies_32 (by decide) ?_
      exact Wp.mask [true, true, true, true] (hrec 4 _ _ _ h _ _ rfl _ hQ)
    · rw [if_neg q11] at h
      refine x_iconst 1 dX11_copies_22 (by decide) ?_
      refine x_goto 27 dX11_copies_23 (by decide) ?_
      refine x_iadd dX11_copies_27 ?_
      refine x_istore_n dX11_copies_28 (Nat.le_of_ble_eq_true rfl) ?_
      refine x_iinc (a3 + 1) dX11_copies_29 rfl (by rfl) ?_
      refine x_goto 4 dX11_copies_32 (by decide) ?_
      exact Wp.mask [true, true, true, true] (hrec 4 _ _ _ h _ _ rfl _ hQ)
theorem s_X11_copies {G : xG} {l : Launch} (hl : l.stackTraces = false) : ∀ n pc env P z, f_X11_copies n pc env P = some z → ∀ L st, lay_X11_copies pc env = some (L, st) → ∀ Q : xR → xH → Prop, Q z.1 z.2 → Wp G l 5 mX11_copies pc L st P Q := by
  intro n
  induction n with
  | zero => intro pc env P z h; cases h
  | succ n ih =>
    intro pc env P z h L st hlay Q hQ
    unfold f_X11_copies at h
    split at h
    · cases hlay
      exact t_X11_copies_0 hl ih h hQ
    · cases hlay
      exact t_X11_copies_4 hl ih h hQ
    · cases h
theorem c_X11_copies {G : xG} {l : Launch} (hl : l.stackTraces = false) {n : Nat} {as : List Value} {P : xH} {z : xR × xH} (h : f_X11_copies n 0 as P = some z) : Ct G l 5 mX11_copies as P (fun r P1 => (r, P1) = z) := by
  cases n with
  | zero => cases h
  | succ n =>
    unfold f_X11_copies at h
    split at h
    · exact Ct.of hl (by decide +kernel) wc_X11_copies (Nat.le_of_ble_eq_true rfl) (t_X11_copies_0 hl (s_X11_copies hl _) h rfl)
    all_goals first | (cases h; done) | (rename_i q9 _; exact absurd q9 (by decide)) | (rename_i q9; exact absurd q9 (by decide)) | contradiction
/-! QuakeNetModel.allCopies()I -/
def b_X11_allCopies_0 (n : Nat) (rec : Nat → List Value → xH → xO) (a0 : Nat) (P : xH) : xO :=
  rec 4 [.ref a0, .int 0, .int 0] P
def b_X11_allCopies_4 (n : Nat) (rec : Nat → List Value → xH → xO) (a0 : Nat) (a1 : Int32) (a2 : Int32) (P : xH) : xO :=
  (kO P a0 11).bind fun _ =>
  (f_X11_phones n 0 [.ref a0] P).bind fun r2 => xI r2 fun v4 P1 =>
  if v4 ≤ a2 then
    some (.inl (some (.int a1)), P1)
  else
    (kO P1 a0 11).bind fun _ =>
    (f_X11_copies n 0 [.ref a0, .int a2] P1).bind fun r7 => xI r7 fun v9 P6 =>
    rec 4 [.ref a0, .int ((a1 + v9)), .int ((a2 + 1))] P6
def lay_X11_allCopies : Nat → List Value → Option (xL × List Value)
  | 0, [a0] => some ([some a0, none, none], [])
  | 4, [a0, a1, a2] => some ([some a0, some a1, some a2], [])
  | _, _ => none
def f_X11_allCopies : Nat → Nat → List Value → xH → xO
  | 0 => fun _ _ _ => none
  | n + 1 => fun pc env P => match pc, env with
    | 0, [.ref a0] => b_X11_allCopies_0 n (f_X11_allCopies n) a0 P
    | 4, [.ref a0, .int a1, .int a2] => b_X11_allCopies_4 n (f_X11_allCopies n) a0 a1 a2 P
    | _, _ => none
set_option maxHeartbeats 2000000 in
set_option maxRecDepth 20000 in
theorem t_X11_allCopies_0 {G : xG} {l : Launch} (hl : l.stackTraces = false) {n : Nat} {rec : Nat → List Value → xH → xO} (hrec : ∀ pc env P z, rec pc env P = some z → ∀ L st, lay_X11_allCopies pc env = some (L, st) → ∀ Q : xR → xH → Prop, Q z.1 z.2 → Wp G l 6 mX11_allCopies pc L st P Q) {a0} {P : xH} {z : xR × xH} (h : b_X11_allCopies_0 n rec a0 P = some z) {Q : xR → xH → Prop} (hQ : Q z.1 z.2) : Wp G l 6 mX11_allCopies 0 [some (.ref a0), none, none] [] P Q := by
  unfold b_X11_allCopies_0 at h
  refine x_iconst 0 dX11_allCopies_0 (by decide) ?_
  refine x_istore_n dX11_allCopies_1 (Nat.le_of_ble_eq_true rfl) ?_
  refine x_iconst 0 dX11_allCopies_2 (by decide) ?_
  refine x_istore_n dX11_allCopies_3 (Nat.le_of_ble_eq_true rfl) ?_
  exact Wp.mask [true, true, true] (hrec 4 _ _ _ h _ _ rfl _ hQ)
set_option maxHeartbeats 2000000 in
set_option maxRecDepth 20000 in
theorem t_X11_allCopies_4 {G : xG} {l : Launch} (hl : l.stackTraces = false) {n : Nat} {rec : Nat → List Value → xH → xO} (hrec : ∀ pc env P z, rec pc env P = some z → ∀ L st, lay_X11_allCopies pc env = some (L, st) → ∀ Q : xR → xH → Prop, Q z.1 z.2 → Wp G l 6 mX11_allCopies pc L st P Q) {a0 a1 a2} {P : xH} {z : xR × xH} (h : b_X11_allCopies_4 n rec a0 a1 a2 P = some z) {Q : xR → xH → Prop} (hQ : Q z.1 z.2) : Wp G l 6 mX11_allCopies 4 [some (.ref a0), some (.int a1), some (.int a2)] [] P Q := by
  unfold b_X11_allCopies_4 at h
  refine x_iload_n dX11_allCopies_4 rfl ?_
  refine x_aload_nr dX11_allCopies_5 rfl ?_
  obtain ⟨_, e5, h⟩ := Option.bind_eq_some_iff.mp h
  obtain ⟨fse5, e5⟩ := kO_ok e5
  obtain ⟨r2, e3, h⟩ := Option.bind_eq_some_iff.mp h
  replace h := xI_ok h
  obtain ⟨v4, P1, rfl, h⟩ := h
  refine x_callV (c_X11_phones hl e3) dX11_allCopies_6 cw_X11_phones wl_X11_64 wi_X11_phones wse_X11_phones rfl e5 (by decide) rfl (by omega) (by decide) rfl (Nat.le_of_ble_eq_true rfl) rfl (fun v9 P9 hq9 => ?_) (fun i9 P9 hq9 => by cases hq9)
  cases hq9
  refine x_icmp_ge 26 dX11_allCopies_9 (by decide) (fun q11 => ?_) (fun q11 => ?_)
  · rw [if_pos q11] at h
    refine x_iload_n dX11_allCopies_26 rfl ?_
    cases h
    exact x_iret .int rfl rfl dX11_allCopies_27 hQ
  · rw [if_neg q11] at h
    refine x_iload_n dX11_allCopies_12 rfl ?_
    refine x_aload_nr dX11_allCopies_13 rfl ?_
    refine x_iload_n dX11_allCopies_14 rfl ?_
    obtain ⟨_, e10, h⟩ := Option.bind_eq_some_iff.mp h
    obtain ⟨fse10, e10⟩ := kO_ok e10
    obtain ⟨r7, e8, h⟩ := Option.bind_eq_some_iff.mp h
    replace h := xI_ok h
    obtain ⟨v9, P6, rfl, h⟩ := h
    refine x_callV (c_X11_copies hl e8) dX11_allCopies_15 cw_X11_copies wl_X11_264 wi_X11_copies wse_X11_copies rfl e10 (by decide) rfl (by omega) (by decide) rfl (Nat.le_of_ble_eq_true rfl) rfl (fun v9 P9 hq9 => ?_) (fun i9 P9 hq9 => by cases hq9)
    cases hq9
    refine x_iadd dX11_allCopies_18 ?_
    refine x_istore_n dX11_allCopies_19 (Nat.le_of_ble_eq_true rfl) ?_
    refine x_iinc (a2 + 1) dX11_allCopies_20 rfl (by rfl) ?_
    refine x_goto 4 dX11_allCopies_23 (by decide) ?_
    exact Wp.mask [true, true, true] (hrec 4 _ _ _ h _ _ rfl _ hQ)
theorem s_X11_allCopies {G : xG} {l : Launch} (hl : l.stackTraces = false) : ∀ n pc env P z, f_X11_allCopies n pc env P = some z → ∀ L st, lay_X11_allCopies pc env = some (L, st) → ∀ Q : xR → xH → Prop, Q z.1 z.2 → Wp G l 6 mX11_allCopies pc L st P Q := by
  intro n
  induction n with
  | zero => intro pc env P z h; cases h
  | succ n ih =>
    intro pc env P z h L st hlay Q hQ
    unfold f_X11_allCopies at h
    split at h
    · cases hlay
      exact t_X11_allCopies_0 hl ih h hQ
    · cases hlay
      exact t_X11_allCopies_4 hl ih h hQ
    · cases h
theorem c_X11_allCopies {G : xG} {l : Launch} (hl : l.stackTraces = false) {n : Nat} {as : List Value} {P : xH} {z : xR × xH} (h : f_X11_allCopies n 0 as P = some z) : Ct G l 6 mX11_allCopies as P (fun r P1 => (r, P1) = z) := by
  cases n with
  | zero => cases h
  | succ n =>
    unfold f_X11_allCopies at h
    split at h
    · exact Ct.of hl (by decide +kernel) wc_X11_allCopies (Nat.le_of_ble_eq_true rfl) (t_X11_allCopies_0 hl (s_X11_allCopies hl _) h rfl)
    all_goals first | (cases h; done) | (rename_i q9 _; exact absurd q9 (by decide)) | (rename_i q9; exact absurd q9 (by decide)) | contradiction
/-! QuakeNetModel.of(II)I -/
def b_X11_of_0 (n : Nat) (rec : Nat → List Value → xH → xO) (a0 : Nat) (a1 : Int32) (a2 : Int32) (P : xH) : xO :=
  (rA P a0 11 3).bind fun v1 =>
  (aI P v1 ((((761 + ((10 * a1)))) + a2))).bind fun v3 =>
  some (.inl (some (.int v3)), P)
def lay_X11_of : Nat → List Value → Option (xL × List Value)
  | 0, [a0, a1, a2] => some ([some a0, some a1, some a2], [])
  | _, _ => none
def f_X11_of : Nat → Nat → List Value → xH → xO
  | 0 => fun _ _ _ => none
  | n + 1 => fun pc env P => match pc, env with
    | 0, [.ref a0, .int a1, .int a2] => b_X11_of_0 n (f_X11_of n) a0 a1 a2 P
    | _, _ => none
set_option maxHeartbeats 2000000 in
set_option maxRecDepth 20000 in
theorem t_X11_of_0 {G : xG} {l : Launch} (hl : l.stackTraces = false) {n : Nat} {rec : Nat → List Value → xH → xO} (hrec : ∀ pc env P z, rec pc env P = some z → ∀ L st, lay_X11_of pc env = some (L, st) → ∀ Q : xR → xH → Prop, Q z.1 z.2 → Wp G l 3 mX11_of pc L st P Q) {a0 a1 a2} {P : xH} {z : xR × xH} (h : b_X11_of_0 n rec a0 a1 a2 P = some z) {Q : xR → xH → Prop} (hQ : Q z.1 z.2) : Wp G l 3 mX11_of 0 [some (.ref a0), some (.int a1), some (.int a2)] [] P Q := by
  unfold b_X11_of_0 at h
  refine x_aload_nr dX11_of_0 rfl ?_
  obtain ⟨v1, e2, h⟩ := Option.bind_eq_some_iff.mp h
  refine k_rA e2 dX11_of_1 f_X11_20 ?_
  refine x_sipush 761 dX11_of_4 (by decide) ?_
  refine x_bipush 10 dX11_of_7 (by decide) ?_
  refine x_iload_n dX11_of_9 rfl ?_
  refine x_imul dX11_of_10 ?_
  refine x_iadd dX11_of_11 ?_
  refine x_iload_n dX11_of_12 rfl ?_
  refine x_iadd dX11_of_13 ?_
  obtain ⟨v3, e4, h⟩ := Option.bind_eq_some_iff.mp h
  refine k_aI e4 dX11_of_14 ?_
  cases h
  exact x_iret .int rfl rfl dX11_of_15 hQ
theorem s_X11_of {G : xG} {l : Launch} (hl : l.stackTraces = false) : ∀ n pc env P z, f_X11_of n pc env P = some z → ∀ L st, lay_X11_of pc env = some (L, st) → ∀ Q : xR → xH → Prop, Q z.1 z.2 → Wp G l 3 mX11_of pc L st P Q := by
  intro n
  induction n with
  | zero => intro pc env P z h; cases h
  | succ n ih =>
    intro pc env P z h L st hlay Q hQ
    unfold f_X11_of at h
    split at h
    · cases hlay
      exact t_X11_of_0 hl ih h hQ
    · cases h
theorem c_X11_of {G : xG} {l : Launch} (hl : l.stackTraces = false) {n : Nat} {as : List Value} {P : xH} {z : xR × xH} (h : f_X11_of n 0 as P = some z) : Ct G l 3 mX11_of as P (fun r P1 => (r, P1) = z) := by
  cases n with
  | zero => cases h
  | succ n =>
    unfold f_X11_of at h
    split at h
    · exact Ct.of hl (by decide +kernel) wc_X11_of (Nat.le_of_ble_eq_true rfl) (t_X11_of_0 hl (s_X11_of hl _) h rfl)
    all_goals first | (cases h; done) | (rename_i q9 _; exact absurd q9 (by decide)) | (rename_i q9; exact absurd q9 (by decide)) | contradiction
/-! QuakeNetModel.isDead(I)Z -/
def b_X11_isDead_0 (n : Nat) (rec : Nat → List Value → xH → xO) (a0 : Nat) (a1 : Int32) (P : xH) : xO :=
  (kO P a0 11).bind fun _ =>
  (f_X11_tick n 0 [.ref a0] P).bind fun r2 => xI r2 fun v4 P1 =>
  (kO P1 a0 11).bind fun _ =>
  (f_X11_of n 0 [.ref a0, .int a1, .int 2] P1).bind fun r7 => xI r7 fun v9 P6 =>
  (kO P6 a0 11).bind fun _ =>
  (f_X11_of n 0 [.ref a0, .int a1, .int 3] P6).bind fun r12 => xI r12 fun v14 P11 =>
  if v4 < ((v9 + v14)) then
    some (.inl (some (.int 0)), P11)
  else
    some (.inl (some (.int 1)), P11)
def lay_X11_isDead : Nat → List Value → Option (xL × List Value)
  | 0, [a0, a1] => some ([some a0, some a1], [])
  | _, _ => none
def f_X11_isDead : Nat → Nat → List Value → xH → xO
  | 0 => fun _ _ _ => none
  | n + 1 => fun pc env P => match pc, env with
    | 0, [.ref a0, .int a1] => b_X11_isDead_0 n (f_X11_isDead n) a0 a1 P
    | _, _ => none
set_option maxHeartbeats 2000000 in
set_option maxRecDepth 20000 in
theorem t_X11_isDead_0 {G : xG} {l : Launch} (hl : l.stackTraces = false) {n : Nat} {rec : Nat → List Value → xH → xO} (hrec : ∀ pc env P z, rec pc env P = some z → ∀ L st, lay_X11_isDead pc env = some (L, st) → ∀ Q : xR → xH → Prop, Q z.1 z.2 → Wp G l 4 mX11_isDead pc L st P Q) {a0 a1} {P : xH} {z : xR × xH} (h : b_X11_isDead_0 n rec a0 a1 P = some z) {Q : xR → xH → Prop} (hQ : Q z.1 z.2) : Wp G l 4 mX11_isDead 0 [some (.ref a0), some (.int a1)] [] P Q := by
  unfold b_X11_isDead_0 at h
  refine x_aload_nr dX11_isDead_0 rfl ?_
  obtain ⟨_, e5, h⟩ := Option.bind_eq_some_iff.mp h
  obtain ⟨fse5, e5⟩ := kO_ok e5
  obtain ⟨r2, e3, h⟩ := Option.bind_eq_some_iff.mp h
  replace h := xI_ok h
  obtain ⟨v4, P1, rfl, h⟩ := h
  refine x_callV (c_X11_tick hl e3) dX11_isDead_1 cw_X11_tick wl_X11_97 wi_X11_tick wse_X11_tick rfl e5 (by decide) rfl (by omega) (by decide) rfl (Nat.le_of_ble_eq_true rfl) rfl (fun v9 P9 hq9 => ?_) (fun i9 P9 hq9 => by cases hq9)
  cases hq9
  refine x_aload_nr dX11_isDead_4 rfl ?_
  refine x_iload_n dX11_isDead_5 rfl ?_
  refine x_iconst 2 dX11_isDead_6 (by decide) ?_
  obtain ⟨_, e10, h⟩ := Option.bind_eq_some_iff.mp h
  obtain ⟨fse10, e10⟩ := kO_ok e10
  obtain ⟨r7, e8, h⟩ := Option.bind_eq_some_iff.mp h
  replace h := xI_ok h
  obtain ⟨v9, P6, rfl, h⟩ := h
  refine x_callV (c_X11_of hl e8) dX11_isDead_7 cw_X11_of wl_X11_240 wi_X11_of wse_X11_of rfl e10 (by decide) rfl (by omega) (by decide) rfl (Nat.le_of_ble_eq_true rfl) rfl (fun v9 P9 hq9 => ?_) (fun i9 P9 hq9 => by cases hq9)
  cases hq9
  refine x_aload_nr dX11_isDead_10 rfl ?_
  refine x_iload_n dX11_isDead_11 rfl ?_
  refine x_iconst 3 dX11_isDead_12 (by decide) ?_
  obtain ⟨_, e15, h⟩ := Option.bind_eq_some_iff.mp h
  obtain ⟨fse15, e15⟩ := kO_ok e15
  obtain ⟨r12, e13, h⟩ := Option.bind_eq_some_iff.mp h
  replace h := xI_ok h
  obtain ⟨v14, P11, rfl, h⟩ := h
  refine x_callV (c_X11_of hl e13) dX11_isDead_13 cw_X11_of wl_X11_240 wi_X11_of wse_X11_of rfl e15 (by decide) rfl (by omega) (by decide) rfl (Nat.le_of_ble_eq_true rfl) rfl (fun v9 P9 hq9 => ?_) (fun i9 P9 hq9 => by cases hq9)
  cases hq9
  refine x_iadd dX11_isDead_16 ?_
  refine x_icmp_lt 24 dX11_isDead_17 (by decide) (fun q16 => ?_) (fun q16 => ?_)
  · rw [if_pos q16] at h
    refine x_iconst 0 dX11_isDead_24 (by decide) ?_
    cases h
    exact x_iret .boolean rfl rfl dX11_isDead_25 hQ
  · rw [if_neg q16] at h
    refine x_iconst 1 dX11_isDead_20 (by decide) ?_
    refine x_goto 25 dX11_isDead_21 (by decide) ?_
    cases h
    exact x_iret .boolean rfl rfl dX11_isDead_25 hQ
theorem s_X11_isDead {G : xG} {l : Launch} (hl : l.stackTraces = false) : ∀ n pc env P z, f_X11_isDead n pc env P = some z → ∀ L st, lay_X11_isDead pc env = some (L, st) → ∀ Q : xR → xH → Prop, Q z.1 z.2 → Wp G l 4 mX11_isDead pc L st P Q := by
  intro n
  induction n with
  | zero => intro pc env P z h; cases h
  | succ n ih =>
    intro pc env P z h L st hlay Q hQ
    unfold f_X11_isDead at h
    split at h
    · cases hlay
      exact t_X11_isDead_0 hl ih h hQ
    · cases h
theorem c_X11_isDead {G : xG} {l : Launch} (hl : l.stackTraces = false) {n : Nat} {as : List Value} {P : xH} {z : xR × xH} (h : f_X11_isDead n 0 as P = some z) : Ct G l 4 mX11_isDead as P (fun r P1 => (r, P1) = z) := by
  cases n with
  | zero => cases h
  | succ n =>
    unfold f_X11_isDead at h
    split at h
    · exact Ct.of hl (by decide +kernel) wc_X11_isDead (Nat.le_of_ble_eq_true rfl) (t_X11_isDead_0 hl (s_X11_isDead hl _) h rfl)
    all_goals first | (cases h; done) | (rename_i q9 _; exact absurd q9 (by decide)) | (rename_i q9; exact absurd q9 (by decide)) | contradiction
/-! QuakeNetModel.holds(I)Z -/
def b_X11_holds_0 (n : Nat) (rec : Nat → List Value → xH → xO) (a0 : Nat) (a1 : Int32) (P : xH) : xO :=
  (rI P a0 11 6).bind fun v1 =>
  (f_X11_lineAt n 0 [.int v1, .int a1] P).bind fun r4 => xI r4 fun v6 P3 =>
  (rA P3 a0 11 3).bind fun v7 =>
  (aI P3 v7 ((v6 + 2))).bind fun v9 =>
  rec 21 [.ref a0, .int a1, .int v6, .int 0, .int v9] P3
def b_X11_holds_21 (n : Nat) (rec : Nat → List Value → xH → xO) (a0 : Nat) (a1 : Int32) (a2 : Int32) (a3 : Int32) (a4 : Int32) (P : xH) : xO :=
  (rA P a0 11 3).bind fun v1 =>
  (aI P v1 ((a2 + 3))).bind fun v3 =>
  if v3 ≤ a4 then
    if a3 = 0 then
      some (.inl (some (.int 1)), P)
    else
      (rA P a0 11 19).bind fun v5 =>
      (aZ P v5 0).bind fun v7 =>
      if v7 = 0 then
        some (.inl (some (.int 0)), P)
      else
        some (.inl (some (.int 1)), P)
  else
    (rA P a0 11 3).bind fun v11 =>
    (rI P a0 11 6).bind fun v13 =>
    (f_X11_ruleAt n 0 [.int v13] P).bind fun r16 => xI r16 fun v18 P15 =>
    (aI P15 v11 ((((v18 + 41)) + ((2 * a4))))).bind fun v19 =>
    (rA P15 a0 11 3).bind fun v21 =>
    (rI P15 a0 11 6).bind fun v23 =>
    (f_X11_ruleAt n 0 [.int v23] P15).bind fun r26 => xI r26 fun v28 P25 =>
    (aI P25 v21 ((((((v28 + 41)) + ((2 * a4)))) + 1))).bind fun v29 =>
    if ¬ v19 = 300 then
      if v19 < 301 then
        (rA P25 a0 11 19).bind fun v31 =>
        if 7 ≤ v19 then
          if 200 ≤ v19 then
            (rA P25 a0 11 18).bind fun v33 =>
            (aI P25 v33 ((v19 - 200))).bind fun v35 =>
            if v35 ≤ v29 then
              (sZ P25 v31 a3 0).bind fun P37 =>
              rec 21 [.ref a0, .int a1, .int a2, .int ((a3 + 1)), .int ((a4 + 1))] P37
            else
              (sZ P25 v31 a3 1).bind fun P39 =>
              rec 21 [.ref a0, .int a1, .int a2, .int ((a3 + 1)), .int ((a4 + 1))] P39
          else
            (rA P25 a0 11 18).bind fun v42 =>
            (aI P25 v42 ((v19 - 100))).bind fun v44 =>
            if v29 ≤ v44 then
              (sZ P25 v31 a3 0).bind fun P46 =>
              rec 21 [.ref a0, .int a1, .int a2, .int ((a3 + 1)), .int ((a4 + 1))] P46
            else
              (sZ P25 v31 a3 1).bind fun P48 =>
              rec 21 [.ref a0, .int a1, .int a2, .int ((a3 + 1)), .int ((a4 + 1))] P48
        else
          (rA P25 a0 11 17).bind fun v52 =>
          (aZ P25 v52 v19).bind fun v54 =>
          (sZ P25 v31 a3 v54).bind fun P56 =>
          rec 21 [.ref a0, .int a1, .int a2, .int ((a3 + 1)), .int ((a4 + 1))] P56
      else
        (rA P25 a0 11 19).bind fun v59 =>
        if ¬ v19 = 301 then
          (rA P25 a0 11 19).bind fun v61 =>
          (aZ P25 v61 ((((a3 + (-1))) - 1))).bind fun v63 =>
          if ¬ v63 = 0 then
            (sZ P25 v59 ((((a3 + (-1))) - 1)) 1).bind fun P65 =>
            rec 21 [.ref a0, .int a1, .int a2, .int ((a3 + (-1))), .int ((a4 + 1))] P65
          else
            (rA P25 a0 11 19).bind fun v67 =>
            (aZ P25 v67 ((a3 + (-1)))).bind fun v69 =>
            if v69 = 0 then
              (sZ P25 v59 ((((a3 + (-1))) - 1)) 0).bind fun P71 =>
              rec 21 [.ref a0, .int a1, .int a2, .int ((a3 + (-1))), .int ((a4 + 1))] P71
            else
              (sZ P25 v59 ((((a3 + (-1))) - 1)) 1).bind fun P73 =>
              rec 21 [.ref a0, .int a1, .int a2, .int ((a3 + (-1))), .int ((a4 + 1))] P73
        else
          (rA P25 a0 11 19).bind fun v77 =>
          (aZ P25 v77 ((((a3 + (-1))) - 1))).bind fun v79 =>
          if v79 = 0 then
            (sZ P25 v59 ((((a3 + (-1))) - 1)) 0).bind fun P81 =>
            rec 21 [.ref a0, .int a1, .int a2, .int ((a3 + (-1))), .int ((a4 + 1))] P81
          else
            (rA P25 a0 11 19).bind fun v83 =>
            (aZ P25 v83 ((a3 + (-1)))).bind fun v85 =>
            if v85 = 0 then
              (sZ P25 v59 ((((a3 + (-1))) - 1)) 0).bind fun P87 =>
              rec 21 [.ref a0, .int a1, .int a2, .int ((a3 + (-1))), .int ((a4 + 1))] P87
            else
              (sZ P25 v59 ((((a3 + (-1))) - 1)) 1).bind fun P89 =>
              rec 21 [.ref a0, .int a1, .int a2, .int ((a3 + (-1))), .int ((a4 + 1))] P89
    else
      (rA P25 a0 11 19).bind fun v95 =>
      (rA P25 a0 11 19).bind fun v97 =>
      (aZ P25 v97 ((a3 - 1))).bind fun v99 =>
      if ¬ v99 = 0 then
        (sZ P25 v95 ((a3 - 1)) 0).bind fun P101 =>
        rec 21 [.ref a0, .int a1, .int a2, .int a3, .int ((a4 + 1))] P101
      else
        (sZ P25 v95 ((a3 - 1)) 1).bind fun P103 =>
        rec 21 [.ref a0, .int a1, .int a2, .int a3, .int ((a4 + 1))] P103
def lay_X11_holds : Nat → List Value → Option (xL × List Value)
  | 0, [a0, a1] => some ([some a0, some a1, none, none, none, none, none], [])
  | 21, [a0, a1, a2, a3, a4] => some ([some a0, some a1, some a2, some a3, some a4, none, none], [])
  | _, _ => none
def f_X11_holds : Nat → Nat → List Value → xH → xO
  | 0 => fun _ _ _ => none
  | n + 1 => fun pc env P => match pc, env with
    | 0, [.ref a0, .int a1] => b_X11_holds_0 n (f_X11_holds n) a0 a1 P
    | 21, [.ref a0, .int a1, .int a2, .int a3, .int a4] => b_X11_holds_21 n (f_X11_holds n) a0 a1 a2 a3 a4 P
    | _, _ => none
set_option maxHeartbeats 2000000 in
set_option maxRecDepth 20000 in
theorem t_X11_holds_0 {G : xG} {l : Launch} (hl : l.stackTraces = false) {n : Nat} {rec : Nat → List Value → xH → xO} (hrec : ∀ pc env P z, rec pc env P = some z → ∀ L st, lay_X11_holds pc env = some (L, st) → ∀ Q : xR → xH → Prop, Q z.1 z.2 → Wp G l 5 mX11_holds pc L st P Q) {a0 a1} {P : xH} {z : xR × xH} (h : b_X11_holds_0 n rec a0 a1 P = some z) {Q : xR → xH → Prop} (hQ : Q z.1 z.2) : Wp G l 5 mX11_holds 0 [some (.ref a0), some (.int a1), none, none, none, none, none] [] P Q := by
  unfold b_X11_holds_0 at h
  refine x_aload_nr dX11_holds_0 rfl ?_
  obtain ⟨v1, e2, h⟩ := Option.bind_eq_some_iff.mp h
  refine k_rI e2 dX11_holds_1 f_X11_246 ?_
  refine x_iload_n dX11_holds_4 rfl ?_
  obtain ⟨r4, e5, h⟩ := Option.bind_eq_some_iff.mp h
  replace h := xI_ok h
  obtain ⟨v6, P3, rfl, h⟩ := h
  refine x_callS (c_X11_lineAt hl e5) dX11_holds_5 cw_X11_lineAt wl_X11_209 ws_X11_lineAt rfl (by omega) (by decide) rfl (Nat.le_of_ble_eq_true rfl) rfl (fun v9 P9 hq9 => ?_) (fun i9 P9 hq9 => by cases hq9)
  cases hq9
  refine x_istore_n dX11_holds_8 (Nat.le_of_ble_eq_true rfl) ?_
  refine x_iconst 0 dX11_holds_9 (by decide) ?_
  refine x_istore_n dX11_holds_10 (Nat.le_of_ble_eq_true rfl) ?_
  refine x_aload_nr dX11_holds_11 rfl ?_
  obtain ⟨v7, e8, h⟩ := Option.bind_eq_some_iff.mp h
  refine k_rA e8 dX11_holds_12 f_X11_20 ?_
  refine x_iload_n dX11_holds_15 rfl ?_
  refine x_iconst 2 dX11_holds_16 (by decide) ?_
  refine x_iadd dX11_holds_17 ?_
  obtain ⟨v9, e10, h⟩ := Option.bind_eq_some_iff.mp h
  refine k_aI e10 dX11_holds_18 ?_
  refine x_istore dX11_holds_19 (Nat.le_of_ble_eq_true rfl) ?_
  exact Wp.mask [true, true, true, true, true, false, false] (hrec 21 _ _ _ h _ _ rfl _ hQ)
set_option maxHeartbeats 2000000 in
set_option maxRecDepth 20000 in
theorem t_X11_holds_21 {G : xG} {l : Launch} (hl : l.stackTraces = false) {n : Nat} {rec : Nat → List Value → xH → xO} (hrec : ∀ pc env P z, rec pc env P = some z → ∀ L st, lay_X11_holds pc env = some (L, st) → ∀ Q : xR → xH → Prop, Q z.1 z.2 → Wp G l 5 mX11_holds pc L st P Q) {a0 a1 a2 a3 a4} {P : xH} {z : xR × xH} (h : b_X11_holds_21 n rec a0 a1 a2 a3 a4 P = some z) {Q : xR → xH → Prop} (hQ : Q z.1 z.2) : Wp G l 5 mX11_holds 21 [some (.ref a0), some (.int a1), some (.int a2), some (.int a3), some (.int a4), none, none] [] P Q := by
  unfold b_X11_holds_21 at h
  refine x_iload dX11_holds_21 rfl ?_
  refine x_aload_nr dX11_holds_23 rfl ?_
  obtain ⟨v1, e2, h⟩ := Option.bind_eq_some_iff.mp h
  refine k_rA e2 dX11_holds_24 f_X11_20 ?_
  refine x_iload_n dX11_holds_27 rfl ?_
  refine x_iconst 3 dX11_holds_28 (by decide) ?_
  refine x_iadd dX11_holds_29 ?_
  obtain ⟨v3, e4, h⟩ := Option.bind_eq_some_iff.mp h
  refine k_aI e4 dX11_holds_30 ?_
  refine x_icmp_ge 282 dX11_holds_31 (by decide) (fun q107 => ?_) (fun q107 => ?_)
  · rw [if_pos q107] at h
    refine x_iload_n dX11_holds_282 rfl ?_
    refine x_if_eq 295 dX11_holds_283 (by decide) (fun q10 => ?_) (fun q10 => ?_)
    · rw [if_pos q10] at h
      refine x_iconst 1 dX11_holds_295 (by decide) ?_
      refine x_goto 300 dX11_holds_296 (by decide) ?_
      cases h
      exact x_iret .boolean rfl rfl dX11_holds_300 hQ
    · rw [if_neg q10] at h
      refine x_aload_nr dX11_holds_286 rfl ?_
      obtain ⟨v5, e6, h⟩ := Option.bind_eq_some_iff.mp h
      refine k_rA e6 dX11_holds_287 f_X11_43 ?_
      refine x_iconst 0 dX11_holds_290 (by decide) ?_
      obtain ⟨v7, e8, h⟩ := Option.bind_eq_some_iff.mp h
      refine k_aZ e8 dX11_holds_291 ?_
      refine x_if_eq 299 dX11_holds_292 (by decide) (fun q9 => ?_) (fun q9 => ?_)
      · rw [if_pos q9] at h
        refine x_iconst 0 dX11_holds_299 (by decide) ?_
        cases h
        exact x_iret .boolean rfl rfl dX11_holds_300 hQ
      · rw [if_neg q9] at h
        refine x_iconst 1 dX11_holds_295 (by decide) ?_
        refine x_goto 300 dX11_holds_296 (by decide) ?_
        cases h
        exact x_iret .boolean rfl rfl dX11_holds_300 hQ
  · rw [if_neg q107] at h
    refine x_aload_nr dX11_holds_34 rfl ?_
    obtain ⟨v11, e12, h⟩ := Option.bind_eq_some_iff.mp h
    refine k_rA e12 dX11_holds_35 f_X11_20 ?_
    refine x_aload_nr dX11_holds_38 rfl ?_
    obtain ⟨v13, e14, h⟩ := Option.bind_eq_some_iff.mp h
    refine k_rI e14 dX11_holds_39 f_X11_246 ?_
    obtain ⟨r16, e17, h⟩ := Option.bind_eq_some_iff.mp h
    replace h := xI_ok h
    obtain ⟨v18, P15, rfl, h⟩ := h
    refine x_callS (c_X11_ruleAt hl e17) dX11_holds_42 cw_X11_ruleAt wl_X11_148 ws_X11_ruleAt rfl (by omega) (by decide) rfl (Nat.le_of_ble_eq_true rfl) rfl (fun v9 P9 hq9 => ?_) (fun i9 P9 hq9 => by cases hq9)
    cases hq9
    refine x_bipush 41 dX11_holds_45 (by decide) ?_
    refine x_iadd dX11_holds_47 ?_
    refine x_iconst 2 dX11_holds_48 (by decide) ?_
    refine x_iload dX11_holds_49 rfl ?_
    refine x_imul dX11_holds_51 ?_
    refine x_iadd dX11_holds_52 ?_
    obtain ⟨v19, e20, h⟩ := Option.bind_eq_some_iff.mp h
    refine k_aI e20 dX11_holds_53 ?_
    refine x_istore dX11_holds_54 (Nat.le_of_ble_eq_true rfl) ?_
    refine x_aload_nr dX11_holds_56 rfl ?_
    obtain ⟨v21, e22, h⟩ := Option.bind_eq_some_iff.mp h
    refine k_rA e22 dX11_holds_57 f_X11_20 ?_
    refine x_aload_nr dX11_holds_60 rfl ?_
    obtain ⟨v23, e24, h⟩ := Option.bind_eq_some_iff.mp h
    refine k_rI e24 dX11_holds_61 f_X11_246 ?_
    obtain ⟨r26, e27, h⟩ := Option.bind_eq_some_iff.mp h
    replace h := xI_ok h
    obtain ⟨v28, P25, rfl, h⟩ := h
    refine x_callS (c_X11_ruleAt hl e27) dX11_holds_64 cw_X11_ruleAt wl_X11_148 ws_X11_ruleAt rfl (by omega) (by decide) rfl (Nat.le_of_ble_eq_true rfl) rfl (fun v9 P9 hq9 => ?_) (fun i9 P9 hq9 => by cases hq9)
    cases hq9
    refine x_bipush 41 dX11_holds_67 (by decide) ?_
    refine x_iadd dX11_holds_69 ?_
    refine x_iconst 2 dX11_holds_70 (by decide) ?_
    refine x_iload dX11_holds_71 rfl ?_
    refine x_imul dX11_holds_73 ?_
    refine x_iadd dX11_holds_74 ?_
    refine x_iconst 1 dX11_holds_75 (by decide) ?_
    refine x_iadd dX11_holds_76 ?_
    obtain ⟨v29, e30, h⟩ := Option.bind_eq_some_iff.mp h
    refine k_aI e30 dX11_holds_77 ?_
    refine x_istore dX11_holds_78 (Nat.le_of_ble_eq_true rfl) ?_
    refine x_iload dX11_holds_80 rfl ?_
    refine x_sipush 300 dX11_holds_82 (by decide) ?_
    refine x_icmp_ne 115 dX11_holds_85 (by decide) (fun q106 => ?_) (fun q106 => ?_)
    · rw [if_pos q106] at h
      refine x_iload dX11_holds_115 rfl ?_
      refine x_sipush 301 dX11_holds_117 (by decide) ?_
      refine x_icmp_lt 198 dX11_holds_120 (by decide) (fun q94 => ?_) (fun q94 => ?_)
      · rw [if_pos q94] at h
        refine x_aload_nr dX11_holds_198 rfl ?_
        obtain ⟨v31, e32, h⟩ := Option.bind_eq_some_iff.mp h
        refine k_rA e32 dX11_holds_199 f_X11_43 ?_
        refine x_iload_n dX11_holds_202 rfl ?_
        refine x_iload dX11_holds_203 rfl ?_
        refine x_bipush 7 dX11_holds_205 (by decide) ?_
        refine x_icmp_ge 220 dX11_holds_207 (by decide) (fun q58 => ?_) (fun q58 => ?_)
        · rw [if_pos q58] at h
          refine x_iload dX11_holds_220 rfl ?_
          refine x_sipush 200 dX11_holds_222 (by decide) ?_
          refine x_icmp_ge 251 dX11_holds_225 (by decide) (fun q51 => ?_) (fun q51 => ?_)
          · rw [if_pos q51] at h
            refine x_aload_nr dX11_holds_251 rfl ?_
            obtain ⟨v33, e34, h⟩ := Option.bind_eq_some_iff.mp h
            refine k_rA e34 dX11_holds_252 f_X11_40 ?_
            refine x_iload dX11_holds_255 rfl ?_
            refine x_sipush 200 dX11_holds_257 (by decide) ?_
            refine x_isub dX11_holds_260 ?_
            obtain ⟨v35, e36, h⟩ := Option.bind_eq_some_iff.mp h
            refine k_aI e36 dX11_holds_261 ?_
            refine x_iload dX11_holds_262 rfl ?_
            refine x_icmp_le 271 dX11_holds_264 (by decide) (fun q41 => ?_) (fun q41 => ?_)
            · rw [if_pos q41] at h
              refine x_iconst 0 dX11_holds_271 (by decide) ?_
              obtain ⟨P37, e38, h⟩ := Option.bind_eq_some_iff.mp h
              refine k_sZ e38 dX11_holds_272 ?_
              refine x_iinc (a3 + 1) dX11_holds_273 rfl (by rfl) ?_
              refine x_iinc (a4 + 1) dX11_holds_276 rfl (by rfl) ?_
              refine x_goto 21 dX11_holds_279 (by decide) ?_
              exact Wp.mask [true, true, true, true, true, false, false] (hrec 21 _ _ _ h _ _ rfl _ hQ)
            · rw [if_neg q41] at h
              refine x_iconst 1 dX11_holds_267 (by decide) ?_
              refine x_goto 272 dX11_holds_268 (by decide) ?_
              obtain ⟨P39, e40, h⟩ := Option.bind_eq_some_iff.mp h
              refine k_sZ e40 dX11_holds_272 ?_
              refine x_iinc (a3 + 1) dX11_holds_273 rfl (by rfl) ?_
              refine x_iinc (a4 + 1) dX11_holds_276 rfl (by rfl) ?_
              refine x_goto 21 dX11_holds_279 (by decide) ?_
              exact Wp.mask [true, true, true, true, true, false, false] (hrec 21 _ _ _ h _ _ rfl _ hQ)
          · rw [if_neg q51] at h
            refine x_aload_nr dX11_holds_228 rfl ?_
            obtain ⟨v42, e43, h⟩ := Option.bind_eq_some_iff.mp h
            refine k_rA e43 dX11_holds_229 f_X11_40 ?_
            refine x_iload dX11_holds_232 rfl ?_
            refine x_bipush 100 dX11_holds_234 (by decide) ?_
            refine x_isub dX11_holds_236 ?_
            obtain ⟨v44, e45, h⟩ := Option.bind_eq_some_iff.mp h
            refine k_aI e45 dX11_holds_237 ?_
            refine x_iload dX11_holds_238 rfl ?_
            refine x_icmp_ge 247 dX11_holds_240 (by decide) (fun q50 => ?_) (fun q50 => ?_)
            · rw [if_pos q50] at h
              refine x_iconst 0 dX11_holds_247 (by decide) ?_
              refine x_goto 272 dX11_holds_248 (by decide) ?_
              obtain ⟨P46, e47, h⟩ := Option.bind_eq_some_iff.mp h
              refine k_sZ e47 dX11_holds_272 ?_
              refine x_iinc (a3 + 1) dX11_holds_273 rfl (by rfl) ?_
              refine x_iinc (a4 + 1) dX11_holds_276 rfl (by rfl) ?_
              refine x_goto 21 dX11_holds_279 (by decide) ?_
              exact Wp.mask [true, true, true, true, true, false, false] (hrec 21 _ _ _ h _ _ rfl _ hQ)
            · rw [if_neg q50] at h
              refine x_iconst 1 dX11_holds_243 (by decide) ?_
              refine x_goto 272 dX11_holds_244 (by decide) ?_
              obtain ⟨P48, e49, h⟩ := Option.bind_eq_some_iff.mp h
              refine k_sZ e49 dX11_holds_272 ?_
              refine x_iinc (a3 + 1) dX11_holds_273 rfl (by rfl) ?_
              refine x_iinc (a4 + 1) dX11_holds_276 rfl (by rfl) ?_
              refine x_goto 21 dX11_holds_279 (by decide) ?_
              exact Wp.mask [true, true, true, true, true, false, false] (hrec 21 _ _ _ h _ _ rfl _ hQ)
        · rw [if_neg q58] at h
          refine x_aload_nr dX11_holds_210 rfl ?_
          obtain ⟨v52, e53, h⟩ := Option.bind_eq_some_iff.mp h
          refine k_rA e53 dX11_holds_211 f_X11_36 ?_
          refine x_iload dX11_holds_214 rfl ?_
          obtain ⟨v54, e55, h⟩ := Option.bind_eq_some_iff.mp h
          refine k_aZ e55 dX11_holds_216 ?_
          refine x_goto 272 dX11_holds_217 (by decide) ?_
          obtain ⟨P56, e57, h⟩ := Option.bind_eq_some_iff.mp h
          refine k_sZ e57 dX11_holds_272 ?_
          refine x_iinc (a3 + 1) dX11_holds_273 rfl (by rfl) ?_
          refine x_iinc (a4 + 1) dX11_holds_276 rfl (by rfl) ?_
          refine x_goto 21 dX11_holds_279 (by decide) ?_
          exact Wp.mask [true, true, true, true, true, false, false] (hrec 21 _ _ _ h _ _ rfl _ hQ)
      · rw [if_neg q94] at h
        refine x_iinc (a3 + (-1)) dX11_holds_123 rfl (by rfl) ?_
        refine x_aload_nr dX11_holds_126 rfl ?_
        obtain ⟨v59, e60, h⟩ := Option.bind_eq_some_iff.mp h
        refine k_rA e60 dX11_holds_127 f_X11_43 ?_
        refine x_iload_n dX11_holds_130 rfl ?_
        refine x_iconst 1 dX11_holds_131 (by decide) ?_
        refine x_isub dX11_holds_132 ?_
        refine x_iload dX11_holds_133 rfl ?_
        refine x_sipush 301 dX11_holds_135 (by decide) ?_
        refine x_icmp_ne 169 dX11_holds_138 (by decide) (fun q93 => ?_) (fun q93 => ?_)
        · rw [if_pos q93] at h
          refine x_aload_nr dX11_holds_169 rfl ?_
          obtain ⟨v61, e62, h⟩ := Option.bind_eq_some_iff.mp h
          refine k_rA e62 dX11_holds_170 f_X11_43 ?_
          refine x_iload_n dX11_holds_173 rfl ?_
          refine x_iconst 1 dX11_holds_174 (by decide) ?_
          refine x_isub dX11_holds_175 ?_
          obtain ⟨v63, e64, h⟩ := Option.bind_eq_some_iff.mp h
          refine k_aZ e64 dX11_holds_176 ?_
          refine x_if_ne 189 dX11_holds_177 (by decide) (fun q76 => ?_) (fun q76 => ?_)
          · rw [if_pos q76] at h
            refine x_iconst 1 dX11_holds_189 (by decide) ?_
            refine x_goto 194 dX11_holds_190 (by decide) ?_
            obtain ⟨P65, e66, h⟩ := Option.bind_eq_some_iff.mp h
            refine k_sZ e66 dX11_holds_194 ?_
            refine x_goto 276 dX11_holds_195 (by decide) ?_
            refine x_iinc (a4 + 1) dX11_holds_276 rfl (by rfl) ?_
            refine x_goto 21 dX11_holds_279 (by decide) ?_
            exact Wp.mask [true, true, true, true, true, false, false] (hrec 21 _ _ _ h _ _ rfl _ hQ)
          · rw [if_neg (fun z9 => z9 q76)] at h
            refine x_aload_nr dX11_holds_180 rfl ?_
            obtain ⟨v67, e68, h⟩ := Option.bind_eq_some_iff.mp h
            refine k_rA e68 dX11_holds_181 f_X11_43 ?_
            refine x_iload_n dX11_holds_184 rfl ?_
            obtain ⟨v69, e70, h⟩ := Option.bind_eq_some_iff.mp h
            refine k_aZ e70 dX11_holds_185 ?_
            refine x_if_eq 193 dX11_holds_186 (by decide) (fun q75 => ?_) (fun q75 => ?_)
            · rw [if_pos q75] at h
              refine x_iconst 0 dX11_holds_193 (by decide) ?_
              obtain ⟨P71, e72, h⟩ := Option.bind_eq_some_iff.mp h
              refine k_sZ e72 dX11_holds_194 ?_
              refine x_goto 276 dX11_holds_195 (by decide) ?_
              refine x_iinc (a4 + 1) dX11_holds_276 rfl (by rfl) ?_
              refine x_goto 21 dX11_holds_279 (by decide) ?_
              exact Wp.mask [true, true, true, true, true, false, false] (hrec 21 _ _ _ h _ _ rfl _ hQ)
            · rw [if_neg q75] at h
              refine x_iconst 1 dX11_holds_189 (by decide) ?_
              refine x_goto 194 dX11_holds_190 (by decide) ?_
              obtain ⟨P73, e74, h⟩ := Option.bind_eq_some_iff.mp h
              refine k_sZ e74 dX11_holds_194 ?_
              refine x_goto 276 dX11_holds_195 (by decide) ?_
              refine x_iinc (a4 + 1) dX11_holds_276 rfl (by rfl) ?_
              refine x_goto 21 dX11_holds_279 (by decide) ?_
              exact Wp.mask [true, true, true, true, true, false, false] (hrec 21 _ _ _ h _ _ rfl _ hQ)
        · rw [if_neg (fun z9 => z9 q93)] at h
          refine x_aload_nr dX11_holds_141 rfl ?_
          obtain ⟨v77, e78, h⟩ := Option.bind_eq_some_iff.mp h
          refine k_rA e78 dX11_holds_142 f_X11_43 ?_
          refine x_iload_n dX11_holds_145 rfl ?_
          refine x_iconst 1 dX11_holds_146 (by decide) ?_
          refine x_isub dX11_holds_147 ?_
          obtain ⟨v79, e80, h⟩ := Option.bind_eq_some_iff.mp h
          refine k_aZ e80 dX11_holds_148 ?_
          refine x_if_eq 165 dX11_holds_149 (by decide) (fun q92 => ?_) (fun q92 => ?_)
          · rw [if_pos q92] at h
            refine x_iconst 0 dX11_holds_165 (by decide) ?_
            refine x_goto 194 dX11_holds_166 (by decide) ?_
            obtain ⟨P81, e82, h⟩ := Option.bind_eq_some_iff.mp h
            refine k_sZ e82 dX11_holds_194 ?_
            refine x_goto 276 dX11_holds_195 (by decide) ?_
            refine x_iinc (a4 + 1) dX11_holds_276 rfl (by rfl) ?_
            refine x_goto 21 dX11_holds_279 (by decide) ?_
            exact Wp.mask [true, true, true, true, true, false, false] (hrec 21 _ _ _ h _ _ rfl _ hQ)
          · rw [if_neg q92] at h
            refine x_aload_nr dX11_holds_152 rfl ?_
            obtain ⟨v83, e84, h⟩ := Option.bind_eq_some_iff.mp h
            refine k_rA e84 dX11_holds_153 f_X11_43 ?_
            refine x_iload_n dX11_holds_156 rfl ?_
            obtain ⟨v85, e86, h⟩ := Option.bind_eq_some_iff.mp h
            refine k_aZ e86 dX11_holds_157 ?_
            refine x_if_eq 165 dX11_holds_158 (by decide) (fun q91 => ?_) (fun q91 => ?_)
            · rw [if_pos q91] at h
              refine x_iconst 0 dX11_holds_165 (by decide) ?_
              refine x_goto 194 dX11_holds_166 (by decide) ?_
              obtain ⟨P87, e88, h⟩ := Option.bind_eq_some_iff.mp h
              refine k_sZ e88 dX11_holds_194 ?_
              refine x_goto 276 dX11_holds_195 (by decide) ?_
              refine x_iinc (a4 + 1) dX11_holds_276 rfl (by rfl) ?_
              refine x_goto 21 dX11_holds_279 (by decide) ?_
              exact Wp.mask [true, true, true, true, true, false, false] (hrec 21 _ _ _ h _ _ rfl _ hQ)
            · rw [if_neg q91] at h
              refine x_iconst 1 dX11_holds_161 (by decide) ?_
              refine x_goto 194 dX11_holds_162 (by decide) ?_
              obtain ⟨P89, e90, h⟩ := Option.bind_eq_some_iff.mp h
              refine k_sZ e90 dX11_holds_194 ?_
              refine x_goto 276 dX11_holds_195 (by decide) ?_
              refine x_iinc (a4 + 1) dX11_holds_276 rfl (by rfl) ?_
              refine x_goto 21 dX11_holds_279 (by decide) ?_
              exact Wp.mask [true, true, true, true, true, false, false] (hrec 21 _ _ _ h _ _ rfl _ hQ)
    · rw [if_neg (fun z9 => z9 q106)] at h
      refine x_aload_nr dX11_holds_88 rfl ?_
      obtain ⟨v95, e96, h⟩ := Option.bind_eq_some_iff.mp h
      refine k_rA e96 dX11_holds_89 f_X11_43 ?_
      refine x_iload_n dX11_holds_92 rfl ?_
      refine x_iconst 1 dX11_holds_93 (by decide) ?_
      refine x_isub dX11_holds_94 ?_
      refine x_aload_nr dX11_holds_95 rfl ?_
      obtain ⟨v97, e98, h⟩ := Option.bind_eq_some_iff.mp h
      refine k_rA e98 dX11_holds_96 f_X11_43 ?_
      refine x_iload_n dX11_holds_99 rfl ?_
      refine x_iconst 1 dX11_holds_100 (by decide) ?_
      refine x_isub dX11_holds_101 ?_
      obtain ⟨v99, e100, h⟩ := Option.bind_eq_some_iff.mp h
      refine k_aZ e100 dX11_holds_102 ?_
      refine x_if_ne 110 dX11_holds_103 (by decide) (fun q105 => ?_) (fun q105 => ?_)
      · rw [if_pos q105] at h
        refine x_iconst 0 dX11_holds_110 (by decide) ?_
        obtain ⟨P101, e102, h⟩ := Option.bind_eq_some_iff.mp h
        refine k_sZ e102 dX11_holds_111 ?_
        refine x_goto 276 dX11_holds_112 (by decide) ?_
        refine x_iinc (a4 + 1) dX11_holds_276 rfl (by rfl) ?_
        refine x_goto 21 dX11_holds_279 (by decide) ?_
        exact Wp.mask [true, true, true, true, true, false, false] (hrec 21 _ _ _ h _ _ rfl _ hQ)
      · rw [if_neg (fun z9 => z9 q105)] at h
        refine x_iconst 1 dX11_holds_106 (by decide) ?_
        refine x_goto 111 dX11_holds_107 (by decide) ?_
        obtain ⟨P103, e104, h⟩ := Option.bind_eq_some_iff.mp h
        refine k_sZ e104 dX11_holds_111 ?_
        refine x_goto 276 dX11_holds_112 (by decide) ?_
        refine x_iinc (a4 + 1) dX11_holds_276 rfl (by rfl) ?_
        refine x_goto 21 dX11_holds_279 (by decide) ?_
        exact Wp.mask [true, true, true, true, true, false, false] (hrec 21 _ _ _ h _ _ rfl _ hQ)
theorem s_X11_holds {G : xG} {l : Launch} (hl : l.stackTraces = false) : ∀ n pc env P z, f_X11_holds n pc env P = some z → ∀ L st, lay_X11_holds pc env = some (L, st) → ∀ Q : xR → xH → Prop, Q z.1 z.2 → Wp G l 5 mX11_holds pc L st P Q := by
  intro n
  induction n with
  | zero => intro pc env P z h; cases h
  | succ n ih =>
    intro pc env P z h L st hlay Q hQ
    unfold f_X11_holds at h
    split at h
    · cases hlay
      exact t_X11_holds_0 hl ih h hQ
    · cases hlay
      exact t_X11_holds_21 hl ih h hQ
    · cases h
theorem c_X11_holds {G : xG} {l : Launch} (hl : l.stackTraces = false) {n : Nat} {as : List Value} {P : xH} {z : xR × xH} (h : f_X11_holds n 0 as P = some z) : Ct G l 5 mX11_holds as P (fun r P1 => (r, P1) = z) := by
  cases n with
  | zero => cases h
  | succ n =>
    unfold f_X11_holds at h
    split at h
    · exact Ct.of hl (by decide +kernel) wc_X11_holds (Nat.le_of_ble_eq_true rfl) (t_X11_holds_0 hl (s_X11_holds hl _) h rfl)
    all_goals first | (cases h; done) | (rename_i q9 _; exact absurd q9 (by decide)) | (rename_i q9; exact absurd q9 (by decide)) | contradiction
/-! QuakeNetModel.lines()I -/
def b_X11_lines_0 (n : Nat) (rec : Nat → List Value → xH → xO) (a0 : Nat) (P : xH) : xO :=
  (rA P a0 11 3).bind fun v1 =>
  (rI P a0 11 6).bind fun v3 =>
  (f_X11_ruleAt n 0 [.int v3] P).bind fun r6 => xI r6 fun v8 P5 =>
  (aI P5 v1 v8).bind fun v9 =>
  some (.inl (some (.int v9)), P5)
def lay_X11_lines : Nat → List Value → Option (xL × List Value)
  | 0, [a0] => some ([some a0], [])
  | _, _ => none
def f_X11_lines : Nat → Nat → List Value → xH → xO
  | 0 => fun _ _ _ => none
  | n + 1 => fun pc env P => match pc, env with
    | 0, [.ref a0] => b_X11_lines_0 n (f_X11_lines n) a0 P
    | _, _ => none
set_option maxHeartbeats 2000000 in
set_option maxRecDepth 20000 in
theorem t_X11_lines_0 {G : xG} {l : Launch} (hl : l.stackTraces = false) {n : Nat} {rec : Nat → List Value → xH → xO} (hrec : ∀ pc env P z, rec pc env P = some z → ∀ L st, lay_X11_lines pc env = some (L, st) → ∀ Q : xR → xH → Prop, Q z.1 z.2 → Wp G l 4 mX11_lines pc L st P Q) {a0} {P : xH} {z : xR × xH} (h : b_X11_lines_0 n rec a0 P = some z) {Q : xR → xH → Prop} (hQ : Q z.1 z.2) : Wp G l 4 mX11_lines 0 [some (.ref a0)] [] P Q := by
  unfold b_X11_lines_0 at h
  refine x_aload_nr dX11_lines_0 rfl ?_
  obtain ⟨v1, e2, h⟩ := Option.bind_eq_some_iff.mp h
  refine k_rA e2 dX11_lines_1 f_X11_20 ?_
  refine x_aload_nr dX11_lines_4 rfl ?_
  obtain ⟨v3, e4, h⟩ := Option.bind_eq_some_iff.mp h
  refine k_rI e4 dX11_lines_5 f_X11_246 ?_
  obtain ⟨r6, e7, h⟩ := Option.bind_eq_some_iff.mp h
  replace h := xI_ok h
  obtain ⟨v8, P5, rfl, h⟩ := h
  refine x_callS (c_X11_ruleAt hl e7) dX11_lines_8 cw_X11_ruleAt wl_X11_148 ws_X11_ruleAt rfl (by omega) (by decide) rfl (Nat.le_of_ble_eq_true rfl) rfl (fun v9 P9 hq9 => ?_) (fun i9 P9 hq9 => by cases hq9)
  cases hq9
  obtain ⟨v9, e10, h⟩ := Option.bind_eq_some_iff.mp h
  refine k_aI e10 dX11_lines_11 ?_
  cases h
  exact x_iret .int rfl rfl dX11_lines_12 hQ
theorem s_X11_lines {G : xG} {l : Launch} (hl : l.stackTraces = false) : ∀ n pc env P z, f_X11_lines n pc env P = some z → ∀ L st, lay_X11_lines pc env = some (L, st) → ∀ Q : xR → xH → Prop, Q z.1 z.2 → Wp G l 4 mX11_lines pc L st P Q := by
  intro n
  induction n with
  | zero => intro pc env P z h; cases h
  | succ n ih =>
    intro pc env P z h L st hlay Q hQ
    unfold f_X11_lines at h
    split at h
    · cases hlay
      exact t_X11_lines_0 hl ih h hQ
    · cases h
theorem c_X11_lines {G : xG} {l : Launch} (hl : l.stackTraces = false) {n : Nat} {as : List Value} {P : xH} {z : xR × xH} (h : f_X11_lines n 0 as P = some z) : Ct G l 4 mX11_lines as P (fun r P1 => (r, P1) = z) := by
  cases n with
  | zero => cases h
  | succ n =>
    unfold f_X11_lines at h
    split at h
    · exact Ct.of hl (by decide +kernel) wc_X11_lines (Nat.le_of_ble_eq_true rfl) (t_X11_lines_0 hl (s_X11_lines hl _) h rfl)
    all_goals first | (cases h; done) | (rename_i q9 _; exact absurd q9 (by decide)) | (rename_i q9; exact absurd q9 (by decide)) | contradiction
