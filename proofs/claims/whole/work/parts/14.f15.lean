/-! QuakeNetModel.isLetters(Ljava/lang/String;)Z -/
def b_X11_isLetters_0 (n : Nat) (rec : Nat → List Value → xH → xO) (a0 : Nat) (a1 : Nat) (P : xH) : xO :=
  (rI P a0 11 10).bind fun v1 =>
  (rI P a0 11 12).bind fun v3 =>
  (sLn a1).bind fun v5 =>
  if ¬ ((v1 - v3)) = v5 then
    rec 24 [.ref a0, .retAddr a1, .int 0, .int 0] P
  else
    rec 24 [.ref a0, .retAddr a1, .int 1, .int 0] P
def b_X11_isLetters_24 (n : Nat) (rec : Nat → List Value → xH → xO) (a0 : Nat) (a1 : Nat) (a2 : Int32) (a3 : Int32) (P : xH) : xO :=
  if a2 = 0 then
    if a2 = 0 ∨ a2 = 1 then some (.inl (some (.int a2)), P) else none
  else
    (sLn a1).bind fun v2 =>
    if v2 ≤ a3 then
      if a2 = 0 ∨ a2 = 1 then some (.inl (some (.int a2)), P) else none
    else
      (rA P a0 11 8).bind fun v5 =>
      (rI P a0 11 12).bind fun v7 =>
      (aB P v5 ((v7 + a3))).bind fun v9 =>
      (sCh a1 a3).bind fun v11 =>
      if ¬ v9 = v11 then
        rec 24 [.ref a0, .retAddr a1, .int 0, .int ((a3 + 1))] P
      else
        rec 24 [.ref a0, .retAddr a1, .int 1, .int ((a3 + 1))] P
def lay_X11_isLetters : Nat → List Value → Option (xL × List Value)
  | 0, [a0, a1] => some ([some a0, some a1, none, none], [])
  | 24, [a0, a1, a2, a3] => some ([some a0, some a1, some a2, some a3], [])
  | _, _ => none
def f_X11_isLetters : Nat → Nat → List Value → xH → xO
  | 0 => fun _ _ _ => none
  | n + 1 => fun pc env P => match pc, env with
    | 0, [.ref a0, .retAddr a1] => b_X11_isLetters_0 n (f_X11_isLetters n) a0 a1 P
    | 24, [.ref a0, .retAddr a1, .int a2, .int a3] => b_X11_isLetters_24 n (f_X11_isLetters n) a0 a1 a2 a3 P
    | _, _ => none
set_option maxHeartbeats 2000000 in
set_option maxRecDepth 20000 in
theorem t_X11_isLetters_0 {G : xG} {l : Launch} (hl : l.stackTraces = false) {n : Nat} {rec : Nat → List Value → xH → xO} (hrec : ∀ pc env P z, rec pc env P = some z → ∀ L st, lay_X11_isLetters pc env = some (L, st) → ∀ Q : xR → xH → Prop, Q z.1 z.2 → Wp G l 7 mX11_isLetters pc L st P Q) {a0 a1} {P : xH} {z : xR × xH} (h : b_X11_isLetters_0 n rec a0 a1 P = some z) {Q : xR → xH → Prop} (hQ : Q z.1 z.2) : Wp G l 7 mX11_isLetters 0 [some (.ref a0), some (.retAddr a1), none, none] [] P Q := by
  unfold b_X11_isLetters_0 at h
  refine x_aload_nr dX11_isLetters_0 rfl ?_
  obtain ⟨v1, e2, h⟩ := Option.bind_eq_some_iff.mp h
  refine k_rI e2 dX11_isLetters_1 f_X11_119 ?_
  refine x_aload_nr dX11_isLetters_4 rfl ?_
  obtain ⟨v3, e4, h⟩ := Option.bind_eq_some_iff.mp h
  refine k_rI e4 dX11_isLetters_5 f_X11_126 ?_
  refine x_isub dX11_isLetters_8 ?_
  refine x_aload_n (Or.inr ⟨_, rfl⟩) dX11_isLetters_9 rfl ?_
  obtain ⟨v5, e6, h⟩ := Option.bind_eq_some_iff.mp h
  refine k_sLn hl e6 dX11_isLetters_10 wl_X11_132 (by omega) (Nat.le_of_ble_eq_true rfl) rfl ?_
  refine x_icmp_ne 20 dX11_isLetters_13 (by decide) (fun q7 => ?_) (fun q7 => ?_)
  · rw [if_pos q7] at h
    refine x_iconst 0 dX11_isLetters_20 (by decide) ?_
    refine x_istore_n dX11_isLetters_21 (Nat.le_of_ble_eq_true rfl) ?_
    refine x_iconst 0 dX11_isLetters_22 (by decide) ?_
    refine x_istore_n dX11_isLetters_23 (Nat.le_of_ble_eq_true rfl) ?_
    exact Wp.mask [true, true, true, true] (hrec 24 _ _ _ h _ _ rfl _ hQ)
  · rw [if_neg (fun z9 => z9 q7)] at h
    refine x_iconst 1 dX11_isLetters_16 (by decide) ?_
    refine x_goto 21 dX11_isLetters_17 (by decide) ?_
    refine x_istore_n dX11_isLetters_21 (Nat.le_of_ble_eq_true rfl) ?_
    refine x_iconst 0 dX11_isLetters_22 (by decide) ?_
    refine x_istore_n dX11_isLetters_23 (Nat.le_of_ble_eq_true rfl) ?_
    exact Wp.mask [true, true, true, true] (hrec 24 _ _ _ h _ _ rfl _ hQ)
set_option maxHeartbeats 2000000 in
set_option maxRecDepth 20000 in
theorem t_X11_isLetters_24 {G : xG} {l : Launch} (hl : l.stackTraces = false) {n : Nat} {rec : Nat → List Value → xH → xO} (hrec : ∀ pc env P z, rec pc env P = some z → ∀ L st, lay_X11_isLetters pc env = some (L, st) → ∀ Q : xR → xH → Prop, Q z.1 z.2 → Wp G l 7 mX11_isLetters pc L st P Q) {a0 a1 a2 a3} {P : xH} {z : xR × xH} (h : b_X11_isLetters_24 n rec a0 a1 a2 a3 P = some z) {Q : xR → xH → Prop} (hQ : Q z.1 z.2) : Wp G l 7 mX11_isLetters 24 [some (.ref a0), some (.retAddr a1), some (.int a2), some (.int a3)] [] P Q := by
  unfold b_X11_isLetters_24 at h
  refine x_iload_n dX11_isLetters_24 rfl ?_
  refine x_if_eq 67 dX11_isLetters_25 (by decide) (fun q15 => ?_) (fun q15 => ?_)
  · rw [if_pos q15] at h
    refine x_iload_n dX11_isLetters_67 rfl ?_
    by_cases q1 : a2 = 0 ∨ a2 = 1
    · rw [if_pos q1] at h
      cases h
      exact x_iret .boolean rfl (by rcases q1 with z9 | z9 <;> rw [z9] <;> rfl) dX11_isLetters_68 hQ
    · rw [if_neg q1] at h
      cases h
  · rw [if_neg q15] at h
    refine x_iload_n dX11_isLetters_28 rfl ?_
    refine x_aload_n (Or.inr ⟨_, rfl⟩) dX11_isLetters_29 rfl ?_
    obtain ⟨v2, e3, h⟩ := Option.bind_eq_some_iff.mp h
    refine k_sLn hl e3 dX11_isLetters_30 wl_X11_132 (by omega) (Nat.le_of_ble_eq_true rfl) rfl ?_
    refine x_icmp_ge 67 dX11_isLetters_33 (by decide) (fun q14 => ?_) (fun q14 => ?_)
    · rw [if_pos q14] at h
      refine x_iload_n dX11_isLetters_67 rfl ?_
      by_cases q4 : a2 = 0 ∨ a2 = 1
      · rw [if_pos q4] at h
        cases h
        exact x_iret .boolean rfl (by rcases q4 with z9 | z9 <;> rw [z9] <;> rfl) dX11_isLetters_68 hQ
      · rw [if_neg q4] at h
        cases h
    · rw [if_neg q14] at h
      refine x_aload_nr dX11_isLetters_36 rfl ?_
      obtain ⟨v5, e6, h⟩ := Option.bind_eq_some_iff.mp h
      refine k_rA e6 dX11_isLetters_37 f_X11_26 ?_
      refine x_aload_nr dX11_isLetters_40 rfl ?_
      obtain ⟨v7, e8, h⟩ := Option.bind_eq_some_iff.mp h
      refine k_rI e8 dX11_isLetters_41 f_X11_126 ?_
      refine x_iload_n dX11_isLetters_44 rfl ?_
      refine x_iadd dX11_isLetters_45 ?_
      obtain ⟨v9, e10, h⟩ := Option.bind_eq_some_iff.mp h
      refine k_aB e10 dX11_isLetters_46 ?_
      refine x_aload_n (Or.inr ⟨_, rfl⟩) dX11_isLetters_47 rfl ?_
      refine x_iload_n dX11_isLetters_48 rfl ?_
      obtain ⟨v11, e12, h⟩ := Option.bind_eq_some_iff.mp h
      refine k_sCh hl e12 dX11_isLetters_49 wl_X11_137 (by omega) (Nat.le_of_ble_eq_true rfl) rfl ?_
      refine x_icmp_ne 59 dX11_isLetters_52 (by decide) (fun q13 => ?_) (fun q13 => ?_)
      · rw [if_pos q13] at h
        refine x_iconst 0 dX11_isLetters_59 (by decide) ?_
        refine x_istore_n dX11_isLetters_60 (Nat.le_of_ble_eq_true rfl) ?_
        refine x_iinc (a3 + 1) dX11_isLetters_61 rfl (by rfl) ?_
        refine x_goto 24 dX11_isLetters_64 (by decide) ?_
        exact Wp.mask [true, true, true, true] (hrec 24 _ _ _ h _ _ rfl _ hQ)
      · rw [if_neg (fun z9 => z9 q13)] at h
        refine x_iconst 1 dX11_isLetters_55 (by decide) ?_
        refine x_goto 60 dX11_isLetters_56 (by decide) ?_
        refine x_istore_n dX11_isLetters_60 (Nat.le_of_ble_eq_true rfl) ?_
        refine x_iinc (a3 + 1) dX11_isLetters_61 rfl (by rfl) ?_
        refine x_goto 24 dX11_isLetters_64 (by decide) ?_
        exact Wp.mask [true, true, true, true] (hrec 24 _ _ _ h _ _ rfl _ hQ)
theorem s_X11_isLetters {G : xG} {l : Launch} (hl : l.stackTraces = false) : ∀ n pc env P z, f_X11_isLetters n pc env P = some z → ∀ L st, lay_X11_isLetters pc env = some (L, st) → ∀ Q : xR → xH → Prop, Q z.1 z.2 → Wp G l 7 mX11_isLetters pc L st P Q := by
  intro n
  induction n with
  | zero => intro pc env P z h; cases h
  | succ n ih =>
    intro pc env P z h L st hlay Q hQ
    unfold f_X11_isLetters at h
    split at h
    · cases hlay
      exact t_X11_isLetters_0 hl ih h hQ
    · cases hlay
      exact t_X11_isLetters_24 hl ih h hQ
    · cases h
theorem c_X11_isLetters {G : xG} {l : Launch} (hl : l.stackTraces = false) {n : Nat} {as : List Value} {P : xH} {z : xR × xH} (h : f_X11_isLetters n 0 as P = some z) : Ct G l 7 mX11_isLetters as P (fun r P1 => (r, P1) = z) := by
  cases n with
  | zero => cases h
  | succ n =>
    unfold f_X11_isLetters at h
    split at h
    · exact Ct.of hl (by decide +kernel) wc_X11_isLetters (Nat.le_of_ble_eq_true rfl) (t_X11_isLetters_0 hl (s_X11_isLetters hl _) h rfl)
    all_goals first | (cases h; done) | (rename_i q9 _; exact absurd q9 (by decide)) | (rename_i q9; exact absurd q9 (by decide)) | contradiction
/-! QuakeNetModel.letters()V -/
def b_X11_letters_0 (n : Nat) (rec : Nat → List Value → xH → xO) (a0 : Nat) (P : xH) : xO :=
  (kO P a0 11).bind fun _ =>
  (f_X11_blanks n 0 [.ref a0] P).bind fun r2 => xU r2 fun P1 =>
  rec 4 [.ref a0] P1
def b_X11_letters_4 (n : Nat) (rec : Nat → List Value → xH → xO) (a0 : Nat) (P : xH) : xO :=
  (kO P a0 11).bind fun _ =>
  (f_X11_isAt n 0 [.ref a0, .int 97, .int 122] P).bind fun r2 => xI r2 fun v4 P1 =>
  if v4 = 0 then
    some (.inl none, P1)
  else
    (rI P1 a0 11 10).bind fun v6 =>
    (wV P1 a0 11 10 (.int ((v6 + 1)))).bind fun P8 =>
    rec 4 [.ref a0] P8
def lay_X11_letters : Nat → List Value → Option (xL × List Value)
  | 0, [a0] => some ([some a0], [])
  | 4, [a0] => some ([some a0], [])
  | _, _ => none
def f_X11_letters : Nat → Nat → List Value → xH → xO
  | 0 => fun _ _ _ => none
  | n + 1 => fun pc env P => match pc, env with
    | 0, [.ref a0] => b_X11_letters_0 n (f_X11_letters n) a0 P
    | 4, [.ref a0] => b_X11_letters_4 n (f_X11_letters n) a0 P
    | _, _ => none
set_option maxHeartbeats 2000000 in
set_option maxRecDepth 20000 in
theorem t_X11_letters_0 {G : xG} {l : Launch} (hl : l.stackTraces = false) {n : Nat} {rec : Nat → List Value → xH → xO} (hrec : ∀ pc env P z, rec pc env P = some z → ∀ L st, lay_X11_letters pc env = some (L, st) → ∀ Q : xR → xH → Prop, Q z.1 z.2 → Wp G l 5 mX11_letters pc L st P Q) {a0} {P : xH} {z : xR × xH} (h : b_X11_letters_0 n rec a0 P = some z) {Q : xR → xH → Prop} (hQ : Q z.1 z.2) : Wp G l 5 mX11_letters 0 [some (.ref a0)] [] P Q := by
  unfold b_X11_letters_0 at h
  refine x_aload_nr dX11_letters_0 rfl ?_
  obtain ⟨_, e4, h⟩ := Option.bind_eq_some_iff.mp h
  obtain ⟨fse4, e4⟩ := kO_ok e4
  obtain ⟨r2, e3, h⟩ := Option.bind_eq_some_iff.mp h
  replace h := xU_ok h
  obtain ⟨P1, rfl, h⟩ := h
  refine x_callV (c_X11_blanks hl e3) dX11_letters_1 cw_X11_blanks wl_X11_129 wi_X11_blanks wse_X11_blanks rfl e4 (by decide) rfl (by omega) (by decide) rfl (Nat.le_of_ble_eq_true rfl) rfl (fun v9 P9 hq9 => ?_) (fun i9 P9 hq9 => by cases hq9)
  cases hq9
  exact Wp.mask [true] (hrec 4 _ _ _ h _ _ rfl _ hQ)
set_option maxHeartbeats 2000000 in
set_option maxRecDepth 20000 in
theorem t_X11_letters_4 {G : xG} {l : Launch} (hl : l.stackTraces = false) {n : Nat} {rec : Nat → List Value → xH → xO} (hrec : ∀ pc env P z, rec pc env P = some z → ∀ L st, lay_X11_letters pc env = some (L, st) → ∀ Q : xR → xH → Prop, Q z.1 z.2 → Wp G l 5 mX11_letters pc L st P Q) {a0} {P : xH} {z : xR × xH} (h : b_X11_letters_4 n rec a0 P = some z) {Q : xR → xH → Prop} (hQ : Q z.1 z.2) : Wp G l 5 mX11_letters 4 [some (.ref a0)] [] P Q := by
  unfold b_X11_letters_4 at h
  refine x_aload_nr dX11_letters_4 rfl ?_
  refine x_bipush 97 dX11_letters_5 (by decide) ?_
  refine x_bipush 122 dX11_letters_7 (by decide) ?_
  obtain ⟨_, e5, h⟩ := Option.bind_eq_some_iff.mp h
  obtain ⟨fse5, e5⟩ := kO_ok e5
  obtain ⟨r2, e3, h⟩ := Option.bind_eq_some_iff.mp h
  replace h := xI_ok h
  obtain ⟨v4, P1, rfl, h⟩ := h
  refine x_callV (c_X11_isAt hl e3) dX11_letters_9 cw_X11_isAt wl_X11_122 wi_X11_isAt wse_X11_isAt rfl e5 (by decide) rfl (by omega) (by decide) rfl (Nat.le_of_ble_eq_true rfl) rfl (fun v9 P9 hq9 => ?_) (fun i9 P9 hq9 => by cases hq9)
  cases hq9
  refine x_if_eq 28 dX11_letters_12 (by decide) (fun q10 => ?_) (fun q10 => ?_)
  · rw [if_pos q10] at h
    cases h
    exact x_ret rfl dX11_letters_28 hQ
  · rw [if_neg q10] at h
    refine x_aload_nr dX11_letters_15 rfl ?_
    refine x_dup dX11_letters_16 rfl ?_
    obtain ⟨v6, e7, h⟩ := Option.bind_eq_some_iff.mp h
    refine k_rI e7 dX11_letters_17 f_X11_119 ?_
    refine x_iconst 1 dX11_letters_20 (by decide) ?_
    refine x_iadd dX11_letters_21 ?_
    obtain ⟨P8, e9, h⟩ := Option.bind_eq_some_iff.mp h
    refine k_wI e9 dX11_letters_22 f_X11_119 (Or.inl (by decide)) rfl ?_
    refine x_goto 4 dX11_letters_25 (by decide) ?_
    exact Wp.mask [true] (hrec 4 _ _ _ h _ _ rfl _ hQ)
theorem s_X11_letters {G : xG} {l : Launch} (hl : l.stackTraces = false) : ∀ n pc env P z, f_X11_letters n pc env P = some z → ∀ L st, lay_X11_letters pc env = some (L, st) → ∀ Q : xR → xH → Prop, Q z.1 z.2 → Wp G l 5 mX11_letters pc L st P Q := by
  intro n
  induction n with
  | zero => intro pc env P z h; cases h
  | succ n ih =>
    intro pc env P z h L st hlay Q hQ
    unfold f_X11_letters at h
    split at h
    · cases hlay
      exact t_X11_letters_0 hl ih h hQ
    · cases hlay
      exact t_X11_letters_4 hl ih h hQ
    · cases h
theorem c_X11_letters {G : xG} {l : Launch} (hl : l.stackTraces = false) {n : Nat} {as : List Value} {P : xH} {z : xR × xH} (h : f_X11_letters n 0 as P = some z) : Ct G l 5 mX11_letters as P (fun r P1 => (r, P1) = z) := by
  cases n with
  | zero => cases h
  | succ n =>
    unfold f_X11_letters at h
    split at h
    · exact Ct.of hl (by decide +kernel) wc_X11_letters (Nat.le_of_ble_eq_true rfl) (t_X11_letters_0 hl (s_X11_letters hl _) h rfl)
    all_goals first | (cases h; done) | (rename_i q9 _; exact absurd q9 (by decide)) | (rename_i q9; exact absurd q9 (by decide)) | contradiction
/-! QuakeNetModel.ruleAt(I)I -/
def b_X11_ruleAt_0 (n : Nat) (rec : Nat → List Value → xH → xO) (a0 : Int32) (P : xH) : xO :=
  some (.inl (some (.int ((4239 + ((841 * a0)))))), P)
def lay_X11_ruleAt : Nat → List Value → Option (xL × List Value)
  | 0, [a0] => some ([some a0], [])
  | _, _ => none
def f_X11_ruleAt : Nat → Nat → List Value → xH → xO
  | 0 => fun _ _ _ => none
  | n + 1 => fun pc env P => match pc, env with
    | 0, [.int a0] => b_X11_ruleAt_0 n (f_X11_ruleAt n) a0 P
    | _, _ => none
set_option maxHeartbeats 2000000 in
set_option maxRecDepth 20000 in
theorem t_X11_ruleAt_0 {G : xG} {l : Launch} (hl : l.stackTraces = false) {n : Nat} {rec : Nat → List Value → xH → xO} (hrec : ∀ pc env P z, rec pc env P = some z → ∀ L st, lay_X11_ruleAt pc env = some (L, st) → ∀ Q : xR → xH → Prop, Q z.1 z.2 → Wp G l 3 mX11_ruleAt pc L st P Q) {a0} {P : xH} {z : xR × xH} (h : b_X11_ruleAt_0 n rec a0 P = some z) {Q : xR → xH → Prop} (hQ : Q z.1 z.2) : Wp G l 3 mX11_ruleAt 0 [some (.int a0)] [] P Q := by
  unfold b_X11_ruleAt_0 at h
  refine x_sipush 4239 dX11_ruleAt_0 (by decide) ?_
  refine x_sipush 841 dX11_ruleAt_3 (by decide) ?_
  refine x_iload_n dX11_ruleAt_6 rfl ?_
  refine x_imul dX11_ruleAt_7 ?_
  refine x_iadd dX11_ruleAt_8 ?_
  cases h
  exact x_iret .int rfl rfl dX11_ruleAt_9 hQ
theorem s_X11_ruleAt {G : xG} {l : Launch} (hl : l.stackTraces = false) : ∀ n pc env P z, f_X11_ruleAt n pc env P = some z → ∀ L st, lay_X11_ruleAt pc env = some (L, st) → ∀ Q : xR → xH → Prop, Q z.1 z.2 → Wp G l 3 mX11_ruleAt pc L st P Q := by
  intro n
  induction n with
  | zero => intro pc env P z h; cases h
  | succ n ih =>
    intro pc env P z h L st hlay Q hQ
    unfold f_X11_ruleAt at h
    split at h
    · cases hlay
      exact t_X11_ruleAt_0 hl ih h hQ
    · cases h
theorem c_X11_ruleAt {G : xG} {l : Launch} (hl : l.stackTraces = false) {n : Nat} {as : List Value} {P : xH} {z : xR × xH} (h : f_X11_ruleAt n 0 as P = some z) : Ct G l 3 mX11_ruleAt as P (fun r P1 => (r, P1) = z) := by
  cases n with
  | zero => cases h
  | succ n =>
    unfold f_X11_ruleAt at h
    split at h
    · exact Ct.of hl (by decide +kernel) wc_X11_ruleAt (Nat.le_of_ble_eq_true rfl) (t_X11_ruleAt_0 hl (s_X11_ruleAt hl _) h rfl)
    all_goals first | (cases h; done) | (rename_i q9 _; exact absurd q9 (by decide)) | (rename_i q9; exact absurd q9 (by decide)) | contradiction
/-! QuakeNetModel.lineAt(II)I -/
def b_X11_lineAt_0 (n : Nat) (rec : Nat → List Value → xH → xO) (a0 : Int32) (a1 : Int32) (P : xH) : xO :=
  (f_X11_ruleAt n 0 [.int a0] P).bind fun r2 => xI r2 fun v4 P1 =>
  some (.inl (some (.int ((((v4 + 1)) + ((4 * a1)))))), P1)
def lay_X11_lineAt : Nat → List Value → Option (xL × List Value)
  | 0, [a0, a1] => some ([some a0, some a1], [])
  | _, _ => none
def f_X11_lineAt : Nat → Nat → List Value → xH → xO
  | 0 => fun _ _ _ => none
  | n + 1 => fun pc env P => match pc, env with
    | 0, [.int a0, .int a1] => b_X11_lineAt_0 n (f_X11_lineAt n) a0 a1 P
    | _, _ => none
set_option maxHeartbeats 2000000 in
set_option maxRecDepth 20000 in
theorem t_X11_lineAt_0 {G : xG} {l : Launch} (hl : l.stackTraces = false) {n : Nat} {rec : Nat → List Value → xH → xO} (hrec : ∀ pc env P z, rec pc env P = some z → ∀ L st, lay_X11_lineAt pc env = some (L, st) → ∀ Q : xR → xH → Prop, Q z.1 z.2 → Wp G l 4 mX11_lineAt pc L st P Q) {a0 a1} {P : xH} {z : xR × xH} (h : b_X11_lineAt_0 n rec a0 a1 P = some z) {Q : xR → xH → Prop} (hQ : Q z.1 z.2) : Wp G l 4 mX11_lineAt 0 [some (.int a0), some (.int a1)] [] P Q := by
  unfold b_X11_lineAt_0 at h
  refine x_iload_n dX11_lineAt_0 rfl ?_
  obtain ⟨r2, e3, h⟩ := Option.bind_eq_some_iff.mp h
  replace h := xI_ok h
  obtain ⟨v4, P1, rfl, h⟩ := h
  refine x_callS (c_X11_ruleAt hl e3) dX11_lineAt_1 cw_X11_ruleAt wl_X11_148 ws_X11_ruleAt rfl (by omega) (by decide) rfl (Nat.le_of_ble_eq_true rfl) rfl (fun v9 P9 hq9 => ?_) (fun i9 P9 hq9 => by cases hq9)
  cases hq9
  refine x_iconst 1 dX11_lineAt_4 (by decide) ?_
  refine x_iadd dX11_lineAt_5 ?_
  refine x_iconst 4 dX11_lineAt_6 (by decide) ?_
  refine x_iload_n dX11_lineAt_7 rfl ?_
  refine x_imul dX11_lineAt_8 ?_
  refine x_iadd dX11_lineAt_9 ?_
  cases h
  exact x_iret .int rfl rfl dX11_lineAt_10 hQ
theorem s_X11_lineAt {G : xG} {l : Launch} (hl : l.stackTraces = false) : ∀ n pc env P z, f_X11_lineAt n pc env P = some z → ∀ L st, lay_X11_lineAt pc env = some (L, st) → ∀ Q : xR → xH → Prop, Q z.1 z.2 → Wp G l 4 mX11_lineAt pc L st P Q := by
  intro n
  induction n with
  | zero => intro pc env P z h; cases h
  | succ n ih =>
    intro pc env P z h L st hlay Q hQ
    unfold f_X11_lineAt at h
    split at h
    · cases hlay
      exact t_X11_lineAt_0 hl ih h hQ
    · cases h
theorem c_X11_lineAt {G : xG} {l : Launch} (hl : l.stackTraces = false) {n : Nat} {as : List Value} {P : xH} {z : xR × xH} (h : f_X11_lineAt n 0 as P = some z) : Ct G l 4 mX11_lineAt as P (fun r P1 => (r, P1) = z) := by
  cases n with
  | zero => cases h
  | succ n =>
    unfold f_X11_lineAt at h
    split at h
    · exact Ct.of hl (by decide +kernel) wc_X11_lineAt (Nat.le_of_ble_eq_true rfl) (t_X11_lineAt_0 hl (s_X11_lineAt hl _) h rfl)
    all_goals first | (cases h; done) | (rename_i q9 _; exact absurd q9 (by decide)) | (rename_i q9; exact absurd q9 (by decide)) | contradiction
/-! QuakeNetModel.number(I)I -/
def b_X11_number_0 (n : Nat) (rec : Nat → List Value → xH → xO) (a0 : Nat) (a1 : Int32) (P : xH) : xO :=
  (kO P a0 11).bind fun _ =>
  (f_X11_blanks n 0 [.ref a0] P).bind fun r2 => xU r2 fun P1 =>
  rec 6 [.ref a0, .int a1, .int 0] P1
def b_X11_number_6 (n : Nat) (rec : Nat → List Value → xH → xO) (a0 : Nat) (a1 : Int32) (a2 : Int32) (P : xH) : xO :=
  (kO P a0 11).bind fun _ =>
  (f_X11_isAt n 0 [.ref a0, .int 48, .int 57] P).bind fun r2 => xI r2 fun v4 P1 =>
  if v4 = 0 then
    (rI P1 a0 11 10).bind fun v6 =>
    (rI P1 a0 11 12).bind fun v8 =>
    if v6 = v8 then
      some (.inl (some (.int ((-1)))), P1)
    else
      (rI P1 a0 11 10).bind fun v10 =>
      (rI P1 a0 11 12).bind fun v12 =>
      if 4 < ((v10 - v12)) then
        some (.inl (some (.int ((-1)))), P1)
      else
        if a2 ≤ a1 then
          some (.inl (some (.int a2)), P1)
        else
          some (.inl (some (.int ((-1)))), P1)
  else
    (rI P1 a0 11 10).bind fun v17 =>
    (rI P1 a0 11 12).bind fun v19 =>
    if 4 ≤ ((v17 - v19)) then
      rec 51 [.ref a0, .int a1, .int a2, .int a2] P1
    else
      (rA P1 a0 11 8).bind fun v21 =>
      (rI P1 a0 11 10).bind fun v23 =>
      (aB P1 v21 v23).bind fun v25 =>
      rec 51 [.ref a0, .int a1, .int a2, .int ((((((10 * a2)) + v25)) - 48))] P1
def b_X11_number_51 (n : Nat) (rec : Nat → List Value → xH → xO) (a0 : Nat) (a1 : Int32) (a2 : Int32) (s0 : Int32) (P : xH) : xO :=
  (rI P a0 11 10).bind fun v1 =>
  (wV P a0 11 10 (.int ((v1 + 1)))).bind fun P3 =>
  rec 6 [.ref a0, .int a1, .int s0] P3
def lay_X11_number : Nat → List Value → Option (xL × List Value)
  | 0, [a0, a1] => some ([some a0, some a1, none], [])
  | 6, [a0, a1, a2] => some ([some a0, some a1, some a2], [])
  | 51, [a0, a1, a2, s0] => some ([some a0, some a1, some a2], [s0])
  | _, _ => none
def f_X11_number : Nat → Nat → List Value → xH → xO
  | 0 => fun _ _ _ => none
  | n + 1 => fun pc env P => match pc, env with
    | 0, [.ref a0, .int a1] => b_X11_number_0 n (f_X11_number n) a0 a1 P
    | 6, [.ref a0, .int a1, .int a2] => b_X11_number_6 n (f_X11_number n) a0 a1 a2 P
    | 51, [.ref a0, .int a1, .int a2, .int s0] => b_X11_number_51 n (f_X11_number n) a0 a1 a2 s0 P
    | _, _ => none
set_option maxHeartbeats 2000000 in
set_option maxRecDepth 20000 in
theorem t_X11_number_0 {G : xG} {l : Launch} (hl : l.stackTraces = false) {n : Nat} {rec : Nat → List Value → xH → xO} (hrec : ∀ pc env P z, rec pc env P = some z → ∀ L st, lay_X11_number pc env = some (L, st) → ∀ Q : xR → xH → Prop, Q z.1 z.2 → Wp G l 5 mX11_number pc L st P Q) {a0 a1} {P : xH} {z : xR × xH} (h : b_X11_number_0 n rec a0 a1 P = some z) {Q : xR → xH → Prop} (hQ : Q z.1 z.2) : Wp G l 5 mX11_number 0 [some (.ref a0), some (.int a1), none] [] P Q := by
  unfold b_X11_number_0 at h
  refine x_aload_nr dX11_number_0 rfl ?_
  obtain ⟨_, e4, h⟩ := Option.bind_eq_some_iff.mp h
  obtain ⟨fse4, e4⟩ := kO_ok e4
  obtain ⟨r2, e3, h⟩ := Option.bind_eq_some_iff.mp h
  replace h := xU_ok h
  obtain ⟨P1, rfl, h⟩ := h
  refine x_callV (c_X11_blanks hl e3) dX11_number_1 cw_X11_blanks wl_X11_129 wi_X11_blanks wse_X11_blanks rfl e4 (by decide) rfl (by omega) (by decide) rfl (Nat.le_of_ble_eq_true rfl) rfl (fun v9 P9 hq9 => ?_) (fun i9 P9 hq9 => by cases hq9)
  cases hq9
  refine x_iconst 0 dX11_number_4 (by decide) ?_
  refine x_istore_n dX11_number_5 (Nat.le_of_ble_eq_true rfl) ?_
  exact Wp.mask [true, true, true] (hrec 6 _ _ _ h _ _ rfl _ hQ)
set_option maxHeartbeats 2000000 in
set_option maxRecDepth 20000 in
theorem t_X11_number_6 {G : xG} {l : Launch} (hl : l.stackTraces = false) {n : Nat} {rec : Nat → List Value → xH → xO} (hrec : ∀ pc env P z, rec pc env P = some z → ∀ L st, lay_X11_number pc env = some (L, st) → ∀ Q : xR → xH → Prop, Q z.1 z.2 → Wp G l 5 mX11_number pc L st P Q) {a0 a1 a2} {P : xH} {z : xR × xH} (h : b_X11_number_6 n rec a0 a1 a2 P = some z) {Q : xR → xH → Prop} (hQ : Q z.1 z.2) : Wp G l 5 mX11_number 6 [some (.ref a0), some (.int a1), some (.int a2)] [] P Q := by
  unfold b_X11_number_6 at h
  refine x_aload_nr dX11_number_6 rfl ?_
  refine x_bipush 48 dX11_number_7 (by decide) ?_
  refine x_bipush 57 dX11_number_9 (by decide) ?_
  obtain ⟨_, e5, h⟩ := Option.bind_eq_some_iff.mp h
  obtain ⟨fse5, e5⟩ := kO_ok e5
  obtain ⟨r2, e3, h⟩ := Option.bind_eq_some_iff.mp h
  replace h := xI_ok h
  obtain ⟨v4, P1, rfl, h⟩ := h
  refine x_callV (c_X11_isAt hl e3) dX11_number_11 cw_X11_isAt wl_X11_122 wi_X11_isAt wse_X11_isAt rfl e5 (by decide) rfl (by omega) (by decide) rfl (Nat.le_of_ble_eq_true rfl) rfl (fun v9 P9 hq9 => ?_) (fun i9 P9 hq9 => by cases hq9)
  cases hq9
  refine x_if_eq 65 dX11_number_14 (by decide) (fun q28 => ?_) (fun q28 => ?_)
  · rw [if_pos q28] at h
    refine x_aload_nr dX11_number_65 rfl ?_
    obtain ⟨v6, e7, h⟩ := Option.bind_eq_some_iff.mp h
    refine k_rI e7 dX11_number_66 f_X11_119 ?_
    refine x_aload_nr dX11_number_69 rfl ?_
    obtain ⟨v8, e9, h⟩ := Option.bind_eq_some_iff.mp h
    refine k_rI e9 dX11_number_70 f_X11_126 ?_
    refine x_icmp_eq 94 dX11_number_73 (by decide) (fun q16 => ?_) (fun q16 => ?_)
    · rw [if_pos q16] at h
      refine x_iconst (-1) dX11_number_94 (by decide) ?_
      refine x_goto 99 dX11_number_95 (by decide) ?_
      cases h
      exact x_iret .int rfl rfl dX11_number_99 hQ
    · rw [if_neg q16] at h
      refine x_aload_nr dX11_number_76 rfl ?_
      obtain ⟨v10, e11, h⟩ := Option.bind_eq_some_iff.mp h
      refine k_rI e11 dX11_number_77 f_X11_119 ?_
      refine x_aload_nr dX11_number_80 rfl ?_
      obtain ⟨v12, e13, h⟩ := Option.bind_eq_some_iff.mp h
      refine k_rI e13 dX11_number_81 f_X11_126 ?_
      refine x_isub dX11_number_84 ?_
      refine x_iconst 4 dX11_number_85 (by decide) ?_
      refine x_icmp_gt 94 dX11_number_86 (by decide) (fun q15 => ?_) (fun q15 => ?_)
      · rw [if_pos q15] at h
        refine x_iconst (-1) dX11_number_94 (by decide) ?_
        refine x_goto 99 dX11_number_95 (by decide) ?_
        cases h
        exact x_iret .int rfl rfl dX11_number_99 hQ
      · rw [if_neg q15] at h
        refine x_iload_n dX11_number_89 rfl ?_
        refine x_iload_n dX11_number_90 rfl ?_
        refine x_icmp_le 98 dX11_number_91 (by decide) (fun q14 => ?_) (fun q14 => ?_)
        · rw [if_pos q14] at h
          refine x_iload_n dX11_number_98 rfl ?_
          cases h
          exact x_iret .int rfl rfl dX11_number_99 hQ
        · rw [if_neg q14] at h
          refine x_iconst (-1) dX11_number_94 (by decide) ?_
          refine x_goto 99 dX11_number_95 (by decide) ?_
          cases h
          exact x_iret .int rfl rfl dX11_number_99 hQ
  · rw [if_neg q28] at h
    refine x_aload_nr dX11_number_17 rfl ?_
    obtain ⟨v17, e18, h⟩ := Option.bind_eq_some_iff.mp h
    refine k_rI e18 dX11_number_18 f_X11_119 ?_
    refine x_aload_nr dX11_number_21 rfl ?_
    obtain ⟨v19, e20, h⟩ := Option.bind_eq_some_iff.mp h
    refine k_rI e20 dX11_number_22 f_X11_126 ?_
    refine x_isub dX11_number_25 ?_
    refine x_iconst 4 dX11_number_26 (by decide) ?_
    refine x_icmp_ge 50 dX11_number_27 (by decide) (fun q27 => ?_) (fun q27 => ?_)
    · rw [if_pos q27] at h
      refine x_iload_n dX11_number_50 rfl ?_
      exact Wp.mask [true, true, true] (hrec 51 _ _ _ h _ _ rfl _ hQ)
    · rw [if_neg q27] at h
      refine x_bipush 10 dX11_number_30 (by decide) ?_
      refine x_iload_n dX11_number_32 rfl ?_
      refine x_imul dX11_number_33 ?_
      refine x_aload_nr dX11_number_34 rfl ?_
      obtain ⟨v21, e22, h⟩ := Option.bind_eq_some_iff.mp h
      refine k_rA e22 dX11_number_35 f_X11_26 ?_
      refine x_aload_nr dX11_number_38 rfl ?_
      obtain ⟨v23, e24, h⟩ := Option.bind_eq_some_iff.mp h
      refine k_rI e24 dX11_number_39 f_X11_119 ?_
      obtain ⟨v25, e26, h⟩ := Option.bind_eq_some_iff.mp h
      refine k_aB e26 dX11_number_42 ?_
      refine x_iadd dX11_number_43 ?_
      refine x_bipush 48 dX11_number_44 (by decide) ?_
      refine x_isub dX11_number_46 ?_
      refine x_goto 51 dX11_number_47 (by decide) ?_
      exact Wp.mask [true, true, true] (hrec 51 _ _ _ h _ _ rfl _ hQ)
set_option maxHeartbeats 2000000 in
set_option maxRecDepth 20000 in
theorem t_X11_number_51 {G : xG} {l : Launch} (hl : l.stackTraces = false) {n : Nat} {rec : Nat → List Value → xH → xO} (hrec : ∀ pc env P z, rec pc env P = some z → ∀ L st, lay_X11_number pc env = some (L, st) → ∀ Q : xR → xH → Prop, Q z.1 z.2 → Wp G l 5 mX11_number pc L st P Q) {a0 a1 a2 s0} {P : xH} {z : xR × xH} (h : b_X11_number_51 n rec a0 a1 a2 s0 P = some z) {Q : xR → xH → Prop} (hQ : Q z.1 z.2) : Wp G l 5 mX11_number 51 [some (.ref a0), some (.int a1), some (.int a2)] [.int s0] P Q := by
  unfold b_X11_number_51 at h
  refine x_istore_n dX11_number_51 (Nat.le_of_ble_eq_true rfl) ?_
  refine x_aload_nr dX11_number_52 rfl ?_
  refine x_dup dX11_number_53 rfl ?_
  obtain ⟨v1, e2, h⟩ := Option.bind_eq_some_iff.mp h
  refine k_rI e2 dX11_number_54 f_X11_119 ?_
  refine x_iconst 1 dX11_number_57 (by decide) ?_
  refine x_iadd dX11_number_58 ?_
  obtain ⟨P3, e4, h⟩ := Option.bind_eq_some_iff.mp h
  refine k_wI e4 dX11_number_59 f_X11_119 (Or.inl (by decide)) rfl ?_
  refine x_goto 6 dX11_number_62 (by decide) ?_
  exact Wp.mask [true, true, true] (hrec 6 _ _ _ h _ _ rfl _ hQ)
theorem s_X11_number {G : xG} {l : Launch} (hl : l.stackTraces = false) : ∀ n pc env P z, f_X11_number n pc env P = some z → ∀ L st, lay_X11_number pc env = some (L, st) → ∀ Q : xR → xH → Prop, Q z.1 z.2 → Wp G l 5 mX11_number pc L st P Q := by
  intro n
  induction n with
  | zero => intro pc env P z h; cases h
  | succ n ih =>
    intro pc env P z h L st hlay Q hQ
    unfold f_X11_number at h
    split at h
    · cases hlay
      exact t_X11_number_0 hl ih h hQ
    · cases hlay
      exact t_X11_number_6 hl ih h hQ
    · cases hlay
      exact t_X11_number_51 hl ih h hQ
    · cases h
theorem c_X11_number {G : xG} {l : Launch} (hl : l.stackTraces = false) {n : Nat} {as : List Value} {P : xH} {z : xR × xH} (h : f_X11_number n 0 as P = some z) : Ct G l 5 mX11_number as P (fun r P1 => (r, P1) = z) := by
  cases n with
  | zero => cases h
  | succ n =>
    unfold f_X11_number at h
    split at h
    · exact Ct.of hl (by decide +kernel) wc_X11_number (Nat.le_of_ble_eq_true rfl) (t_X11_number_0 hl (s_X11_number hl _) h rfl)
    all_goals first | (cases h; done) | (rename_i q9 _; exact absurd q9 (by decide)) | (rename_i q9; exact absurd q9 (by decide)) | contradiction
/-! QuakeNetModel.passes(Ljava/lang/String;)Z -/
def b_X11_passes_0 (n : Nat) (rec : Nat → List Value → xH → xO) (a0 : Nat) (a1 : Nat) (P : xH) : xO :=
  (kO P a0 11).bind fun _ =>
  (f_X11_letters n 0 [.ref a0] P).bind fun r2 => xU r2 fun P1 =>
  (kO P1 a0 11).bind fun _ =>
  (f_X11_isLetters n 0 [.ref a0, .retAddr a1] P1).bind fun r6 => xI r6 fun v8 P5 =>
  if v8 = 0 then
    (rI P5 a0 11 12).bind fun v10 =>
    (wV P5 a0 11 10 (.int v10)).bind fun P12 =>
    some (.inl (some (.int 0)), P12)
  else
    some (.inl (some (.int 1)), P5)
def lay_X11_passes : Nat → List Value → Option (xL × List Value)
  | 0, [a0, a1] => some ([some a0, some a1], [])
  | _, _ => none
def f_X11_passes : Nat → Nat → List Value → xH → xO
  | 0 => fun _ _ _ => none
  | n + 1 => fun pc env P => match pc, env with
    | 0, [.ref a0, .retAddr a1] => b_X11_passes_0 n (f_X11_passes n) a0 a1 P
    | _, _ => none
set_option maxHeartbeats 2000000 in
set_option maxRecDepth 20000 in
theorem t_X11_passes_0 {G : xG} {l : Launch} (hl : l.stackTraces = false) {n : Nat} {rec : Nat → List Value → xH → xO} (hrec : ∀ pc env P z, rec pc env P = some z → ∀ L st, lay_X11_passes pc env = some (L, st) → ∀ Q : xR → xH → Prop, Q z.1 z.2 → Wp G l 8 mX11_passes pc L st P Q) {a0 a1} {P : xH} {z : xR × xH} (h : b_X11_passes_0 n rec a0 a1 P = some z) {Q : xR → xH → Prop} (hQ : Q z.1 z.2) : Wp G l 8 mX11_passes 0 [some (.ref a0), some (.retAddr a1)] [] P Q := by
  unfold b_X11_passes_0 at h
  refine x_aload_nr dX11_passes_0 rfl ?_
  obtain ⟨_, e4, h⟩ := Option.bind_eq_some_iff.mp h
  obtain ⟨fse4, e4⟩ := kO_ok e4
  obtain ⟨r2, e3, h⟩ := Option.bind_eq_some_iff.mp h
  replace h := xU_ok h
  obtain ⟨P1, rfl, h⟩ := h
  refine x_callV (c_X11_letters hl e3) dX11_passes_1 cw_X11_letters wl_X11_141 wi_X11_letters wse_X11_letters rfl e4 (by decide) rfl (by omega) (by decide) rfl (Nat.le_of_ble_eq_true rfl) rfl (fun v9 P9 hq9 => ?_) (fun i9 P9 hq9 => by cases hq9)
  cases hq9
  refine x_aload_nr dX11_passes_4 rfl ?_
  refine x_aload_n (Or.inr ⟨_, rfl⟩) dX11_passes_5 rfl ?_
  obtain ⟨_, e9, h⟩ := Option.bind_eq_some_iff.mp h
  obtain ⟨fse9, e9⟩ := kO_ok e9
  obtain ⟨r6, e7, h⟩ := Option.bind_eq_some_iff.mp h
  replace h := xI_ok h
  obtain ⟨v8, P5, rfl, h⟩ := h
  refine x_callV (c_X11_isLetters hl e7) dX11_passes_6 cw_X11_isLetters wl_X11_144 wi_X11_isLetters wse_X11_isLetters rfl e9 (by decide) rfl (by omega) (by decide) rfl (Nat.le_of_ble_eq_true rfl) rfl (fun v9 P9 hq9 => ?_) (fun i9 P9 hq9 => by cases hq9)
  cases hq9
  refine x_if_eq 14 dX11_passes_9 (by decide) (fun q14 => ?_) (fun q14 => ?_)
  · rw [if_pos q14] at h
    refine x_aload_nr dX11_passes_14 rfl ?_
    refine x_aload_nr dX11_passes_15 rfl ?_
    obtain ⟨v10, e11, h⟩ := Option.bind_eq_some_iff.mp h
    refine k_rI e11 dX11_passes_16 f_X11_126 ?_
    obtain ⟨P12, e13, h⟩ := Option.bind_eq_some_iff.mp h
    refine k_wI e13 dX11_passes_19 f_X11_119 (Or.inl (by decide)) rfl ?_
    refine x_iconst 0 dX11_passes_22 (by decide) ?_
    cases h
    exact x_iret .boolean rfl rfl dX11_passes_23 hQ
  · rw [if_neg q14] at h
    refine x_iconst 1 dX11_passes_12 (by decide) ?_
    cases h
    exact x_iret .boolean rfl rfl dX11_passes_13 hQ
theorem s_X11_passes {G : xG} {l : Launch} (hl : l.stackTraces = false) : ∀ n pc env P z, f_X11_passes n pc env P = some z → ∀ L st, lay_X11_passes pc env = some (L, st) → ∀ Q : xR → xH → Prop, Q z.1 z.2 → Wp G l 8 mX11_passes pc L st P Q := by
  intro n
  induction n with
  | zero => intro pc env P z h; cases h
  | succ n ih =>
    intro pc env P z h L st hlay Q hQ
    unfold f_X11_passes at h
    split at h
    · cases hlay
      exact t_X11_passes_0 hl ih h hQ
    · cases h
theorem c_X11_passes {G : xG} {l : Launch} (hl : l.stackTraces = false) {n : Nat} {as : List Value} {P : xH} {z : xR × xH} (h : f_X11_passes n 0 as P = some z) : Ct G l 8 mX11_passes as P (fun r P1 => (r, P1) = z) := by
  cases n with
  | zero => cases h
  | succ n =>
    unfold f_X11_passes at h
    split at h
    · exact Ct.of hl (by decide +kernel) wc_X11_passes (Nat.le_of_ble_eq_true rfl) (t_X11_passes_0 hl (s_X11_passes hl _) h rfl)
    all_goals first | (cases h; done) | (rename_i q9 _; exact absurd q9 (by decide)) | (rename_i q9; exact absurd q9 (by decide)) | contradiction
/-! QuakeNetModel.emits(II)V -/
def b_X11_emits_0 (n : Nat) (rec : Nat → List Value → xH → xO) (a0 : Nat) (a1 : Int32) (a2 : Int32) (P : xH) : xO :=
  (f_X11_ruleAt n 0 [.int 1] P).bind fun r2 => xI r2 fun v4 P1 =>
  (rI P1 a0 11 16).bind fun v5 =>
  (rA P1 a0 11 3).bind fun v7 =>
  (sI P1 v7 ((((v4 + 41)) + ((2 * v5)))) a1).bind fun P9 =>
  (rA P9 a0 11 3).bind fun v11 =>
  (sI P9 v11 ((((((v4 + 41)) + ((2 * v5)))) + 1)) a2).bind fun P13 =>
  (rI P13 a0 11 16).bind fun v15 =>
  (wV P13 a0 11 16 (.int ((v15 + 1)))).bind fun P17 =>
  some (.inl none, P17)
def lay_X11_emits : Nat → List Value → Option (xL × List Value)
  | 0, [a0, a1, a2] => some ([some a0, some a1, some a2, none], [])
  | _, _ => none
def f_X11_emits : Nat → Nat → List Value → xH → xO
  | 0 => fun _ _ _ => none
  | n + 1 => fun pc env P => match pc, env with
    | 0, [.ref a0, .int a1, .int a2] => b_X11_emits_0 n (f_X11_emits n) a0 a1 a2 P
    | _, _ => none
set_option maxHeartbeats 2000000 in
set_option maxRecDepth 20000 in
theorem t_X11_emits_0 {G : xG} {l : Launch} (hl : l.stackTraces = false) {n : Nat} {rec : Nat → List Value → xH → xO} (hrec : ∀ pc env P z, rec pc env P = some z → ∀ L st, lay_X11_emits pc env = some (L, st) → ∀ Q : xR → xH → Prop, Q z.1 z.2 → Wp G l 4 mX11_emits pc L st P Q) {a0 a1 a2} {P : xH} {z : xR × xH} (h : b_X11_emits_0 n rec a0 a1 a2 P = some z) {Q : xR → xH → Prop} (hQ : Q z.1 z.2) : Wp G l 4 mX11_emits 0 [some (.ref a0), some (.int a1), some (.int a2), none] [] P Q := by
  unfold b_X11_emits_0 at h
  refine x_iconst 1 dX11_emits_0 (by decide) ?_
  obtain ⟨r2, e3, h⟩ := Option.bind_eq_some_iff.mp h
  replace h := xI_ok h
  obtain ⟨v4, P1, rfl, h⟩ := h
  refine x_callS (c_X11_ruleAt hl e3) dX11_emits_1 cw_X11_ruleAt wl_X11_148 ws_X11_ruleAt rfl (by omega) (by decide) rfl (Nat.le_of_ble_eq_true rfl) rfl (fun v9 P9 hq9 => ?_) (fun i9 P9 hq9 => by cases hq9)
  cases hq9
  refine x_bipush 41 dX11_emits_4 (by decide) ?_
  refine x_iadd dX11_emits_6 ?_
  refine x_iconst 2 dX11_emits_7 (by decide) ?_
  refine x_aload_nr dX11_emits_8 rfl ?_
  obtain ⟨v5, e6, h⟩ := Option.bind_eq_some_iff.mp h
  refine k_rI e6 dX11_emits_9 f_X11_151 ?_
  refine x_imul dX11_emits_12 ?_
  refine x_iadd dX11_emits_13 ?_
  refine x_istore_n dX11_emits_14 (Nat.le_of_ble_eq_true rfl) ?_
  refine x_aload_nr dX11_emits_15 rfl ?_
  obtain ⟨v7, e8, h⟩ := Option.bind_eq_some_iff.mp h
  refine k_rA e8 dX11_emits_16 f_X11_20 ?_
  refine x_iload_n dX11_emits_19 rfl ?_
  refine x_iload_n dX11_emits_20 rfl ?_
  obtain ⟨P9, e10, h⟩ := Option.bind_eq_some_iff.mp h
  refine k_sI e10 dX11_emits_21 ?_
  refine x_aload_nr dX11_emits_22 rfl ?_
  obtain ⟨v11, e12, h⟩ := Option.bind_eq_some_iff.mp h
  refine k_rA e12 dX11_emits_23 f_X11_20 ?_
  refine x_iload_n dX11_emits_26 rfl ?_
  refine x_iconst 1 dX11_emits_27 (by decide) ?_
  refine x_iadd dX11_emits_28 ?_
  refine x_iload_n dX11_emits_29 rfl ?_
  obtain ⟨P13, e14, h⟩ := Option.bind_eq_some_iff.mp h
  refine k_sI e14 dX11_emits_30 ?_
  refine x_aload_nr dX11_emits_31 rfl ?_
  refine x_dup dX11_emits_32 rfl ?_
  obtain ⟨v15, e16, h⟩ := Option.bind_eq_some_iff.mp h
  refine k_rI e16 dX11_emits_33 f_X11_151 ?_
  refine x_iconst 1 dX11_emits_36 (by decide) ?_
  refine x_iadd dX11_emits_37 ?_
  obtain ⟨P17, e18, h⟩ := Option.bind_eq_some_iff.mp h
  refine k_wI e18 dX11_emits_38 f_X11_151 (Or.inl (by decide)) rfl ?_
  cases h
  exact x_ret rfl dX11_emits_41 hQ
theorem s_X11_emits {G : xG} {l : Launch} (hl : l.stackTraces = false) : ∀ n pc env P z, f_X11_emits n pc env P = some z → ∀ L st, lay_X11_emits pc env = some (L, st) → ∀ Q : xR → xH → Prop, Q z.1 z.2 → Wp G l 4 mX11_emits pc L st P Q := by
  intro n
  induction n with
  | zero => intro pc env P z h; cases h
  | succ n ih =>
    intro pc env P z h L st hlay Q hQ
    unfold f_X11_emits at h
    split at h
    · cases hlay
      exact t_X11_emits_0 hl ih h hQ
    · cases h
theorem c_X11_emits {G : xG} {l : Launch} (hl : l.stackTraces = false) {n : Nat} {as : List Value} {P : xH} {z : xR × xH} (h : f_X11_emits n 0 as P = some z) : Ct G l 4 mX11_emits as P (fun r P1 => (r, P1) = z) := by
  cases n with
  | zero => cases h
  | succ n =>
    unfold f_X11_emits at h
    split at h
    · exact Ct.of hl (by decide +kernel) wc_X11_emits (Nat.le_of_ble_eq_true rfl) (t_X11_emits_0 hl (s_X11_emits hl _) h rfl)
    all_goals first | (cases h; done) | (rename_i q9 _; exact absurd q9 (by decide)) | (rename_i q9; exact absurd q9 (by decide)) | contradiction
/-! QuakeNetModel.sign(I)Z -/
def b_X11_sign_0 (n : Nat) (rec : Nat → List Value → xH → xO) (a0 : Nat) (a1 : Int32) (P : xH) : xO :=
  (kO P a0 11).bind fun _ =>
  (f_X11_blanks n 0 [.ref a0] P).bind fun r2 => xU r2 fun P1 =>
  (kO P1 a0 11).bind fun _ =>
  (f_X11_isAt n 0 [.ref a0, .int a1, .int a1] P1).bind fun r6 => xI r6 fun v8 P5 =>
  if ¬ v8 = 0 then
    (rI P5 a0 11 10).bind fun v10 =>
    (wV P5 a0 11 10 (.int ((v10 + 1)))).bind fun P12 =>
    some (.inl (some (.int 1)), P12)
  else
    some (.inl (some (.int 0)), P5)
def lay_X11_sign : Nat → List Value → Option (xL × List Value)
  | 0, [a0, a1] => some ([some a0, some a1], [])
  | _, _ => none
def f_X11_sign : Nat → Nat → List Value → xH → xO
  | 0 => fun _ _ _ => none
  | n + 1 => fun pc env P => match pc, env with
    | 0, [.ref a0, .int a1] => b_X11_sign_0 n (f_X11_sign n) a0 a1 P
    | _, _ => none
set_option maxHeartbeats 2000000 in
set_option maxRecDepth 20000 in
theorem t_X11_sign_0 {G : xG} {l : Launch} (hl : l.stackTraces = false) {n : Nat} {rec : Nat → List Value → xH → xO} (hrec : ∀ pc env P z, rec pc env P = some z → ∀ L st, lay_X11_sign pc env = some (L, st) → ∀ Q : xR → xH → Prop, Q z.1 z.2 → Wp G l 5 mX11_sign pc L st P Q) {a0 a1} {P : xH} {z : xR × xH} (h : b_X11_sign_0 n rec a0 a1 P = some z) {Q : xR → xH → Prop} (hQ : Q z.1 z.2) : Wp G l 5 mX11_sign 0 [some (.ref a0), some (.int a1)] [] P Q := by
  unfold b_X11_sign_0 at h
  refine x_aload_nr dX11_sign_0 rfl ?_
  obtain ⟨_, e4, h⟩ := Option.bind_eq_some_iff.mp h
  obtain ⟨fse4, e4⟩ := kO_ok e4
  obtain ⟨r2, e3, h⟩ := Option.bind_eq_some_iff.mp h
  replace h := xU_ok h
  obtain ⟨P1, rfl, h⟩ := h
  refine x_callV (c_X11_blanks hl e3) dX11_sign_1 cw_X11_blanks wl_X11_129 wi_X11_blanks wse_X11_blanks rfl e4 (by decide) rfl (by omega) (by decide) rfl (Nat.le_of_ble_eq_true rfl) rfl (fun v9 P9 hq9 => ?_) (fun i9 P9 hq9 => by cases hq9)
  cases hq9
  refine x_aload_nr dX11_sign_4 rfl ?_
  refine x_iload_n dX11_sign_5 rfl ?_
  refine x_iload_n dX11_sign_6 rfl ?_
  obtain ⟨_, e9, h⟩ := Option.bind_eq_some_iff.mp h
  obtain ⟨fse9, e9⟩ := kO_ok e9
  obtain ⟨r6, e7, h⟩ := Option.bind_eq_some_iff.mp h
  replace h := xI_ok h
  obtain ⟨v8, P5, rfl, h⟩ := h
  refine x_callV (c_X11_isAt hl e7) dX11_sign_7 cw_X11_isAt wl_X11_122 wi_X11_isAt wse_X11_isAt rfl e9 (by decide) rfl (by omega) (by decide) rfl (Nat.le_of_ble_eq_true rfl) rfl (fun v9 P9 hq9 => ?_) (fun i9 P9 hq9 => by cases hq9)
  cases hq9
  refine x_if_ne 15 dX11_sign_10 (by decide) (fun q14 => ?_) (fun q14 => ?_)
  · rw [if_pos q14] at h
    refine x_aload_nr dX11_sign_15 rfl ?_
    refine x_dup dX11_sign_16 rfl ?_
    obtain ⟨v10, e11, h⟩ := Option.bind_eq_some_iff.mp h
    refine k_rI e11 dX11_sign_17 f_X11_119 ?_
    refine x_iconst 1 dX11_sign_20 (by decide) ?_
    refine x_iadd dX11_sign_21 ?_
    obtain ⟨P12, e13, h⟩ := Option.bind_eq_some_iff.mp h
    refine k_wI e13 dX11_sign_22 f_X11_119 (Or.inl (by decide)) rfl ?_
    refine x_iconst 1 dX11_sign_25 (by decide) ?_
    cases h
    exact x_iret .boolean rfl rfl dX11_sign_26 hQ
  · rw [if_neg (fun z9 => z9 q14)] at h
    refine x_iconst 0 dX11_sign_13 (by decide) ?_
    cases h
    exact x_iret .boolean rfl rfl dX11_sign_14 hQ
theorem s_X11_sign {G : xG} {l : Launch} (hl : l.stackTraces = false) : ∀ n pc env P z, f_X11_sign n pc env P = some z → ∀ L st, lay_X11_sign pc env = some (L, st) → ∀ Q : xR → xH → Prop, Q z.1 z.2 → Wp G l 5 mX11_sign pc L st P Q := by
  intro n
  induction n with
  | zero => intro pc env P z h; cases h
  | succ n ih =>
    intro pc env P z h L st hlay Q hQ
    unfold f_X11_sign at h
    split at h
    · cases hlay
      exact t_X11_sign_0 hl ih h hQ
    · cases h
theorem c_X11_sign {G : xG} {l : Launch} (hl : l.stackTraces = false) {n : Nat} {as : List Value} {P : xH} {z : xR × xH} (h : f_X11_sign n 0 as P = some z) : Ct G l 5 mX11_sign as P (fun r P1 => (r, P1) = z) := by
  cases n with
  | zero => cases h
  | succ n =>
    unfold f_X11_sign at h
    split at h
    · exact Ct.of hl (by decide +kernel) wc_X11_sign (Nat.le_of_ble_eq_true rfl) (t_X11_sign_0 hl (s_X11_sign hl _) h rfl)
    all_goals first | (cases h; done) | (rename_i q9 _; exact absurd q9 (by decide)) | (rename_i q9; exact absurd q9 (by decide)) | contradiction
def mt_X11_readCond : Nat → xM
  | 0 => mX11_readCond
  | 1 => mX11_readAllOf
  | _ => mX11_readAtom
/-! QuakeNetModel.readCond()Z -/
def b_X11_readCond_0 (n : Nat) (cr : Nat → List Value → xH → xO) (rec : Nat → List Value → xH → xO) (a0 : Nat) (P : xH) : xO :=
  (kO P a0 11).bind fun _ =>
  (cr 1 [.ref a0] P).bind fun r2 => xI r2 fun v4 P1 =>
  if ¬ v4 = 0 then
    rec 9 [.ref a0] P1
  else
    some (.inl (some (.int 0)), P1)
def b_X11_readCond_9 (n : Nat) (cr : Nat → List Value → xH → xO) (rec : Nat → List Value → xH → xO) (a0 : Nat) (P : xH) : xO :=
  (kO P a0 11).bind fun _ =>
  (f_X11_passes n 0 [.ref a0, .retAddr ((25 + 1))] P).bind fun r2 => xI r2 fun v4 P1 =>
  if v4 = 0 then
    some (.inl (some (.int 1)), P1)
  else
    (kO P1 a0 11).bind fun _ =>
    (cr 1 [.ref a0] P1).bind fun r7 => xI r7 fun v9 P6 =>
    if ¬ v9 = 0 then
      (kO P6 a0 11).bind fun _ =>
      (f_X11_emits n 0 [.ref a0, .int 302, .int 0] P6).bind fun r12 => xU r12 fun P11 =>
      rec 9 [.ref a0] P11
    else
      some (.inl (some (.int 0)), P6)
def lay_X11_readCond : Nat → List Value → Option (xL × List Value)
  | 0, [a0] => some ([some a0], [])
  | 9, [a0] => some ([some a0], [])
  | _, _ => none
def g_X11_readCond (cr : Nat → List Value → xH → xO) : Nat → Nat → List Value → xH → xO
  | 0 => fun _ _ _ => none
  | n + 1 => fun pc env P => match pc, env with
    | 0, [.ref a0] => b_X11_readCond_0 n cr (g_X11_readCond cr n) a0 P
    | 9, [.ref a0] => b_X11_readCond_9 n cr (g_X11_readCond cr n) a0 P
    | _, _ => none
set_option maxHeartbeats 2000000 in
set_option maxRecDepth 20000 in
theorem t_X11_readCond_0 {G : xG} {l : Launch} (hl : l.stackTraces = false) {dp : Nat} {cr : Nat → List Value → xH → xO} (hself : ∀ t as P z, cr t as P = some z → Ct G l (dp + 9 - 1) (mt_X11_readCond t) as P (fun r P1 => (r, P1) = z)) {n : Nat} {rec : Nat → List Value → xH → xO} (hrec : ∀ pc env P z, rec pc env P = some z → ∀ L st, lay_X11_readCond pc env = some (L, st) → ∀ Q : xR → xH → Prop, Q z.1 z.2 → Wp G l (dp + 9) mX11_readCond pc L st P Q) {a0} {P : xH} {z : xR × xH} (h : b_X11_readCond_0 n cr rec a0 P = some z) {Q : xR → xH → Prop} (hQ : Q z.1 z.2) : Wp G l (dp + 9) mX11_readCond 0 [some (.ref a0)] [] P Q := by
  unfold b_X11_readCond_0 at h
  refine x_aload_nr dX11_readCond_0 rfl ?_
  obtain ⟨_, e5, h⟩ := Option.bind_eq_some_iff.mp h
  obtain ⟨fse5, e5⟩ := kO_ok e5
  obtain ⟨r2, e3, h⟩ := Option.bind_eq_some_iff.mp h
  replace h := xI_ok h
  obtain ⟨v4, P1, rfl, h⟩ := h
  refine x_callV (hself 1 _ _ _ e3) dX11_readCond_1 cw_X11_readAllOf wl_X11_204 wi_X11_readAllOf wse_X11_readAllOf rfl e5 (by decide) rfl (by omega) (by decide) rfl (Nat.le_of_ble_eq_true rfl) rfl (fun v9 P9 hq9 => ?_) (fun i9 P9 hq9 => by cases hq9)
  cases hq9
  refine x_if_ne 9 dX11_readCond_4 (by decide) (fun q6 => ?_) (fun q6 => ?_)
  · rw [if_pos q6] at h
    exact Wp.mask [true] (hrec 9 _ _ _ h _ _ rfl _ hQ)
  · rw [if_neg (fun z9 => z9 q6)] at h
    refine x_iconst 0 dX11_readCond_7 (by decide) ?_
    cases h
    exact x_iret .boolean rfl rfl dX11_readCond_8 hQ
set_option maxHeartbeats 2000000 in
set_option maxRecDepth 20000 in
theorem t_X11_readCond_9 {G : xG} {l : Launch} (hl : l.stackTraces = false) {dp : Nat} {cr : Nat → List Value → xH → xO} (hself : ∀ t as P z, cr t as P = some z → Ct G l (dp + 9 - 1) (mt_X11_readCond t) as P (fun r P1 => (r, P1) = z)) {n : Nat} {rec : Nat → List Value → xH → xO} (hrec : ∀ pc env P z, rec pc env P = some z → ∀ L st, lay_X11_readCond pc env = some (L, st) → ∀ Q : xR → xH → Prop, Q z.1 z.2 → Wp G l (dp + 9) mX11_readCond pc L st P Q) {a0} {P : xH} {z : xR × xH} (h : b_X11_readCond_9 n cr rec a0 P = some z) {Q : xR → xH → Prop} (hQ : Q z.1 z.2) : Wp G l (dp + 9) mX11_readCond 9 [some (.ref a0)] [] P Q := by
  unfold b_X11_readCond_9 at h
  refine x_aload_nr dX11_readCond_9 rfl ?_
  refine x_lds (i := 25) rfl dX11_readCond_10 ?_
  obtain ⟨_, e5, h⟩ := Option.bind_eq_some_iff.mp h
  obtain ⟨fse5, e5⟩ := kO_ok e5
  obtain ⟨r2, e3, h⟩ := Option.bind_eq_some_iff.mp h
  replace h := xI_ok h
  obtain ⟨v4, P1, rfl, h⟩ := h
  refine x_callV (c_X11_passes hl e3) dX11_readCond_12 cw_X11_passes wl_X11_166 wi_X11_passes wse_X11_passes rfl e5 (by decide) rfl (by omega) (by decide) rfl (Nat.le_of_ble_eq_true rfl) rfl (fun v9 P9 hq9 => ?_) (fun i9 P9 hq9 => by cases hq9)
  cases hq9
  refine x_if_eq 38 dX11_readCond_15 (by decide) (fun q16 => ?_) (fun q16 => ?_)
  · rw [if_pos q16] at h
    refine x_iconst 1 dX11_readCond_38 (by decide) ?_
    cases h
    exact x_iret .boolean rfl rfl dX11_readCond_39 hQ
  · rw [if_neg q16] at h
    refine x_aload_nr dX11_readCond_18 rfl ?_
    obtain ⟨_, e10, h⟩ := Option.bind_eq_some_iff.mp h
    obtain ⟨fse10, e10⟩ := kO_ok e10
    obtain ⟨r7, e8, h⟩ := Option.bind_eq_some_iff.mp h
    replace h := xI_ok h
    obtain ⟨v9, P6, rfl, h⟩ := h
    refine x_callV (hself 1 _ _ _ e8) dX11_readCond_19 cw_X11_readAllOf wl_X11_204 wi_X11_readAllOf wse_X11_readAllOf rfl e10 (by decide) rfl (by omega) (by decide) rfl (Nat.le_of_ble_eq_true rfl) rfl (fun v9 P9 hq9 => ?_) (fun i9 P9 hq9 => by cases hq9)
    cases hq9
    refine x_if_ne 27 dX11_readCond_22 (by decide) (fun q15 => ?_) (fun q15 => ?_)
    · rw [if_pos q15] at h
      refine x_aload_nr dX11_readCond_27 rfl ?_
      refine x_sipush 302 dX11_readCond_28 (by decide) ?_
      refine x_iconst 0 dX11_readCond_31 (by decide) ?_
      obtain ⟨_, e14, h⟩ := Option.bind_eq_some_iff.mp h
      obtain ⟨fse14, e14⟩ := kO_ok e14
      obtain ⟨r12, e13, h⟩ := Option.bind_eq_some_iff.mp h
      replace h := xU_ok h
      obtain ⟨P11, rfl, h⟩ := h
      refine x_callV (c_X11_emits hl e13) dX11_readCond_32 cw_X11_emits wl_X11_172 wi_X11_emits wse_X11_emits rfl e14 (by decide) rfl (by omega) (by decide) rfl (Nat.le_of_ble_eq_true rfl) rfl (fun v9 P9 hq9 => ?_) (fun i9 P9 hq9 => by cases hq9)
      cases hq9
      refine x_goto 9 dX11_readCond_35 (by decide) ?_
      exact Wp.mask [true] (hrec 9 _ _ _ h _ _ rfl _ hQ)
    · rw [if_neg (fun z9 => z9 q15)] at h
      refine x_iconst 0 dX11_readCond_25 (by decide) ?_
      cases h
      exact x_iret .boolean rfl rfl dX11_readCond_26 hQ
theorem s_X11_readCond {G : xG} {l : Launch} (hl : l.stackTraces = false) {dp : Nat} {cr : Nat → List Value → xH → xO} (hself : ∀ t as P z, cr t as P = some z → Ct G l (dp + 9 - 1) (mt_X11_readCond t) as P (fun r P1 => (r, P1) = z)) : ∀ n pc env P z, g_X11_readCond cr n pc env P = some z → ∀ L st, lay_X11_readCond pc env = some (L, st) → ∀ Q : xR → xH → Prop, Q z.1 z.2 → Wp G l (dp + 9) mX11_readCond pc L st P Q := by
  intro n
  induction n with
  | zero => intro pc env P z h; cases h
  | succ n ih =>
    intro pc env P z h L st hlay Q hQ
    unfold g_X11_readCond at h
    split at h
    · cases hlay
      exact t_X11_readCond_0 hl hself ih h hQ
    · cases hlay
      exact t_X11_readCond_9 hl hself ih h hQ
    · cases h
theorem cg_X11_readCond {G : xG} {l : Launch} (hl : l.stackTraces = false) {dp : Nat} {cr : Nat → List Value → xH → xO} (hself : ∀ t as P z, cr t as P = some z → Ct G l (dp + 9 - 1) (mt_X11_readCond t) as P (fun r P1 => (r, P1) = z)) {n : Nat} {as : List Value} {P : xH} {z : xR × xH} (h : g_X11_readCond cr n 0 as P = some z) : Ct G l (dp + 9) mX11_readCond as P (fun r P1 => (r, P1) = z) := by
  cases n with
  | zero => cases h
  | succ n =>
    unfold g_X11_readCond at h
    split at h
    · exact Ct.of hl (by decide +kernel) wc_X11_readCond (Nat.le_of_ble_eq_true rfl) (t_X11_readCond_0 hl hself (s_X11_readCond hl hself _) h rfl)
    all_goals first | (cases h; done) | (rename_i q9 _; exact absurd q9 (by decide)) | (rename_i q9; exact absurd q9 (by decide)) | contradiction
/-! QuakeNetModel.readAllOf()Z -/
def b_X11_readAllOf_0 (n : Nat) (cr : Nat → List Value → xH → xO) (rec : Nat → List Value → xH → xO) (a0 : Nat) (P : xH) : xO :=
  (kO P a0 11).bind fun _ =>
  (cr 2 [.ref a0] P).bind fun r2 => xI r2 fun v4 P1 =>
  if ¬ v4 = 0 then
    rec 9 [.ref a0] P1
  else
    some (.inl (some (.int 0)), P1)
def b_X11_readAllOf_9 (n : Nat) (cr : Nat → List Value → xH → xO) (rec : Nat → List Value → xH → xO) (a0 : Nat) (P : xH) : xO :=
  (kO P a0 11).bind fun _ =>
  (f_X11_passes n 0 [.ref a0, .retAddr ((24 + 1))] P).bind fun r2 => xI r2 fun v4 P1 =>
  if v4 = 0 then
    some (.inl (some (.int 1)), P1)
  else
    (kO P1 a0 11).bind fun _ =>
    (cr 2 [.ref a0] P1).bind fun r7 => xI r7 fun v9 P6 =>
    if ¬ v9 = 0 then
      (kO P6 a0 11).bind fun _ =>
      (f_X11_emits n 0 [.ref a0, .int 301, .int 0] P6).bind fun r12 => xU r12 fun P11 =>
      rec 9 [.ref a0] P11
    else
      some (.inl (some (.int 0)), P6)
def lay_X11_readAllOf : Nat → List Value → Option (xL × List Value)
  | 0, [a0] => some ([some a0], [])
  | 9, [a0] => some ([some a0], [])
  | _, _ => none
def g_X11_readAllOf (cr : Nat → List Value → xH → xO) : Nat → Nat → List Value → xH → xO
  | 0 => fun _ _ _ => none
  | n + 1 => fun pc env P => match pc, env with
    | 0, [.ref a0] => b_X11_readAllOf_0 n cr (g_X11_readAllOf cr n) a0 P
    | 9, [.ref a0] => b_X11_readAllOf_9 n cr (g_X11_readAllOf cr n) a0 P
    | _, _ => none
set_option maxHeartbeats 2000000 in
set_option maxRecDepth 20000 in
theorem t_X11_readAllOf_0 {G : xG} {l : Launch} (hl : l.stackTraces = false) {dp : Nat} {cr : Nat → List Value → xH → xO} (hself : ∀ t as P z, cr t as P = some z → Ct G l (dp + 9 - 1) (mt_X11_readCond t) as P (fun r P1 => (r, P1) = z)) {n : Nat} {rec : Nat → List Value → xH → xO} (hrec : ∀ pc env P z, rec pc env P = some z → ∀ L st, lay_X11_readAllOf pc env = some (L, st) → ∀ Q : xR → xH → Prop, Q z.1 z.2 → Wp G l (dp + 9) mX11_readAllOf pc L st P Q) {a0} {P : xH} {z : xR × xH} (h : b_X11_readAllOf_0 n cr rec a0 P = some z) {Q : xR → xH → Prop} (hQ : Q z.1 z.2) : Wp G l (dp + 9) mX11_readAllOf 0 [some (.ref a0)] [] P Q := by
  unfold b_X11_readAllOf_0 at h
  refine x_aload_nr dX11_readAllOf_0 rfl ?_
  obtain ⟨_, e5, h⟩ := Option.bind_eq_some_iff.mp h
  obtain ⟨fse5, e5⟩ := kO_ok e5
  obtain ⟨r2, e3, h⟩ := Option.bind_eq_some_iff.mp h
  replace h := xI_ok h
  obtain ⟨v4, P1, rfl, h⟩ := h
  refine x_callV (hself 2 _ _ _ e3) dX11_readAllOf_1 cw_X11_readAtom wl_X11_169 wi_X11_readAtom wse_X11_readAtom rfl e5 (by decide) rfl (by omega) (by decide) rfl (Nat.le_of_ble_eq_true rfl) rfl (fun v9 P9 hq9 => ?_) (fun i9 P9 hq9 => by cases hq9)
  cases hq9
  refine x_if_ne 9 dX11_readAllOf_4 (by decide) (fun q6 => ?_) (fun q6 => ?_)
  · rw [if_pos q6] at h
    exact Wp.mask [true] (hrec 9 _ _ _ h _ _ rfl _ hQ)
  · rw [if_neg (fun z9 => z9 q6)] at h
    refine x_iconst 0 dX11_readAllOf_7 (by decide) ?_
    cases h
    exact x_iret .boolean rfl rfl dX11_readAllOf_8 hQ
set_option maxHeartbeats 2000000 in
set_option maxRecDepth 20000 in
theorem t_X11_readAllOf_9 {G : xG} {l : Launch} (hl : l.stackTraces = false) {dp : Nat} {cr : Nat → List Value → xH → xO} (hself : ∀ t as P z, cr t as P = some z → Ct G l (dp + 9 - 1) (mt_X11_readCond t) as P (fun r P1 => (r, P1) = z)) {n : Nat} {rec : Nat → List Value → xH → xO} (hrec : ∀ pc env P z, rec pc env P = some z → ∀ L st, lay_X11_readAllOf pc env = some (L, st) → ∀ Q : xR → xH → Prop, Q z.1 z.2 → Wp G l (dp + 9) mX11_readAllOf pc L st P Q) {a0} {P : xH} {z : xR × xH} (h : b_X11_readAllOf_9 n cr rec a0 P = some z) {Q : xR → xH → Prop} (hQ : Q z.1 z.2) : Wp G l (dp + 9) mX11_readAllOf 9 [some (.ref a0)] [] P Q := by
  unfold b_X11_readAllOf_9 at h
  refine x_aload_nr dX11_readAllOf_9 rfl ?_
  refine x_lds (i := 24) rfl dX11_readAllOf_10 ?_
  obtain ⟨_, e5, h⟩ := Option.bind_eq_some_iff.mp h
  obtain ⟨fse5, e5⟩ := kO_ok e5
  obtain ⟨r2, e3, h⟩ := Option.bind_eq_some_iff.mp h
  replace h := xI_ok h
  obtain ⟨v4, P1, rfl, h⟩ := h
  refine x_callV (c_X11_passes hl e3) dX11_readAllOf_12 cw_X11_passes wl_X11_166 wi_X11_passes wse_X11_passes rfl e5 (by decide) rfl (by omega) (by decide) rfl (Nat.le_of_ble_eq_true rfl) rfl (fun v9 P9 hq9 => ?_) (fun i9 P9 hq9 => by cases hq9)
  cases hq9
  refine x_if_eq 38 dX11_readAllOf_15 (by decide) (fun q16 => ?_) (fun q16 => ?_)
  · rw [if_pos q16] at h
    refine x_iconst 1 dX11_readAllOf_38 (by decide) ?_
    cases h
    exact x_iret .boolean rfl rfl dX11_readAllOf_39 hQ
  · rw [if_neg q16] at h
    refine x_aload_nr dX11_readAllOf_18 rfl ?_
    obtain ⟨_, e10, h⟩ := Option.bind_eq_some_iff.mp h
    obtain ⟨fse10, e10⟩ := kO_ok e10
    obtain ⟨r7, e8, h⟩ := Option.bind_eq_some_iff.mp h
    replace h := xI_ok h
    obtain ⟨v9, P6, rfl, h⟩ := h
    refine x_callV (hself 2 _ _ _ e8) dX11_readAllOf_19 cw_X11_readAtom wl_X11_169 wi_X11_readAtom wse_X11_readAtom rfl e10 (by decide) rfl (by omega) (by decide) rfl (Nat.le_of_ble_eq_true rfl) rfl (fun v9 P9 hq9 => ?_) (fun i9 P9 hq9 => by cases hq9)
    cases hq9
    refine x_if_ne 27 dX11_readAllOf_22 (by decide) (fun q15 => ?_) (fun q15 => ?_)
    · rw [if_pos q15] at h
      refine x_aload_nr dX11_readAllOf_27 rfl ?_
      refine x_sipush 301 dX11_readAllOf_28 (by decide) ?_
      refine x_iconst 0 dX11_readAllOf_31 (by decide) ?_
      obtain ⟨_, e14, h⟩ := Option.bind_eq_some_iff.mp h
      obtain ⟨fse14, e14⟩ := kO_ok e14
      obtain ⟨r12, e13, h⟩ := Option.bind_eq_some_iff.mp h
      replace h := xU_ok h
      obtain ⟨P11, rfl, h⟩ := h
      refine x_callV (c_X11_emits hl e13) dX11_readAllOf_32 cw_X11_emits wl_X11_172 wi_X11_emits wse_X11_emits rfl e14 (by decide) rfl (by omega) (by decide) rfl (Nat.le_of_ble_eq_true rfl) rfl (fun v9 P9 hq9 => ?_) (fun i9 P9 hq9 => by cases hq9)
      cases hq9
      refine x_goto 9 dX11_readAllOf_35 (by decide) ?_
      exact Wp.mask [true] (hrec 9 _ _ _ h _ _ rfl _ hQ)
    · rw [if_neg (fun z9 => z9 q15)] at h
      refine x_iconst 0 dX11_readAllOf_25 (by decide) ?_
      cases h
      exact x_iret .boolean rfl rfl dX11_readAllOf_26 hQ
theorem s_X11_readAllOf {G : xG} {l : Launch} (hl : l.stackTraces = false) {dp : Nat} {cr : Nat → List Value → xH → xO} (hself : ∀ t as P z, cr t as P = some z → Ct G l (dp + 9 - 1) (mt_X11_readCond t) as P (fun r P1 => (r, P1) = z)) : ∀ n pc env P z, g_X11_readAllOf cr n pc env P = some z → ∀ L st, lay_X11_readAllOf pc env = some (L, st) → ∀ Q : xR → xH → Prop, Q z.1 z.2 → Wp G l (dp + 9) mX11_readAllOf pc L st P Q := by
  intro n
  induction n with
  | zero => intro pc env P z h; cases h
  | succ n ih =>
    intro pc env P z h L st hlay Q hQ
    unfold g_X11_readAllOf at h
    split at h
    · cases hlay
      exact t_X11_readAllOf_0 hl hself ih h hQ
    · cases hlay
      exact t_X11_readAllOf_9 hl hself ih h hQ
    · cases h
theorem cg_X11_readAllOf {G : xG} {l : Launch} (hl : l.stackTraces = false) {dp : Nat} {cr : Nat → List Value → xH → xO} (hself : ∀ t as P z, cr t as P = some z → Ct G l (dp + 9 - 1) (mt_X11_readCond t) as P (fun r P1 => (r, P1) = z)) {n : Nat} {as : List Value} {P : xH} {z : xR × xH} (h : g_X11_readAllOf cr n 0 as P = some z) : Ct G l (dp + 9) mX11_readAllOf as P (fun r P1 => (r, P1) = z) := by
  cases n with
  | zero => cases h
  | succ n =>
    unfold g_X11_readAllOf at h
    split at h
    · exact Ct.of hl (by decide +kernel) wc_X11_readAllOf (Nat.le_of_ble_eq_true rfl) (t_X11_readAllOf_0 hl hself (s_X11_readAllOf hl hself _) h rfl)
    all_goals first | (cases h; done) | (rename_i q9 _; exact absurd q9 (by decide)) | (rename_i q9; exact absurd q9 (by decide)) | contradiction
/-! QuakeNetModel.readAtom()Z -/
def b_X11_readAtom_0 (n : Nat) (cr : Nat → List Value → xH → xO) (rec : Nat → List Value → xH → xO) (a0 : Nat) (P : xH) : xO :=
  (kO P a0 11).bind fun _ =>
  (f_X11_sign n 0 [.ref a0, .int 40] P).bind fun r2 => xI r2 fun v4 P1 =>
  if v4 = 0 then
    (kO P1 a0 11).bind fun _ =>
    (f_X11_passes n 0 [.ref a0, .retAddr ((11 + 1))] P1).bind fun r7 => xI r7 fun v9 P6 =>
    if v9 = 0 then
      (kO P6 a0 11).bind fun _ =>
      (f_X11_letters n 0 [.ref a0] P6).bind fun r12 => xU r12 fun P11 =>
      (kO P11 a0 11).bind fun _ =>
      (f_X11_isLetters n 0 [.ref a0, .retAddr ((12 + 1))] P11).bind fun r16 => xI r16 fun v18 P15 =>
      if v18 = 0 then
        (kO P15 a0 11).bind fun _ =>
        (f_X11_isLetters n 0 [.ref a0, .retAddr ((13 + 1))] P15).bind fun r21 => xI r21 fun v23 P20 =>
        if v23 = 0 then
          (kO P20 a0 11).bind fun _ =>
          (f_X11_isLetters n 0 [.ref a0, .retAddr ((14 + 1))] P20).bind fun r26 => xI r26 fun v28 P25 =>
          if v28 = 0 then
            (kO P25 a0 11).bind fun _ =>
            (f_X11_isLetters n 0 [.ref a0, .retAddr ((15 + 1))] P25).bind fun r31 => xI r31 fun v33 P30 =>
            if v33 = 0 then
              (kO P30 a0 11).bind fun _ =>
              (f_X11_isLetters n 0 [.ref a0, .retAddr ((16 + 1))] P30).bind fun r36 => xI r36 fun v38 P35 =>
              if v38 = 0 then
                (kO P35 a0 11).bind fun _ =>
                (f_X11_isLetters n 0 [.ref a0, .retAddr ((17 + 1))] P35).bind fun r41 => xI r41 fun v43 P40 =>
                if v43 = 0 then
                  (kO P40 a0 11).bind fun _ =>
                  (f_X11_isLetters n 0 [.ref a0, .retAddr ((18 + 1))] P40).bind fun r46 => xI r46 fun v48 P45 =>
                  if v48 = 0 then
                    rec 212 [.ref a0, .int ((-1))] P45
                  else
                    rec 212 [.ref a0, .int 6] P45
                else
                  rec 212 [.ref a0, .int 5] P40
              else
                rec 212 [.ref a0, .int 4] P35
            else
              rec 212 [.ref a0, .int 3] P30
          else
            rec 212 [.ref a0, .int 2] P25
        else
          rec 212 [.ref a0, .int 1] P20
      else
        rec 212 [.ref a0, .int 0] P15
    else
      (rI P6 a0 11 13).bind fun v57 =>
      if ¬ v57 = 6 then
        (rI P6 a0 11 13).bind fun v59 =>
        (wV P6 a0 11 13 (.int ((v59 + 1)))).bind fun P61 =>
        (kO P61 a0 11).bind fun _ =>
        (cr 2 [.ref a0] P61).bind fun r64 => xI r64 fun v66 P63 =>
        if ¬ v66 = 0 then
          (rI P63 a0 11 13).bind fun v68 =>
          (wV P63 a0 11 13 (.int ((v68 - 1)))).bind fun P70 =>
          (kO P70 a0 11).bind fun _ =>
          (f_X11_emits n 0 [.ref a0, .int 300, .int 0] P70).bind fun r73 => xU r73 fun P72 =>
          some (.inl (some (.int 1)), P72)
        else
          some (.inl (some (.int 0)), P63)
      else
        some (.inl (some (.int 0)), P6)
  else
    (rI P1 a0 11 13).bind fun v79 =>
    if ¬ v79 = 6 then
      (rI P1 a0 11 13).bind fun v81 =>
      (wV P1 a0 11 13 (.int ((v81 + 1)))).bind fun P83 =>
      (kO P83 a0 11).bind fun _ =>
      (cr 0 [.ref a0] P83).bind fun r86 => xI r86 fun v88 P85 =>
      if ¬ v88 = 0 then
        (rI P85 a0 11 13).bind fun v90 =>
        (wV P85 a0 11 13 (.int ((v90 - 1)))).bind fun P92 =>
        (kO P92 a0 11).bind fun _ =>
        (f_X11_sign n 0 [.ref a0, .int 41] P92).bind fun r95 => xI r95 fun v97 P94 =>
        if v97 = 0 ∨ v97 = 1 then some (.inl (some (.int v97)), P94) else none
      else
        some (.inl (some (.int 0)), P85)
    else
      some (.inl (some (.int 0)), P1)
def b_X11_readAtom_212 (n : Nat) (cr : Nat → List Value → xH → xO) (rec : Nat → List Value → xH → xO) (a0 : Nat) (s0 : Int32) (P : xH) : xO :=
  if s0 < 0 then
    (kO P a0 11).bind fun _ =>
    (f_X11_isLetters n 0 [.ref a0, .retAddr ((19 + 1))] P).bind fun r2 => xI r2 fun v4 P1 =>
    if v4 = 0 then
      (kO P1 a0 11).bind fun _ =>
      (f_X11_isLetters n 0 [.ref a0, .retAddr ((20 + 1))] P1).bind fun r7 => xI r7 fun v9 P6 =>
      if v9 = 0 then
        (kO P6 a0 11).bind fun _ =>
        (f_X11_isLetters n 0 [.ref a0, .retAddr ((21 + 1))] P6).bind fun r12 => xI r12 fun v14 P11 =>
        if v14 = 0 then
          (kO P11 a0 11).bind fun _ =>
          (f_X11_isLetters n 0 [.ref a0, .retAddr ((22 + 1))] P11).bind fun r17 => xI r17 fun v19 P16 =>
          if v19 = 0 then
            (kO P16 a0 11).bind fun _ =>
            (f_X11_isLetters n 0 [.ref a0, .retAddr ((23 + 1))] P16).bind fun r22 => xI r22 fun v24 P21 =>
            if v24 = 0 then
              rec 291 [.ref a0, .int s0, .int ((-1))] P21
            else
              rec 291 [.ref a0, .int s0, .int 4] P21
          else
            rec 291 [.ref a0, .int s0, .int 3] P16
        else
          rec 291 [.ref a0, .int s0, .int 2] P11
      else
        rec 291 [.ref a0, .int s0, .int 1] P6
    else
      rec 291 [.ref a0, .int s0, .int 0] P1
  else
    (kO P a0 11).bind fun _ =>
    (f_X11_emits n 0 [.ref a0, .int s0, .int 0] P).bind fun r32 => xU r32 fun P31 =>
    some (.inl (some (.int 1)), P31)
def b_X11_readAtom_291 (n : Nat) (cr : Nat → List Value → xH → xO) (rec : Nat → List Value → xH → xO) (a0 : Nat) (a1 : Int32) (s0 : Int32) (P : xH) : xO :=
  if 0 ≤ s0 then
    (kO P a0 11).bind fun _ =>
    (f_X11_sign n 0 [.ref a0, .int 60] P).bind fun r2 => xI r2 fun v4 P1 =>
    if ¬ v4 = 0 then
      rec 320 [.ref a0, .int a1, .int s0, .int v4] P1
    else
      (kO P1 a0 11).bind fun _ =>
      (f_X11_sign n 0 [.ref a0, .int 62] P1).bind fun r7 => xI r7 fun v9 P6 =>
      if ¬ v9 = 0 then
        rec 320 [.ref a0, .int a1, .int s0, .int v4] P6
      else
        some (.inl (some (.int 0)), P6)
  else
    some (.inl (some (.int 0)), P)
def b_X11_readAtom_320 (n : Nat) (cr : Nat → List Value → xH → xO) (rec : Nat → List Value → xH → xO) (a0 : Nat) (a1 : Int32) (a2 : Int32) (a3 : Int32) (P : xH) : xO :=
  (kO P a0 11).bind fun _ =>
  (f_X11_number n 0 [.ref a0, .int 9999] P).bind fun r2 => xI r2 fun v4 P1 =>
  if 0 ≤ v4 then
    if a3 = 0 then
      rec 349 [.ref a0, .int a1, .int a2, .int a3, .int v4, .ref a0, .int 200] P1
    else
      rec 349 [.ref a0, .int a1, .int a2, .int a3, .int v4, .ref a0, .int 100] P1
  else
    some (.inl (some (.int 0)), P1)
def b_X11_readAtom_349 (n : Nat) (cr : Nat → List Value → xH → xO) (rec : Nat → List Value → xH → xO) (a0 : Nat) (a1 : Int32) (a2 : Int32) (a3 : Int32) (a4 : Int32) (s0 : Nat) (s1 : Int32) (P : xH) : xO :=
  (kO P s0 11).bind fun _ =>
  (f_X11_emits n 0 [.ref s0, .int ((s1 + a2)), .int a4] P).bind fun r2 => xU r2 fun P1 =>
  some (.inl (some (.int 1)), P1)
def lay_X11_readAtom : Nat → List Value → Option (xL × List Value)
  | 0, [a0] => some ([some a0, none, none, none, none], [])
  | 212, [a0, s0] => some ([some a0, none, none, none, none], [s0])
  | 291, [a0, a1, s0] => some ([some a0, some a1, none, none, none], [s0])
  | 320, [a0, a1, a2, a3] => some ([some a0, some a1, some a2, some a3, none], [])
  | 349, [a0, a1, a2, a3, a4, s0, s1] => some ([some a0, some a1, some a2, some a3, some a4], [s1, s0])
  | _, _ => none
def g_X11_readAtom (cr : Nat → List Value → xH → xO) : Nat → Nat → List Value → xH → xO
  | 0 => fun _ _ _ => none
  | n + 1 => fun pc env P => match pc, env with
    | 0, [.ref a0] => b_X11_readAtom_0 n cr (g_X11_readAtom cr n) a0 P
    | 212, [.ref a0, .int s0] => b_X11_readAtom_212 n cr (g_X11_readAtom cr n) a0 s0 P
    | 291, [.ref a0, .int a1, .int s0] => b_X11_readAtom_291 n cr (g_X11_readAtom cr n) a0 a1 s0 P
    | 320, [.ref a0, .int a1, .int a2, .int a3] => b_X11_readAtom_320 n cr (g_X11_readAtom cr n) a0 a1 a2 a3 P
    | 349, [.ref a0, .int a1, .int a2, .int a3, .int a4, .ref s0, .int s1] => b_X11_readAtom_349 n cr (g_X11_readAtom cr n) a0 a1 a2 a3 a4 s0 s1 P
    | _, _ => none
set_option maxHeartbeats 2000000 in
set_option maxRecDepth 20000 in
theorem t_X11_readAtom_0 {G : xG} {l : Launch} (hl : l.stackTraces = false) {dp : Nat} {cr : Nat → List Value → xH → xO} (hself : ∀ t as P z, cr t as P = some z → Ct G l (dp + 9 - 1) (mt_X11_readCond t) as P (fun r P1 => (r, P1) = z)) {n : Nat} {rec : Nat → List Value → xH → xO} (hrec : ∀ pc env P z, rec pc env P = some z → ∀ L st, lay_X11_readAtom pc env = some (L, st) → ∀ Q : xR → xH → Prop, Q z.1 z.2 → Wp G l (dp + 9) mX11_readAtom pc L st P Q) {a0} {P : xH} {z : xR × xH} (h : b_X11_readAtom_0 n cr rec a0 P = some z) {Q : xR → xH → Prop} (hQ : Q z.1 z.2) : Wp G l (dp + 9) mX11_readAtom 0 [some (.ref a0), none, none, none, none] [] P Q := by
  unfold b_X11_readAtom_0 at h
  refine x_aload_nr dX11_readAtom_0 rfl ?_
  refine x_bipush 40 dX11_readAtom_1 (by decide) ?_
  obtain ⟨_, e5, h⟩ := Option.bind_eq_some_iff.mp h
  obtain ⟨fse5, e5⟩ := kO_ok e5
  obtain ⟨r2, e3, h⟩ := Option.bind_eq_some_iff.mp h
  replace h := xI_ok h
  obtain ⟨v4, P1, rfl, h⟩ := h
  refine x_callV (c_X11_sign hl e3) dX11_readAtom_3 cw_X11_sign wl_X11_154 wi_X11_sign wse_X11_sign rfl e5 (by decide) rfl (by omega) (by decide) rfl (Nat.le_of_ble_eq_true rfl) rfl (fun v9 P9 hq9 => ?_) (fun i9 P9 hq9 => by cases hq9)
  cases hq9
  refine x_if_eq 56 dX11_readAtom_6 (by decide) (fun q102 => ?_) (fun q102 => ?_)
  · rw [if_pos q102] at h
    refine x_aload_nr dX11_readAtom_56 rfl ?_
    refine x_lds (i := 11) rfl dX11_readAtom_57 ?_
    obtain ⟨_, e10, h⟩ := Option.bind_eq_some_iff.mp h
    obtain ⟨fse10, e10⟩ := kO_ok e10
    obtain ⟨r7, e8, h⟩ := Option.bind_eq_some_iff.mp h
    replace h := xI_ok h
    obtain ⟨v9, P6, rfl, h⟩ := h
    refine x_callV (c_X11_passes hl e8) dX11_readAtom_59 cw_X11_passes wl_X11_166 wi_X11_passes wse_X11_passes rfl e10 (by decide) rfl (by omega) (by decide) rfl (Nat.le_of_ble_eq_true rfl) rfl (fun v9 P9 hq9 => ?_) (fun i9 P9 hq9 => by cases hq9)
    cases hq9
    refine x_if_eq 115 dX11_readAtom_62 (by decide) (fun q78 => ?_) (fun q78 => ?_)
    · rw [if_pos q78] at h
      refine x_aload_nr dX11_readAtom_115 rfl ?_
      obtain ⟨_, e14, h⟩ := Option.bind_eq_some_iff.mp h
      obtain ⟨fse14, e14⟩ := kO_ok e14
      obtain ⟨r12, e13, h⟩ := Option.bind_eq_some_iff.mp h
      replace h := xU_ok h
      obtain ⟨P11, rfl, h⟩ := h
      refine x_callV (c_X11_letters hl e13) dX11_readAtom_116 cw_X11_letters wl_X11_141 wi_X11_letters wse_X11_letters rfl e14 (by decide) rfl (by omega) (by decide) rfl (Nat.le_of_ble_eq_true rfl) rfl (fun v9 P9 hq9 => ?_) (fun i9 P9 hq9 => by cases hq9)
      cases hq9
      refine x_aload_nr dX11_readAtom_119 rfl ?_
      refine x_lds (i := 12) rfl dX11_readAtom_120 ?_
      obtain ⟨_, e19, h⟩ := Option.bind_eq_some_iff.mp h
      obtain ⟨fse19, e19⟩ := kO_ok e19
      obtain ⟨r16, e17, h⟩ := Option.bind_eq_some_iff.mp h
      replace h := xI_ok h
      obtain ⟨v18, P15, rfl, h⟩ := h
      refine x_callV (c_X11_isLetters hl e17) dX11_readAtom_122 cw_X11_isLetters wl_X11_144 wi_X11_isLetters wse_X11_isLetters rfl e19 (by decide) rfl (by omega) (by decide) rfl (Nat.le_of_ble_eq_true rfl) rfl (fun v9 P9 hq9 => ?_) (fun i9 P9 hq9 => by cases hq9)
      cases hq9
      refine x_if_eq 132 dX11_readAtom_125 (by decide) (fun q56 => ?_) (fun q56 => ?_)
      · rw [if_pos q56] at h
        refine x_aload_nr dX11_readAtom_132 rfl ?_
        refine x_lds (i := 13) rfl dX11_readAtom_133 ?_
        obtain ⟨_, e24, h⟩ := Option.bind_eq_some_iff.mp h
        obtain ⟨fse24, e24⟩ := kO_ok e24
        obtain ⟨r21, e22, h⟩ := Option.bind_eq_some_iff.mp h
        replace h := xI_ok h
        obtain ⟨v23, P20, rfl, h⟩ := h
        refine x_callV (c_X11_isLetters hl e22) dX11_readAtom_135 cw_X11_isLetters wl_X11_144 wi_X11_isLetters wse_X11_isLetters rfl e24 (by decide) rfl (by omega) (by decide) rfl (Nat.le_of_ble_eq_true rfl) rfl (fun v9 P9 hq9 => ?_) (fun i9 P9 hq9 => by cases hq9)
        cases hq9
        refine x_if_eq 145 dX11_readAtom_138 (by decide) (fun q55 => ?_) (fun q55 => ?_)
        · rw [if_pos q55] at h
          refine x_aload_nr dX11_readAtom_145 rfl ?_
          refine x_lds (i := 14) rfl dX11_readAtom_146 ?_
          obtain ⟨_, e29, h⟩ := Option.bind_eq_some_iff.mp h
          obtain ⟨fse29, e29⟩ := kO_ok e29
          obtain ⟨r26, e27, h⟩ := Option.bind_eq_some_iff.mp h
          replace h := xI_ok h
          obtain ⟨v28, P25, rfl, h⟩ := h
          refine x_callV (c_X11_isLetters hl e27) dX11_readAtom_148 cw_X11_isLetters wl_X11_144 wi_X11_isLetters wse_X11_isLetters rfl e29 (by decide) rfl (by omega) (by decide) rfl (Nat.le_of_ble_eq_true rfl) rfl (fun v9 P9 hq9 => ?_) (fun i9 P9 hq9 => by cases hq9)
          cases hq9
          refine x_if_eq 158 dX11_readAtom_151 (by decide) (fun q54 => ?_) (fun q54 => ?_)
          · rw [if_pos q54] at h
            refine x_aload_nr dX11_readAtom_158 rfl ?_
            refine x_lds (i := 15) rfl dX11_readAtom_159 ?_
            obtain ⟨_, e34, h⟩ := Option.bind_eq_some_iff.mp h
            obtain ⟨fse34, e34⟩ := kO_ok e34
            obtain ⟨r31, e32, h⟩ := Option.bind_eq_some_iff.mp h
            replace h := xI_ok h
            obtain ⟨v33, P30, rfl, h⟩ := h
            refine x_callV (c_X11_isLetters hl e32) dX11_readAtom_161 cw_X11_isLetters wl_X11_144 wi_X11_isLetters wse_X11_isLetters rfl e34 (by decide) rfl (by omega) (by decide) rfl (Nat.le_of_ble_eq_true rfl) rfl (fun v9 P9 hq9 => ?_) (fun i9 P9 hq9 => by cases hq9)
            cases hq9
            refine x_if_eq 171 dX11_readAtom_164 (by decide) (fun q53 => ?_) (fun q53 => ?_)
            · rw [if_pos q53] at h
              refine x_aload_nr dX11_readAtom_171 rfl ?_
              refine x_lds (i := 16) rfl dX11_readAtom_172 ?_
              obtain ⟨_, e39, h⟩ := Option.bind_eq_some_iff.mp h
              obtain ⟨fse39, e39⟩ := kO_ok e39
              obtain ⟨r36, e37, h⟩ := Option.bind_eq_some_iff.mp h
              replace h := xI_ok h
              obtain ⟨v38, P35, rfl, h⟩ := h
              refine x_callV (c_X11_isLetters hl e37) dX11_readAtom_174 cw_X11_isLetters wl_X11_144 wi_X11_isLetters wse_X11_isLetters rfl e39 (by decide) rfl (by omega) (by decide) rfl (Nat.le_of_ble_eq_true rfl) rfl (fun v9 P9 hq9 => ?_) (fun i9 P9 hq9 => by cases hq9)
              cases hq9
              refine x_if_eq 184 dX11_readAtom_177 (by decide) (fun q52 => ?_) (fun q52 => ?_)
              · rw [if_pos q52] at h
                refine x_aload_nr dX11_readAtom_184 rfl ?_
                refine x_lds (i := 17) rfl dX11_readAtom_185 ?_
                obtain ⟨_, e44, h⟩ := Option.bind_eq_some_iff.mp h
                obtain ⟨fse44, e44⟩ := kO_ok e44
                obtain ⟨r41, e42, h⟩ := Option.bind_eq_some_iff.mp h
                replace h := xI_ok h
                obtain ⟨v43, P40, rfl, h⟩ := h
                refine x_callV (c_X11_isLetters hl e42) dX11_readAtom_187 cw_X11_isLetters wl_X11_144 wi_X11_isLetters wse_X11_isLetters rfl e44 (by decide) rfl (by omega) (by decide) rfl (Nat.le_of_ble_eq_true rfl) rfl (fun v9 P9 hq9 => ?_) (fun i9 P9 hq9 => by cases hq9)
                cases hq9
                refine x_if_eq 197 dX11_readAtom_190 (by decide) (fun q51 => ?_) (fun q51 => ?_)
                · rw [if_pos q51] at h
                  refine x_aload_nr dX11_readAtom_197 rfl ?_
                  refine x_lds (i := 18) rfl dX11_readAtom_198 ?_
                  obtain ⟨_, e49, h⟩ := Option.bind_eq_some_iff.mp h
                  obtain ⟨fse49, e49⟩ := kO_ok e49
                  obtain ⟨r46, e47, h⟩ := Option.bind_eq_some_iff.mp h
                  replace h := xI_ok h
                  obtain ⟨v48, P45, rfl, h⟩ := h
                  refine x_callV (c_X11_isLetters hl e47) dX11_readAtom_200 cw_X11_isLetters wl_X11_144 wi_X11_isLetters wse_X11_isLetters rfl e49 (by decide) rfl (by omega) (by decide) rfl (Nat.le_of_ble_eq_true rfl) rfl (fun v9 P9 hq9 => ?_) (fun i9 P9 hq9 => by cases hq9)
                  cases hq9
                  refine x_if_eq 211 dX11_readAtom_203 (by decide) (fun q50 => ?_) (fun q50 => ?_)
                  · rw [if_pos q50] at h
                    refine x_iconst (-1) dX11_readAtom_211 (by decide) ?_
                    exact Wp.mask [true, false, false, false, false] (hrec 212 _ _ _ h _ _ rfl _ hQ)
                  · rw [if_neg q50] at h
                    refine x_bipush 6 dX11_readAtom_206 (by decide) ?_
                    refine x_goto 212 dX11_readAtom_208 (by decide) ?_
                    exact Wp.mask [true, false, false, false, false] (hrec 212 _ _ _ h _ _ rfl _ hQ)
                · rw [if_neg q51] at h
                  refine x_iconst 5 dX11_readAtom_193 (by decide) ?_
                  refine x_goto 212 dX11_readAtom_194 (by decide) ?_
                  exact Wp.mask [true, false, false, false, false] (hrec 212 _ _ _ h _ _ rfl _ hQ)
              · rw [if_neg q52] at h
                refine x_iconst 4 dX11_readAtom_180 (by decide) ?_
                refine x_goto 212 dX11_readAtom_181 (by decide) ?_
                exact Wp.mask [true, false, false, false, false] (hrec 212 _ _ _ h _ _ rfl _ hQ)
            · rw [if_neg q53] at h
              refine x_iconst 3 dX11_readAtom_167 (by decide) ?_
              refine x_goto 212 dX11_readAtom_168 (by decide) ?_
              exact Wp.mask [true, false, false, false, false] (hrec 212 _ _ _ h _ _ rfl _ hQ)
          · rw [if_neg q54] at h
            refine x_iconst 2 dX11_readAtom_154 (by decide) ?_
            refine x_goto 212 dX11_readAtom_155 (by decide) ?_
            exact Wp.mask [true, false, false, false, false] (hrec 212 _ _ _ h _ _ rfl _ hQ)
        · rw [if_neg q55] at h
          refine x_iconst 1 dX11_readAtom_141 (by decide) ?_
          refine x_goto 212 dX11_readAtom_142 (by decide) ?_
          exact Wp.mask [true, false, false, false, false] (hrec 212 _ _ _ h _ _ rfl _ hQ)
      · rw [if_neg q56] at h
        refine x_iconst 0 dX11_readAtom_128 (by decide) ?_
        refine x_goto 212 dX11_readAtom_129 (by decide) ?_
        exact Wp.mask [true, false, false, false, false] (hrec 212 _ _ _ h _ _ rfl _ hQ)
    · rw [if_neg q78] at h
      refine x_aload_nr dX11_readAtom_65 rfl ?_
      obtain ⟨v57, e58, h⟩ := Option.bind_eq_some_iff.mp h
      refine k_rI e58 dX11_readAtom_66 f_X11_157 ?_
      refine x_bipush 6 dX11_readAtom_69 (by decide) ?_
      refine x_icmp_ne 76 dX11_readAtom_71 (by decide) (fun q77 => ?_) (fun q77 => ?_)
      · rw [if_pos q77] at h
        refine x_aload_nr dX11_readAtom_76 rfl ?_
        refine x_dup dX11_readAtom_77 rfl ?_
        obtain ⟨v59, e60, h⟩ := Option.bind_eq_some_iff.mp h
        refine k_rI e60 dX11_readAtom_78 f_X11_157 ?_
        refine x_iconst 1 dX11_readAtom_81 (by decide) ?_
        refine x_iadd dX11_readAtom_82 ?_
        obtain ⟨P61, e62, h⟩ := Option.bind_eq_some_iff.mp h
        refine k_wI e62 dX11_readAtom_83 f_X11_157 (Or.inl (by decide)) rfl ?_
        refine x_aload_nr dX11_readAtom_86 rfl ?_
        obtain ⟨_, e67, h⟩ := Option.bind_eq_some_iff.mp h
        obtain ⟨fse67, e67⟩ := kO_ok e67
        obtain ⟨r64, e65, h⟩ := Option.bind_eq_some_iff.mp h
        replace h := xI_ok h
        obtain ⟨v66, P63, rfl, h⟩ := h
        refine x_callV (hself 2 _ _ _ e65) dX11_readAtom_87 cw_X11_readAtom wl_X11_169 wi_X11_readAtom wse_X11_readAtom rfl e67 (by decide) rfl (by omega) (by decide) rfl (Nat.le_of_ble_eq_true rfl) rfl (fun v9 P9 hq9 => ?_) (fun i9 P9 hq9 => by cases hq9)
        cases hq9
        refine x_if_ne 95 dX11_readAtom_90 (by decide) (fun q76 => ?_) (fun q76 => ?_)
        · rw [if_pos q76] at h
          refine x_aload_nr dX11_readAtom_95 rfl ?_
          refine x_dup dX11_readAtom_96 rfl ?_
          obtain ⟨v68, e69, h⟩ := Option.bind_eq_some_iff.mp h
          refine k_rI e69 dX11_readAtom_97 f_X11_157 ?_
          refine x_iconst 1 dX11_readAtom_100 (by decide) ?_
          refine x_isub dX11_readAtom_101 ?_
          obtain ⟨P70, e71, h⟩ := Option.bind_eq_some_iff.mp h
          refine k_wI e71 dX11_readAtom_102 f_X11_157 (Or.inl (by decide)) rfl ?_
          refine x_aload_nr dX11_readAtom_105 rfl ?_
          refine x_sipush 300 dX11_readAtom_106 (by decide) ?_
          refine x_iconst 0 dX11_readAtom_109 (by decide) ?_
          obtain ⟨_, e75, h⟩ := Option.bind_eq_some_iff.mp h
          obtain ⟨fse75, e75⟩ := kO_ok e75
          obtain ⟨r73, e74, h⟩ := Option.bind_eq_some_iff.mp h
          replace h := xU_ok h
          obtain ⟨P72, rfl, h⟩ := h
          refine x_callV (c_X11_emits hl e74) dX11_readAtom_110 cw_X11_emits wl_X11_172 wi_X11_emits wse_X11_emits rfl e75 (by decide) rfl (by omega) (by decide) rfl (Nat.le_of_ble_eq_true rfl) rfl (fun v9 P9 hq9 => ?_) (fun i9 P9 hq9 => by cases hq9)
          cases hq9
          refine x_iconst 1 dX11_readAtom_113 (by decide) ?_
          cases h
          exact x_iret .boolean rfl rfl dX11_readAtom_114 hQ
        · rw [if_neg (fun z9 => z9 q76)] at h
          refine x_iconst 0 dX11_readAtom_93 (by decide) ?_
          cases h
          exact x_iret .boolean rfl rfl dX11_readAtom_94 hQ
      · rw [if_neg (fun z9 => z9 q77)] at h
        refine x_iconst 0 dX11_readAtom_74 (by decide) ?_
        cases h
        exact x_iret .boolean rfl rfl dX11_readAtom_75 hQ
  · rw [if_neg q102] at h
    refine x_aload_nr dX11_readAtom_9 rfl ?_
    obtain ⟨v79, e80, h⟩ := Option.bind_eq_some_iff.mp h
    refine k_rI e80 dX11_readAtom_10 f_X11_157 ?_
    refine x_bipush 6 dX11_readAtom_13 (by decide) ?_
    refine x_icmp_ne 20 dX11_readAtom_15 (by decide) (fun q101 => ?_) (fun q101 => ?_)
    · rw [if_pos q101] at h
      refine x_aload_nr dX11_readAtom_20 rfl ?_
      refine x_dup dX11_readAtom_21 rfl ?_
      obtain ⟨v81, e82, h⟩ := Option.bind_eq_some_iff.mp h
      refine k_rI e82 dX11_readAtom_22 f_X11_157 ?_
      refine x_iconst 1 dX11_readAtom_25 (by decide) ?_
      refine x_iadd dX11_readAtom_26 ?_
      obtain ⟨P83, e84, h⟩ := Option.bind_eq_some_iff.mp h
      refine k_wI e84 dX11_readAtom_27 f_X11_157 (Or.inl (by decide)) rfl ?_
      refine x_aload_nr dX11_readAtom_30 rfl ?_
      obtain ⟨_, e89, h⟩ := Option.bind_eq_some_iff.mp h
      obtain ⟨fse89, e89⟩ := kO_ok e89
      obtain ⟨r86, e87, h⟩ := Option.bind_eq_some_iff.mp h
      replace h := xI_ok h
      obtain ⟨v88, P85, rfl, h⟩ := h
      refine x_callV (hself 0 _ _ _ e87) dX11_readAtom_31 cw_X11_readCond wl_X11_160 wi_X11_readCond wse_X11_readCond rfl e89 (by decide) rfl (by omega) (by decide) rfl (Nat.le_of_ble_eq_true rfl) rfl (fun v9 P9 hq9 => ?_) (fun i9 P9 hq9 => by cases hq9)
      cases hq9
      refine x_if_ne 39 dX11_readAtom_34 (by decide) (fun q100 => ?_) (fun q100 => ?_)
      · rw [if_pos q100] at h
        refine x_aload_nr dX11_readAtom_39 rfl ?_
        refine x_dup dX11_readAtom_40 rfl ?_
        obtain ⟨v90, e91, h⟩ := Option.bind_eq_some_iff.mp h
        refine k_rI e91 dX11_readAtom_41 f_X11_157 ?_
        refine x_iconst 1 dX11_readAtom_44 (by decide) ?_
        refine x_isub dX11_readAtom_45 ?_
        obtain ⟨P92, e93, h⟩ := Option.bind_eq_some_iff.mp h
        refine k_wI e93 dX11_readAtom_46 f_X11_157 (Or.inl (by decide)) rfl ?_
        refine x_aload_nr dX11_readAtom_49 rfl ?_
        refine x_bipush 41 dX11_readAtom_50 (by decide) ?_
        obtain ⟨_, e98, h⟩ := Option.bind_eq_some_iff.mp h
        obtain ⟨fse98, e98⟩ := kO_ok e98
        obtain ⟨r95, e96, h⟩ := Option.bind_eq_some_iff.mp h
        replace h := xI_ok h
        obtain ⟨v97, P94, rfl, h⟩ := h
        refine x_callV (c_X11_sign hl e96) dX11_readAtom_52 cw_X11_sign wl_X11_154 wi_X11_sign wse_X11_sign rfl e98 (by decide) rfl (by omega) (by decide) rfl (Nat.le_of_ble_eq_true rfl) rfl (fun v9 P9 hq9 => ?_) (fun i9 P9 hq9 => by cases hq9)
        cases hq9
        by_cases q99 : v97 = 0 ∨ v97 = 1
        · rw [if_pos q99] at h
          cases h
          exact x_iret .boolean rfl (by rcases q99 with z9 | z9 <;> rw [z9] <;> rfl) dX11_readAtom_55 hQ
        · rw [if_neg q99] at h
          cases h
      · rw [if_neg (fun z9 => z9 q100)] at h
        refine x_iconst 0 dX11_readAtom_37 (by decide) ?_
        cases h
        exact x_iret .boolean rfl rfl dX11_readAtom_38 hQ
    · rw [if_neg (fun z9 => z9 q101)] at h
      refine x_iconst 0 dX11_readAtom_18 (by decide) ?_
      cases h
      exact x_iret .boolean rfl rfl dX11_readAtom_19 hQ
set_option maxHeartbeats 2000000 in
set_option maxRecDepth 20000 in
theorem t_X11_readAtom_212 {G : xG} {l : Launch} (hl : l.stackTraces = false) {dp : Nat} {cr : Nat → List Value → xH → xO} (hself : ∀ t as P z, cr t as P = some z → Ct G l (dp + 9 - 1) (mt_X11_readCond t) as P (fun r P1 => (r, P1) = z)) {n : Nat} {rec : Nat → List Value → xH → xO} (hrec : ∀ pc env P z, rec pc env P = some z → ∀ L st, lay_X11_readAtom pc env = some (L, st) → ∀ Q : xR → xH → Prop, Q z.1 z.2 → Wp G l (dp + 9) mX11_readAtom pc L st P Q) {a0 s0} {P : xH} {z : xR × xH} (h : b_X11_readAtom_212 n cr rec a0 s0 P = some z) {Q : xR → xH → Prop} (hQ : Q z.1 z.2) : Wp G l (dp + 9) mX11_readAtom 212 [some (.ref a0), none, none, none, none] [.int s0] P Q := by
  unfold b_X11_readAtom_212 at h
  refine x_istore_n dX11_readAtom_212 (Nat.le_of_ble_eq_true rfl) ?_
  refine x_iload_n dX11_readAtom_213 rfl ?_
  refine x_if_lt 225 dX11_readAtom_214 (by decide) (fun q35 => ?_) (fun q35 => ?_)
  · rw [if_pos q35] at h
    refine x_aload_nr dX11_readAtom_225 rfl ?_
    refine x_lds (i := 19) rfl dX11_readAtom_226 ?_
    obtain ⟨_, e5, h⟩ := Option.bind_eq_some_iff.mp h
    obtain ⟨fse5, e5⟩ := kO_ok e5
    obtain ⟨r2, e3, h⟩ := Option.bind_eq_some_iff.mp h
    replace h := xI_ok h
    obtain ⟨v4, P1, rfl, h⟩ := h
    refine x_callV (c_X11_isLetters hl e3) dX11_readAtom_228 cw_X11_isLetters wl_X11_144 wi_X11_isLetters wse_X11_isLetters rfl e5 (by decide) rfl (by omega) (by decide) rfl (Nat.le_of_ble_eq_true rfl) rfl (fun v9 P9 hq9 => ?_) (fun i9 P9 hq9 => by cases hq9)
    cases hq9
    refine x_if_eq 238 dX11_readAtom_231 (by decide) (fun q30 => ?_) (fun q30 => ?_)
    · rw [if_pos q30] at h
      refine x_aload_nr dX11_readAtom_238 rfl ?_
      refine x_lds (i := 20) rfl dX11_readAtom_239 ?_
      obtain ⟨_, e10, h⟩ := Option.bind_eq_some_iff.mp h
      obtain ⟨fse10, e10⟩ := kO_ok e10
      obtain ⟨r7, e8, h⟩ := Option.bind_eq_some_iff.mp h
      replace h := xI_ok h
      obtain ⟨v9, P6, rfl, h⟩ := h
      refine x_callV (c_X11_isLetters hl e8) dX11_readAtom_241 cw_X11_isLetters wl_X11_144 wi_X11_isLetters wse_X11_isLetters rfl e10 (by decide) rfl (by omega) (by decide) rfl (Nat.le_of_ble_eq_true rfl) rfl (fun v9 P9 hq9 => ?_) (fun i9 P9 hq9 => by cases hq9)
      cases hq9
      refine x_if_eq 251 dX11_readAtom_244 (by decide) (fun q29 => ?_) (fun q29 => ?_)
      · rw [if_pos q29] at h
        refine x_aload_nr dX11_readAtom_251 rfl ?_
        refine x_lds (i := 21) rfl dX11_readAtom_252 ?_
        obtain ⟨_, e15, h⟩ := Option.bind_eq_some_iff.mp h
        obtain ⟨fse15, e15⟩ := kO_ok e15
        obtain ⟨r12, e13, h⟩ := Option.bind_eq_some_iff.mp h
        replace h := xI_ok h
        obtain ⟨v14, P11, rfl, h⟩ := h
        refine x_callV (c_X11_isLetters hl e13) dX11_readAtom_254 cw_X11_isLetters wl_X11_144 wi_X11_isLetters wse_X11_isLetters rfl e15 (by decide) rfl (by omega) (by decide) rfl (Nat.le_of_ble_eq_true rfl) rfl (fun v9 P9 hq9 => ?_) (fun i9 P9 hq9 => by cases hq9)
        cases hq9
        refine x_if_eq 264 dX11_readAtom_257 (by decide) (fun q28 => ?_) (fun q28 => ?_)
        · rw [if_pos q28] at h
          refine x_aload_nr dX11_readAtom_264 rfl ?_
          refine x_lds (i := 22) rfl dX11_readAtom_265 ?_
          obtain ⟨_, e20, h⟩ := Option.bind_eq_some_iff.mp h
          obtain ⟨fse20, e20⟩ := kO_ok e20
          obtain ⟨r17, e18, h⟩ := Option.bind_eq_some_iff.mp h
          replace h := xI_ok h
          obtain ⟨v19, P16, rfl, h⟩ := h
          refine x_callV (c_X11_isLetters hl e18) dX11_readAtom_267 cw_X11_isLetters wl_X11_144 wi_X11_isLetters wse_X11_isLetters rfl e20 (by decide) rfl (by omega) (by decide) rfl (Nat.le_of_ble_eq_true rfl) rfl (fun v9 P9 hq9 => ?_) (fun i9 P9 hq9 => by cases hq9)
          cases hq9
          refine x_if_eq 277 dX11_readAtom_270 (by decide) (fun q27 => ?_) (fun q27 => ?_)
          · rw [if_pos q27] at h
            refine x_aload_nr dX11_readAtom_277 rfl ?_
            refine x_lds (i := 23) rfl dX11_readAtom_278 ?_
            obtain ⟨_, e25, h⟩ := Option.bind_eq_some_iff.mp h
            obtain ⟨fse25, e25⟩ := kO_ok e25
            obtain ⟨r22, e23, h⟩ := Option.bind_eq_some_iff.mp h
            replace h := xI_ok h
            obtain ⟨v24, P21, rfl, h⟩ := h
            refine x_callV (c_X11_isLetters hl e23) dX11_readAtom_280 cw_X11_isLetters wl_X11_144 wi_X11_isLetters wse_X11_isLetters rfl e25 (by decide) rfl (by omega) (by decide) rfl (Nat.le_of_ble_eq_true rfl) rfl (fun v9 P9 hq9 => ?_) (fun i9 P9 hq9 => by cases hq9)
            cases hq9
            refine x_if_eq 290 dX11_readAtom_283 (by decide) (fun q26 => ?_) (fun q26 => ?_)
            · rw [if_pos q26] at h
              refine x_iconst (-1) dX11_readAtom_290 (by decide) ?_
              exact Wp.mask [true, true, false, false, false] (hrec 291 _ _ _ h _ _ rfl _ hQ)
            · rw [if_neg q26] at h
              refine x_iconst 4 dX11_readAtom_286 (by decide) ?_
              refine x_goto 291 dX11_readAtom_287 (by decide) ?_
              exact Wp.mask [true, true, false, false, false] (hrec 291 _ _ _ h _ _ rfl _ hQ)
          · rw [if_neg q27] at h
            refine x_iconst 3 dX11_readAtom_273 (by decide) ?_
            refine x_goto 291 dX11_readAtom_274 (by decide) ?_
            exact Wp.mask [true, true, false, false, false] (hrec 291 _ _ _ h _ _ rfl _ hQ)
        · rw [if_neg q28] at h
          refine x_iconst 2 dX11_readAtom_260 (by decide) ?_
          refine x_goto 291 dX11_readAtom_261 (by decide) ?_
          exact Wp.mask [true, true, false, false, false] (hrec 291 _ _ _ h _ _ rfl _ hQ)
      · rw [if_neg q29] at h
        refine x_iconst 1 dX11_readAtom_247 (by decide) ?_
        refine x_goto 291 dX11_readAtom_248 (by decide) ?_
        exact Wp.mask [true, true, false, false, false] (hrec 291 _ _ _ h _ _ rfl _ hQ)
    · rw [if_neg q30] at h
      refine x_iconst 0 dX11_readAtom_234 (by decide) ?_
      refine x_goto 291 dX11_readAtom_235 (by decide) ?_
      exact Wp.mask [true, true, false, false, false] (hrec 291 _ _ _ h _ _ rfl _ hQ)
  · rw [if_neg q35] at h
    refine x_aload_nr dX11_readAtom_217 rfl ?_
    refine x_iload_n dX11_readAtom_218 rfl ?_
    refine x_iconst 0 dX11_readAtom_219 (by decide) ?_
    obtain ⟨_, e34, h⟩ := Option.bind_eq_some_iff.mp h
    obtain ⟨fse34, e34⟩ := kO_ok e34
    obtain ⟨r32, e33, h⟩ := Option.bind_eq_some_iff.mp h
    replace h := xU_ok h
    obtain ⟨P31, rfl, h⟩ := h
    refine x_callV (c_X11_emits hl e33) dX11_readAtom_220 cw_X11_emits wl_X11_172 wi_X11_emits wse_X11_emits rfl e34 (by decide) rfl (by omega) (by decide) rfl (Nat.le_of_ble_eq_true rfl) rfl (fun v9 P9 hq9 => ?_) (fun i9 P9 hq9 => by cases hq9)
    cases hq9
    refine x_iconst 1 dX11_readAtom_223 (by decide) ?_
    cases h
    exact x_iret .boolean rfl rfl dX11_readAtom_224 hQ
set_option maxHeartbeats 2000000 in
set_option maxRecDepth 20000 in
theorem t_X11_readAtom_291 {G : xG} {l : Launch} (hl : l.stackTraces = false) {dp : Nat} {cr : Nat → List Value → xH → xO} (hself : ∀ t as P z, cr t as P = some z → Ct G l (dp + 9 - 1) (mt_X11_readCond t) as P (fun r P1 => (r, P1) = z)) {n : Nat} {rec : Nat → List Value → xH → xO} (hrec : ∀ pc env P z, rec pc env P = some z → ∀ L st, lay_X11_readAtom pc env = some (L, st) → ∀ Q : xR → xH → Prop, Q z.1 z.2 → Wp G l (dp + 9) mX11_readAtom pc L st P Q) {a0 a1 s0} {P : xH} {z : xR × xH} (h : b_X11_readAtom_291 n cr rec a0 a1 s0 P = some z) {Q : xR → xH → Prop} (hQ : Q z.1 z.2) : Wp G l (dp + 9) mX11_readAtom 291 [some (.ref a0), some (.int a1), none, none, none] [.int s0] P Q := by
  unfold b_X11_readAtom_291 at h
  refine x_istore_n dX11_readAtom_291 (Nat.le_of_ble_eq_true rfl) ?_
  refine x_iload_n dX11_readAtom_292 rfl ?_
  refine x_if_ge 298 dX11_readAtom_293 (by decide) (fun q13 => ?_) (fun q13 => ?_)
  · rw [if_pos q13] at h
    refine x_aload_nr dX11_readAtom_298 rfl ?_
    refine x_bipush 60 dX11_readAtom_299 (by decide) ?_
    obtain ⟨_, e5, h⟩ := Option.bind_eq_some_iff.mp h
    obtain ⟨fse5, e5⟩ := kO_ok e5
    obtain ⟨r2, e3, h⟩ := Option.bind_eq_some_iff.mp h
    replace h := xI_ok h
    obtain ⟨v4, P1, rfl, h⟩ := h
    refine x_callV (c_X11_sign hl e3) dX11_readAtom_301 cw_X11_sign wl_X11_154 wi_X11_sign wse_X11_sign rfl e5 (by decide) rfl (by omega) (by decide) rfl (Nat.le_of_ble_eq_true rfl) rfl (fun v9 P9 hq9 => ?_) (fun i9 P9 hq9 => by cases hq9)
    cases hq9
    refine x_istore_n dX11_readAtom_304 (Nat.le_of_ble_eq_true rfl) ?_
    refine x_iload_n dX11_readAtom_305 rfl ?_
    refine x_if_ne 320 dX11_readAtom_306 (by decide) (fun q12 => ?_) (fun q12 => ?_)
    · rw [if_pos q12] at h
      exact Wp.mask [true, true, true, true, false] (hrec 320 _ _ _ h _ _ rfl _ hQ)
    · rw [if_neg (fun z9 => z9 q12)] at h
      refine x_aload_nr dX11_readAtom_309 rfl ?_
      refine x_bipush 62 dX11_readAtom_310 (by decide) ?_
      obtain ⟨_, e10, h⟩ := Option.bind_eq_some_iff.mp h
      obtain ⟨fse10, e10⟩ := kO_ok e10
      obtain ⟨r7, e8, h⟩ := Option.bind_eq_some_iff.mp h
      replace h := xI_ok h
      obtain ⟨v9, P6, rfl, h⟩ := h
      refine x_callV (c_X11_sign hl e8) dX11_readAtom_312 cw_X11_sign wl_X11_154 wi_X11_sign wse_X11_sign rfl e10 (by decide) rfl (by omega) (by decide) rfl (Nat.le_of_ble_eq_true rfl) rfl (fun v9 P9 hq9 => ?_) (fun i9 P9 hq9 => by cases hq9)
      cases hq9
      refine x_if_ne 320 dX11_readAtom_315 (by decide) (fun q11 => ?_) (fun q11 => ?_)
      · rw [if_pos q11] at h
        exact Wp.mask [true, true, true, true, false] (hrec 320 _ _ _ h _ _ rfl _ hQ)
      · rw [if_neg (fun z9 => z9 q11)] at h
        refine x_iconst 0 dX11_readAtom_318 (by decide) ?_
        cases h
        exact x_iret .boolean rfl rfl dX11_readAtom_319 hQ
  · rw [if_neg q13] at h
    refine x_iconst 0 dX11_readAtom_296 (by decide) ?_
    cases h
    exact x_iret .boolean rfl rfl dX11_readAtom_297 hQ
set_option maxHeartbeats 2000000 in
set_option maxRecDepth 20000 in
theorem t_X11_readAtom_320 {G : xG} {l : Launch} (hl : l.stackTraces = false) {dp : Nat} {cr : Nat → List Value → xH → xO} (hself : ∀ t as P z, cr t as P = some z → Ct G l (dp + 9 - 1) (mt_X11_readCond t) as P (fun r P1 => (r, P1) = z)) {n : Nat} {rec : Nat → List Value → xH → xO} (hrec : ∀ pc env P z, rec pc env P = some z → ∀ L st, lay_X11_readAtom pc env = some (L, st) → ∀ Q : xR → xH → Prop, Q z.1 z.2 → Wp G l (dp + 9) mX11_readAtom pc L st P Q) {a0 a1 a2 a3} {P : xH} {z : xR × xH} (h : b_X11_readAtom_320 n cr rec a0 a1 a2 a3 P = some z) {Q : xR → xH → Prop} (hQ : Q z.1 z.2) : Wp G l (dp + 9) mX11_readAtom 320 [some (.ref a0), some (.int a1), some (.int a2), some (.int a3), none] [] P Q := by
  unfold b_X11_readAtom_320 at h
  refine x_aload_nr dX11_readAtom_320 rfl ?_
  refine x_sipush 9999 dX11_readAtom_321 (by decide) ?_
  obtain ⟨_, e5, h⟩ := Option.bind_eq_some_iff.mp h
  obtain ⟨fse5, e5⟩ := kO_ok e5
  obtain ⟨r2, e3, h⟩ := Option.bind_eq_some_iff.mp h
  replace h := xI_ok h
  obtain ⟨v4, P1, rfl, h⟩ := h
  refine x_callV (c_X11_number hl e3) dX11_readAtom_324 cw_X11_number wl_X11_200 wi_X11_number wse_X11_number rfl e5 (by decide) rfl (by omega) (by decide) rfl (Nat.le_of_ble_eq_true rfl) rfl (fun v9 P9 hq9 => ?_) (fun i9 P9 hq9 => by cases hq9)
  cases hq9
  refine x_istore dX11_readAtom_327 (Nat.le_of_ble_eq_true rfl) ?_
  refine x_iload dX11_readAtom_329 rfl ?_
  refine x_if_ge 336 dX11_readAtom_331 (by decide) (fun q7 => ?_) (fun q7 => ?_)
  · rw [if_pos q7] at h
    refine x_aload_nr dX11_readAtom_336 rfl ?_
    refine x_iload_n dX11_readAtom_337 rfl ?_
    refine x_if_eq 346 dX11_readAtom_338 (by decide) (fun q6 => ?_) (fun q6 => ?_)
    · rw [if_pos q6] at h
      refine x_sipush 200 dX11_readAtom_346 (by decide) ?_
      exact Wp.mask [true, true, true, true, true] (hrec 349 _ _ _ h _ _ rfl _ hQ)
    · rw [if_neg q6] at h
      refine x_bipush 100 dX11_readAtom_341 (by decide) ?_
      refine x_goto 349 dX11_readAtom_343 (by decide) ?_
      exact Wp.mask [true, true, true, true, true] (hrec 349 _ _ _ h _ _ rfl _ hQ)
  · rw [if_neg q7] at h
    refine x_iconst 0 dX11_readAtom_334 (by decide) ?_
    cases h
    exact x_iret .boolean rfl rfl dX11_readAtom_335 hQ
set_option maxHeartbeats 2000000 in
set_option maxRecDepth 20000 in
theorem t_X11_readAtom_349 {G : xG} {l : Launch} (hl : l.stackTraces = false) {dp : Nat} {cr : Nat → List Value → xH → xO} (hself : ∀ t as P z, cr t as P = some z → Ct G l (dp + 9 - 1) (mt_X11_readCond t) as P (fun r P1 => (r, P1) = z)) {n : Nat} {rec : Nat → List Value → xH → xO} (hrec : ∀ pc env P z, rec pc env P = some z → ∀ L st, lay_X11_readAtom pc env = some (L, st) → ∀ Q : xR → xH → Prop, Q z.1 z.2 → Wp G l (dp + 9) mX11_readAtom pc L st P Q) {a0 a1 a2 a3 a4 s0 s1} {P : xH} {z : xR × xH} (h : b_X11_readAtom_349 n cr rec a0 a1 a2 a3 a4 s0 s1 P = some z) {Q : xR → xH → Prop} (hQ : Q z.1 z.2) : Wp G l (dp + 9) mX11_readAtom 349 [some (.ref a0), some (.int a1), some (.int a2), some (.int a3), some (.int a4)] [.int s1, .ref s0] P Q := by
  unfold b_X11_readAtom_349 at h
  refine x_iload_n dX11_readAtom_349 rfl ?_
  refine x_iadd dX11_readAtom_350 ?_
  refine x_iload dX11_readAtom_351 rfl ?_
  obtain ⟨_, e4, h⟩ := Option.bind_eq_some_iff.mp h
  obtain ⟨fse4, e4⟩ := kO_ok e4
  obtain ⟨r2, e3, h⟩ := Option.bind_eq_some_iff.mp h
  replace h := xU_ok h
  obtain ⟨P1, rfl, h⟩ := h
  refine x_callV (c_X11_emits hl e3) dX11_readAtom_353 cw_X11_emits wl_X11_172 wi_X11_emits wse_X11_emits rfl e4 (by decide) rfl (by omega) (by decide) rfl (Nat.le_of_ble_eq_true rfl) rfl (fun v9 P9 hq9 => ?_) (fun i9 P9 hq9 => by cases hq9)
  cases hq9
  refine x_iconst 1 dX11_readAtom_356 (by decide) ?_
  cases h
  exact x_iret .boolean rfl rfl dX11_readAtom_357 hQ
theorem s_X11_readAtom {G : xG} {l : Launch} (hl : l.stackTraces = false) {dp : Nat} {cr : Nat → List Value → xH → xO} (hself : ∀ t as P z, cr t as P = some z → Ct G l (dp + 9 - 1) (mt_X11_readCond t) as P (fun r P1 => (r, P1) = z)) : ∀ n pc env P z, g_X11_readAtom cr n pc env P = some z → ∀ L st, lay_X11_readAtom pc env = some (L, st) → ∀ Q : xR → xH → Prop, Q z.1 z.2 → Wp G l (dp + 9) mX11_readAtom pc L st P Q := by
  intro n
  induction n with
  | zero => intro pc env P z h; cases h
  | succ n ih =>
    intro pc env P z h L st hlay Q hQ
    unfold g_X11_readAtom at h
    split at h
    · cases hlay
      exact t_X11_readAtom_0 hl hself ih h hQ
    · cases hlay
      exact t_X11_readAtom_212 hl hself ih h hQ
    · cases hlay
      exact t_X11_readAtom_291 hl hself ih h hQ
    · cases hlay
      exact t_X11_readAtom_320 hl hself ih h hQ
    · cases hlay
      exact t_X11_readAtom_349 hl hself ih h hQ
    · cases h
theorem cg_X11_readAtom {G : xG} {l : Launch} (hl : l.stackTraces = false) {dp : Nat} {cr : Nat → List Value → xH → xO} (hself : ∀ t as P z, cr t as P = some z → Ct G l (dp + 9 - 1) (mt_X11_readCond t) as P (fun r P1 => (r, P1) = z)) {n : Nat} {as : List Value} {P : xH} {z : xR × xH} (h : g_X11_readAtom cr n 0 as P = some z) : Ct G l (dp + 9) mX11_readAtom as P (fun r P1 => (r, P1) = z) := by
  cases n with
  | zero => cases h
  | succ n =>
    unfold g_X11_readAtom at h
    split at h
    · exact Ct.of hl (by decide +kernel) wc_X11_readAtom (Nat.le_of_ble_eq_true rfl) (t_X11_readAtom_0 hl hself (s_X11_readAtom hl hself _) h rfl)
    all_goals first | (cases h; done) | (rename_i q9 _; exact absurd q9 (by decide)) | (rename_i q9; exact absurd q9 (by decide)) | contradiction
def F_X11_readCond (n : Nat) : Nat → Nat → List Value → xH → xO
  | 0 => fun _ _ _ => none
  | dp + 1 => fun t as P => match t with
    | 0 => g_X11_readCond (F_X11_readCond n dp) n 0 as P
    | 1 => g_X11_readAllOf (F_X11_readCond n dp) n 0 as P
    | 2 => g_X11_readAtom (F_X11_readCond n dp) n 0 as P
    | _ => none
theorem cF_X11_readCond {G : xG} {l : Launch} (hl : l.stackTraces = false) (n : Nat) : ∀ dp t as P z, F_X11_readCond n dp t as P = some z → Ct G l (dp + 9) (mt_X11_readCond t) as P (fun r P1 => (r, P1) = z) := by
  intro dp
  induction dp with
  | zero => intro t as P z h; cases h
  | succ dp ih =>
    intro t as P z h
    unfold F_X11_readCond at h
    split at h
    · exact cg_X11_readCond (dp := dp + 1) hl (fun t as P z h9 => (show dp + 1 + 9 - 1 = dp + 9 by omega) ▸ ih t as P z h9) h
    · exact cg_X11_readAllOf (dp := dp + 1) hl (fun t as P z h9 => (show dp + 1 + 9 - 1 = dp + 9 by omega) ▸ ih t as P z h9) h
    · exact cg_X11_readAtom (dp := dp + 1) hl (fun t as P z h9 => (show dp + 1 + 9 - 1 = dp + 9 by omega) ▸ ih t as P z h9) h
    · cases h
def f_X11_readCond (n pc : Nat) (as : List Value) (P : xH) : xO := if pc = 0 then F_X11_readCond n 30 0 as P else none
theorem c_X11_readCond {G : xG} {l : Launch} (hl : l.stackTraces = false) {n : Nat} {as : List Value} {P : xH} {z : xR × xH} (h : f_X11_readCond n 0 as P = some z) : Ct G l 39 mX11_readCond as P (fun r P1 => (r, P1) = z) := cF_X11_readCond hl n 30 0 as P z h
def f_X11_readAllOf (n pc : Nat) (as : List Value) (P : xH) : xO := if pc = 0 then F_X11_readCond n 30 1 as P else none
theorem c_X11_readAllOf {G : xG} {l : Launch} (hl : l.stackTraces = false) {n : Nat} {as : List Value} {P : xH} {z : xR × xH} (h : f_X11_readAllOf n 0 as P = some z) : Ct G l 39 mX11_readAllOf as P (fun r P1 => (r, P1) = z) := cF_X11_readCond hl n 30 1 as P z h
def f_X11_readAtom (n pc : Nat) (as : List Value) (P : xH) : xO := if pc = 0 then F_X11_readCond n 30 2 as P else none
theorem c_X11_readAtom {G : xG} {l : Launch} (hl : l.stackTraces = false) {n : Nat} {as : List Value} {P : xH} {z : xR × xH} (h : f_X11_readAtom n 0 as P = some z) : Ct G l 39 mX11_readAtom as P (fun r P1 => (r, P1) = z) := cF_X11_readCond hl n 30 2 as P z h
/-! QuakeNetModel.readLine(I)Z -/
def b_X11_readLine_0 (n : Nat) (rec : Nat → List Value → xH → xO) (a0 : Nat) (a1 : Int32) (P : xH) : xO :=
  (kO P a0 11).bind fun _ =>
  (f_X11_letters n 0 [.ref a0] P).bind fun r2 => xU r2 fun P1 =>
  if ¬ a1 = 10 then
    (f_X11_lineAt n 0 [.int 1, .int a1] P1).bind fun r6 => xI r6 fun v8 P5 =>
    (kO P5 a0 11).bind fun _ =>
    (f_X11_isLetters n 0 [.ref a0, .retAddr ((6 + 1))] P5).bind fun r10 => xI r10 fun v12 P9 =>
    if v12 = 0 then
      (kO P9 a0 11).bind fun _ =>
      (f_X11_isLetters n 0 [.ref a0, .retAddr ((7 + 1))] P9).bind fun r15 => xI r15 fun v17 P14 =>
      if v17 = 0 then
        (kO P14 a0 11).bind fun _ =>
        (f_X11_isLetters n 0 [.ref a0, .retAddr ((8 + 1))] P14).bind fun r20 => xI r20 fun v22 P19 =>
        if v22 = 0 then
          (kO P19 a0 11).bind fun _ =>
          (f_X11_isLetters n 0 [.ref a0, .retAddr ((9 + 1))] P19).bind fun r25 => xI r25 fun v27 P24 =>
          if v27 = 0 then
            rec 71 [.ref a0, .int a1, .int v8, .int ((-1))] P24
          else
            rec 71 [.ref a0, .int a1, .int v8, .int 3] P24
        else
          rec 71 [.ref a0, .int a1, .int v8, .int 2] P19
      else
        rec 71 [.ref a0, .int a1, .int v8, .int 1] P14
    else
      rec 71 [.ref a0, .int a1, .int v8, .int 0] P9
  else
    some (.inl (some (.int 0)), P1)
def b_X11_readLine_71 (n : Nat) (rec : Nat → List Value → xH → xO) (a0 : Nat) (a1 : Int32) (a2 : Int32) (s0 : Int32) (P : xH) : xO :=
  (rA P a0 11 3).bind fun v1 =>
  (sI P v1 a2 s0).bind fun P3 =>
  (rA P3 a0 11 3).bind fun v5 =>
  (sI P3 v5 ((a2 + 1)) 0).bind fun P7 =>
  (rA P7 a0 11 3).bind fun v9 =>
  (rI P7 a0 11 16).bind fun v11 =>
  (sI P7 v9 ((a2 + 2)) v11).bind fun P13 =>
  (rA P13 a0 11 3).bind fun v15 =>
  (rI P13 a0 11 16).bind fun v17 =>
  (sI P13 v15 ((a2 + 3)) v17).bind fun P19 =>
  if 0 ≤ s0 then
    if s0 = 0 then
      rec 127 [.ref a0, .int a1, .int a2, .int s0] P19
    else
      if ¬ s0 = 2 then
        rec 165 [.ref a0, .int a1, .int a2, .int s0] P19
      else
        rec 127 [.ref a0, .int a1, .int a2, .int s0] P19
  else
    some (.inl (some (.int 0)), P19)
def b_X11_readLine_127 (n : Nat) (rec : Nat → List Value → xH → xO) (a0 : Nat) (a1 : Int32) (a2 : Int32) (a3 : Int32) (P : xH) : xO :=
  (rA P a0 11 3).bind fun v1 =>
  if ¬ a3 = 2 then
    rec 148 [.ref a0, .int a1, .int a2, .int a3, .ref v1, .int ((a2 + 1)), .ref a0, .int 9999] P
  else
    rec 148 [.ref a0, .int a1, .int a2, .int a3, .ref v1, .int ((a2 + 1)), .ref a0, .int 100] P
def b_X11_readLine_148 (n : Nat) (rec : Nat → List Value → xH → xO) (a0 : Nat) (a1 : Int32) (a2 : Int32) (a3 : Int32) (s0 : Nat) (s1 : Int32) (s2 : Nat) (s3 : Int32) (P : xH) : xO :=
  (kO P s2 11).bind fun _ =>
  (f_X11_number n 0 [.ref s2, .int s3] P).bind fun r2 => xI r2 fun v4 P1 =>
  (sI P1 s0 s1 v4).bind fun P6 =>
  (rA P6 a0 11 3).bind fun v8 =>
  (aI P6 v8 ((a2 + 1))).bind fun v10 =>
  if 0 ≤ v10 then
    rec 165 [.ref a0, .int a1, .int a2, .int a3] P6
  else
    some (.inl (some (.int 0)), P6)
def b_X11_readLine_165 (n : Nat) (rec : Nat → List Value → xH → xO) (a0 : Nat) (a1 : Int32) (a2 : Int32) (a3 : Int32) (P : xH) : xO :=
  if ¬ a3 = 2 then
    (kO P a0 11).bind fun _ =>
    (f_X11_passes n 0 [.ref a0, .retAddr ((10 + 1))] P).bind fun r2 => xI r2 fun v4 P1 =>
    if v4 = 0 then
      some (.inl (some (.int 1)), P1)
    else
      (wV P1 a0 11 13 (.int 0)).bind fun P6 =>
      (kO P6 a0 11).bind fun _ =>
      (f_X11_readCond n 0 [.ref a0] P6).bind fun r9 => xI r9 fun v11 P8 =>
      if ¬ v11 = 0 then
        (rA P8 a0 11 3).bind fun v13 =>
        (rI P8 a0 11 16).bind fun v15 =>
        (sI P8 v13 ((a2 + 3)) v15).bind fun P17 =>
        some (.inl (some (.int 1)), P17)
      else
        some (.inl (some (.int 0)), P8)
  else
    some (.inl (some (.int 1)), P)
def lay_X11_readLine : Nat → List Value → Option (xL × List Value)
  | 0, [a0, a1] => some ([some a0, some a1, none, none], [])
  | 71, [a0, a1, a2, s0] => some ([some a0, some a1, some a2, none], [s0])
  | 127, [a0, a1, a2, a3] => some ([some a0, some a1, some a2, some a3], [])
  | 148, [a0, a1, a2, a3, s0, s1, s2, s3] => some ([some a0, some a1, some a2, some a3], [s3, s2, s1, s0])
  | 165, [a0, a1, a2, a3] => some ([some a0, some a1, some a2, some a3], [])
  | _, _ => none
def f_X11_readLine : Nat → Nat → List Value → xH → xO
  | 0 => fun _ _ _ => none
  | n + 1 => fun pc env P => match pc, env with
    | 0, [.ref a0, .int a1] => b_X11_readLine_0 n (f_X11_readLine n) a0 a1 P
    | 71, [.ref a0, .int a1, .int a2, .int s0] => b_X11_readLine_71 n (f_X11_readLine n) a0 a1 a2 s0 P
    | 127, [.ref a0, .int a1, .int a2, .int a3] => b_X11_readLine_127 n (f_X11_readLine n) a0 a1 a2 a3 P
    | 148, [.ref a0, .int a1, .int a2, .int a3, .ref s0, .int s1, .ref s2, .int s3] => b_X11_readLine_148 n (f_X11_readLine n) a0 a1 a2 a3 s0 s1 s2 s3 P
    | 165, [.ref a0, .int a1, .int a2, .int a3] => b_X11_readLine_165 n (f_X11_readLine n) a0 a1 a2 a3 P
    | _, _ => none
set_option maxHeartbeats 2000000 in
set_option maxRecDepth 20000 in
theorem t_X11_readLine_0 {G : xG} {l : Launch} (hl : l.stackTraces = false) {n : Nat} {rec : Nat → List Value → xH → xO} (hrec : ∀ pc env P z, rec pc env P = some z → ∀ L st, lay_X11_readLine pc env = some (L, st) → ∀ Q : xR → xH → Prop, Q z.1 z.2 → Wp G l 40 mX11_readLine pc L st P Q) {a0 a1} {P : xH} {z : xR × xH} (h : b_X11_readLine_0 n rec a0 a1 P = some z) {Q : xR → xH → Prop} (hQ : Q z.1 z.2) : Wp G l 40 mX11_readLine 0 [some (.ref a0), some (.int a1), none, none] [] P Q := by
  unfold b_X11_readLine_0 at h
  refine x_aload_nr dX11_readLine_0 rfl ?_
  obtain ⟨_, e4, h⟩ := Option.bind_eq_some_iff.mp h
  obtain ⟨fse4, e4⟩ := kO_ok e4
  obtain ⟨r2, e3, h⟩ := Option.bind_eq_some_iff.mp h
  replace h := xU_ok h
  obtain ⟨P1, rfl, h⟩ := h
  refine x_callV (c_X11_letters hl e3) dX11_readLine_1 cw_X11_letters wl_X11_141 wi_X11_letters wse_X11_letters rfl e4 (by decide) rfl (by omega) (by decide) rfl (Nat.le_of_ble_eq_true rfl) rfl (fun v9 P9 hq9 => ?_) (fun i9 P9 hq9 => by cases hq9)
  cases hq9
  refine x_iload_n dX11_readLine_4 rfl ?_
  refine x_bipush 10 dX11_readLine_5 (by decide) ?_
  refine x_icmp_ne 12 dX11_readLine_7 (by decide) (fun q33 => ?_) (fun q33 => ?_)
  · rw [if_pos q33] at h
    refine x_iconst 1 dX11_readLine_12 (by decide) ?_
    refine x_iload_n dX11_readLine_13 rfl ?_
    obtain ⟨r6, e7, h⟩ := Option.bind_eq_some_iff.mp h
    replace h := xI_ok h
    obtain ⟨v8, P5, rfl, h⟩ := h
    refine x_callS (c_X11_lineAt hl e7) dX11_readLine_14 cw_X11_lineAt wl_X11_209 ws_X11_lineAt rfl (by omega) (by decide) rfl (Nat.le_of_ble_eq_true rfl) rfl (fun v9 P9 hq9 => ?_) (fun i9 P9 hq9 => by cases hq9)
    cases hq9
    refine x_istore_n dX11_readLine_17 (Nat.le_of_ble_eq_true rfl) ?_
    refine x_aload_nr dX11_readLine_18 rfl ?_
    refine x_lds (i := 6) rfl dX11_readLine_19 ?_
    obtain ⟨_, e13, h⟩ := Option.bind_eq_some_iff.mp h
    obtain ⟨fse13, e13⟩ := kO_ok e13
    obtain ⟨r10, e11, h⟩ := Option.bind_eq_some_iff.mp h
    replace h := xI_ok h
    obtain ⟨v12, P9, rfl, h⟩ := h
    refine x_callV (c_X11_isLetters hl e11) dX11_readLine_21 cw_X11_isLetters wl_X11_144 wi_X11_isLetters wse_X11_isLetters rfl e13 (by decide) rfl (by omega) (by decide) rfl (Nat.le_of_ble_eq_true rfl) rfl (fun v9 P9 hq9 => ?_) (fun i9 P9 hq9 => by cases hq9)
    cases hq9
    refine x_if_eq 31 dX11_readLine_24 (by decide) (fun q32 => ?_) (fun q32 => ?_)
    · rw [if_pos q32] at h
      refine x_aload_nr dX11_readLine_31 rfl ?_
      refine x_lds (i := 7) rfl dX11_readLine_32 ?_
      obtain ⟨_, e18, h⟩ := Option.bind_eq_some_iff.mp h
      obtain ⟨fse18, e18⟩ := kO_ok e18
      obtain ⟨r15, e16, h⟩ := Option.bind_eq_some_iff.mp h
      replace h := xI_ok h
      obtain ⟨v17, P14, rfl, h⟩ := h
      refine x_callV (c_X11_isLetters hl e16) dX11_readLine_34 cw_X11_isLetters wl_X11_144 wi_X11_isLetters wse_X11_isLetters rfl e18 (by decide) rfl (by omega) (by decide) rfl (Nat.le_of_ble_eq_true rfl) rfl (fun v9 P9 hq9 => ?_) (fun i9 P9 hq9 => by cases hq9)
      cases hq9
      refine x_if_eq 44 dX11_readLine_37 (by decide) (fun q31 => ?_) (fun q31 => ?_)
      · rw [if_pos q31] at h
        refine x_aload_nr dX11_readLine_44 rfl ?_
        refine x_lds (i := 8) rfl dX11_readLine_45 ?_
        obtain ⟨_, e23, h⟩ := Option.bind_eq_some_iff.mp h
        obtain ⟨fse23, e23⟩ := kO_ok e23
        obtain ⟨r20, e21, h⟩ := Option.bind_eq_some_iff.mp h
        replace h := xI_ok h
        obtain ⟨v22, P19, rfl, h⟩ := h
        refine x_callV (c_X11_isLetters hl e21) dX11_readLine_47 cw_X11_isLetters wl_X11_144 wi_X11_isLetters wse_X11_isLetters rfl e23 (by decide) rfl (by omega) (by decide) rfl (Nat.le_of_ble_eq_true rfl) rfl (fun v9 P9 hq9 => ?_) (fun i9 P9 hq9 => by cases hq9)
        cases hq9
        refine x_if_eq 57 dX11_readLine_50 (by decide) (fun q30 => ?_) (fun q30 => ?_)
        · rw [if_pos q30] at h
          refine x_aload_nr dX11_readLine_57 rfl ?_
          refine x_lds (i := 9) rfl dX11_readLine_58 ?_
          obtain ⟨_, e28, h⟩ := Option.bind_eq_some_iff.mp h
          obtain ⟨fse28, e28⟩ := kO_ok e28
          obtain ⟨r25, e26, h⟩ := Option.bind_eq_some_iff.mp h
          replace h := xI_ok h
          obtain ⟨v27, P24, rfl, h⟩ := h
          refine x_callV (c_X11_isLetters hl e26) dX11_readLine_60 cw_X11_isLetters wl_X11_144 wi_X11_isLetters wse_X11_isLetters rfl e28 (by decide) rfl (by omega) (by decide) rfl (Nat.le_of_ble_eq_true rfl) rfl (fun v9 P9 hq9 => ?_) (fun i9 P9 hq9 => by cases hq9)
          cases hq9
          refine x_if_eq 70 dX11_readLine_63 (by decide) (fun q29 => ?_) (fun q29 => ?_)
          · rw [if_pos q29] at h
            refine x_iconst (-1) dX11_readLine_70 (by decide) ?_
            exact Wp.mask [true, true, true, false] (hrec 71 _ _ _ h _ _ rfl _ hQ)
          · rw [if_neg q29] at h
            refine x_iconst 3 dX11_readLine_66 (by decide) ?_
            refine x_goto 71 dX11_readLine_67 (by decide) ?_
            exact Wp.mask [true, true, true, false] (hrec 71 _ _ _ h _ _ rfl _ hQ)
        · rw [if_neg q30] at h
          refine x_iconst 2 dX11_readLine_53 (by decide) ?_
          refine x_goto 71 dX11_readLine_54 (by decide) ?_
          exact Wp.mask [true, true, true, false] (hrec 71 _ _ _ h _ _ rfl _ hQ)
      · rw [if_neg q31] at h
        refine x_iconst 1 dX11_readLine_40 (by decide) ?_
        refine x_goto 71 dX11_readLine_41 (by decide) ?_
        exact Wp.mask [true, true, true, false] (hrec 71 _ _ _ h _ _ rfl _ hQ)
    · rw [if_neg q32] at h
      refine x_iconst 0 dX11_readLine_27 (by decide) ?_
      refine x_goto 71 dX11_readLine_28 (by decide) ?_
      exact Wp.mask [true, true, true, false] (hrec 71 _ _ _ h _ _ rfl _ hQ)
  · rw [if_neg (fun z9 => z9 q33)] at h
    refine x_iconst 0 dX11_readLine_10 (by decide) ?_
    cases h
    exact x_iret .boolean rfl rfl dX11_readLine_11 hQ
set_option maxHeartbeats 2000000 in
set_option maxRecDepth 20000 in
theorem t_X11_readLine_71 {G : xG} {l : Launch} (hl : l.stackTraces = false) {n : Nat} {rec : Nat → List Value → xH → xO} (hrec : ∀ pc env P z, rec pc env P = some z → ∀ L st, lay_X11_readLine pc env = some (L, st) → ∀ Q : xR → xH → Prop, Q z.1 z.2 → Wp G l 40 mX11_readLine pc L st P Q) {a0 a1 a2 s0} {P : xH} {z : xR × xH} (h : b_X11_readLine_71 n rec a0 a1 a2 s0 P = some z) {Q : xR → xH → Prop} (hQ : Q z.1 z.2) : Wp G l 40 mX11_readLine 71 [some (.ref a0), some (.int a1), some (.int a2), none] [.int s0] P Q := by
  unfold b_X11_readLine_71 at h
  refine x_istore_n dX11_readLine_71 (Nat.le_of_ble_eq_true rfl) ?_
  refine x_aload_nr dX11_readLine_72 rfl ?_
  obtain ⟨v1, e2, h⟩ := Option.bind_eq_some_iff.mp h
  refine k_rA e2 dX11_readLine_73 f_X11_20 ?_
  refine x_iload_n dX11_readLine_76 rfl ?_
  refine x_iload_n dX11_readLine_77 rfl ?_
  obtain ⟨P3, e4, h⟩ := Option.bind_eq_some_iff.mp h
  refine k_sI e4 dX11_readLine_78 ?_
  refine x_aload_nr dX11_readLine_79 rfl ?_
  obtain ⟨v5, e6, h⟩ := Option.bind_eq_some_iff.mp h
  refine k_rA e6 dX11_readLine_80 f_X11_20 ?_
  refine x_iload_n dX11_readLine_83 rfl ?_
  refine x_iconst 1 dX11_readLine_84 (by decide) ?_
  refine x_iadd dX11_readLine_85 ?_
  refine x_iconst 0 dX11_readLine_86 (by decide) ?_
  obtain ⟨P7, e8, h⟩ := Option.bind_eq_some_iff.mp h
  refine k_sI e8 dX11_readLine_87 ?_
  refine x_aload_nr dX11_readLine_88 rfl ?_
  obtain ⟨v9, e10, h⟩ := Option.bind_eq_some_iff.mp h
  refine k_rA e10 dX11_readLine_89 f_X11_20 ?_
  refine x_iload_n dX11_readLine_92 rfl ?_
  refine x_iconst 2 dX11_readLine_93 (by decide) ?_
  refine x_iadd dX11_readLine_94 ?_
  refine x_aload_nr dX11_readLine_95 rfl ?_
  obtain ⟨v11, e12, h⟩ := Option.bind_eq_some_iff.mp h
  refine k_rI e12 dX11_readLine_96 f_X11_151 ?_
  obtain ⟨P13, e14, h⟩ := Option.bind_eq_some_iff.mp h
  refine k_sI e14 dX11_readLine_99 ?_
  refine x_aload_nr dX11_readLine_100 rfl ?_
  obtain ⟨v15, e16, h⟩ := Option.bind_eq_some_iff.mp h
  refine k_rA e16 dX11_readLine_101 f_X11_20 ?_
  refine x_iload_n dX11_readLine_104 rfl ?_
  refine x_iconst 3 dX11_readLine_105 (by decide) ?_
  refine x_iadd dX11_readLine_106 ?_
  refine x_aload_nr dX11_readLine_107 rfl ?_
  obtain ⟨v17, e18, h⟩ := Option.bind_eq_some_iff.mp h
  refine k_rI e18 dX11_readLine_108 f_X11_151 ?_
  obtain ⟨P19, e20, h⟩ := Option.bind_eq_some_iff.mp h
  refine k_sI e20 dX11_readLine_111 ?_
  refine x_iload_n dX11_readLine_112 rfl ?_
  refine x_if_ge 118 dX11_readLine_113 (by decide) (fun q23 => ?_) (fun q23 => ?_)
  · rw [if_pos q23] at h
    refine x_iload_n dX11_readLine_118 rfl ?_
    refine x_if_eq 127 dX11_readLine_119 (by decide) (fun q22 => ?_) (fun q22 => ?_)
    · rw [if_pos q22] at h
      exact Wp.mask [true, true, true, true] (hrec 127 _ _ _ h _ _ rfl _ hQ)
    · rw [if_neg q22] at h
      refine x_iload_n dX11_readLine_122 rfl ?_
      refine x_iconst 2 dX11_readLine_123 (by decide) ?_
      refine x_icmp_ne 165 dX11_readLine_124 (by decide) (fun q21 => ?_) (fun q21 => ?_)
      · rw [if_pos q21] at h
        exact Wp.mask [true, true, true, true] (hrec 165 _ _ _ h _ _ rfl _ hQ)
      · rw [if_neg (fun z9 => z9 q21)] at h
        exact Wp.mask [true, true, true, true] (hrec 127 _ _ _ h _ _ rfl _ hQ)
  · rw [if_neg q23] at h
    refine x_iconst 0 dX11_readLine_116 (by decide) ?_
    cases h
    exact x_iret .boolean rfl rfl dX11_readLine_117 hQ
set_option maxHeartbeats 2000000 in
set_option maxRecDepth 20000 in
theorem t_X11_readLine_127 {G : xG} {l : Launch} (hl : l.stackTraces = false) {n : Nat} {rec : Nat → List Value → xH → xO} (hrec : ∀ pc env P z, rec pc env P = some z → ∀ L st, lay_X11_readLine pc env = some (L, st) → ∀ Q : xR → xH → Prop, Q z.1 z.2 → Wp G l 40 mX11_readLine pc L st P Q) {a0 a1 a2 a3} {P : xH} {z : xR × xH} (h : b_X11_readLine_127 n rec a0 a1 a2 a3 P = some z) {Q : xR → xH → Prop} (hQ : Q z.1 z.2) : Wp G l 40 mX11_readLine 127 [some (.ref a0), some (.int a1), some (.int a2), some (.int a3)] [] P Q := by
  unfold b_X11_readLine_127 at h
  refine x_aload_nr dX11_readLine_127 rfl ?_
  obtain ⟨v1, e2, h⟩ := Option.bind_eq_some_iff.mp h
  refine k_rA e2 dX11_readLine_128 f_X11_20 ?_
  refine x_iload_n dX11_readLine_131 rfl ?_
  refine x_iconst 1 dX11_readLine_132 (by decide) ?_
  refine x_iadd dX11_readLine_133 ?_
  refine x_aload_nr dX11_readLine_134 rfl ?_
  refine x_iload_n dX11_readLine_135 rfl ?_
  refine x_iconst 2 dX11_readLine_136 (by decide) ?_
  refine x_icmp_ne 145 dX11_readLine_137 (by decide) (fun q3 => ?_) (fun q3 => ?_)
  · rw [if_pos q3] at h
    refine x_sipush 9999 dX11_readLine_145 (by decide) ?_
    exact Wp.mask [true, true, true, true] (hrec 148 _ _ _ h _ _ rfl _ hQ)
  · rw [if_neg (fun z9 => z9 q3)] at h
    refine x_bipush 100 dX11_readLine_140 (by decide) ?_
    refine x_goto 148 dX11_readLine_142 (by decide) ?_
    exact Wp.mask [true, true, true, true] (hrec 148 _ _ _ h _ _ rfl _ hQ)
set_option maxHeartbeats 2000000 in
set_option maxRecDepth 20000 in
theorem t_X11_readLine_148 {G : xG} {l : Launch} (hl : l.stackTraces = false) {n : Nat} {rec : Nat → List Value → xH → xO} (hrec : ∀ pc env P z, rec pc env P = some z → ∀ L st, lay_X11_readLine pc env = some (L, st) → ∀ Q : xR → xH → Prop, Q z.1 z.2 → Wp G l 40 mX11_readLine pc L st P Q) {a0 a1 a2 a3 s0 s1 s2 s3} {P : xH} {z : xR × xH} (h : b_X11_readLine_148 n rec a0 a1 a2 a3 s0 s1 s2 s3 P = some z) {Q : xR → xH → Prop} (hQ : Q z.1 z.2) : Wp G l 40 mX11_readLine 148 [some (.ref a0), some (.int a1), some (.int a2), some (.int a3)] [.int s3, .ref s2, .int s1, .ref s0] P Q := by
  unfold b_X11_readLine_148 at h
  obtain ⟨_, e5, h⟩ := Option.bind_eq_some_iff.mp h
  obtain ⟨fse5, e5⟩ := kO_ok e5
  obtain ⟨r2, e3, h⟩ := Option.bind_eq_some_iff.mp h
  replace h := xI_ok h
  obtain ⟨v4, P1, rfl, h⟩ := h
  refine x_callV (c_X11_number hl e3) dX11_readLine_148 cw_X11_number wl_X11_200 wi_X11_number wse_X11_number rfl e5 (by decide) rfl (by omega) (by decide) rfl (Nat.le_of_ble_eq_true rfl) rfl (fun v9 P9 hq9 => ?_) (fun i9 P9 hq9 => by cases hq9)
  cases hq9
  obtain ⟨P6, e7, h⟩ := Option.bind_eq_some_iff.mp h
  refine k_sI e7 dX11_readLine_151 ?_
  refine x_aload_nr dX11_readLine_152 rfl ?_
  obtain ⟨v8, e9, h⟩ := Option.bind_eq_some_iff.mp h
  refine k_rA e9 dX11_readLine_153 f_X11_20 ?_
  refine x_iload_n dX11_readLine_156 rfl ?_
  refine x_iconst 1 dX11_readLine_157 (by decide) ?_
  refine x_iadd dX11_readLine_158 ?_
  obtain ⟨v10, e11, h⟩ := Option.bind_eq_some_iff.mp h
  refine k_aI e11 dX11_readLine_159 ?_
  refine x_if_ge 165 dX11_readLine_160 (by decide) (fun q12 => ?_) (fun q12 => ?_)
  · rw [if_pos q12] at h
    exact Wp.mask [true, true, true, true] (hrec 165 _ _ _ h _ _ rfl _ hQ)
  · rw [if_neg q12] at h
    refine x_iconst 0 dX11_readLine_163 (by decide) ?_
    cases h
    exact x_iret .boolean rfl rfl dX11_readLine_164 hQ
set_option maxHeartbeats 2000000 in
set_option maxRecDepth 20000 in
theorem t_X11_readLine_165 {G : xG} {l : Launch} (hl : l.stackTraces = false) {n : Nat} {rec : Nat → List Value → xH → xO} (hrec : ∀ pc env P z, rec pc env P = some z → ∀ L st, lay_X11_readLine pc env = some (L, st) → ∀ Q : xR → xH → Prop, Q z.1 z.2 → Wp G l 40 mX11_readLine pc L st P Q) {a0 a1 a2 a3} {P : xH} {z : xR × xH} (h : b_X11_readLine_165 n rec a0 a1 a2 a3 P = some z) {Q : xR → xH → Prop} (hQ : Q z.1 z.2) : Wp G l 40 mX11_readLine 165 [some (.ref a0), some (.int a1), some (.int a2), some (.int a3)] [] P Q := by
  unfold b_X11_readLine_165 at h
  refine x_iload_n dX11_readLine_165 rfl ?_
  refine x_iconst 2 dX11_readLine_166 (by decide) ?_
  refine x_icmp_ne 172 dX11_readLine_167 (by decide) (fun q21 => ?_) (fun q21 => ?_)
  · rw [if_pos q21] at h
    refine x_aload_nr dX11_readLine_172 rfl ?_
    refine x_lds (i := 10) rfl dX11_readLine_173 ?_
    obtain ⟨_, e5, h⟩ := Option.bind_eq_some_iff.mp h
    obtain ⟨fse5, e5⟩ := kO_ok e5
    obtain ⟨r2, e3, h⟩ := Option.bind_eq_some_iff.mp h
    replace h := xI_ok h
    obtain ⟨v4, P1, rfl, h⟩ := h
    refine x_callV (c_X11_passes hl e3) dX11_readLine_175 cw_X11_passes wl_X11_166 wi_X11_passes wse_X11_passes rfl e5 (by decide) rfl (by omega) (by decide) rfl (Nat.le_of_ble_eq_true rfl) rfl (fun v9 P9 hq9 => ?_) (fun i9 P9 hq9 => by cases hq9)
    cases hq9
    refine x_if_eq 207 dX11_readLine_178 (by decide) (fun q20 => ?_) (fun q20 => ?_)
    · rw [if_pos q20] at h
      refine x_iconst 1 dX11_readLine_207 (by decide) ?_
      cases h
      exact x_iret .boolean rfl rfl dX11_readLine_208 hQ
    · rw [if_neg q20] at h
      refine x_aload_nr dX11_readLine_181 rfl ?_
      refine x_iconst 0 dX11_readLine_182 (by decide) ?_
      obtain ⟨P6, e7, h⟩ := Option.bind_eq_some_iff.mp h
      refine k_wI e7 dX11_readLine_183 f_X11_157 (Or.inl (by decide)) rfl ?_
      refine x_aload_nr dX11_readLine_186 rfl ?_
      obtain ⟨_, e12, h⟩ := Option.bind_eq_some_iff.mp h
      obtain ⟨fse12, e12⟩ := kO_ok e12
      obtain ⟨r9, e10, h⟩ := Option.bind_eq_some_iff.mp h
      replace h := xI_ok h
      obtain ⟨v11, P8, rfl, h⟩ := h
      refine x_callV (c_X11_readCond hl e10) dX11_readLine_187 cw_X11_readCond wl_X11_160 wi_X11_readCond wse_X11_readCond rfl e12 (by decide) rfl (by omega) (by decide) rfl (Nat.le_of_ble_eq_true rfl) rfl (fun v9 P9 hq9 => ?_) (fun i9 P9 hq9 => by cases hq9)
      cases hq9
      refine x_if_ne 195 dX11_readLine_190 (by decide) (fun q19 => ?_) (fun q19 => ?_)
      · rw [if_pos q19] at h
        refine x_aload_nr dX11_readLine_195 rfl ?_
        obtain ⟨v13, e14, h⟩ := Option.bind_eq_some_iff.mp h
        refine k_rA e14 dX11_readLine_196 f_X11_20 ?_
        refine x_iload_n dX11_readLine_199 rfl ?_
        refine x_iconst 3 dX11_readLine_200 (by decide) ?_
        refine x_iadd dX11_readLine_201 ?_
        refine x_aload_nr dX11_readLine_202 rfl ?_
        obtain ⟨v15, e16, h⟩ := Option.bind_eq_some_iff.mp h
        refine k_rI e16 dX11_readLine_203 f_X11_151 ?_
        obtain ⟨P17, e18, h⟩ := Option.bind_eq_some_iff.mp h
        refine k_sI e18 dX11_readLine_206 ?_
        refine x_iconst 1 dX11_readLine_207 (by decide) ?_
        cases h
        exact x_iret .boolean rfl rfl dX11_readLine_208 hQ
      · rw [if_neg (fun z9 => z9 q19)] at h
        refine x_iconst 0 dX11_readLine_193 (by decide) ?_
        cases h
        exact x_iret .boolean rfl rfl dX11_readLine_194 hQ
  · rw [if_neg (fun z9 => z9 q21)] at h
    refine x_iconst 1 dX11_readLine_170 (by decide) ?_
    cases h
    exact x_iret .boolean rfl rfl dX11_readLine_171 hQ
theorem s_X11_readLine {G : xG} {l : Launch} (hl : l.stackTraces = false) : ∀ n pc env P z, f_X11_readLine n pc env P = some z → ∀ L st, lay_X11_readLine pc env = some (L, st) → ∀ Q : xR → xH → Prop, Q z.1 z.2 → Wp G l 40 mX11_readLine pc L st P Q := by
  intro n
  induction n with
  | zero => intro pc env P z h; cases h
  | succ n ih =>
    intro pc env P z h L st hlay Q hQ
    unfold f_X11_readLine at h
    split at h
    · cases hlay
      exact t_X11_readLine_0 hl ih h hQ
    · cases hlay
      exact t_X11_readLine_71 hl ih h hQ
    · cases hlay
      exact t_X11_readLine_127 hl ih h hQ
    · cases hlay
      exact t_X11_readLine_148 hl ih h hQ
    · cases hlay
      exact t_X11_readLine_165 hl ih h hQ
    · cases h
theorem c_X11_readLine {G : xG} {l : Launch} (hl : l.stackTraces = false) {n : Nat} {as : List Value} {P : xH} {z : xR × xH} (h : f_X11_readLine n 0 as P = some z) : Ct G l 40 mX11_readLine as P (fun r P1 => (r, P1) = z) := by
  cases n with
  | zero => cases h
  | succ n =>
    unfold f_X11_readLine at h
    split at h
    · exact Ct.of hl (by decide +kernel) wc_X11_readLine (Nat.le_of_ble_eq_true rfl) (t_X11_readLine_0 hl (s_X11_readLine hl _) h rfl)
    all_goals first | (cases h; done) | (rename_i q9 _; exact absurd q9 (by decide)) | (rename_i q9; exact absurd q9 (by decide)) | contradiction
