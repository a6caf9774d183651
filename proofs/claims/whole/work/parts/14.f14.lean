/-! QuakeNetModel.phoneAt(II)I -/
def b_X11_phoneAt_0 (n : Nat) (rec : Nat → List Value → xH → xO) (a0 : Int32) (a1 : Int32) (P : xH) : xO :=
  some (.inl (some (.int ((((1 + ((5 * a0)))) + a1)))), P)
def lay_X11_phoneAt : Nat → List Value → Option (xL × List Value)
  | 0, [a0, a1] => some ([some a0, some a1], [])
  | _, _ => none
def f_X11_phoneAt : Nat → Nat → List Value → xH → xO
  | 0 => fun _ _ _ => none
  | n + 1 => fun pc env P => match pc, env with
    | 0, [.int a0, .int a1] => b_X11_phoneAt_0 n (f_X11_phoneAt n) a0 a1 P
    | _, _ => none
set_option maxHeartbeats 2000000 in
set_option maxRecDepth 20000 in
theorem t_X11_phoneAt_0 {G : xG} {l : Launch} (hl : l.stackTraces = false) {n : Nat} {rec : Nat → List Value → xH → xO} (hrec : ∀ pc env P z, rec pc env P = some z → ∀ L st, lay_X11_phoneAt pc env = some (L, st) → ∀ Q : xR → xH → Prop, Q z.1 z.2 → Wp G l 3 mX11_phoneAt pc L st P Q) {a0 a1} {P : xH} {z : xR × xH} (h : b_X11_phoneAt_0 n rec a0 a1 P = some z) {Q : xR → xH → Prop} (hQ : Q z.1 z.2) : Wp G l 3 mX11_phoneAt 0 [some (.int a0), some (.int a1)] [] P Q := by
  unfold b_X11_phoneAt_0 at h
  refine x_iconst 1 dX11_phoneAt_0 (by decide) ?_
  refine x_iconst 5 dX11_phoneAt_1 (by decide) ?_
  refine x_iload_n dX11_phoneAt_2 rfl ?_
  refine x_imul dX11_phoneAt_3 ?_
  refine x_iadd dX11_phoneAt_4 ?_
  refine x_iload_n dX11_phoneAt_5 rfl ?_
  refine x_iadd dX11_phoneAt_6 ?_
  cases h
  exact x_iret .int rfl rfl dX11_phoneAt_7 hQ
theorem s_X11_phoneAt {G : xG} {l : Launch} (hl : l.stackTraces = false) : ∀ n pc env P z, f_X11_phoneAt n pc env P = some z → ∀ L st, lay_X11_phoneAt pc env = some (L, st) → ∀ Q : xR → xH → Prop, Q z.1 z.2 → Wp G l 3 mX11_phoneAt pc L st P Q := by
  intro n
  induction n with
  | zero => intro pc env P z h; cases h
  | succ n ih =>
    intro pc env P z h L st hlay Q hQ
    unfold f_X11_phoneAt at h
    split at h
    · cases hlay
      exact t_X11_phoneAt_0 hl ih h hQ
    · cases h
theorem c_X11_phoneAt {G : xG} {l : Launch} (hl : l.stackTraces = false) {n : Nat} {as : List Value} {P : xH} {z : xR × xH} (h : f_X11_phoneAt n 0 as P = some z) : Ct G l 3 mX11_phoneAt as P (fun r P1 => (r, P1) = z) := by
  cases n with
  | zero => cases h
  | succ n =>
    unfold f_X11_phoneAt at h
    split at h
    · exact Ct.of hl (by decide +kernel) wc_X11_phoneAt (Nat.le_of_ble_eq_true rfl) (t_X11_phoneAt_0 hl (s_X11_phoneAt hl _) h rfl)
    all_goals first | (cases h; done) | (rename_i q9 _; exact absurd q9 (by decide)) | (rename_i q9; exact absurd q9 (by decide)) | contradiction
/-! QuakeNetModel.phones()I -/
def b_X11_phones_0 (n : Nat) (rec : Nat → List Value → xH → xO) (a0 : Nat) (P : xH) : xO :=
  (rA P a0 11 3).bind fun v1 =>
  (aI P v1 0).bind fun v3 =>
  some (.inl (some (.int v3)), P)
def lay_X11_phones : Nat → List Value → Option (xL × List Value)
  | 0, [a0] => some ([some a0], [])
  | _, _ => none
def f_X11_phones : Nat → Nat → List Value → xH → xO
  | 0 => fun _ _ _ => none
  | n + 1 => fun pc env P => match pc, env with
    | 0, [.ref a0] => b_X11_phones_0 n (f_X11_phones n) a0 P
    | _, _ => none
set_option maxHeartbeats 2000000 in
set_option maxRecDepth 20000 in
theorem t_X11_phones_0 {G : xG} {l : Launch} (hl : l.stackTraces = false) {n : Nat} {rec : Nat → List Value → xH → xO} (hrec : ∀ pc env P z, rec pc env P = some z → ∀ L st, lay_X11_phones pc env = some (L, st) → ∀ Q : xR → xH → Prop, Q z.1 z.2 → Wp G l 3 mX11_phones pc L st P Q) {a0} {P : xH} {z : xR × xH} (h : b_X11_phones_0 n rec a0 P = some z) {Q : xR → xH → Prop} (hQ : Q z.1 z.2) : Wp G l 3 mX11_phones 0 [some (.ref a0)] [] P Q := by
  unfold b_X11_phones_0 at h
  refine x_aload_nr dX11_phones_0 rfl ?_
  obtain ⟨v1, e2, h⟩ := Option.bind_eq_some_iff.mp h
  refine k_rA e2 dX11_phones_1 f_X11_20 ?_
  refine x_iconst 0 dX11_phones_4 (by decide) ?_
  obtain ⟨v3, e4, h⟩ := Option.bind_eq_some_iff.mp h
  refine k_aI e4 dX11_phones_5 ?_
  cases h
  exact x_iret .int rfl rfl dX11_phones_6 hQ
theorem s_X11_phones {G : xG} {l : Launch} (hl : l.stackTraces = false) : ∀ n pc env P z, f_X11_phones n pc env P = some z → ∀ L st, lay_X11_phones pc env = some (L, st) → ∀ Q : xR → xH → Prop, Q z.1 z.2 → Wp G l 3 mX11_phones pc L st P Q := by
  intro n
  induction n with
  | zero => intro pc env P z h; cases h
  | succ n ih =>
    intro pc env P z h L st hlay Q hQ
    unfold f_X11_phones at h
    split at h
    · cases hlay
      exact t_X11_phones_0 hl ih h hQ
    · cases h
theorem c_X11_phones {G : xG} {l : Launch} (hl : l.stackTraces = false) {n : Nat} {as : List Value} {P : xH} {z : xR × xH} (h : f_X11_phones n 0 as P = some z) : Ct G l 3 mX11_phones as P (fun r P1 => (r, P1) = z) := by
  cases n with
  | zero => cases h
  | succ n =>
    unfold f_X11_phones at h
    split at h
    · exact Ct.of hl (by decide +kernel) wc_X11_phones (Nat.le_of_ble_eq_true rfl) (t_X11_phones_0 hl (s_X11_phones hl _) h rfl)
    all_goals first | (cases h; done) | (rename_i q9 _; exact absurd q9 (by decide)) | (rename_i q9; exact absurd q9 (by decide)) | contradiction
/-! QuakeNetModel.throwsIf(ZI)Z -/
def b_X11_throwsIf_0 (n : Nat) (rec : Nat → List Value → xH → xO) (a0 : Nat) (a1 : Int32) (a2 : Int32) (P : xH) : xO :=
  if a1 = 0 then
    if a1 = 0 ∨ a1 = 1 then some (.inl (some (.int a1)), P) else none
  else
    (wV P a0 11 0 (.int a2)).bind fun P2 =>
    if a1 = 0 ∨ a1 = 1 then some (.inl (some (.int a1)), P2) else none
def lay_X11_throwsIf : Nat → List Value → Option (xL × List Value)
  | 0, [a0, a1, a2] => some ([some a0, some a1, some a2], [])
  | _, _ => none
def f_X11_throwsIf : Nat → Nat → List Value → xH → xO
  | 0 => fun _ _ _ => none
  | n + 1 => fun pc env P => match pc, env with
    | 0, [.ref a0, .int a1, .int a2] => b_X11_throwsIf_0 n (f_X11_throwsIf n) a0 a1 a2 P
    | _, _ => none
set_option maxHeartbeats 2000000 in
set_option maxRecDepth 20000 in
theorem t_X11_throwsIf_0 {G : xG} {l : Launch} (hl : l.stackTraces = false) {n : Nat} {rec : Nat → List Value → xH → xO} (hrec : ∀ pc env P z, rec pc env P = some z → ∀ L st, lay_X11_throwsIf pc env = some (L, st) → ∀ Q : xR → xH → Prop, Q z.1 z.2 → Wp G l 3 mX11_throwsIf pc L st P Q) {a0 a1 a2} {P : xH} {z : xR × xH} (h : b_X11_throwsIf_0 n rec a0 a1 a2 P = some z) {Q : xR → xH → Prop} (hQ : Q z.1 z.2) : Wp G l 3 mX11_throwsIf 0 [some (.ref a0), some (.int a1), some (.int a2)] [] P Q := by
  unfold b_X11_throwsIf_0 at h
  refine x_iload_n dX11_throwsIf_0 rfl ?_
  refine x_if_eq 9 dX11_throwsIf_1 (by decide) (fun q5 => ?_) (fun q5 => ?_)
  · rw [if_pos q5] at h
    refine x_iload_n dX11_throwsIf_9 rfl ?_
    by_cases q1 : a1 = 0 ∨ a1 = 1
    · rw [if_pos q1] at h
      cases h
      exact x_iret .boolean rfl (by rcases q1 with z9 | z9 <;> rw [z9] <;> rfl) dX11_throwsIf_10 hQ
    · rw [if_neg q1] at h
      cases h
  · rw [if_neg q5] at h
    refine x_aload_nr dX11_throwsIf_4 rfl ?_
    refine x_iload_n dX11_throwsIf_5 rfl ?_
    obtain ⟨P2, e3, h⟩ := Option.bind_eq_some_iff.mp h
    refine k_wI e3 dX11_throwsIf_6 f_X11_3 (Or.inl (by decide)) rfl ?_
    refine x_iload_n dX11_throwsIf_9 rfl ?_
    by_cases q4 : a1 = 0 ∨ a1 = 1
    · rw [if_pos q4] at h
      cases h
      exact x_iret .boolean rfl (by rcases q4 with z9 | z9 <;> rw [z9] <;> rfl) dX11_throwsIf_10 hQ
    · rw [if_neg q4] at h
      cases h
theorem s_X11_throwsIf {G : xG} {l : Launch} (hl : l.stackTraces = false) : ∀ n pc env P z, f_X11_throwsIf n pc env P = some z → ∀ L st, lay_X11_throwsIf pc env = some (L, st) → ∀ Q : xR → xH → Prop, Q z.1 z.2 → Wp G l 3 mX11_throwsIf pc L st P Q := by
  intro n
  induction n with
  | zero => intro pc env P z h; cases h
  | succ n ih =>
    intro pc env P z h L st hlay Q hQ
    unfold f_X11_throwsIf at h
    split at h
    · cases hlay
      exact t_X11_throwsIf_0 hl ih h hQ
    · cases h
theorem c_X11_throwsIf {G : xG} {l : Launch} (hl : l.stackTraces = false) {n : Nat} {as : List Value} {P : xH} {z : xR × xH} (h : f_X11_throwsIf n 0 as P = some z) : Ct G l 3 mX11_throwsIf as P (fun r P1 => (r, P1) = z) := by
  cases n with
  | zero => cases h
  | succ n =>
    unfold f_X11_throwsIf at h
    split at h
    · exact Ct.of hl (by decide +kernel) wc_X11_throwsIf (Nat.le_of_ble_eq_true rfl) (t_X11_throwsIf_0 hl (s_X11_throwsIf hl _) h rfl)
    all_goals first | (cases h; done) | (rename_i q9 _; exact absurd q9 (by decide)) | (rename_i q9; exact absurd q9 (by decide)) | contradiction
/-! QuakeNetModel.tick()I -/
def b_X11_tick_0 (n : Nat) (rec : Nat → List Value → xH → xO) (a0 : Nat) (P : xH) : xO :=
  (rA P a0 11 1).bind fun v1 =>
  (aI P v1 0).bind fun v3 =>
  some (.inl (some (.int v3)), P)
def lay_X11_tick : Nat → List Value → Option (xL × List Value)
  | 0, [a0] => some ([some a0], [])
  | _, _ => none
def f_X11_tick : Nat → Nat → List Value → xH → xO
  | 0 => fun _ _ _ => none
  | n + 1 => fun pc env P => match pc, env with
    | 0, [.ref a0] => b_X11_tick_0 n (f_X11_tick n) a0 P
    | _, _ => none
set_option maxHeartbeats 2000000 in
set_option maxRecDepth 20000 in
theorem t_X11_tick_0 {G : xG} {l : Launch} (hl : l.stackTraces = false) {n : Nat} {rec : Nat → List Value → xH → xO} (hrec : ∀ pc env P z, rec pc env P = some z → ∀ L st, lay_X11_tick pc env = some (L, st) → ∀ Q : xR → xH → Prop, Q z.1 z.2 → Wp G l 3 mX11_tick pc L st P Q) {a0} {P : xH} {z : xR × xH} (h : b_X11_tick_0 n rec a0 P = some z) {Q : xR → xH → Prop} (hQ : Q z.1 z.2) : Wp G l 3 mX11_tick 0 [some (.ref a0)] [] P Q := by
  unfold b_X11_tick_0 at h
  refine x_aload_nr dX11_tick_0 rfl ?_
  obtain ⟨v1, e2, h⟩ := Option.bind_eq_some_iff.mp h
  refine k_rA e2 dX11_tick_1 f_X11_13 ?_
  refine x_iconst 0 dX11_tick_4 (by decide) ?_
  obtain ⟨v3, e4, h⟩ := Option.bind_eq_some_iff.mp h
  refine k_aI e4 dX11_tick_5 ?_
  cases h
  exact x_iret .int rfl rfl dX11_tick_6 hQ
theorem s_X11_tick {G : xG} {l : Launch} (hl : l.stackTraces = false) : ∀ n pc env P z, f_X11_tick n pc env P = some z → ∀ L st, lay_X11_tick pc env = some (L, st) → ∀ Q : xR → xH → Prop, Q z.1 z.2 → Wp G l 3 mX11_tick pc L st P Q := by
  intro n
  induction n with
  | zero => intro pc env P z h; cases h
  | succ n ih =>
    intro pc env P z h L st hlay Q hQ
    unfold f_X11_tick at h
    split at h
    · cases hlay
      exact t_X11_tick_0 hl ih h hQ
    · cases h
theorem c_X11_tick {G : xG} {l : Launch} (hl : l.stackTraces = false) {n : Nat} {as : List Value} {P : xH} {z : xR × xH} (h : f_X11_tick n 0 as P = some z) : Ct G l 3 mX11_tick as P (fun r P1 => (r, P1) = z) := by
  cases n with
  | zero => cases h
  | succ n =>
    unfold f_X11_tick at h
    split at h
    · exact Ct.of hl (by decide +kernel) wc_X11_tick (Nat.le_of_ble_eq_true rfl) (t_X11_tick_0 hl (s_X11_tick hl _) h rfl)
    all_goals first | (cases h; done) | (rename_i q9 _; exact absurd q9 (by decide)) | (rename_i q9; exact absurd q9 (by decide)) | contradiction
/-! QuakeNetModel.phone(IIII)I -/
def b_X11_phone_0 (n : Nat) (rec : Nat → List Value → xH → xO) (a0 : Nat) (a1 : Int32) (a2 : Int32) (a3 : Int32) (a4 : Int32) (P : xH) : xO :=
  (wV P a0 11 0 (.int 0)).bind fun P1 =>
  (f_X11_noPlace n 0 [.int a1] P1).bind fun r4 => xI r4 fun v6 P3 =>
  (kO P3 a0 11).bind fun _ =>
  (f_X11_throwsIf n 0 [.ref a0, .int v6, .int 1] P3).bind fun r8 => xI r8 fun v10 P7 =>
  if ¬ v10 = 0 then
    some (.inl (some (.int 0)), P7)
  else
    (f_X11_in n 0 [.int a2, .int 0, .int 1000] P7).bind fun r13 => xI r13 fun v15 P12 =>
    if v15 = 0 then
      rec 55 [.ref a0, .int a1, .int a2, .int a3, .int a4, .ref a0, .int 1] P12
    else
      (f_X11_in n 0 [.int a3, .int 1, .int 12] P12).bind fun r17 => xI r17 fun v19 P16 =>
      if v19 = 0 then
        rec 55 [.ref a0, .int a1, .int a2, .int a3, .int a4, .ref a0, .int 1] P16
      else
        (f_X11_in n 0 [.int a4, .int 0, .int 9] P16).bind fun r21 => xI r21 fun v23 P20 =>
        if ¬ v23 = 0 then
          rec 55 [.ref a0, .int a1, .int a2, .int a3, .int a4, .ref a0, .int 0] P20
        else
          rec 55 [.ref a0, .int a1, .int a2, .int a3, .int a4, .ref a0, .int 1] P20
def b_X11_phone_55 (n : Nat) (rec : Nat → List Value → xH → xO) (a0 : Nat) (a1 : Int32) (a2 : Int32) (a3 : Int32) (a4 : Int32) (s0 : Nat) (s1 : Int32) (P : xH) : xO :=
  (kO P s0 11).bind fun _ =>
  (f_X11_throwsIf n 0 [.ref s0, .int s1, .int 2] P).bind fun r2 => xI r2 fun v4 P1 =>
  if ¬ v4 = 0 then
    some (.inl (some (.int 0)), P1)
  else
    (kO P1 a0 11).bind fun _ =>
    (f_X11_phones n 0 [.ref a0] P1).bind fun r7 => xI r7 fun v9 P6 =>
    if ¬ v9 = 10 then
      rec 77 [.ref a0, .int a1, .int a2, .int a3, .int a4, .ref a0, .int 0] P6
    else
      rec 77 [.ref a0, .int a1, .int a2, .int a3, .int a4, .ref a0, .int 1] P6
def b_X11_phone_77 (n : Nat) (rec : Nat → List Value → xH → xO) (a0 : Nat) (a1 : Int32) (a2 : Int32) (a3 : Int32) (a4 : Int32) (s0 : Nat) (s1 : Int32) (P : xH) : xO :=
  (kO P s0 11).bind fun _ =>
  (f_X11_throwsIf n 0 [.ref s0, .int s1, .int 3] P).bind fun r2 => xI r2 fun v4 P1 =>
  if ¬ v4 = 0 then
    some (.inl (some (.int 0)), P1)
  else
    (kO P1 a0 11).bind fun _ =>
    (f_X11_tick n 0 [.ref a0] P1).bind fun r7 => xI r7 fun v9 P6 =>
    if v9 ≤ 0 then
      rec 97 [.ref a0, .int a1, .int a2, .int a3, .int a4, .ref a0, .int 0] P6
    else
      rec 97 [.ref a0, .int a1, .int a2, .int a3, .int a4, .ref a0, .int 1] P6
def b_X11_phone_97 (n : Nat) (rec : Nat → List Value → xH → xO) (a0 : Nat) (a1 : Int32) (a2 : Int32) (a3 : Int32) (a4 : Int32) (s0 : Nat) (s1 : Int32) (P : xH) : xO :=
  (kO P s0 11).bind fun _ =>
  (f_X11_throwsIf n 0 [.ref s0, .int s1, .int 4] P).bind fun r2 => xI r2 fun v4 P1 =>
  if v4 = 0 then
    (kO P1 a0 11).bind fun _ =>
    (f_X11_phones n 0 [.ref a0] P1).bind fun r7 => xI r7 fun v9 P6 =>
    (rA P6 a0 11 3).bind fun v11 =>
    (aI P6 v11 0).bind fun v13 =>
    (sI P6 v11 0 ((v13 + 1))).bind fun P15 =>
    (rA P15 a0 11 3).bind fun v17 =>
    (sI P15 v17 ((11 + ((3 * v9)))) a1).bind fun P19 =>
    (rA P19 a0 11 3).bind fun v21 =>
    (sI P19 v21 ((((11 + ((3 * v9)))) + 1)) a3).bind fun P23 =>
    (rA P23 a0 11 3).bind fun v25 =>
    (sI P23 v25 ((((11 + ((3 * v9)))) + 2)) a4).bind fun P27 =>
    rec 169 [.ref a0, .int a1, .int a2, .int a3, .int a4, .int v9, .int 0] P27
  else
    some (.inl (some (.int 0)), P1)
def b_X11_phone_169 (n : Nat) (rec : Nat → List Value → xH → xO) (a0 : Nat) (a1 : Int32) (a2 : Int32) (a3 : Int32) (a4 : Int32) (a5 : Int32) (a6 : Int32) (P : xH) : xO :=
  if 5 ≤ a6 then
    (rA P a0 11 1).bind fun v1 =>
    (f_X11_phoneAt n 0 [.int a5, .int 0] P).bind fun r4 => xI r4 fun v6 P3 =>
    (sI P3 v1 v6 a1).bind fun P7 =>
    (rA P7 a0 11 1).bind fun v9 =>
    (f_X11_phoneAt n 0 [.int a5, .int 1] P7).bind fun r12 => xI r12 fun v14 P11 =>
    (sI P11 v9 v14 a2).bind fun P15 =>
    rec 221 [.ref a0, .int a1, .int a2, .int a3, .int a4, .int a5, .int 0] P15
  else
    (rA P a0 11 1).bind fun v17 =>
    (f_X11_phoneAt n 0 [.int a5, .int a6] P).bind fun r20 => xI r20 fun v22 P19 =>
    (sI P19 v17 v22 0).bind fun P23 =>
    rec 169 [.ref a0, .int a1, .int a2, .int a3, .int a4, .int a5, .int ((a6 + 1))] P23
def b_X11_phone_221 (n : Nat) (rec : Nat → List Value → xH → xO) (a0 : Nat) (a1 : Int32) (a2 : Int32) (a3 : Int32) (a4 : Int32) (a5 : Int32) (a6 : Int32) (P : xH) : xO :=
  if 30 ≤ a6 then
    some (.inl (some (.int a5)), P)
  else
    (rA P a0 11 1).bind fun v1 =>
    (f_X11_copyAt n 0 [.int a5, .int a6, .int 0] P).bind fun r4 => xI r4 fun v6 P3 =>
    (sI P3 v1 v6 0).bind fun P7 =>
    rec 221 [.ref a0, .int a1, .int a2, .int a3, .int a4, .int a5, .int ((a6 + 1))] P7
def lay_X11_phone : Nat → List Value → Option (xL × List Value)
  | 0, [a0, a1, a2, a3, a4] => some ([some a0, some a1, some a2, some a3, some a4, none, none], [])
  | 55, [a0, a1, a2, a3, a4, s0, s1] => some ([some a0, some a1, some a2, some a3, some a4, none, none], [s1, s0])
  | 77, [a0, a1, a2, a3, a4, s0, s1] => some ([some a0, some a1, some a2, some a3, some a4, none, none], [s1, s0])
  | 97, [a0, a1, a2, a3, a4, s0, s1] => some ([some a0, some a1, some a2, some a3, some a4, none, none], [s1, s0])
  | 169, [a0, a1, a2, a3, a4, a5, a6] => some ([some a0, some a1, some a2, some a3, some a4, some a5, some a6], [])
  | 221, [a0, a1, a2, a3, a4, a5, a6] => some ([some a0, some a1, some a2, some a3, some a4, some a5, some a6], [])
  | _, _ => none
def f_X11_phone : Nat → Nat → List Value → xH → xO
  | 0 => fun _ _ _ => none
  | n + 1 => fun pc env P => match pc, env with
    | 0, [.ref a0, .int a1, .int a2, .int a3, .int a4] => b_X11_phone_0 n (f_X11_phone n) a0 a1 a2 a3 a4 P
    | 55, [.ref a0, .int a1, .int a2, .int a3, .int a4, .ref s0, .int s1] => b_X11_phone_55 n (f_X11_phone n) a0 a1 a2 a3 a4 s0 s1 P
    | 77, [.ref a0, .int a1, .int a2, .int a3, .int a4, .ref s0, .int s1] => b_X11_phone_77 n (f_X11_phone n) a0 a1 a2 a3 a4 s0 s1 P
    | 97, [.ref a0, .int a1, .int a2, .int a3, .int a4, .ref s0, .int s1] => b_X11_phone_97 n (f_X11_phone n) a0 a1 a2 a3 a4 s0 s1 P
    | 169, [.ref a0, .int a1, .int a2, .int a3, .int a4, .int a5, .int a6] => b_X11_phone_169 n (f_X11_phone n) a0 a1 a2 a3 a4 a5 a6 P
    | 221, [.ref a0, .int a1, .int a2, .int a3, .int a4, .int a5, .int a6] => b_X11_phone_221 n (f_X11_phone n) a0 a1 a2 a3 a4 a5 a6 P
    | _, _ => none
set_option maxHeartbeats 2000000 in
set_option maxRecDepth 20000 in
theorem t_X11_phone_0 {G : xG} {l : Launch} (hl : l.stackTraces = false) {n : Nat} {rec : Nat → List Value → xH → xO} (hrec : ∀ pc env P z, rec pc env P = some z → ∀ L st, lay_X11_phone pc env = some (L, st) → ∀ Q : xR → xH → Prop, Q z.1 z.2 → Wp G l 5 mX11_phone pc L st P Q) {a0 a1 a2 a3 a4} {P : xH} {z : xR × xH} (h : b_X11_phone_0 n rec a0 a1 a2 a3 a4 P = some z) {Q : xR → xH → Prop} (hQ : Q z.1 z.2) : Wp G l 5 mX11_phone 0 [some (.ref a0), some (.int a1), some (.int a2), some (.int a3), some (.int a4), none, none] [] P Q := by
  unfold b_X11_phone_0 at h
  refine x_aload_nr dX11_phone_0 rfl ?_
  refine x_iconst 0 dX11_phone_1 (by decide) ?_
  obtain ⟨P1, e2, h⟩ := Option.bind_eq_some_iff.mp h
  refine k_wI e2 dX11_phone_2 f_X11_3 (Or.inl (by decide)) rfl ?_
  refine x_aload_nr dX11_phone_5 rfl ?_
  refine x_iload_n dX11_phone_6 rfl ?_
  obtain ⟨r4, e5, h⟩ := Option.bind_eq_some_iff.mp h
  replace h := xI_ok h
  obtain ⟨v6, P3, rfl, h⟩ := h
  refine x_callS (c_X11_noPlace hl e5) dX11_phone_7 cw_X11_noPlace wl_X11_89 ws_X11_noPlace rfl (by omega) (by decide) rfl (Nat.le_of_ble_eq_true rfl) rfl (fun v9 P9 hq9 => ?_) (fun i9 P9 hq9 => by cases hq9)
  cases hq9
  refine x_iconst 1 dX11_phone_10 (by decide) ?_
  obtain ⟨_, e11, h⟩ := Option.bind_eq_some_iff.mp h
  obtain ⟨fse11, e11⟩ := kO_ok e11
  obtain ⟨r8, e9, h⟩ := Option.bind_eq_some_iff.mp h
  replace h := xI_ok h
  obtain ⟨v10, P7, rfl, h⟩ := h
  refine x_callV (c_X11_throwsIf hl e9) dX11_phone_11 cw_X11_throwsIf wl_X11_93 wi_X11_throwsIf wse_X11_throwsIf rfl e11 (by decide) rfl (by omega) (by decide) rfl (Nat.le_of_ble_eq_true rfl) rfl (fun v9 P9 hq9 => ?_) (fun i9 P9 hq9 => by cases hq9)
  cases hq9
  refine x_if_ne 104 dX11_phone_14 (by decide) (fun q27 => ?_) (fun q27 => ?_)
  · rw [if_pos q27] at h
    refine x_iconst 0 dX11_phone_104 (by decide) ?_
    cases h
    exact x_iret .int rfl rfl dX11_phone_105 hQ
  · rw [if_neg (fun z9 => z9 q27)] at h
    refine x_aload_nr dX11_phone_17 rfl ?_
    refine x_iload_n dX11_phone_18 rfl ?_
    refine x_iconst 0 dX11_phone_19 (by decide) ?_
    refine x_sipush 1000 dX11_phone_20 (by decide) ?_
    obtain ⟨r13, e14, h⟩ := Option.bind_eq_some_iff.mp h
    replace h := xI_ok h
    obtain ⟨v15, P12, rfl, h⟩ := h
    refine x_callS (c_X11_in hl e14) dX11_phone_23 cw_X11_in wl_X11_68 ws_X11_in rfl (by omega) (by decide) rfl (Nat.le_of_ble_eq_true rfl) rfl (fun v9 P9 hq9 => ?_) (fun i9 P9 hq9 => by cases hq9)
    cases hq9
    refine x_if_eq 50 dX11_phone_26 (by decide) (fun q26 => ?_) (fun q26 => ?_)
    · rw [if_pos q26] at h
      refine x_iconst 1 dX11_phone_50 (by decide) ?_
      refine x_goto 55 dX11_phone_51 (by decide) ?_
      exact Wp.mask [true, true, true, true, true, false, false] (hrec 55 _ _ _ h _ _ rfl _ hQ)
    · rw [if_neg q26] at h
      refine x_iload_n dX11_phone_29 rfl ?_
      refine x_iconst 1 dX11_phone_30 (by decide) ?_
      refine x_bipush 12 dX11_phone_31 (by decide) ?_
      obtain ⟨r17, e18, h⟩ := Option.bind_eq_some_iff.mp h
      replace h := xI_ok h
      obtain ⟨v19, P16, rfl, h⟩ := h
      refine x_callS (c_X11_in hl e18) dX11_phone_33 cw_X11_in wl_X11_68 ws_X11_in rfl (by omega) (by decide) rfl (Nat.le_of_ble_eq_true rfl) rfl (fun v9 P9 hq9 => ?_) (fun i9 P9 hq9 => by cases hq9)
      cases hq9
      refine x_if_eq 50 dX11_phone_36 (by decide) (fun q25 => ?_) (fun q25 => ?_)
      · rw [if_pos q25] at h
        refine x_iconst 1 dX11_phone_50 (by decide) ?_
        refine x_goto 55 dX11_phone_51 (by decide) ?_
        exact Wp.mask [true, true, true, true, true, false, false] (hrec 55 _ _ _ h _ _ rfl _ hQ)
      · rw [if_neg q25] at h
        refine x_iload dX11_phone_39 rfl ?_
        refine x_iconst 0 dX11_phone_41 (by decide) ?_
        refine x_bipush 9 dX11_phone_42 (by decide) ?_
        obtain ⟨r21, e22, h⟩ := Option.bind_eq_some_iff.mp h
        replace h := xI_ok h
        obtain ⟨v23, P20, rfl, h⟩ := h
        refine x_callS (c_X11_in hl e22) dX11_phone_44 cw_X11_in wl_X11_68 ws_X11_in rfl (by omega) (by decide) rfl (Nat.le_of_ble_eq_true rfl) rfl (fun v9 P9 hq9 => ?_) (fun i9 P9 hq9 => by cases hq9)
        cases hq9
        refine x_if_ne 54 dX11_phone_47 (by decide) (fun q24 => ?_) (fun q24 => ?_)
        · rw [if_pos q24] at h
          refine x_iconst 0 dX11_phone_54 (by decide) ?_
          exact Wp.mask [true, true, true, true, true, false, false] (hrec 55 _ _ _ h _ _ rfl _ hQ)
        · rw [if_neg (fun z9 => z9 q24)] at h
          refine x_iconst 1 dX11_phone_50 (by decide) ?_
          refine x_goto 55 dX11_phone_51 (by decide) ?_
          exact Wp.mask [true, true, true, true, true, false, false] (hrec 55 _ _ _ h _ _ rfl _ hQ)
set_option maxHeartbeats 2000000 in
set_option maxRecDepth 20000 in
theorem t_X11_phone_55 {G : xG} {l : Launch} (hl : l.stackTraces = false) {n : Nat} {rec : Nat → List Value → xH → xO} (hrec : ∀ pc env P z, rec pc env P = some z → ∀ L st, lay_X11_phone pc env = some (L, st) → ∀ Q : xR → xH → Prop, Q z.1 z.2 → Wp G l 5 mX11_phone pc L st P Q) {a0 a1 a2 a3 a4 s0 s1} {P : xH} {z : xR × xH} (h : b_X11_phone_55 n rec a0 a1 a2 a3 a4 s0 s1 P = some z) {Q : xR → xH → Prop} (hQ : Q z.1 z.2) : Wp G l 5 mX11_phone 55 [some (.ref a0), some (.int a1), some (.int a2), some (.int a3), some (.int a4), none, none] [.int s1, .ref s0] P Q := by
  unfold b_X11_phone_55 at h
  refine x_iconst 2 dX11_phone_55 (by decide) ?_
  obtain ⟨_, e5, h⟩ := Option.bind_eq_some_iff.mp h
  obtain ⟨fse5, e5⟩ := kO_ok e5
  obtain ⟨r2, e3, h⟩ := Option.bind_eq_some_iff.mp h
  replace h := xI_ok h
  obtain ⟨v4, P1, rfl, h⟩ := h
  refine x_callV (c_X11_throwsIf hl e3) dX11_phone_56 cw_X11_throwsIf wl_X11_93 wi_X11_throwsIf wse_X11_throwsIf rfl e5 (by decide) rfl (by omega) (by decide) rfl (Nat.le_of_ble_eq_true rfl) rfl (fun v9 P9 hq9 => ?_) (fun i9 P9 hq9 => by cases hq9)
  cases hq9
  refine x_if_ne 104 dX11_phone_59 (by decide) (fun q12 => ?_) (fun q12 => ?_)
  · rw [if_pos q12] at h
    refine x_iconst 0 dX11_phone_104 (by decide) ?_
    cases h
    exact x_iret .int rfl rfl dX11_phone_105 hQ
  · rw [if_neg (fun z9 => z9 q12)] at h
    refine x_aload_nr dX11_phone_62 rfl ?_
    refine x_aload_nr dX11_phone_63 rfl ?_
    obtain ⟨_, e10, h⟩ := Option.bind_eq_some_iff.mp h
    obtain ⟨fse10, e10⟩ := kO_ok e10
    obtain ⟨r7, e8, h⟩ := Option.bind_eq_some_iff.mp h
    replace h := xI_ok h
    obtain ⟨v9, P6, rfl, h⟩ := h
    refine x_callV (c_X11_phones hl e8) dX11_phone_64 cw_X11_phones wl_X11_64 wi_X11_phones wse_X11_phones rfl e10 (by decide) rfl (by omega) (by decide) rfl (Nat.le_of_ble_eq_true rfl) rfl (fun v9 P9 hq9 => ?_) (fun i9 P9 hq9 => by cases hq9)
    cases hq9
    refine x_bipush 10 dX11_phone_67 (by decide) ?_
    refine x_icmp_ne 76 dX11_phone_69 (by decide) (fun q11 => ?_) (fun q11 => ?_)
    · rw [if_pos q11] at h
      refine x_iconst 0 dX11_phone_76 (by decide) ?_
      exact Wp.mask [true, true, true, true, true, false, false] (hrec 77 _ _ _ h _ _ rfl _ hQ)
    · rw [if_neg (fun z9 => z9 q11)] at h
      refine x_iconst 1 dX11_phone_72 (by decide) ?_
      refine x_goto 77 dX11_phone_73 (by decide) ?_
      exact Wp.mask [true, true, true, true, true, false, false] (hrec 77 _ _ _ h _ _ rfl _ hQ)
set_option maxHeartbeats 2000000 in
set_option maxRecDepth 20000 in
theorem t_X11_phone_77 {G : xG} {l : Launch} (hl : l.stackTraces = false) {n : Nat} {rec : Nat → List Value → xH → xO} (hrec : ∀ pc env P z, rec pc env P = some z → ∀ L st, lay_X11_phone pc env = some (L, st) → ∀ Q : xR → xH → Prop, Q z.1 z.2 → Wp G l 5 mX11_phone pc L st P Q) {a0 a1 a2 a3 a4 s0 s1} {P : xH} {z : xR × xH} (h : b_X11_phone_77 n rec a0 a1 a2 a3 a4 s0 s1 P = some z) {Q : xR → xH → Prop} (hQ : Q z.1 z.2) : Wp G l 5 mX11_phone 77 [some (.ref a0), some (.int a1), some (.int a2), some (.int a3), some (.int a4), none, none] [.int s1, .ref s0] P Q := by
  unfold b_X11_phone_77 at h
  refine x_iconst 3 dX11_phone_77 (by decide) ?_
  obtain ⟨_, e5, h⟩ := Option.bind_eq_some_iff.mp h
  obtain ⟨fse5, e5⟩ := kO_ok e5
  obtain ⟨r2, e3, h⟩ := Option.bind_eq_some_iff.mp h
  replace h := xI_ok h
  obtain ⟨v4, P1, rfl, h⟩ := h
  refine x_callV (c_X11_throwsIf hl e3) dX11_phone_78 cw_X11_throwsIf wl_X11_93 wi_X11_throwsIf wse_X11_throwsIf rfl e5 (by decide) rfl (by omega) (by decide) rfl (Nat.le_of_ble_eq_true rfl) rfl (fun v9 P9 hq9 => ?_) (fun i9 P9 hq9 => by cases hq9)
  cases hq9
  refine x_if_ne 104 dX11_phone_81 (by decide) (fun q12 => ?_) (fun q12 => ?_)
  · rw [if_pos q12] at h
    refine x_iconst 0 dX11_phone_104 (by decide) ?_
    cases h
    exact x_iret .int rfl rfl dX11_phone_105 hQ
  · rw [if_neg (fun z9 => z9 q12)] at h
    refine x_aload_nr dX11_phone_84 rfl ?_
    refine x_aload_nr dX11_phone_85 rfl ?_
    obtain ⟨_, e10, h⟩ := Option.bind_eq_some_iff.mp h
    obtain ⟨fse10, e10⟩ := kO_ok e10
    obtain ⟨r7, e8, h⟩ := Option.bind_eq_some_iff.mp h
    replace h := xI_ok h
    obtain ⟨v9, P6, rfl, h⟩ := h
    refine x_callV (c_X11_tick hl e8) dX11_phone_86 cw_X11_tick wl_X11_97 wi_X11_tick wse_X11_tick rfl e10 (by decide) rfl (by omega) (by decide) rfl (Nat.le_of_ble_eq_true rfl) rfl (fun v9 P9 hq9 => ?_) (fun i9 P9 hq9 => by cases hq9)
    cases hq9
    refine x_if_le 96 dX11_phone_89 (by decide) (fun q11 => ?_) (fun q11 => ?_)
    · rw [if_pos q11] at h
      refine x_iconst 0 dX11_phone_96 (by decide) ?_
      exact Wp.mask [true, true, true, true, true, false, false] (hrec 97 _ _ _ h _ _ rfl _ hQ)
    · rw [if_neg q11] at h
      refine x_iconst 1 dX11_phone_92 (by decide) ?_
      refine x_goto 97 dX11_phone_93 (by decide) ?_
      exact Wp.mask [true, true, true, true, true, false, false] (hrec 97 _ _ _ h _ _ rfl _ hQ)
set_option maxHeartbeats 2000000 in
set_option maxRecDepth 20000 in
theorem t_X11_phone_97 {G : xG} {l : Launch} (hl : l.stackTraces = false) {n : Nat} {rec : Nat → List Value → xH → xO} (hrec : ∀ pc env P z, rec pc env P = some z → ∀ L st, lay_X11_phone pc env = some (L, st) → ∀ Q : xR → xH → Prop, Q z.1 z.2 → Wp G l 5 mX11_phone pc L st P Q) {a0 a1 a2 a3 a4 s0 s1} {P : xH} {z : xR × xH} (h : b_X11_phone_97 n rec a0 a1 a2 a3 a4 s0 s1 P = some z) {Q : xR → xH → Prop} (hQ : Q z.1 z.2) : Wp G l 5 mX11_phone 97 [some (.ref a0), some (.int a1), some (.int a2), some (.int a3), some (.int a4), none, none] [.int s1, .ref s0] P Q := by
  unfold b_X11_phone_97 at h
  refine x_iconst 4 dX11_phone_97 (by decide) ?_
  obtain ⟨_, e5, h⟩ := Option.bind_eq_some_iff.mp h
  obtain ⟨fse5, e5⟩ := kO_ok e5
  obtain ⟨r2, e3, h⟩ := Option.bind_eq_some_iff.mp h
  replace h := xI_ok h
  obtain ⟨v4, P1, rfl, h⟩ := h
  refine x_callV (c_X11_throwsIf hl e3) dX11_phone_98 cw_X11_throwsIf wl_X11_93 wi_X11_throwsIf wse_X11_throwsIf rfl e5 (by decide) rfl (by omega) (by decide) rfl (Nat.le_of_ble_eq_true rfl) rfl (fun v9 P9 hq9 => ?_) (fun i9 P9 hq9 => by cases hq9)
  cases hq9
  refine x_if_eq 106 dX11_phone_101 (by decide) (fun q29 => ?_) (fun q29 => ?_)
  · rw [if_pos q29] at h
    refine x_aload_nr dX11_phone_106 rfl ?_
    obtain ⟨_, e10, h⟩ := Option.bind_eq_some_iff.mp h
    obtain ⟨fse10, e10⟩ := kO_ok e10
    obtain ⟨r7, e8, h⟩ := Option.bind_eq_some_iff.mp h
    replace h := xI_ok h
    obtain ⟨v9, P6, rfl, h⟩ := h
    refine x_callV (c_X11_phones hl e8) dX11_phone_107 cw_X11_phones wl_X11_64 wi_X11_phones wse_X11_phones rfl e10 (by decide) rfl (by omega) (by decide) rfl (Nat.le_of_ble_eq_true rfl) rfl (fun v9 P9 hq9 => ?_) (fun i9 P9 hq9 => by cases hq9)
    cases hq9
    refine x_istore dX11_phone_110 (Nat.le_of_ble_eq_true rfl) ?_
    refine x_aload_nr dX11_phone_112 rfl ?_
    obtain ⟨v11, e12, h⟩ := Option.bind_eq_some_iff.mp h
    refine k_rA e12 dX11_phone_113 f_X11_20 ?_
    refine x_iconst 0 dX11_phone_116 (by decide) ?_
    refine x_dup2 dX11_phone_117 rfl rfl ?_
    obtain ⟨v13, e14, h⟩ := Option.bind_eq_some_iff.mp h
    refine k_aI e14 dX11_phone_118 ?_
    refine x_iconst 1 dX11_phone_119 (by decide) ?_
    refine x_iadd dX11_phone_120 ?_
    obtain ⟨P15, e16, h⟩ := Option.bind_eq_some_iff.mp h
    refine k_sI e16 dX11_phone_121 ?_
    refine x_aload_nr dX11_phone_122 rfl ?_
    obtain ⟨v17, e18, h⟩ := Option.bind_eq_some_iff.mp h
    refine k_rA e18 dX11_phone_123 f_X11_20 ?_
    refine x_bipush 11 dX11_phone_126 (by decide) ?_
    refine x_iconst 3 dX11_phone_128 (by decide) ?_
    refine x_iload dX11_phone_129 rfl ?_
    refine x_imul dX11_phone_131 ?_
    refine x_iadd dX11_phone_132 ?_
    refine x_iload_n dX11_phone_133 rfl ?_
    obtain ⟨P19, e20, h⟩ := Option.bind_eq_some_iff.mp h
    refine k_sI e20 dX11_phone_134 ?_
    refine x_aload_nr dX11_phone_135 rfl ?_
    obtain ⟨v21, e22, h⟩ := Option.bind_eq_some_iff.mp h
    refine k_rA e22 dX11_phone_136 f_X11_20 ?_
    refine x_bipush 11 dX11_phone_139 (by decide) ?_
    refine x_iconst 3 dX11_phone_141 (by decide) ?_
    refine x_iload dX11_phone_142 rfl ?_
    refine x_imul dX11_phone_144 ?_
    refine x_iadd dX11_phone_145 ?_
    refine x_iconst 1 dX11_phone_146 (by decide) ?_
    refine x_iadd dX11_phone_147 ?_
    refine x_iload_n dX11_phone_148 rfl ?_
    obtain ⟨P23, e24, h⟩ := Option.bind_eq_some_iff.mp h
    refine k_sI e24 dX11_phone_149 ?_
    refine x_aload_nr dX11_phone_150 rfl ?_
    obtain ⟨v25, e26, h⟩ := Option.bind_eq_some_iff.mp h
    refine k_rA e26 dX11_phone_151 f_X11_20 ?_
    refine x_bipush 11 dX11_phone_154 (by decide) ?_
    refine x_iconst 3 dX11_phone_156 (by decide) ?_
    refine x_iload dX11_phone_157 rfl ?_
    refine x_imul dX11_phone_159 ?_
    refine x_iadd dX11_phone_160 ?_
    refine x_iconst 2 dX11_phone_161 (by decide) ?_
    refine x_iadd dX11_phone_162 ?_
    refine x_iload dX11_phone_163 rfl ?_
    obtain ⟨P27, e28, h⟩ := Option.bind_eq_some_iff.mp h
    refine k_sI e28 dX11_phone_165 ?_
    refine x_iconst 0 dX11_phone_166 (by decide) ?_
    refine x_istore dX11_phone_167 (Nat.le_of_ble_eq_true rfl) ?_
    exact Wp.mask [true, true, true, true, true, true, true] (hrec 169 _ _ _ h _ _ rfl _ hQ)
  · rw [if_neg q29] at h
    refine x_iconst 0 dX11_phone_104 (by decide) ?_
    cases h
    exact x_iret .int rfl rfl dX11_phone_105 hQ
set_option maxHeartbeats 2000000 in
set_option maxRecDepth 20000 in
theorem t_X11_phone_169 {G : xG} {l : Launch} (hl : l.stackTraces = false) {n : Nat} {rec : Nat → List Value → xH → xO} (hrec : ∀ pc env P z, rec pc env P = some z → ∀ L st, lay_X11_phone pc env = some (L, st) → ∀ Q : xR → xH → Prop, Q z.1 z.2 → Wp G l 5 mX11_phone pc L st P Q) {a0 a1 a2 a3 a4 a5 a6} {P : xH} {z : xR × xH} (h : b_X11_phone_169 n rec a0 a1 a2 a3 a4 a5 a6 P = some z) {Q : xR → xH → Prop} (hQ : Q z.1 z.2) : Wp G l 5 mX11_phone 169 [some (.ref a0), some (.int a1), some (.int a2), some (.int a3), some (.int a4), some (.int a5), some (.int a6)] [] P Q := by
  unfold b_X11_phone_169 at h
  refine x_iload dX11_phone_169 rfl ?_
  refine x_iconst 5 dX11_phone_171 (by decide) ?_
  refine x_icmp_ge 194 dX11_phone_172 (by decide) (fun q25 => ?_) (fun q25 => ?_)
  · rw [if_pos q25] at h
    refine x_aload_nr dX11_phone_194 rfl ?_
    obtain ⟨v1, e2, h⟩ := Option.bind_eq_some_iff.mp h
    refine k_rA e2 dX11_phone_195 f_X11_13 ?_
    refine x_iload dX11_phone_198 rfl ?_
    refine x_iconst 0 dX11_phone_200 (by decide) ?_
    obtain ⟨r4, e5, h⟩ := Option.bind_eq_some_iff.mp h
    replace h := xI_ok h
    obtain ⟨v6, P3, rfl, h⟩ := h
    refine x_callS (c_X11_phoneAt hl e5) dX11_phone_201 cw_X11_phoneAt wl_X11_100 ws_X11_phoneAt rfl (by omega) (by decide) rfl (Nat.le_of_ble_eq_true rfl) rfl (fun v9 P9 hq9 => ?_) (fun i9 P9 hq9 => by cases hq9)
    cases hq9
    refine x_iload_n dX11_phone_204 rfl ?_
    obtain ⟨P7, e8, h⟩ := Option.bind_eq_some_iff.mp h
    refine k_sI e8 dX11_phone_205 ?_
    refine x_aload_nr dX11_phone_206 rfl ?_
    obtain ⟨v9, e10, h⟩ := Option.bind_eq_some_iff.mp h
    refine k_rA e10 dX11_phone_207 f_X11_13 ?_
    refine x_iload dX11_phone_210 rfl ?_
    refine x_iconst 1 dX11_phone_212 (by decide) ?_
    obtain ⟨r12, e13, h⟩ := Option.bind_eq_some_iff.mp h
    replace h := xI_ok h
    obtain ⟨v14, P11, rfl, h⟩ := h
    refine x_callS (c_X11_phoneAt hl e13) dX11_phone_213 cw_X11_phoneAt wl_X11_100 ws_X11_phoneAt rfl (by omega) (by decide) rfl (Nat.le_of_ble_eq_true rfl) rfl (fun v9 P9 hq9 => ?_) (fun i9 P9 hq9 => by cases hq9)
    cases hq9
    refine x_iload_n dX11_phone_216 rfl ?_
    obtain ⟨P15, e16, h⟩ := Option.bind_eq_some_iff.mp h
    refine k_sI e16 dX11_phone_217 ?_
    refine x_iconst 0 dX11_phone_218 (by decide) ?_
    refine x_istore dX11_phone_219 (Nat.le_of_ble_eq_true rfl) ?_
    exact Wp.mask [true, true, true, true, true, true, true] (hrec 221 _ _ _ h _ _ rfl _ hQ)
  · rw [if_neg q25] at h
    refine x_aload_nr dX11_phone_175 rfl ?_
    obtain ⟨v17, e18, h⟩ := Option.bind_eq_some_iff.mp h
    refine k_rA e18 dX11_phone_176 f_X11_13 ?_
    refine x_iload dX11_phone_179 rfl ?_
    refine x_iload dX11_phone_181 rfl ?_
    obtain ⟨r20, e21, h⟩ := Option.bind_eq_some_iff.mp h
    replace h := xI_ok h
    obtain ⟨v22, P19, rfl, h⟩ := h
    refine x_callS (c_X11_phoneAt hl e21) dX11_phone_183 cw_X11_phoneAt wl_X11_100 ws_X11_phoneAt rfl (by omega) (by decide) rfl (Nat.le_of_ble_eq_true rfl) rfl (fun v9 P9 hq9 => ?_) (fun i9 P9 hq9 => by cases hq9)
    cases hq9
    refine x_iconst 0 dX11_phone_186 (by decide) ?_
    obtain ⟨P23, e24, h⟩ := Option.bind_eq_some_iff.mp h
    refine k_sI e24 dX11_phone_187 ?_
    refine x_iinc (a6 + 1) dX11_phone_188 rfl (by rfl) ?_
    refine x_goto 169 dX11_phone_191 (by decide) ?_
    exact Wp.mask [true, true, true, true, true, true, true] (hrec 169 _ _ _ h _ _ rfl _ hQ)
set_option maxHeartbeats 2000000 in
set_option maxRecDepth 20000 in
theorem t_X11_phone_221 {G : xG} {l : Launch} (hl : l.stackTraces = false) {n : Nat} {rec : Nat → List Value → xH → xO} (hrec : ∀ pc env P z, rec pc env P = some z → ∀ L st, lay_X11_phone pc env = some (L, st) → ∀ Q : xR → xH → Prop, Q z.1 z.2 → Wp G l 5 mX11_phone pc L st P Q) {a0 a1 a2 a3 a4 a5 a6} {P : xH} {z : xR × xH} (h : b_X11_phone_221 n rec a0 a1 a2 a3 a4 a5 a6 P = some z) {Q : xR → xH → Prop} (hQ : Q z.1 z.2) : Wp G l 5 mX11_phone 221 [some (.ref a0), some (.int a1), some (.int a2), some (.int a3), some (.int a4), some (.int a5), some (.int a6)] [] P Q := by
  unfold b_X11_phone_221 at h
  refine x_iload dX11_phone_221 rfl ?_
  refine x_bipush 30 dX11_phone_223 (by decide) ?_
  refine x_icmp_ge 248 dX11_phone_225 (by decide) (fun q9 => ?_) (fun q9 => ?_)
  · rw [if_pos q9] at h
    refine x_iload dX11_phone_248 rfl ?_
    cases h
    exact x_iret .int rfl rfl dX11_phone_250 hQ
  · rw [if_neg q9] at h
    refine x_aload_nr dX11_phone_228 rfl ?_
    obtain ⟨v1, e2, h⟩ := Option.bind_eq_some_iff.mp h
    refine k_rA e2 dX11_phone_229 f_X11_13 ?_
    refine x_iload dX11_phone_232 rfl ?_
    refine x_iload dX11_phone_234 rfl ?_
    refine x_iconst 0 dX11_phone_236 (by decide) ?_
    obtain ⟨r4, e5, h⟩ := Option.bind_eq_some_iff.mp h
    replace h := xI_ok h
    obtain ⟨v6, P3, rfl, h⟩ := h
    refine x_callS (c_X11_copyAt hl e5) dX11_phone_237 cw_X11_copyAt wl_X11_85 ws_X11_copyAt rfl (by omega) (by decide) rfl (Nat.le_of_ble_eq_true rfl) rfl (fun v9 P9 hq9 => ?_) (fun i9 P9 hq9 => by cases hq9)
    cases hq9
    refine x_iconst 0 dX11_phone_240 (by decide) ?_
    obtain ⟨P7, e8, h⟩ := Option.bind_eq_some_iff.mp h
    refine k_sI e8 dX11_phone_241 ?_
    refine x_iinc (a6 + 1) dX11_phone_242 rfl (by rfl) ?_
    refine x_goto 221 dX11_phone_245 (by decide) ?_
    exact Wp.mask [true, true, true, true, true, true, true] (hrec 221 _ _ _ h _ _ rfl _ hQ)
theorem s_X11_phone {G : xG} {l : Launch} (hl : l.stackTraces = false) : ∀ n pc env P z, f_X11_phone n pc env P = some z → ∀ L st, lay_X11_phone pc env = some (L, st) → ∀ Q : xR → xH → Prop, Q z.1 z.2 → Wp G l 5 mX11_phone pc L st P Q := by
  intro n
  induction n with
  | zero => intro pc env P z h; cases h
  | succ n ih =>
    intro pc env P z h L st hlay Q hQ
    unfold f_X11_phone at h
    split at h
    · cases hlay
      exact t_X11_phone_0 hl ih h hQ
    · cases hlay
      exact t_X11_phone_55 hl ih h hQ
    · cases hlay
      exact t_X11_phone_77 hl ih h hQ
    · cases hlay
      exact t_X11_phone_97 hl ih h hQ
    · cases hlay
      exact t_X11_phone_169 hl ih h hQ
    · cases hlay
      exact t_X11_phone_221 hl ih h hQ
    · cases h
theorem c_X11_phone {G : xG} {l : Launch} (hl : l.stackTraces = false) {n : Nat} {as : List Value} {P : xH} {z : xR × xH} (h : f_X11_phone n 0 as P = some z) : Ct G l 5 mX11_phone as P (fun r P1 => (r, P1) = z) := by
  cases n with
  | zero => cases h
  | succ n =>
    unfold f_X11_phone at h
    split at h
    · exact Ct.of hl (by decide +kernel) wc_X11_phone (Nat.le_of_ble_eq_true rfl) (t_X11_phone_0 hl (s_X11_phone hl _) h rfl)
    all_goals first | (cases h; done) | (rename_i q9 _; exact absurd q9 (by decide)) | (rename_i q9; exact absurd q9 (by decide)) | contradiction
/-! QuakeNetModel.noPhone(I)Z -/
def b_X11_noPhone_0 (n : Nat) (rec : Nat → List Value → xH → xO) (a0 : Nat) (a1 : Int32) (P : xH) : xO :=
  (kO P a0 11).bind fun _ =>
  (f_X11_phones n 0 [.ref a0] P).bind fun r2 => xI r2 fun v4 P1 =>
  (f_X11_in n 0 [.int a1, .int 0, .int ((v4 - 1))] P1).bind fun r7 => xI r7 fun v9 P6 =>
  if ¬ v9 = 0 then
    some (.inl (some (.int 0)), P6)
  else
    some (.inl (some (.int 1)), P6)
def lay_X11_noPhone : Nat → List Value → Option (xL × List Value)
  | 0, [a0, a1] => some ([some a0, some a1], [])
  | _, _ => none
def f_X11_noPhone : Nat → Nat → List Value → xH → xO
  | 0 => fun _ _ _ => none
  | n + 1 => fun pc env P => match pc, env with
    | 0, [.ref a0, .int a1] => b_X11_noPhone_0 n (f_X11_noPhone n) a0 a1 P
    | _, _ => none
set_option maxHeartbeats 2000000 in
set_option maxRecDepth 20000 in
theorem t_X11_noPhone_0 {G : xG} {l : Launch} (hl : l.stackTraces = false) {n : Nat} {rec : Nat → List Value → xH → xO} (hrec : ∀ pc env P z, rec pc env P = some z → ∀ L st, lay_X11_noPhone pc env = some (L, st) → ∀ Q : xR → xH → Prop, Q z.1 z.2 → Wp G l 4 mX11_noPhone pc L st P Q) {a0 a1} {P : xH} {z : xR × xH} (h : b_X11_noPhone_0 n rec a0 a1 P = some z) {Q : xR → xH → Prop} (hQ : Q z.1 z.2) : Wp G l 4 mX11_noPhone 0 [some (.ref a0), some (.int a1)] [] P Q := by
  unfold b_X11_noPhone_0 at h
  refine x_iload_n dX11_noPhone_0 rfl ?_
  refine x_iconst 0 dX11_noPhone_1 (by decide) ?_
  refine x_aload_nr dX11_noPhone_2 rfl ?_
  obtain ⟨_, e5, h⟩ := Option.bind_eq_some_iff.mp h
  obtain ⟨fse5, e5⟩ := kO_ok e5
  obtain ⟨r2, e3, h⟩ := Option.bind_eq_some_iff.mp h
  replace h := xI_ok h
  obtain ⟨v4, P1, rfl, h⟩ := h
  refine x_callV (c_X11_phones hl e3) dX11_noPhone_3 cw_X11_phones wl_X11_64 wi_X11_phones wse_X11_phones rfl e5 (by decide) rfl (by omega) (by decide) rfl (Nat.le_of_ble_eq_true rfl) rfl (fun v9 P9 hq9 => ?_) (fun i9 P9 hq9 => by cases hq9)
  cases hq9
  refine x_iconst 1 dX11_noPhone_6 (by decide) ?_
  refine x_isub dX11_noPhone_7 ?_
  obtain ⟨r7, e8, h⟩ := Option.bind_eq_some_iff.mp h
  replace h := xI_ok h
  obtain ⟨v9, P6, rfl, h⟩ := h
  refine x_callS (c_X11_in hl e8) dX11_noPhone_8 cw_X11_in wl_X11_68 ws_X11_in rfl (by omega) (by decide) rfl (Nat.le_of_ble_eq_true rfl) rfl (fun v9 P9 hq9 => ?_) (fun i9 P9 hq9 => by cases hq9)
  cases hq9
  refine x_if_ne 18 dX11_noPhone_11 (by decide) (fun q10 => ?_) (fun q10 => ?_)
  · rw [if_pos q10] at h
    refine x_iconst 0 dX11_noPhone_18 (by decide) ?_
    cases h
    exact x_iret .boolean rfl rfl dX11_noPhone_19 hQ
  · rw [if_neg (fun z9 => z9 q10)] at h
    refine x_iconst 1 dX11_noPhone_14 (by decide) ?_
    refine x_goto 19 dX11_noPhone_15 (by decide) ?_
    cases h
    exact x_iret .boolean rfl rfl dX11_noPhone_19 hQ
theorem s_X11_noPhone {G : xG} {l : Launch} (hl : l.stackTraces = false) : ∀ n pc env P z, f_X11_noPhone n pc env P = some z → ∀ L st, lay_X11_noPhone pc env = some (L, st) → ∀ Q : xR → xH → Prop, Q z.1 z.2 → Wp G l 4 mX11_noPhone pc L st P Q := by
  intro n
  induction n with
  | zero => intro pc env P z h; cases h
  | succ n ih =>
    intro pc env P z h L st hlay Q hQ
    unfold f_X11_noPhone at h
    split at h
    · cases hlay
      exact t_X11_noPhone_0 hl ih h hQ
    · cases h
theorem c_X11_noPhone {G : xG} {l : Launch} (hl : l.stackTraces = false) {n : Nat} {as : List Value} {P : xH} {z : xR × xH} (h : f_X11_noPhone n 0 as P = some z) : Ct G l 4 mX11_noPhone as P (fun r P1 => (r, P1) = z) := by
  cases n with
  | zero => cases h
  | succ n =>
    unfold f_X11_noPhone at h
    split at h
    · exact Ct.of hl (by decide +kernel) wc_X11_noPhone (Nat.le_of_ble_eq_true rfl) (t_X11_noPhone_0 hl (s_X11_noPhone hl _) h rfl)
    all_goals first | (cases h; done) | (rename_i q9 _; exact absurd q9 (by decide)) | (rename_i q9; exact absurd q9 (by decide)) | contradiction
/-! QuakeNetModel.move(IIII)I -/
def b_X11_move_0 (n : Nat) (rec : Nat → List Value → xH → xO) (a0 : Nat) (a1 : Int32) (a2 : Int32) (a3 : Int32) (a4 : Int32) (P : xH) : xO :=
  (wV P a0 11 0 (.int 0)).bind fun P1 =>
  (f_X11_in n 0 [.int a1, .int 0, .int 3] P1).bind fun r4 => xI r4 fun v6 P3 =>
  if v6 = 0 then
    rec 36 [.ref a0, .int a1, .int a2, .int a3, .int a4, .ref a0, .int 1] P3
  else
    (kO P3 a0 11).bind fun _ =>
    (f_X11_noPhone n 0 [.ref a0, .int a2] P3).bind fun r8 => xI r8 fun v10 P7 =>
    if ¬ v10 = 0 then
      rec 36 [.ref a0, .int a1, .int a2, .int a3, .int a4, .ref a0, .int 1] P7
    else
      (f_X11_noPlace n 0 [.int a4] P7).bind fun r13 => xI r13 fun v15 P12 =>
      if v15 = 0 then
        rec 36 [.ref a0, .int a1, .int a2, .int a3, .int a4, .ref a0, .int 0] P12
      else
        rec 36 [.ref a0, .int a1, .int a2, .int a3, .int a4, .ref a0, .int 1] P12
def b_X11_move_36 (n : Nat) (rec : Nat → List Value → xH → xO) (a0 : Nat) (a1 : Int32) (a2 : Int32) (a3 : Int32) (a4 : Int32) (s0 : Nat) (s1 : Int32) (P : xH) : xO :=
  (kO P s0 11).bind fun _ =>
  (f_X11_throwsIf n 0 [.ref s0, .int s1, .int 1] P).bind fun r2 => xI r2 fun v4 P1 =>
  if ¬ v4 = 0 then
    some (.inl (some (.int 0)), P1)
  else
    (kO P1 a0 11).bind fun _ =>
    (f_X11_tick n 0 [.ref a0] P1).bind fun r7 => xI r7 fun v9 P6 =>
    (f_X11_in n 0 [.int a3, .int ((v9 + 1)), .int 400] P6).bind fun r12 => xI r12 fun v14 P11 =>
    if ¬ v14 = 0 then
      rec 65 [.ref a0, .int a1, .int a2, .int a3, .int a4, .ref a0, .int 0] P11
    else
      rec 65 [.ref a0, .int a1, .int a2, .int a3, .int a4, .ref a0, .int 1] P11
def b_X11_move_65 (n : Nat) (rec : Nat → List Value → xH → xO) (a0 : Nat) (a1 : Int32) (a2 : Int32) (a3 : Int32) (a4 : Int32) (s0 : Nat) (s1 : Int32) (P : xH) : xO :=
  (kO P s0 11).bind fun _ =>
  (f_X11_throwsIf n 0 [.ref s0, .int s1, .int 2] P).bind fun r2 => xI r2 fun v4 P1 =>
  if v4 = 0 then
    (rA P1 a0 11 3).bind fun v6 =>
    (aI P1 v6 ((2 + a1))).bind fun v8 =>
    if ¬ v8 = 60 then
      (rA P1 a0 11 3).bind fun v10 =>
      (sI P1 v10 ((41 + ((3 * ((((60 * a1)) + v8)))))) a2).bind fun P12 =>
      (rA P12 a0 11 3).bind fun v14 =>
      (sI P12 v14 ((((41 + ((3 * ((((60 * a1)) + v8)))))) + 1)) a3).bind fun P16 =>
      (rA P16 a0 11 3).bind fun v18 =>
      (sI P16 v18 ((((41 + ((3 * ((((60 * a1)) + v8)))))) + 2)) a4).bind fun P20 =>
      (rA P20 a0 11 3).bind fun v22 =>
      (aI P20 v22 ((2 + a1))).bind fun v24 =>
      (sI P20 v22 ((2 + a1)) ((v24 + 1))).bind fun P26 =>
      some (.inl (some (.int ((v8 + 1)))), P26)
    else
      some (.inl (some (.int ((-1)))), P1)
  else
    some (.inl (some (.int 0)), P1)
def lay_X11_move : Nat → List Value → Option (xL × List Value)
  | 0, [a0, a1, a2, a3, a4] => some ([some a0, some a1, some a2, some a3, some a4, none, none], [])
  | 36, [a0, a1, a2, a3, a4, s0, s1] => some ([some a0, some a1, some a2, some a3, some a4, none, none], [s1, s0])
  | 65, [a0, a1, a2, a3, a4, s0, s1] => some ([some a0, some a1, some a2, some a3, some a4, none, none], [s1, s0])
  | _, _ => none
def f_X11_move : Nat → Nat → List Value → xH → xO
  | 0 => fun _ _ _ => none
  | n + 1 => fun pc env P => match pc, env with
    | 0, [.ref a0, .int a1, .int a2, .int a3, .int a4] => b_X11_move_0 n (f_X11_move n) a0 a1 a2 a3 a4 P
    | 36, [.ref a0, .int a1, .int a2, .int a3, .int a4, .ref s0, .int s1] => b_X11_move_36 n (f_X11_move n) a0 a1 a2 a3 a4 s0 s1 P
    | 65, [.ref a0, .int a1, .int a2, .int a3, .int a4, .ref s0, .int s1] => b_X11_move_65 n (f_X11_move n) a0 a1 a2 a3 a4 s0 s1 P
    | _, _ => none
set_option maxHeartbeats 2000000 in
set_option maxRecDepth 20000 in
theorem t_X11_move_0 {G : xG} {l : Launch} (hl : l.stackTraces = false) {n : Nat} {rec : Nat → List Value → xH → xO} (hrec : ∀ pc env P z, rec pc env P = some z → ∀ L st, lay_X11_move pc env = some (L, st) → ∀ Q : xR → xH → Prop, Q z.1 z.2 → Wp G l 5 mX11_move pc L st P Q) {a0 a1 a2 a3 a4} {P : xH} {z : xR × xH} (h : b_X11_move_0 n rec a0 a1 a2 a3 a4 P = some z) {Q : xR → xH → Prop} (hQ : Q z.1 z.2) : Wp G l 5 mX11_move 0 [some (.ref a0), some (.int a1), some (.int a2), some (.int a3), some (.int a4), none, none] [] P Q := by
  unfold b_X11_move_0 at h
  refine x_aload_nr dX11_move_0 rfl ?_
  refine x_iconst 0 dX11_move_1 (by decide) ?_
  obtain ⟨P1, e2, h⟩ := Option.bind_eq_some_iff.mp h
  refine k_wI e2 dX11_move_2 f_X11_3 (Or.inl (by decide)) rfl ?_
  refine x_aload_nr dX11_move_5 rfl ?_
  refine x_iload_n dX11_move_6 rfl ?_
  refine x_iconst 0 dX11_move_7 (by decide) ?_
  refine x_iconst 3 dX11_move_8 (by decide) ?_
  obtain ⟨r4, e5, h⟩ := Option.bind_eq_some_iff.mp h
  replace h := xI_ok h
  obtain ⟨v6, P3, rfl, h⟩ := h
  refine x_callS (c_X11_in hl e5) dX11_move_9 cw_X11_in wl_X11_68 ws_X11_in rfl (by omega) (by decide) rfl (Nat.le_of_ble_eq_true rfl) rfl (fun v9 P9 hq9 => ?_) (fun i9 P9 hq9 => by cases hq9)
  cases hq9
  refine x_if_eq 31 dX11_move_12 (by decide) (fun q18 => ?_) (fun q18 => ?_)
  · rw [if_pos q18] at h
    refine x_iconst 1 dX11_move_31 (by decide) ?_
    refine x_goto 36 dX11_move_32 (by decide) ?_
    exact Wp.mask [true, true, true, true, true, false, false] (hrec 36 _ _ _ h _ _ rfl _ hQ)
  · rw [if_neg q18] at h
    refine x_aload_nr dX11_move_15 rfl ?_
    refine x_iload_n dX11_move_16 rfl ?_
    obtain ⟨_, e11, h⟩ := Option.bind_eq_some_iff.mp h
    obtain ⟨fse11, e11⟩ := kO_ok e11
    obtain ⟨r8, e9, h⟩ := Option.bind_eq_some_iff.mp h
    replace h := xI_ok h
    obtain ⟨v10, P7, rfl, h⟩ := h
    refine x_callV (c_X11_noPhone hl e9) dX11_move_17 cw_X11_noPhone wl_X11_104 wi_X11_noPhone wse_X11_noPhone rfl e11 (by decide) rfl (by omega) (by decide) rfl (Nat.le_of_ble_eq_true rfl) rfl (fun v9 P9 hq9 => ?_) (fun i9 P9 hq9 => by cases hq9)
    cases hq9
    refine x_if_ne 31 dX11_move_20 (by decide) (fun q17 => ?_) (fun q17 => ?_)
    · rw [if_pos q17] at h
      refine x_iconst 1 dX11_move_31 (by decide) ?_
      refine x_goto 36 dX11_move_32 (by decide) ?_
      exact Wp.mask [true, true, true, true, true, false, false] (hrec 36 _ _ _ h _ _ rfl _ hQ)
    · rw [if_neg (fun z9 => z9 q17)] at h
      refine x_iload dX11_move_23 rfl ?_
      obtain ⟨r13, e14, h⟩ := Option.bind_eq_some_iff.mp h
      replace h := xI_ok h
      obtain ⟨v15, P12, rfl, h⟩ := h
      refine x_callS (c_X11_noPlace hl e14) dX11_move_25 cw_X11_noPlace wl_X11_89 ws_X11_noPlace rfl (by omega) (by decide) rfl (Nat.le_of_ble_eq_true rfl) rfl (fun v9 P9 hq9 => ?_) (fun i9 P9 hq9 => by cases hq9)
      cases hq9
      refine x_if_eq 35 dX11_move_28 (by decide) (fun q16 => ?_) (fun q16 => ?_)
      · rw [if_pos q16] at h
        refine x_iconst 0 dX11_move_35 (by decide) ?_
        exact Wp.mask [true, true, true, true, true, false, false] (hrec 36 _ _ _ h _ _ rfl _ hQ)
      · rw [if_neg q16] at h
        refine x_iconst 1 dX11_move_31 (by decide) ?_
        refine x_goto 36 dX11_move_32 (by decide) ?_
        exact Wp.mask [true, true, true, true, true, false, false] (hrec 36 _ _ _ h _ _ rfl _ hQ)
set_option maxHeartbeats 2000000 in
set_option maxRecDepth 20000 in
theorem t_X11_move_36 {G : xG} {l : Launch} (hl : l.stackTraces = false) {n : Nat} {rec : Nat → List Value → xH → xO} (hrec : ∀ pc env P z, rec pc env P = some z → ∀ L st, lay_X11_move pc env = some (L, st) → ∀ Q : xR → xH → Prop, Q z.1 z.2 → Wp G l 5 mX11_move pc L st P Q) {a0 a1 a2 a3 a4 s0 s1} {P : xH} {z : xR × xH} (h : b_X11_move_36 n rec a0 a1 a2 a3 a4 s0 s1 P = some z) {Q : xR → xH → Prop} (hQ : Q z.1 z.2) : Wp G l 5 mX11_move 36 [some (.ref a0), some (.int a1), some (.int a2), some (.int a3), some (.int a4), none, none] [.int s1, .ref s0] P Q := by
  unfold b_X11_move_36 at h
  refine x_iconst 1 dX11_move_36 (by decide) ?_
  obtain ⟨_, e5, h⟩ := Option.bind_eq_some_iff.mp h
  obtain ⟨fse5, e5⟩ := kO_ok e5
  obtain ⟨r2, e3, h⟩ := Option.bind_eq_some_iff.mp h
  replace h := xI_ok h
  obtain ⟨v4, P1, rfl, h⟩ := h
  refine x_callV (c_X11_throwsIf hl e3) dX11_move_37 cw_X11_throwsIf wl_X11_93 wi_X11_throwsIf wse_X11_throwsIf rfl e5 (by decide) rfl (by omega) (by decide) rfl (Nat.le_of_ble_eq_true rfl) rfl (fun v9 P9 hq9 => ?_) (fun i9 P9 hq9 => by cases hq9)
  cases hq9
  refine x_if_ne 72 dX11_move_40 (by decide) (fun q16 => ?_) (fun q16 => ?_)
  · rw [if_pos q16] at h
    refine x_iconst 0 dX11_move_72 (by decide) ?_
    cases h
    exact x_iret .int rfl rfl dX11_move_73 hQ
  · rw [if_neg (fun z9 => z9 q16)] at h
    refine x_aload_nr dX11_move_43 rfl ?_
    refine x_iload_n dX11_move_44 rfl ?_
    refine x_aload_nr dX11_move_45 rfl ?_
    obtain ⟨_, e10, h⟩ := Option.bind_eq_some_iff.mp h
    obtain ⟨fse10, e10⟩ := kO_ok e10
    obtain ⟨r7, e8, h⟩ := Option.bind_eq_some_iff.mp h
    replace h := xI_ok h
    obtain ⟨v9, P6, rfl, h⟩ := h
    refine x_callV (c_X11_tick hl e8) dX11_move_46 cw_X11_tick wl_X11_97 wi_X11_tick wse_X11_tick rfl e10 (by decide) rfl (by omega) (by decide) rfl (Nat.le_of_ble_eq_true rfl) rfl (fun v9 P9 hq9 => ?_) (fun i9 P9 hq9 => by cases hq9)
    cases hq9
    refine x_iconst 1 dX11_move_49 (by decide) ?_
    refine x_iadd dX11_move_50 ?_
    refine x_sipush 400 dX11_move_51 (by decide) ?_
    obtain ⟨r12, e13, h⟩ := Option.bind_eq_some_iff.mp h
    replace h := xI_ok h
    obtain ⟨v14, P11, rfl, h⟩ := h
    refine x_callS (c_X11_in hl e13) dX11_move_54 cw_X11_in wl_X11_68 ws_X11_in rfl (by omega) (by decide) rfl (Nat.le_of_ble_eq_true rfl) rfl (fun v9 P9 hq9 => ?_) (fun i9 P9 hq9 => by cases hq9)
    cases hq9
    refine x_if_ne 64 dX11_move_57 (by decide) (fun q15 => ?_) (fun q15 => ?_)
    · rw [if_pos q15] at h
      refine x_iconst 0 dX11_move_64 (by decide) ?_
      exact Wp.mask [true, true, true, true, true, false, false] (hrec 65 _ _ _ h _ _ rfl _ hQ)
    · rw [if_neg (fun z9 => z9 q15)] at h
      refine x_iconst 1 dX11_move_60 (by decide) ?_
      refine x_goto 65 dX11_move_61 (by decide) ?_
      exact Wp.mask [true, true, true, true, true, false, false] (hrec 65 _ _ _ h _ _ rfl _ hQ)
set_option maxHeartbeats 2000000 in
set_option maxRecDepth 20000 in
theorem t_X11_move_65 {G : xG} {l : Launch} (hl : l.stackTraces = false) {n : Nat} {rec : Nat → List Value → xH → xO} (hrec : ∀ pc env P z, rec pc env P = some z → ∀ L st, lay_X11_move pc env = some (L, st) → ∀ Q : xR → xH → Prop, Q z.1 z.2 → Wp G l 5 mX11_move pc L st P Q) {a0 a1 a2 a3 a4 s0 s1} {P : xH} {z : xR × xH} (h : b_X11_move_65 n rec a0 a1 a2 a3 a4 s0 s1 P = some z) {Q : xR → xH → Prop} (hQ : Q z.1 z.2) : Wp G l 5 mX11_move 65 [some (.ref a0), some (.int a1), some (.int a2), some (.int a3), some (.int a4), none, none] [.int s1, .ref s0] P Q := by
  unfold b_X11_move_65 at h
  refine x_iconst 2 dX11_move_65 (by decide) ?_
  obtain ⟨_, e5, h⟩ := Option.bind_eq_some_iff.mp h
  obtain ⟨fse5, e5⟩ := kO_ok e5
  obtain ⟨r2, e3, h⟩ := Option.bind_eq_some_iff.mp h
  replace h := xI_ok h
  obtain ⟨v4, P1, rfl, h⟩ := h
  refine x_callV (c_X11_throwsIf hl e3) dX11_move_66 cw_X11_throwsIf wl_X11_93 wi_X11_throwsIf wse_X11_throwsIf rfl e5 (by decide) rfl (by omega) (by decide) rfl (Nat.le_of_ble_eq_true rfl) rfl (fun v9 P9 hq9 => ?_) (fun i9 P9 hq9 => by cases hq9)
  cases hq9
  refine x_if_eq 74 dX11_move_69 (by decide) (fun q29 => ?_) (fun q29 => ?_)
  · rw [if_pos q29] at h
    refine x_aload_nr dX11_move_74 rfl ?_
    obtain ⟨v6, e7, h⟩ := Option.bind_eq_some_iff.mp h
    refine k_rA e7 dX11_move_75 f_X11_20 ?_
    refine x_iconst 2 dX11_move_78 (by decide) ?_
    refine x_iload_n dX11_move_79 rfl ?_
    refine x_iadd dX11_move_80 ?_
    obtain ⟨v8, e9, h⟩ := Option.bind_eq_some_iff.mp h
    refine k_aI e9 dX11_move_81 ?_
    refine x_istore dX11_move_82 (Nat.le_of_ble_eq_true rfl) ?_
    refine x_iload dX11_move_84 rfl ?_
    refine x_bipush 60 dX11_move_86 (by decide) ?_
    refine x_icmp_ne 93 dX11_move_88 (by decide) (fun q28 => ?_) (fun q28 => ?_)
    · rw [if_pos q28] at h
      refine x_bipush 41 dX11_move_93 (by decide) ?_
      refine x_iconst 3 dX11_move_95 (by decide) ?_
      refine x_bipush 60 dX11_move_96 (by decide) ?_
      refine x_iload_n dX11_move_98 rfl ?_
      refine x_imul dX11_move_99 ?_
      refine x_iload dX11_move_100 rfl ?_
      refine x_iadd dX11_move_102 ?_
      refine x_imul dX11_move_103 ?_
      refine x_iadd dX11_move_104 ?_
      refine x_istore dX11_move_105 (Nat.le_of_ble_eq_true rfl) ?_
      refine x_aload_nr dX11_move_107 rfl ?_
      obtain ⟨v10, e11, h⟩ := Option.bind_eq_some_iff.mp h
      refine k_rA e11 dX11_move_108 f_X11_20 ?_
      refine x_iload dX11_move_111 rfl ?_
      refine x_iload_n dX11_move_113 rfl ?_
      obtain ⟨P12, e13, h⟩ := Option.bind_eq_some_iff.mp h
      refine k_sI e13 dX11_move_114 ?_
      refine x_aload_nr dX11_move_115 rfl ?_
      obtain ⟨v14, e15, h⟩ := Option.bind_eq_some_iff.mp h
      refine k_rA e15 dX11_move_116 f_X11_20 ?_
      refine x_iload dX11_move_119 rfl ?_
      refine x_iconst 1 dX11_move_121 (by decide) ?_
      refine x_iadd dX11_move_122 ?_
      refine x_iload_n dX11_move_123 rfl ?_
      obtain ⟨P16, e17, h⟩ := Option.bind_eq_some_iff.mp h
      refine k_sI e17 dX11_move_124 ?_
      refine x_aload_nr dX11_move_125 rfl ?_
      obtain ⟨v18, e19, h⟩ := Option.bind_eq_some_iff.mp h
      refine k_rA e19 dX11_move_126 f_X11_20 ?_
      refine x_iload dX11_move_129 rfl ?_
      refine x_iconst 2 dX11_move_131 (by decide) ?_
      refine x_iadd dX11_move_132 ?_
      refine x_iload dX11_move_133 rfl ?_
      obtain ⟨P20, e21, h⟩ := Option.bind_eq_some_iff.mp h
      refine k_sI e21 dX11_move_135 ?_
      refine x_aload_nr dX11_move_136 rfl ?_
      obtain ⟨v22, e23, h⟩ := Option.bind_eq_some_iff.mp h
      refine k_rA e23 dX11_move_137 f_X11_20 ?_
      refine x_iconst 2 dX11_move_140 (by decide) ?_
      refine x_iload_n dX11_move_141 rfl ?_
      refine x_iadd dX11_move_142 ?_
      refine x_dup2 dX11_move_143 rfl rfl ?_
      obtain ⟨v24, e25, h⟩ := Option.bind_eq_some_iff.mp h
      refine k_aI e25 dX11_move_144 ?_
      refine x_iconst 1 dX11_move_145 (by decide) ?_
      refine x_iadd dX11_move_146 ?_
      obtain ⟨P26, e27, h⟩ := Option.bind_eq_some_iff.mp h
      refine k_sI e27 dX11_move_147 ?_
      refine x_iload dX11_move_148 rfl ?_
      refine x_iconst 1 dX11_move_150 (by decide) ?_
      refine x_iadd dX11_move_151 ?_
      cases h
      exact x_iret .int rfl rfl dX11_move_152 hQ
    · rw [if_neg (fun z9 => z9 q28)] at h
      refine x_iconst (-1) dX11_move_91 (by decide) ?_
      cases h
      exact x_iret .int rfl rfl dX11_move_92 hQ
  · rw [if_neg q29] at h
    refine x_iconst 0 dX11_move_72 (by decide) ?_
    cases h
    exact x_iret .int rfl rfl dX11_move_73 hQ
theorem s_X11_move {G : xG} {l : Launch} (hl : l.stackTraces = false) : ∀ n pc env P z, f_X11_move n pc env P = some z → ∀ L st, lay_X11_move pc env = some (L, st) → ∀ Q : xR → xH → Prop, Q z.1 z.2 → Wp G l 5 mX11_move pc L st P Q := by
  intro n
  induction n with
  | zero => intro pc env P z h; cases h
  | succ n ih =>
    intro pc env P z h L st hlay Q hQ
    unfold f_X11_move at h
    split at h
    · cases hlay
      exact t_X11_move_0 hl ih h hQ
    · cases hlay
      exact t_X11_move_36 hl ih h hQ
    · cases hlay
      exact t_X11_move_65 hl ih h hQ
    · cases h
theorem c_X11_move {G : xG} {l : Launch} (hl : l.stackTraces = false) {n : Nat} {as : List Value} {P : xH} {z : xR × xH} (h : f_X11_move n 0 as P = some z) : Ct G l 5 mX11_move as P (fun r P1 => (r, P1) = z) := by
  cases n with
  | zero => cases h
  | succ n =>
    unfold f_X11_move at h
    split at h
    · exact Ct.of hl (by decide +kernel) wc_X11_move (Nat.le_of_ble_eq_true rfl) (t_X11_move_0 hl (s_X11_move hl _) h rfl)
    all_goals first | (cases h; done) | (rename_i q9 _; exact absurd q9 (by decide)) | (rename_i q9; exact absurd q9 (by decide)) | contradiction
/-! QuakeNetModel.feed(IIIII)I -/
def b_X11_feed_0 (n : Nat) (rec : Nat → List Value → xH → xO) (a0 : Nat) (a1 : Int32) (a2 : Int32) (a3 : Int32) (a4 : Int32) (a5 : Int32) (P : xH) : xO :=
  (wV P a0 11 0 (.int 0)).bind fun P1 =>
  (rI P1 a0 11 9).bind fun v3 =>
  if ((v3 + 20)) ≤ 400 then
    (rA P1 a0 11 15).bind fun v5 =>
    (sI P1 v5 0 a1).bind fun P7 =>
    (rA P7 a0 11 15).bind fun v9 =>
    (sI P7 v9 1 a2).bind fun P11 =>
    (rA P11 a0 11 15).bind fun v13 =>
    (sI P11 v13 2 a3).bind fun P15 =>
    (rA P15 a0 11 15).bind fun v17 =>
    (sI P15 v17 3 a4).bind fun P19 =>
    (rA P19 a0 11 15).bind fun v21 =>
    (sI P19 v21 4 a5).bind fun P23 =>
    rec 60 [.ref a0, .int a1, .int a2, .int a3, .int a4, .int a5, .int 0] P23
  else
    some (.inl (some (.int ((-1)))), P1)
def b_X11_feed_60 (n : Nat) (rec : Nat → List Value → xH → xO) (a0 : Nat) (a1 : Int32) (a2 : Int32) (a3 : Int32) (a4 : Int32) (a5 : Int32) (a6 : Int32) (P : xH) : xO :=
  if 20 ≤ a6 then
    (rI P a0 11 9).bind fun v1 =>
    (wV P a0 11 9 (.int ((v1 + 20)))).bind fun P3 =>
    (rI P3 a0 11 9).bind fun v5 =>
    some (.inl (some (.int v5)), P3)
  else
    (rA P a0 11 8).bind fun v7 =>
    (rI P a0 11 9).bind fun v9 =>
    (rA P a0 11 15).bind fun v11 =>
    (aI P v11 ((a6 / 4))).bind fun v13 =>
    (sB P v7 ((v9 + a6)) ((Int8.toInt32 (Int32.toInt8 ((v13 >>> (((24 - ((8 * ((a6 - a6 / 4 * 4)))))) &&& 31))))))).bind fun P15 =>
    rec 60 [.ref a0, .int a1, .int a2, .int a3, .int a4, .int a5, .int ((a6 + 1))] P15
def lay_X11_feed : Nat → List Value → Option (xL × List Value)
  | 0, [a0, a1, a2, a3, a4, a5] => some ([some a0, some a1, some a2, some a3, some a4, some a5, none], [])
  | 60, [a0, a1, a2, a3, a4, a5, a6] => some ([some a0, some a1, some a2, some a3, some a4, some a5, some a6], [])
  | _, _ => none
def f_X11_feed : Nat → Nat → List Value → xH → xO
  | 0 => fun _ _ _ => none
  | n + 1 => fun pc env P => match pc, env with
    | 0, [.ref a0, .int a1, .int a2, .int a3, .int a4, .int a5] => b_X11_feed_0 n (f_X11_feed n) a0 a1 a2 a3 a4 a5 P
    | 60, [.ref a0, .int a1, .int a2, .int a3, .int a4, .int a5, .int a6] => b_X11_feed_60 n (f_X11_feed n) a0 a1 a2 a3 a4 a5 a6 P
    | _, _ => none
set_option maxHeartbeats 2000000 in
set_option maxRecDepth 20000 in
theorem t_X11_feed_0 {G : xG} {l : Launch} (hl : l.stackTraces = false) {n : Nat} {rec : Nat → List Value → xH → xO} (hrec : ∀ pc env P z, rec pc env P = some z → ∀ L st, lay_X11_feed pc env = some (L, st) → ∀ Q : xR → xH → Prop, Q z.1 z.2 → Wp G l 3 mX11_feed pc L st P Q) {a0 a1 a2 a3 a4 a5} {P : xH} {z : xR × xH} (h : b_X11_feed_0 n rec a0 a1 a2 a3 a4 a5 P = some z) {Q : xR → xH → Prop} (hQ : Q z.1 z.2) : Wp G l 3 mX11_feed 0 [some (.ref a0), some (.int a1), some (.int a2), some (.int a3), some (.int a4), some (.int a5), none] [] P Q := by
  unfold b_X11_feed_0 at h
  refine x_aload_nr dX11_feed_0 rfl ?_
  refine x_iconst 0 dX11_feed_1 (by decide) ?_
  obtain ⟨P1, e2, h⟩ := Option.bind_eq_some_iff.mp h
  refine k_wI e2 dX11_feed_2 f_X11_3 (Or.inl (by decide)) rfl ?_
  refine x_aload_nr dX11_feed_5 rfl ?_
  obtain ⟨v3, e4, h⟩ := Option.bind_eq_some_iff.mp h
  refine k_rI e4 dX11_feed_6 f_X11_113 ?_
  refine x_bipush 20 dX11_feed_9 (by decide) ?_
  refine x_iadd dX11_feed_11 ?_
  refine x_sipush 400 dX11_feed_12 (by decide) ?_
  refine x_icmp_le 20 dX11_feed_15 (by decide) (fun q25 => ?_) (fun q25 => ?_)
  · rw [if_pos q25] at h
    refine x_aload_nr dX11_feed_20 rfl ?_
    obtain ⟨v5, e6, h⟩ := Option.bind_eq_some_iff.mp h
    refine k_rA e6 dX11_feed_21 f_X11_33 ?_
    refine x_iconst 0 dX11_feed_24 (by decide) ?_
    refine x_iload_n dX11_feed_25 rfl ?_
    obtain ⟨P7, e8, h⟩ := Option.bind_eq_some_iff.mp h
    refine k_sI e8 dX11_feed_26 ?_
    refine x_aload_nr dX11_feed_27 rfl ?_
    obtain ⟨v9, e10, h⟩ := Option.bind_eq_some_iff.mp h
    refine k_rA e10 dX11_feed_28 f_X11_33 ?_
    refine x_iconst 1 dX11_feed_31 (by decide) ?_
    refine x_iload_n dX11_feed_32 rfl ?_
    obtain ⟨P11, e12, h⟩ := Option.bind_eq_some_iff.mp h
    refine k_sI e12 dX11_feed_33 ?_
    refine x_aload_nr dX11_feed_34 rfl ?_
    obtain ⟨v13, e14, h⟩ := Option.bind_eq_some_iff.mp h
    refine k_rA e14 dX11_feed_35 f_X11_33 ?_
    refine x_iconst 2 dX11_feed_38 (by decide) ?_
    refine x_iload_n dX11_feed_39 rfl ?_
    obtain ⟨P15, e16, h⟩ := Option.bind_eq_some_iff.mp h
    refine k_sI e16 dX11_feed_40 ?_
    refine x_aload_nr dX11_feed_41 rfl ?_
    obtain ⟨v17, e18, h⟩ := Option.bind_eq_some_iff.mp h
    refine k_rA e18 dX11_feed_42 f_X11_33 ?_
    refine x_iconst 3 dX11_feed_45 (by decide) ?_
    refine x_iload dX11_feed_46 rfl ?_
    obtain ⟨P19, e20, h⟩ := Option.bind_eq_some_iff.mp h
    refine k_sI e20 dX11_feed_48 ?_
    refine x_aload_nr dX11_feed_49 rfl ?_
    obtain ⟨v21, e22, h⟩ := Option.bind_eq_some_iff.mp h
    refine k_rA e22 dX11_feed_50 f_X11_33 ?_
    refine x_iconst 4 dX11_feed_53 (by decide) ?_
    refine x_iload dX11_feed_54 rfl ?_
    obtain ⟨P23, e24, h⟩ := Option.bind_eq_some_iff.mp h
    refine k_sI e24 dX11_feed_56 ?_
    refine x_iconst 0 dX11_feed_57 (by decide) ?_
    refine x_istore dX11_feed_58 (Nat.le_of_ble_eq_true rfl) ?_
    exact Wp.mask [true, true, true, true, true, true, true] (hrec 60 _ _ _ h _ _ rfl _ hQ)
  · rw [if_neg q25] at h
    refine x_iconst (-1) dX11_feed_18 (by decide) ?_
    cases h
    exact x_iret .int rfl rfl dX11_feed_19 hQ
set_option maxHeartbeats 2000000 in
set_option maxRecDepth 20000 in
theorem t_X11_feed_60 {G : xG} {l : Launch} (hl : l.stackTraces = false) {n : Nat} {rec : Nat → List Value → xH → xO} (hrec : ∀ pc env P z, rec pc env P = some z → ∀ L st, lay_X11_feed pc env = some (L, st) → ∀ Q : xR → xH → Prop, Q z.1 z.2 → Wp G l 3 mX11_feed pc L st P Q) {a0 a1 a2 a3 a4 a5 a6} {P : xH} {z : xR × xH} (h : b_X11_feed_60 n rec a0 a1 a2 a3 a4 a5 a6 P = some z) {Q : xR → xH → Prop} (hQ : Q z.1 z.2) : Wp G l 3 mX11_feed 60 [some (.ref a0), some (.int a1), some (.int a2), some (.int a3), some (.int a4), some (.int a5), some (.int a6)] [] P Q := by
  unfold b_X11_feed_60 at h
  refine x_iload dX11_feed_60 rfl ?_
  refine x_bipush 20 dX11_feed_62 (by decide) ?_
  refine x_icmp_ge 106 dX11_feed_64 (by decide) (fun q17 => ?_) (fun q17 => ?_)
  · rw [if_pos q17] at h
    refine x_aload_nr dX11_feed_106 rfl ?_
    refine x_dup dX11_feed_107 rfl ?_
    obtain ⟨v1, e2, h⟩ := Option.bind_eq_some_iff.mp h
    refine k_rI e2 dX11_feed_108 f_X11_113 ?_
    refine x_bipush 20 dX11_feed_111 (by decide) ?_
    refine x_iadd dX11_feed_113 ?_
    obtain ⟨P3, e4, h⟩ := Option.bind_eq_some_iff.mp h
    refine k_wI e4 dX11_feed_114 f_X11_113 (Or.inl (by decide)) rfl ?_
    refine x_aload_nr dX11_feed_117 rfl ?_
    obtain ⟨v5, e6, h⟩ := Option.bind_eq_some_iff.mp h
    refine k_rI e6 dX11_feed_118 f_X11_113 ?_
    cases h
    exact x_iret .int rfl rfl dX11_feed_121 hQ
  · rw [if_neg q17] at h
    refine x_aload_nr dX11_feed_67 rfl ?_
    obtain ⟨v7, e8, h⟩ := Option.bind_eq_some_iff.mp h
    refine k_rA e8 dX11_feed_68 f_X11_26 ?_
    refine x_aload_nr dX11_feed_71 rfl ?_
    obtain ⟨v9, e10, h⟩ := Option.bind_eq_some_iff.mp h
    refine k_rI e10 dX11_feed_72 f_X11_113 ?_
    refine x_iload dX11_feed_75 rfl ?_
    refine x_iadd dX11_feed_77 ?_
    refine x_aload_nr dX11_feed_78 rfl ?_
    obtain ⟨v11, e12, h⟩ := Option.bind_eq_some_iff.mp h
    refine k_rA e12 dX11_feed_79 f_X11_33 ?_
    refine x_iload dX11_feed_82 rfl ?_
    refine x_iconst 4 dX11_feed_84 (by decide) ?_
    refine x_idiv dX11_feed_85 (by decide) ?_
    obtain ⟨v13, e14, h⟩ := Option.bind_eq_some_iff.mp h
    refine k_aI e14 dX11_feed_86 ?_
    refine x_bipush 24 dX11_feed_87 (by decide) ?_
    refine x_bipush 8 dX11_feed_89 (by decide) ?_
    refine x_iload dX11_feed_91 rfl ?_
    refine x_iconst 4 dX11_feed_93 (by decide) ?_
    refine x_irem dX11_feed_94 (by decide) ?_
    refine x_imul dX11_feed_95 ?_
    refine x_isub dX11_feed_96 ?_
    refine x_ishr dX11_feed_97 ?_
    refine x_i2b dX11_feed_98 ?_
    obtain ⟨P15, e16, h⟩ := Option.bind_eq_some_iff.mp h
    refine k_sB e16 dX11_feed_99 ?_
    refine x_iinc (a6 + 1) dX11_feed_100 rfl (by rfl) ?_
    refine x_goto 60 dX11_feed_103 (by decide) ?_
    exact Wp.mask [true, true, true, true, true, true, true] (hrec 60 _ _ _ h _ _ rfl _ hQ)
theorem s_X11_feed {G : xG} {l : Launch} (hl : l.stackTraces = false) : ∀ n pc env P z, f_X11_feed n pc env P = some z → ∀ L st, lay_X11_feed pc env = some (L, st) → ∀ Q : xR → xH → Prop, Q z.1 z.2 → Wp G l 3 mX11_feed pc L st P Q := by
  intro n
  induction n with
  | zero => intro pc env P z h; cases h
  | succ n ih =>
    intro pc env P z h L st hlay Q hQ
    unfold f_X11_feed at h
    split at h
    · cases hlay
      exact t_X11_feed_0 hl ih h hQ
    · cases hlay
      exact t_X11_feed_60 hl ih h hQ
    · cases h
theorem c_X11_feed {G : xG} {l : Launch} (hl : l.stackTraces = false) {n : Nat} {as : List Value} {P : xH} {z : xR × xH} (h : f_X11_feed n 0 as P = some z) : Ct G l 3 mX11_feed as P (fun r P1 => (r, P1) = z) := by
  cases n with
  | zero => cases h
  | succ n =>
    unfold f_X11_feed at h
    split at h
    · exact Ct.of hl (by decide +kernel) wc_X11_feed (Nat.le_of_ble_eq_true rfl) (t_X11_feed_0 hl (s_X11_feed hl _) h rfl)
    all_goals first | (cases h; done) | (rename_i q9 _; exact absurd q9 (by decide)) | (rename_i q9; exact absurd q9 (by decide)) | contradiction
/-! QuakeNetModel.end(I)Z -/
def b_X11_end_0 (n : Nat) (rec : Nat → List Value → xH → xO) (a0 : Nat) (a1 : Int32) (P : xH) : xO :=
  (wV P a0 11 0 (.int 0)).bind fun P1 =>
  if a1 < 0 then
    some (.inl (some (.int 0)), P1)
  else
    (rI P1 a0 11 9).bind fun v3 =>
    if a1 ≤ v3 then
      (wV P1 a0 11 9 (.int a1)).bind fun P5 =>
      some (.inl (some (.int 1)), P5)
    else
      some (.inl (some (.int 0)), P1)
def lay_X11_end : Nat → List Value → Option (xL × List Value)
  | 0, [a0, a1] => some ([some a0, some a1], [])
  | _, _ => none
def f_X11_end : Nat → Nat → List Value → xH → xO
  | 0 => fun _ _ _ => none
  | n + 1 => fun pc env P => match pc, env with
    | 0, [.ref a0, .int a1] => b_X11_end_0 n (f_X11_end n) a0 a1 P
    | _, _ => none
set_option maxHeartbeats 2000000 in
set_option maxRecDepth 20000 in
theorem t_X11_end_0 {G : xG} {l : Launch} (hl : l.stackTraces = false) {n : Nat} {rec : Nat → List Value → xH → xO} (hrec : ∀ pc env P z, rec pc env P = some z → ∀ L st, lay_X11_end pc env = some (L, st) → ∀ Q : xR → xH → Prop, Q z.1 z.2 → Wp G l 3 mX11_end pc L st P Q) {a0 a1} {P : xH} {z : xR × xH} (h : b_X11_end_0 n rec a0 a1 P = some z) {Q : xR → xH → Prop} (hQ : Q z.1 z.2) : Wp G l 3 mX11_end 0 [some (.ref a0), some (.int a1)] [] P Q := by
  unfold b_X11_end_0 at h
  refine x_aload_nr dX11_end_0 rfl ?_
  refine x_iconst 0 dX11_end_1 (by decide) ?_
  obtain ⟨P1, e2, h⟩ := Option.bind_eq_some_iff.mp h
  refine k_wI e2 dX11_end_2 f_X11_3 (Or.inl (by decide)) rfl ?_
  refine x_iload_n dX11_end_5 rfl ?_
  refine x_if_lt 17 dX11_end_6 (by decide) (fun q8 => ?_) (fun q8 => ?_)
  · rw [if_pos q8] at h
    refine x_iconst 0 dX11_end_17 (by decide) ?_
    cases h
    exact x_iret .boolean rfl rfl dX11_end_18 hQ
  · rw [if_neg q8] at h
    refine x_iload_n dX11_end_9 rfl ?_
    refine x_aload_nr dX11_end_10 rfl ?_
    obtain ⟨v3, e4, h⟩ := Option.bind_eq_some_iff.mp h
    refine k_rI e4 dX11_end_11 f_X11_113 ?_
    refine x_icmp_le 19 dX11_end_14 (by decide) (fun q7 => ?_) (fun q7 => ?_)
    · rw [if_pos q7] at h
      refine x_aload_nr dX11_end_19 rfl ?_
      refine x_iload_n dX11_end_20 rfl ?_
      obtain ⟨P5, e6, h⟩ := Option.bind_eq_some_iff.mp h
      refine k_wI e6 dX11_end_21 f_X11_113 (Or.inl (by decide)) rfl ?_
      refine x_iconst 1 dX11_end_24 (by decide) ?_
      cases h
      exact x_iret .boolean rfl rfl dX11_end_25 hQ
    · rw [if_neg q7] at h
      refine x_iconst 0 dX11_end_17 (by decide) ?_
      cases h
      exact x_iret .boolean rfl rfl dX11_end_18 hQ
theorem s_X11_end {G : xG} {l : Launch} (hl : l.stackTraces = false) : ∀ n pc env P z, f_X11_end n pc env P = some z → ∀ L st, lay_X11_end pc env = some (L, st) → ∀ Q : xR → xH → Prop, Q z.1 z.2 → Wp G l 3 mX11_end pc L st P Q := by
  intro n
  induction n with
  | zero => intro pc env P z h; cases h
  | succ n ih =>
    intro pc env P z h L st hlay Q hQ
    unfold f_X11_end at h
    split at h
    · cases hlay
      exact t_X11_end_0 hl ih h hQ
    · cases h
theorem c_X11_end {G : xG} {l : Launch} (hl : l.stackTraces = false) {n : Nat} {as : List Value} {P : xH} {z : xR × xH} (h : f_X11_end n 0 as P = some z) : Ct G l 3 mX11_end as P (fun r P1 => (r, P1) = z) := by
  cases n with
  | zero => cases h
  | succ n =>
    unfold f_X11_end at h
    split at h
    · exact Ct.of hl (by decide +kernel) wc_X11_end (Nat.le_of_ble_eq_true rfl) (t_X11_end_0 hl (s_X11_end hl _) h rfl)
    all_goals first | (cases h; done) | (rename_i q9 _; exact absurd q9 (by decide)) | (rename_i q9; exact absurd q9 (by decide)) | contradiction
/-! QuakeNetModel.fault()I -/
def b_X11_fault_0 (n : Nat) (rec : Nat → List Value → xH → xO) (a0 : Nat) (P : xH) : xO :=
  (wV P a0 11 0 (.int 0)).bind fun P1 =>
  (rI P1 a0 11 14).bind fun v3 =>
  some (.inl (some (.int v3)), P1)
def lay_X11_fault : Nat → List Value → Option (xL × List Value)
  | 0, [a0] => some ([some a0], [])
  | _, _ => none
def f_X11_fault : Nat → Nat → List Value → xH → xO
  | 0 => fun _ _ _ => none
  | n + 1 => fun pc env P => match pc, env with
    | 0, [.ref a0] => b_X11_fault_0 n (f_X11_fault n) a0 P
    | _, _ => none
set_option maxHeartbeats 2000000 in
set_option maxRecDepth 20000 in
theorem t_X11_fault_0 {G : xG} {l : Launch} (hl : l.stackTraces = false) {n : Nat} {rec : Nat → List Value → xH → xO} (hrec : ∀ pc env P z, rec pc env P = some z → ∀ L st, lay_X11_fault pc env = some (L, st) → ∀ Q : xR → xH → Prop, Q z.1 z.2 → Wp G l 3 mX11_fault pc L st P Q) {a0} {P : xH} {z : xR × xH} (h : b_X11_fault_0 n rec a0 P = some z) {Q : xR → xH → Prop} (hQ : Q z.1 z.2) : Wp G l 3 mX11_fault 0 [some (.ref a0)] [] P Q := by
  unfold b_X11_fault_0 at h
  refine x_aload_nr dX11_fault_0 rfl ?_
  refine x_iconst 0 dX11_fault_1 (by decide) ?_
  obtain ⟨P1, e2, h⟩ := Option.bind_eq_some_iff.mp h
  refine k_wI e2 dX11_fault_2 f_X11_3 (Or.inl (by decide)) rfl ?_
  refine x_aload_nr dX11_fault_5 rfl ?_
  obtain ⟨v3, e4, h⟩ := Option.bind_eq_some_iff.mp h
  refine k_rI e4 dX11_fault_6 f_X11_30 ?_
  cases h
  exact x_iret .int rfl rfl dX11_fault_9 hQ
theorem s_X11_fault {G : xG} {l : Launch} (hl : l.stackTraces = false) : ∀ n pc env P z, f_X11_fault n pc env P = some z → ∀ L st, lay_X11_fault pc env = some (L, st) → ∀ Q : xR → xH → Prop, Q z.1 z.2 → Wp G l 3 mX11_fault pc L st P Q := by
  intro n
  induction n with
  | zero => intro pc env P z h; cases h
  | succ n ih =>
    intro pc env P z h L st hlay Q hQ
    unfold f_X11_fault at h
    split at h
    · cases hlay
      exact t_X11_fault_0 hl ih h hQ
    · cases h
theorem c_X11_fault {G : xG} {l : Launch} (hl : l.stackTraces = false) {n : Nat} {as : List Value} {P : xH} {z : xR × xH} (h : f_X11_fault n 0 as P = some z) : Ct G l 3 mX11_fault as P (fun r P1 => (r, P1) = z) := by
  cases n with
  | zero => cases h
  | succ n =>
    unfold f_X11_fault at h
    split at h
    · exact Ct.of hl (by decide +kernel) wc_X11_fault (Nat.le_of_ble_eq_true rfl) (t_X11_fault_0 hl (s_X11_fault hl _) h rfl)
    all_goals first | (cases h; done) | (rename_i q9 _; exact absurd q9 (by decide)) | (rename_i q9; exact absurd q9 (by decide)) | contradiction
/-! QuakeNetModel.isAt(II)Z -/
def b_X11_isAt_0 (n : Nat) (rec : Nat → List Value → xH → xO) (a0 : Nat) (a1 : Int32) (a2 : Int32) (P : xH) : xO :=
  (rI P a0 11 10).bind fun v1 =>
  (rI P a0 11 11).bind fun v3 =>
  if v3 ≤ v1 then
    some (.inl (some (.int 0)), P)
  else
    (rA P a0 11 8).bind fun v5 =>
    (rI P a0 11 10).bind fun v7 =>
    (aB P v5 v7).bind fun v9 =>
    if v9 < a1 then
      some (.inl (some (.int 0)), P)
    else
      (rA P a0 11 8).bind fun v11 =>
      (rI P a0 11 10).bind fun v13 =>
      (aB P v11 v13).bind fun v15 =>
      if a2 < v15 then
        some (.inl (some (.int 0)), P)
      else
        some (.inl (some (.int 1)), P)
def lay_X11_isAt : Nat → List Value → Option (xL × List Value)
  | 0, [a0, a1, a2] => some ([some a0, some a1, some a2], [])
  | _, _ => none
def f_X11_isAt : Nat → Nat → List Value → xH → xO
  | 0 => fun _ _ _ => none
  | n + 1 => fun pc env P => match pc, env with
    | 0, [.ref a0, .int a1, .int a2] => b_X11_isAt_0 n (f_X11_isAt n) a0 a1 a2 P
    | _, _ => none
set_option maxHeartbeats 2000000 in
set_option maxRecDepth 20000 in
theorem t_X11_isAt_0 {G : xG} {l : Launch} (hl : l.stackTraces = false) {n : Nat} {rec : Nat → List Value → xH → xO} (hrec : ∀ pc env P z, rec pc env P = some z → ∀ L st, lay_X11_isAt pc env = some (L, st) → ∀ Q : xR → xH → Prop, Q z.1 z.2 → Wp G l 3 mX11_isAt pc L st P Q) {a0 a1 a2} {P : xH} {z : xR × xH} (h : b_X11_isAt_0 n rec a0 a1 a2 P = some z) {Q : xR → xH → Prop} (hQ : Q z.1 z.2) : Wp G l 3 mX11_isAt 0 [some (.ref a0), some (.int a1), some (.int a2)] [] P Q := by
  unfold b_X11_isAt_0 at h
  refine x_aload_nr dX11_isAt_0 rfl ?_
  obtain ⟨v1, e2, h⟩ := Option.bind_eq_some_iff.mp h
  refine k_rI e2 dX11_isAt_1 f_X11_119 ?_
  refine x_aload_nr dX11_isAt_4 rfl ?_
  obtain ⟨v3, e4, h⟩ := Option.bind_eq_some_iff.mp h
  refine k_rI e4 dX11_isAt_5 f_X11_116 ?_
  refine x_icmp_ge 41 dX11_isAt_8 (by decide) (fun q19 => ?_) (fun q19 => ?_)
  · rw [if_pos q19] at h
    refine x_iconst 0 dX11_isAt_41 (by decide) ?_
    cases h
    exact x_iret .boolean rfl rfl dX11_isAt_42 hQ
  · rw [if_neg q19] at h
    refine x_aload_nr dX11_isAt_11 rfl ?_
    obtain ⟨v5, e6, h⟩ := Option.bind_eq_some_iff.mp h
    refine k_rA e6 dX11_isAt_12 f_X11_26 ?_
    refine x_aload_nr dX11_isAt_15 rfl ?_
    obtain ⟨v7, e8, h⟩ := Option.bind_eq_some_iff.mp h
    refine k_rI e8 dX11_isAt_16 f_X11_119 ?_
    obtain ⟨v9, e10, h⟩ := Option.bind_eq_some_iff.mp h
    refine k_aB e10 dX11_isAt_19 ?_
    refine x_iload_n dX11_isAt_20 rfl ?_
    refine x_icmp_lt 41 dX11_isAt_21 (by decide) (fun q18 => ?_) (fun q18 => ?_)
    · rw [if_pos q18] at h
      refine x_iconst 0 dX11_isAt_41 (by decide) ?_
      cases h
      exact x_iret .boolean rfl rfl dX11_isAt_42 hQ
    · rw [if_neg q18] at h
      refine x_aload_nr dX11_isAt_24 rfl ?_
      obtain ⟨v11, e12, h⟩ := Option.bind_eq_some_iff.mp h
      refine k_rA e12 dX11_isAt_25 f_X11_26 ?_
      refine x_aload_nr dX11_isAt_28 rfl ?_
      obtain ⟨v13, e14, h⟩ := Option.bind_eq_some_iff.mp h
      refine k_rI e14 dX11_isAt_29 f_X11_119 ?_
      obtain ⟨v15, e16, h⟩ := Option.bind_eq_some_iff.mp h
      refine k_aB e16 dX11_isAt_32 ?_
      refine x_iload_n dX11_isAt_33 rfl ?_
      refine x_icmp_gt 41 dX11_isAt_34 (by decide) (fun q17 => ?_) (fun q17 => ?_)
      · rw [if_pos q17] at h
        refine x_iconst 0 dX11_isAt_41 (by decide) ?_
        cases h
        exact x_iret .boolean rfl rfl dX11_isAt_42 hQ
      · rw [if_neg q17] at h
        refine x_iconst 1 dX11_isAt_37 (by decide) ?_
        refine x_goto 42 dX11_isAt_38 (by decide) ?_
        cases h
        exact x_iret .boolean rfl rfl dX11_isAt_42 hQ
theorem s_X11_isAt {G : xG} {l : Launch} (hl : l.stackTraces = false) : ∀ n pc env P z, f_X11_isAt n pc env P = some z → ∀ L st, lay_X11_isAt pc env = some (L, st) → ∀ Q : xR → xH → Prop, Q z.1 z.2 → Wp G l 3 mX11_isAt pc L st P Q := by
  intro n
  induction n with
  | zero => intro pc env P z h; cases h
  | succ n ih =>
    intro pc env P z h L st hlay Q hQ
    unfold f_X11_isAt at h
    split at h
    · cases hlay
      exact t_X11_isAt_0 hl ih h hQ
    · cases h
theorem c_X11_isAt {G : xG} {l : Launch} (hl : l.stackTraces = false) {n : Nat} {as : List Value} {P : xH} {z : xR × xH} (h : f_X11_isAt n 0 as P = some z) : Ct G l 3 mX11_isAt as P (fun r P1 => (r, P1) = z) := by
  cases n with
  | zero => cases h
  | succ n =>
    unfold f_X11_isAt at h
    split at h
    · exact Ct.of hl (by decide +kernel) wc_X11_isAt (Nat.le_of_ble_eq_true rfl) (t_X11_isAt_0 hl (s_X11_isAt hl _) h rfl)
    all_goals first | (cases h; done) | (rename_i q9 _; exact absurd q9 (by decide)) | (rename_i q9; exact absurd q9 (by decide)) | contradiction
/-! QuakeNetModel.blanks()V -/
def b_X11_blanks_0 (n : Nat) (rec : Nat → List Value → xH → xO) (a0 : Nat) (P : xH) : xO :=
  (kO P a0 11).bind fun _ =>
  (f_X11_isAt n 0 [.ref a0, .int 32, .int 32] P).bind fun r2 => xI r2 fun v4 P1 =>
  if v4 = 0 then
    (rI P1 a0 11 10).bind fun v6 =>
    (wV P1 a0 11 12 (.int v6)).bind fun P8 =>
    some (.inl none, P8)
  else
    (rI P1 a0 11 10).bind fun v10 =>
    (wV P1 a0 11 10 (.int ((v10 + 1)))).bind fun P12 =>
    rec 0 [.ref a0] P12
def lay_X11_blanks : Nat → List Value → Option (xL × List Value)
  | 0, [a0] => some ([some a0], [])
  | _, _ => none
def f_X11_blanks : Nat → Nat → List Value → xH → xO
  | 0 => fun _ _ _ => none
  | n + 1 => fun pc env P => match pc, env with
    | 0, [.ref a0] => b_X11_blanks_0 n (f_X11_blanks n) a0 P
    | _, _ => none
set_option maxHeartbeats 2000000 in
set_option maxRecDepth 20000 in
theorem t_X11_blanks_0 {G : xG} {l : Launch} (hl : l.stackTraces = false) {n : Nat} {rec : Nat → List Value → xH → xO} (hrec : ∀ pc env P z, rec pc env P = some z → ∀ L st, lay_X11_blanks pc env = some (L, st) → ∀ Q : xR → xH → Prop, Q z.1 z.2 → Wp G l 4 mX11_blanks pc L st P Q) {a0} {P : xH} {z : xR × xH} (h : b_X11_blanks_0 n rec a0 P = some z) {Q : xR → xH → Prop} (hQ : Q z.1 z.2) : Wp G l 4 mX11_blanks 0 [some (.ref a0)] [] P Q := by
  unfold b_X11_blanks_0 at h
  refine x_aload_nr dX11_blanks_0 rfl ?_
  refine x_bipush 32 dX11_blanks_1 (by decide) ?_
  refine x_bipush 32 dX11_blanks_3 (by decide) ?_
  obtain ⟨_, e5, h⟩ := Option.bind_eq_some_iff.mp h
  obtain ⟨fse5, e5⟩ := kO_ok e5
  obtain ⟨r2, e3, h⟩ := Option.bind_eq_some_iff.mp h
  replace h := xI_ok h
  obtain ⟨v4, P1, rfl, h⟩ := h
  refine x_callV (c_X11_isAt hl e3) dX11_blanks_5 cw_X11_isAt wl_X11_122 wi_X11_isAt wse_X11_isAt rfl e5 (by decide) rfl (by omega) (by decide) rfl (Nat.le_of_ble_eq_true rfl) rfl (fun v9 P9 hq9 => ?_) (fun i9 P9 hq9 => by cases hq9)
  cases hq9
  refine x_if_eq 24 dX11_blanks_8 (by decide) (fun q14 => ?_) (fun q14 => ?_)
  · rw [if_pos q14] at h
    refine x_aload_nr dX11_blanks_24 rfl ?_
    refine x_aload_nr dX11_blanks_25 rfl ?_
    obtain ⟨v6, e7, h⟩ := Option.bind_eq_some_iff.mp h
    refine k_rI e7 dX11_blanks_26 f_X11_119 ?_
    obtain ⟨P8, e9, h⟩ := Option.bind_eq_some_iff.mp h
    refine k_wI e9 dX11_blanks_29 f_X11_126 (Or.inl (by decide)) rfl ?_
    cases h
    exact x_ret rfl dX11_blanks_32 hQ
  · rw [if_neg q14] at h
    refine x_aload_nr dX11_blanks_11 rfl ?_
    refine x_dup dX11_blanks_12 rfl ?_
    obtain ⟨v10, e11, h⟩ := Option.bind_eq_some_iff.mp h
    refine k_rI e11 dX11_blanks_13 f_X11_119 ?_
    refine x_iconst 1 dX11_blanks_16 (by decide) ?_
    refine x_iadd dX11_blanks_17 ?_
    obtain ⟨P12, e13, h⟩ := Option.bind_eq_some_iff.mp h
    refine k_wI e13 dX11_blanks_18 f_X11_119 (Or.inl (by decide)) rfl ?_
    refine x_goto 0 dX11_blanks_21 (by decide) ?_
    exact Wp.mask [true] (hrec 0 _ _ _ h _ _ rfl _ hQ)
theorem s_X11_blanks {G : xG} {l : Launch} (hl : l.stackTraces = false) : ∀ n pc env P z, f_X11_blanks n pc env P = some z → ∀ L st, lay_X11_blanks pc env = some (L, st) → ∀ Q : xR → xH → Prop, Q z.1 z.2 → Wp G l 4 mX11_blanks pc L st P Q := by
  intro n
  induction n with
  | zero => intro pc env P z h; cases h
  | succ n ih =>
    intro pc env P z h L st hlay Q hQ
    unfold f_X11_blanks at h
    split at h
    · cases hlay
      exact t_X11_blanks_0 hl ih h hQ
    · cases h
theorem c_X11_blanks {G : xG} {l : Launch} (hl : l.stackTraces = false) {n : Nat} {as : List Value} {P : xH} {z : xR × xH} (h : f_X11_blanks n 0 as P = some z) : Ct G l 4 mX11_blanks as P (fun r P1 => (r, P1) = z) := by
  cases n with
  | zero => cases h
  | succ n =>
    unfold f_X11_blanks at h
    split at h
    · exact Ct.of hl (by decide +kernel) wc_X11_blanks (Nat.le_of_ble_eq_true rfl) (t_X11_blanks_0 hl (s_X11_blanks hl _) h rfl)
    all_goals first | (cases h; done) | (rename_i q9 _; exact absurd q9 (by decide)) | (rename_i q9; exact absurd q9 (by decide)) | contradiction
