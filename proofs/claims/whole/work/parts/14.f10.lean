/-! QuakeNet$Sayings.areAtPeace(II)Z -/
def b_X6_areAtPeace_0 (n : Nat) (rec : Nat → List Value → xH → xO) (a0 : Nat) (a1 : Int32) (a2 : Int32) (P : xH) : xO :=
  rec 2 [.ref a0, .int a1, .int a2, .int 0] P
def b_X6_areAtPeace_2 (n : Nat) (rec : Nat → List Value → xH → xO) (a0 : Nat) (a1 : Int32) (a2 : Int32) (a3 : Int32) (P : xH) : xO :=
  if a2 ≤ a3 then
    some (.inl (some (.int 1)), P)
  else
    if ((((a1 >>> (a3 &&& 31))) &&& 1)) = 0 then
      rec 2 [.ref a0, .int a1, .int a2, .int ((a3 + 1))] P
    else
      (rA P a0 6 3).bind fun v1 =>
      (aI P v1 a3).bind fun v3 =>
      if ((v3 &&& a1)) = 0 then
        rec 2 [.ref a0, .int a1, .int a2, .int ((a3 + 1))] P
      else
        some (.inl (some (.int 0)), P)
def lay_X6_areAtPeace : Nat → List Value → Option (xL × List Value)
  | 0, [a0, a1, a2] => some ([some a0, some a1, some a2, none], [])
  | 2, [a0, a1, a2, a3] => some ([some a0, some a1, some a2, some a3], [])
  | _, _ => none
def f_X6_areAtPeace : Nat → Nat → List Value → xH → xO
  | 0 => fun _ _ _ => none
  | n + 1 => fun pc env P => match pc, env with
    | 0, [.ref a0, .int a1, .int a2] => b_X6_areAtPeace_0 n (f_X6_areAtPeace n) a0 a1 a2 P
    | 2, [.ref a0, .int a1, .int a2, .int a3] => b_X6_areAtPeace_2 n (f_X6_areAtPeace n) a0 a1 a2 a3 P
    | _, _ => none
set_option maxHeartbeats 2000000 in
set_option maxRecDepth 20000 in
theorem t_X6_areAtPeace_0 {G : xG} {l : Launch} (hl : l.stackTraces = false) {n : Nat} {rec : Nat → List Value → xH → xO} (hrec : ∀ pc env P z, rec pc env P = some z → ∀ L st, lay_X6_areAtPeace pc env = some (L, st) → ∀ Q : xR → xH → Prop, Q z.1 z.2 → Wp G l 3 mX6_areAtPeace pc L st P Q) {a0 a1 a2} {P : xH} {z : xR × xH} (h : b_X6_areAtPeace_0 n rec a0 a1 a2 P = some z) {Q : xR → xH → Prop} (hQ : Q z.1 z.2) : Wp G l 3 mX6_areAtPeace 0 [some (.ref a0), some (.int a1), some (.int a2), none] [] P Q := by
  unfold b_X6_areAtPeace_0 at h
  refine x_iconst 0 dX6_areAtPeace_0 (by decide) ?_
  refine x_istore_n dX6_areAtPeace_1 (Nat.le_of_ble_eq_true rfl) ?_
  exact Wp.mask [true, true, true, true] (hrec 2 _ _ _ h _ _ rfl _ hQ)
set_option maxHeartbeats 2000000 in
set_option maxRecDepth 20000 in
theorem t_X6_areAtPeace_2 {G : xG} {l : Launch} (hl : l.stackTraces = false) {n : Nat} {rec : Nat → List Value → xH → xO} (hrec : ∀ pc env P z, rec pc env P = some z → ∀ L st, lay_X6_areAtPeace pc env = some (L, st) → ∀ Q : xR → xH → Prop, Q z.1 z.2 → Wp G l 3 mX6_areAtPeace pc L st P Q) {a0 a1 a2 a3} {P : xH} {z : xR × xH} (h : b_X6_areAtPeace_2 n rec a0 a1 a2 a3 P = some z) {Q : xR → xH → Prop} (hQ : Q z.1 z.2) : Wp G l 3 mX6_areAtPeace 2 [some (.ref a0), some (.int a1), some (.int a2), some (.int a3)] [] P Q := by
  unfold b_X6_areAtPeace_2 at h
  refine x_iload_n dX6_areAtPeace_2 rfl ?_
  refine x_iload_n dX6_areAtPeace_3 rfl ?_
  refine x_icmp_ge 34 dX6_areAtPeace_4 (by decide) (fun q7 => ?_) (fun q7 => ?_)
  · rw [if_pos q7] at h
    refine x_iconst 1 dX6_areAtPeace_34 (by decide) ?_
    cases h
    exact x_iret .boolean rfl rfl dX6_areAtPeace_35 hQ
  · rw [if_neg q7] at h
    refine x_iload_n dX6_areAtPeace_7 rfl ?_
    refine x_iload_n dX6_areAtPeace_8 rfl ?_
    refine x_ishr dX6_areAtPeace_9 ?_
    refine x_iconst 1 dX6_areAtPeace_10 (by decide) ?_
    refine x_iand dX6_areAtPeace_11 ?_
    refine x_if_eq 28 dX6_areAtPeace_12 (by decide) (fun q6 => ?_) (fun q6 => ?_)
    · rw [if_pos q6] at h
      refine x_iinc (a3 + 1) dX6_areAtPeace_28 rfl (by rfl) ?_
      refine x_goto 2 dX6_areAtPeace_31 (by decide) ?_
      exact Wp.mask [true, true, true, true] (hrec 2 _ _ _ h _ _ rfl _ hQ)
    · rw [if_neg q6] at h
      refine x_aload_nr dX6_areAtPeace_15 rfl ?_
      obtain ⟨v1, e2, h⟩ := Option.bind_eq_some_iff.mp h
      refine k_rA e2 dX6_areAtPeace_16 f_X6_15 ?_
      refine x_iload_n dX6_areAtPeace_19 rfl ?_
      obtain ⟨v3, e4, h⟩ := Option.bind_eq_some_iff.mp h
      refine k_aI e4 dX6_areAtPeace_20 ?_
      refine x_iload_n dX6_areAtPeace_21 rfl ?_
      refine x_iand dX6_areAtPeace_22 ?_
      refine x_if_eq 28 dX6_areAtPeace_23 (by decide) (fun q5 => ?_) (fun q5 => ?_)
      · rw [if_pos q5] at h
        refine x_iinc (a3 + 1) dX6_areAtPeace_28 rfl (by rfl) ?_
        refine x_goto 2 dX6_areAtPeace_31 (by decide) ?_
        exact Wp.mask [true, true, true, true] (hrec 2 _ _ _ h _ _ rfl _ hQ)
      · rw [if_neg q5] at h
        refine x_iconst 0 dX6_areAtPeace_26 (by decide) ?_
        cases h
        exact x_iret .boolean rfl rfl dX6_areAtPeace_27 hQ
theorem s_X6_areAtPeace {G : xG} {l : Launch} (hl : l.stackTraces = false) : ∀ n pc env P z, f_X6_areAtPeace n pc env P = some z → ∀ L st, lay_X6_areAtPeace pc env = some (L, st) → ∀ Q : xR → xH → Prop, Q z.1 z.2 → Wp G l 3 mX6_areAtPeace pc L st P Q := by
  intro n
  induction n with
  | zero => intro pc env P z h; cases h
  | succ n ih =>
    intro pc env P z h L st hlay Q hQ
    unfold f_X6_areAtPeace at h
    split at h
    · cases hlay
      exact t_X6_areAtPeace_0 hl ih h hQ
    · cases hlay
      exact t_X6_areAtPeace_2 hl ih h hQ
    · cases h
theorem c_X6_areAtPeace {G : xG} {l : Launch} (hl : l.stackTraces = false) {n : Nat} {as : List Value} {P : xH} {z : xR × xH} (h : f_X6_areAtPeace n 0 as P = some z) : Ct G l 3 mX6_areAtPeace as P (fun r P1 => (r, P1) = z) := by
  cases n with
  | zero => cases h
  | succ n =>
    unfold f_X6_areAtPeace at h
    split at h
    · exact Ct.of hl (by decide +kernel) wc_X6_areAtPeace (Nat.le_of_ble_eq_true rfl) (t_X6_areAtPeace_0 hl (s_X6_areAtPeace hl _) h rfl)
    all_goals first | (cases h; done) | (rename_i q9 _; exact absurd q9 (by decide)) | (rename_i q9; exact absurd q9 (by decide)) | contradiction
/-! QuakeNet$Sayings.isAgainst(III)Z -/
def b_X6_isAgainst_0 (n : Nat) (rec : Nat → List Value → xH → xO) (a0 : Nat) (a1 : Int32) (a2 : Int32) (a3 : Int32) (P : xH) : xO :=
  (rA P a0 6 2).bind fun v1 =>
  (aI P v1 a2).bind fun v3 =>
  (rA P a0 6 2).bind fun v5 =>
  (aI P v5 a1).bind fun v7 =>
  (rA P a0 6 0).bind fun v9 =>
  (rA P v9 9 0).bind fun v11 =>
  (aA P v11 5).bind fun v13 =>
  (aI P v13 v3).bind fun v15 =>
  (rA P a0 6 0).bind fun v17 =>
  (rA P v17 9 0).bind fun v19 =>
  (aA P v19 6).bind fun v21 =>
  (aI P v21 v3).bind fun v23 =>
  (kO P a0 6).bind fun _ =>
  (f_X6_isTooFar n 0 [.ref a0, .int v7, .int v15, .int v23, .int a3] P).bind fun r26 => xI r26 fun v28 P25 =>
  if v28 = 0 ∨ v28 = 1 then some (.inl (some (.int v28)), P25) else none
def lay_X6_isAgainst : Nat → List Value → Option (xL × List Value)
  | 0, [a0, a1, a2, a3] => some ([some a0, some a1, some a2, some a3, none], [])
  | _, _ => none
def f_X6_isAgainst : Nat → Nat → List Value → xH → xO
  | 0 => fun _ _ _ => none
  | n + 1 => fun pc env P => match pc, env with
    | 0, [.ref a0, .int a1, .int a2, .int a3] => b_X6_isAgainst_0 n (f_X6_isAgainst n) a0 a1 a2 a3 P
    | _, _ => none
set_option maxHeartbeats 2000000 in
set_option maxRecDepth 20000 in
theorem t_X6_isAgainst_0 {G : xG} {l : Launch} (hl : l.stackTraces = false) {n : Nat} {rec : Nat → List Value → xH → xO} (hrec : ∀ pc env P z, rec pc env P = some z → ∀ L st, lay_X6_isAgainst pc env = some (L, st) → ∀ Q : xR → xH → Prop, Q z.1 z.2 → Wp G l 9 mX6_isAgainst pc L st P Q) {a0 a1 a2 a3} {P : xH} {z : xR × xH} (h : b_X6_isAgainst_0 n rec a0 a1 a2 a3 P = some z) {Q : xR → xH → Prop} (hQ : Q z.1 z.2) : Wp G l 9 mX6_isAgainst 0 [some (.ref a0), some (.int a1), some (.int a2), some (.int a3), none] [] P Q := by
  unfold b_X6_isAgainst_0 at h
  refine x_aload_nr dX6_isAgainst_0 rfl ?_
  obtain ⟨v1, e2, h⟩ := Option.bind_eq_some_iff.mp h
  refine k_rA e2 dX6_isAgainst_1 f_X6_9 ?_
  refine x_iload_n dX6_isAgainst_4 rfl ?_
  obtain ⟨v3, e4, h⟩ := Option.bind_eq_some_iff.mp h
  refine k_aI e4 dX6_isAgainst_5 ?_
  refine x_istore dX6_isAgainst_6 (Nat.le_of_ble_eq_true rfl) ?_
  refine x_aload_nr dX6_isAgainst_8 rfl ?_
  refine x_aload_nr dX6_isAgainst_9 rfl ?_
  obtain ⟨v5, e6, h⟩ := Option.bind_eq_some_iff.mp h
  refine k_rA e6 dX6_isAgainst_10 f_X6_9 ?_
  refine x_iload_n dX6_isAgainst_13 rfl ?_
  obtain ⟨v7, e8, h⟩ := Option.bind_eq_some_iff.mp h
  refine k_aI e8 dX6_isAgainst_14 ?_
  refine x_aload_nr dX6_isAgainst_15 rfl ?_
  obtain ⟨v9, e10, h⟩ := Option.bind_eq_some_iff.mp h
  refine k_rA e10 dX6_isAgainst_16 f_X6_18 ?_
  obtain ⟨v11, e12, h⟩ := Option.bind_eq_some_iff.mp h
  refine k_rA e12 dX6_isAgainst_19 f_X6_33 ?_
  refine x_iconst 5 dX6_isAgainst_22 (by decide) ?_
  obtain ⟨v13, e14, h⟩ := Option.bind_eq_some_iff.mp h
  refine k_aA e14 dX6_isAgainst_23 ?_
  refine x_iload dX6_isAgainst_24 rfl ?_
  obtain ⟨v15, e16, h⟩ := Option.bind_eq_some_iff.mp h
  refine k_aI e16 dX6_isAgainst_26 ?_
  refine x_aload_nr dX6_isAgainst_27 rfl ?_
  obtain ⟨v17, e18, h⟩ := Option.bind_eq_some_iff.mp h
  refine k_rA e18 dX6_isAgainst_28 f_X6_18 ?_
  obtain ⟨v19, e20, h⟩ := Option.bind_eq_some_iff.mp h
  refine k_rA e20 dX6_isAgainst_31 f_X6_33 ?_
  refine x_bipush 6 dX6_isAgainst_34 (by decide) ?_
  obtain ⟨v21, e22, h⟩ := Option.bind_eq_some_iff.mp h
  refine k_aA e22 dX6_isAgainst_36 ?_
  refine x_iload dX6_isAgainst_37 rfl ?_
  obtain ⟨v23, e24, h⟩ := Option.bind_eq_some_iff.mp h
  refine k_aI e24 dX6_isAgainst_39 ?_
  refine x_iload_n dX6_isAgainst_40 rfl ?_
  obtain ⟨_, e29, h⟩ := Option.bind_eq_some_iff.mp h
  obtain ⟨fse29, e29⟩ := kO_ok e29
  obtain ⟨r26, e27, h⟩ := Option.bind_eq_some_iff.mp h
  replace h := xI_ok h
  obtain ⟨v28, P25, rfl, h⟩ := h
  refine x_callV (c_X6_isTooFar hl e27) dX6_isAgainst_41 cw_X6_isTooFar wl_X6_49 wi_X6_isTooFar wse_X6_isTooFar rfl e29 (by decide) rfl (by omega) (by decide) rfl (Nat.le_of_ble_eq_true rfl) rfl (fun v9 P9 hq9 => ?_) (fun i9 P9 hq9 => by cases hq9)
  cases hq9
  by_cases q30 : v28 = 0 ∨ v28 = 1
  · rw [if_pos q30] at h
    cases h
    exact x_iret .boolean rfl (by rcases q30 with z9 | z9 <;> rw [z9] <;> rfl) dX6_isAgainst_44 hQ
  · rw [if_neg q30] at h
    cases h
theorem s_X6_isAgainst {G : xG} {l : Launch} (hl : l.stackTraces = false) : ∀ n pc env P z, f_X6_isAgainst n pc env P = some z → ∀ L st, lay_X6_isAgainst pc env = some (L, st) → ∀ Q : xR → xH → Prop, Q z.1 z.2 → Wp G l 9 mX6_isAgainst pc L st P Q := by
  intro n
  induction n with
  | zero => intro pc env P z h; cases h
  | succ n ih =>
    intro pc env P z h L st hlay Q hQ
    unfold f_X6_isAgainst at h
    split at h
    · cases hlay
      exact t_X6_isAgainst_0 hl ih h hQ
    · cases h
theorem c_X6_isAgainst {G : xG} {l : Launch} (hl : l.stackTraces = false) {n : Nat} {as : List Value} {P : xH} {z : xR × xH} (h : f_X6_isAgainst n 0 as P = some z) : Ct G l 9 mX6_isAgainst as P (fun r P1 => (r, P1) = z) := by
  cases n with
  | zero => cases h
  | succ n =>
    unfold f_X6_isAgainst at h
    split at h
    · exact Ct.of hl (by decide +kernel) wc_X6_isAgainst (Nat.le_of_ble_eq_true rfl) (t_X6_isAgainst_0 hl (s_X6_isAgainst hl _) h rfl)
    all_goals first | (cases h; done) | (rename_i q9 _; exact absurd q9 (by decide)) | (rename_i q9; exact absurd q9 (by decide)) | contradiction
/-! QuakeNet$Sayings.findFoes(II)V -/
def b_X6_findFoes_0 (n : Nat) (rec : Nat → List Value → xH → xO) (a0 : Nat) (a1 : Int32) (a2 : Int32) (P : xH) : xO :=
  rec 2 [.ref a0, .int a1, .int a2, .int 0] P
def b_X6_findFoes_2 (n : Nat) (rec : Nat → List Value → xH → xO) (a0 : Nat) (a1 : Int32) (a2 : Int32) (a3 : Int32) (P : xH) : xO :=
  if a1 ≤ a3 then
    some (.inl none, P)
  else
    (rA P a0 6 3).bind fun v1 =>
    (sI P v1 a3 0).bind fun P3 =>
    rec 17 [.ref a0, .int a1, .int a2, .int a3, .int 0] P3
def b_X6_findFoes_17 (n : Nat) (rec : Nat → List Value → xH → xO) (a0 : Nat) (a1 : Int32) (a2 : Int32) (a3 : Int32) (a4 : Int32) (P : xH) : xO :=
  if a1 ≤ a4 then
    rec 2 [.ref a0, .int a1, .int a2, .int ((a3 + 1))] P
  else
    (rA P a0 6 3).bind fun v1 =>
    (aI P v1 a3).bind fun v3 =>
    (kO P a0 6).bind fun _ =>
    (f_X6_isAgainst n 0 [.ref a0, .int a3, .int a4, .int a2] P).bind fun r6 => xI r6 fun v8 P5 =>
    if v8 = 0 then
      (sI P5 v1 a3 ((v3 ||| 0))).bind fun P10 =>
      rec 17 [.ref a0, .int a1, .int a2, .int a3, .int ((a4 + 1))] P10
    else
      (sI P5 v1 a3 ((v3 ||| ((1 <<< (a4 &&& 31)))))).bind fun P12 =>
      rec 17 [.ref a0, .int a1, .int a2, .int a3, .int ((a4 + 1))] P12
def lay_X6_findFoes : Nat → List Value → Option (xL × List Value)
  | 0, [a0, a1, a2] => some ([some a0, some a1, some a2, none, none], [])
  | 2, [a0, a1, a2, a3] => some ([some a0, some a1, some a2, some a3, none], [])
  | 17, [a0, a1, a2, a3, a4] => some ([some a0, some a1, some a2, some a3, some a4], [])
  | _, _ => none
def f_X6_findFoes : Nat → Nat → List Value → xH → xO
  | 0 => fun _ _ _ => none
  | n + 1 => fun pc env P => match pc, env with
    | 0, [.ref a0, .int a1, .int a2] => b_X6_findFoes_0 n (f_X6_findFoes n) a0 a1 a2 P
    | 2, [.ref a0, .int a1, .int a2, .int a3] => b_X6_findFoes_2 n (f_X6_findFoes n) a0 a1 a2 a3 P
    | 17, [.ref a0, .int a1, .int a2, .int a3, .int a4] => b_X6_findFoes_17 n (f_X6_findFoes n) a0 a1 a2 a3 a4 P
    | _, _ => none
set_option maxHeartbeats 2000000 in
set_option maxRecDepth 20000 in
theorem t_X6_findFoes_0 {G : xG} {l : Launch} (hl : l.stackTraces = false) {n : Nat} {rec : Nat → List Value → xH → xO} (hrec : ∀ pc env P z, rec pc env P = some z → ∀ L st, lay_X6_findFoes pc env = some (L, st) → ∀ Q : xR → xH → Prop, Q z.1 z.2 → Wp G l 10 mX6_findFoes pc L st P Q) {a0 a1 a2} {P : xH} {z : xR × xH} (h : b_X6_findFoes_0 n rec a0 a1 a2 P = some z) {Q : xR → xH → Prop} (hQ : Q z.1 z.2) : Wp G l 10 mX6_findFoes 0 [some (.ref a0), some (.int a1), some (.int a2), none, none] [] P Q := by
  unfold b_X6_findFoes_0 at h
  refine x_iconst 0 dX6_findFoes_0 (by decide) ?_
  refine x_istore_n dX6_findFoes_1 (Nat.le_of_ble_eq_true rfl) ?_
  exact Wp.mask [true, true, true, true, false] (hrec 2 _ _ _ h _ _ rfl _ hQ)
set_option maxHeartbeats 2000000 in
set_option maxRecDepth 20000 in
theorem t_X6_findFoes_2 {G : xG} {l : Launch} (hl : l.stackTraces = false) {n : Nat} {rec : Nat → List Value → xH → xO} (hrec : ∀ pc env P z, rec pc env P = some z → ∀ L st, lay_X6_findFoes pc env = some (L, st) → ∀ Q : xR → xH → Prop, Q z.1 z.2 → Wp G l 10 mX6_findFoes pc L st P Q) {a0 a1 a2 a3} {P : xH} {z : xR × xH} (h : b_X6_findFoes_2 n rec a0 a1 a2 a3 P = some z) {Q : xR → xH → Prop} (hQ : Q z.1 z.2) : Wp G l 10 mX6_findFoes 2 [some (.ref a0), some (.int a1), some (.int a2), some (.int a3), none] [] P Q := by
  unfold b_X6_findFoes_2 at h
  refine x_iload_n dX6_findFoes_2 rfl ?_
  refine x_iload_n dX6_findFoes_3 rfl ?_
  refine x_icmp_ge 63 dX6_findFoes_4 (by decide) (fun q5 => ?_) (fun q5 => ?_)
  · rw [if_pos q5] at h
    cases h
    exact x_ret rfl dX6_findFoes_63 hQ
  · rw [if_neg q5] at h
    refine x_aload_nr dX6_findFoes_7 rfl ?_
    obtain ⟨v1, e2, h⟩ := Option.bind_eq_some_iff.mp h
    refine k_rA e2 dX6_findFoes_8 f_X6_15 ?_
    refine x_iload_n dX6_findFoes_11 rfl ?_
    refine x_iconst 0 dX6_findFoes_12 (by decide) ?_
    obtain ⟨P3, e4, h⟩ := Option.bind_eq_some_iff.mp h
    refine k_sI e4 dX6_findFoes_13 ?_
    refine x_iconst 0 dX6_findFoes_14 (by decide) ?_
    refine x_istore dX6_findFoes_15 (Nat.le_of_ble_eq_true rfl) ?_
    exact Wp.mask [true, true, true, true, true] (hrec 17 _ _ _ h _ _ rfl _ hQ)
set_option maxHeartbeats 2000000 in
set_option maxRecDepth 20000 in
theorem t_X6_findFoes_17 {G : xG} {l : Launch} (hl : l.stackTraces = false) {n : Nat} {rec : Nat → List Value → xH → xO} (hrec : ∀ pc env P z, rec pc env P = some z → ∀ L st, lay_X6_findFoes pc env = some (L, st) → ∀ Q : xR → xH → Prop, Q z.1 z.2 → Wp G l 10 mX6_findFoes pc L st P Q) {a0 a1 a2 a3 a4} {P : xH} {z : xR × xH} (h : b_X6_findFoes_17 n rec a0 a1 a2 a3 a4 P = some z) {Q : xR → xH → Prop} (hQ : Q z.1 z.2) : Wp G l 10 mX6_findFoes 17 [some (.ref a0), some (.int a1), some (.int a2), some (.int a3), some (.int a4)] [] P Q := by
  unfold b_X6_findFoes_17 at h
  refine x_iload dX6_findFoes_17 rfl ?_
  refine x_iload_n dX6_findFoes_19 rfl ?_
  refine x_icmp_ge 57 dX6_findFoes_20 (by decide) (fun q15 => ?_) (fun q15 => ?_)
  · rw [if_pos q15] at h
    refine x_iinc (a3 + 1) dX6_findFoes_57 rfl (by rfl) ?_
    refine x_goto 2 dX6_findFoes_60 (by decide) ?_
    exact Wp.mask [true, true, true, true, false] (hrec 2 _ _ _ h _ _ rfl _ hQ)
  · rw [if_neg q15] at h
    refine x_aload_nr dX6_findFoes_23 rfl ?_
    obtain ⟨v1, e2, h⟩ := Option.bind_eq_some_iff.mp h
    refine k_rA e2 dX6_findFoes_24 f_X6_15 ?_
    refine x_iload_n dX6_findFoes_27 rfl ?_
    refine x_dup2 dX6_findFoes_28 rfl rfl ?_
    obtain ⟨v3, e4, h⟩ := Option.bind_eq_some_iff.mp h
    refine k_aI e4 dX6_findFoes_29 ?_
    refine x_aload_nr dX6_findFoes_30 rfl ?_
    refine x_iload_n dX6_findFoes_31 rfl ?_
    refine x_iload dX6_findFoes_32 rfl ?_
    refine x_iload_n dX6_findFoes_34 rfl ?_
    obtain ⟨_, e9, h⟩ := Option.bind_eq_some_iff.mp h
    obtain ⟨fse9, e9⟩ := kO_ok e9
    obtain ⟨r6, e7, h⟩ := Option.bind_eq_some_iff.mp h
    replace h := xI_ok h
    obtain ⟨v8, P5, rfl, h⟩ := h
    refine x_callV (c_X6_isAgainst hl e7) dX6_findFoes_35 cw_X6_isAgainst wl_X6_63 wi_X6_isAgainst wse_X6_isAgainst rfl e9 (by decide) rfl (by omega) (by decide) rfl (Nat.le_of_ble_eq_true rfl) rfl (fun v9 P9 hq9 => ?_) (fun i9 P9 hq9 => by cases hq9)
    cases hq9
    refine x_if_eq 48 dX6_findFoes_38 (by decide) (fun q14 => ?_) (fun q14 => ?_)
    · rw [if_pos q14] at h
      refine x_iconst 0 dX6_findFoes_48 (by decide) ?_
      refine x_ior dX6_findFoes_49 ?_
      obtain ⟨P10, e11, h⟩ := Option.bind_eq_some_iff.mp h
      refine k_sI e11 dX6_findFoes_50 ?_
      refine x_iinc (a4 + 1) dX6_findFoes_51 rfl (by rfl) ?_
      refine x_goto 17 dX6_findFoes_54 (by decide) ?_
      exact Wp.mask [true, true, true, true, true] (hrec 17 _ _ _ h _ _ rfl _ hQ)
    · rw [if_neg q14] at h
      refine x_iconst 1 dX6_findFoes_41 (by decide) ?_
      refine x_iload dX6_findFoes_42 rfl ?_
      refine x_ishl dX6_findFoes_44 ?_
      refine x_goto 49 dX6_findFoes_45 (by decide) ?_
      refine x_ior dX6_findFoes_49 ?_
      obtain ⟨P12, e13, h⟩ := Option.bind_eq_some_iff.mp h
      refine k_sI e13 dX6_findFoes_50 ?_
      refine x_iinc (a4 + 1) dX6_findFoes_51 rfl (by rfl) ?_
      refine x_goto 17 dX6_findFoes_54 (by decide) ?_
      exact Wp.mask [true, true, true, true, true] (hrec 17 _ _ _ h _ _ rfl _ hQ)
theorem s_X6_findFoes {G : xG} {l : Launch} (hl : l.stackTraces = false) : ∀ n pc env P z, f_X6_findFoes n pc env P = some z → ∀ L st, lay_X6_findFoes pc env = some (L, st) → ∀ Q : xR → xH → Prop, Q z.1 z.2 → Wp G l 10 mX6_findFoes pc L st P Q := by
  intro n
  induction n with
  | zero => intro pc env P z h; cases h
  | succ n ih =>
    intro pc env P z h L st hlay Q hQ
    unfold f_X6_findFoes at h
    split at h
    · cases hlay
      exact t_X6_findFoes_0 hl ih h hQ
    · cases hlay
      exact t_X6_findFoes_2 hl ih h hQ
    · cases hlay
      exact t_X6_findFoes_17 hl ih h hQ
    · cases h
theorem c_X6_findFoes {G : xG} {l : Launch} (hl : l.stackTraces = false) {n : Nat} {as : List Value} {P : xH} {z : xR × xH} (h : f_X6_findFoes n 0 as P = some z) : Ct G l 10 mX6_findFoes as P (fun r P1 => (r, P1) = z) := by
  cases n with
  | zero => cases h
  | succ n =>
    unfold f_X6_findFoes at h
    split at h
    · exact Ct.of hl (by decide +kernel) wc_X6_findFoes (Nat.le_of_ble_eq_true rfl) (t_X6_findFoes_0 hl (s_X6_findFoes hl _) h rfl)
    all_goals first | (cases h; done) | (rename_i q9 _; exact absurd q9 (by decide)) | (rename_i q9; exact absurd q9 (by decide)) | contradiction
/-! QuakeNet$Sayings.fewestWrong(I)I -/
def b_X6_fewestWrong_0 (n : Nat) (rec : Nat → List Value → xH → xO) (a0 : Nat) (a1 : Int32) (P : xH) : xO :=
  (rI P a0 6 4).bind fun v1 =>
  (kO P a0 6).bind fun _ =>
  (f_X6_findFoes n 0 [.ref a0, .int ((mMin v1 10)), .int a1] P).bind fun r4 => xU r4 fun P3 =>
  rec 28 [.ref a0, .int a1, .int ((mMin v1 10)), .int ((((1 <<< (((mMin v1 10)) &&& 31))) - 1)), .int ((((1 <<< (((mMin v1 10)) &&& 31))) - 1)), .int 0] P3
def b_X6_fewestWrong_28 (n : Nat) (rec : Nat → List Value → xH → xO) (a0 : Nat) (a1 : Int32) (a2 : Int32) (a3 : Int32) (a4 : Int32) (a5 : Int32) (P : xH) : xO :=
  if a3 < a5 then
    some (.inl (some (.int a4)), P)
  else
    (f_J6_bitCount_0f7a4 n 0 [.int a5] P).bind fun r2 => xI r2 fun v4 P1 =>
    (f_J6_bitCount_0f7a4 n 0 [.int a4] P1).bind fun r6 => xI r6 fun v8 P5 =>
    if v8 ≤ v4 then
      rec 52 [.ref a0, .int a1, .int a2, .int a3, .int a4, .int a5, .int 0] P5
    else
      rec 52 [.ref a0, .int a1, .int a2, .int a3, .int a4, .int a5, .int 1] P5
def b_X6_fewestWrong_52 (n : Nat) (rec : Nat → List Value → xH → xO) (a0 : Nat) (a1 : Int32) (a2 : Int32) (a3 : Int32) (a4 : Int32) (a5 : Int32) (s0 : Int32) (P : xH) : xO :=
  if s0 = 0 then
    rec 28 [.ref a0, .int a1, .int a2, .int a3, .int a4, .int ((a5 + 1))] P
  else
    (kO P a0 6).bind fun _ =>
    (f_X6_areAtPeace n 0 [.ref a0, .int ((a3 &&& ((a5 ^^^ ((-1)))))), .int a2] P).bind fun r2 => xI r2 fun v4 P1 =>
    if v4 = 0 then
      rec 28 [.ref a0, .int a1, .int a2, .int a3, .int a4, .int ((a5 + 1))] P1
    else
      rec 28 [.ref a0, .int a1, .int a2, .int a3, .int a5, .int ((a5 + 1))] P1
def lay_X6_fewestWrong : Nat → List Value → Option (xL × List Value)
  | 0, [a0, a1] => some ([some a0, some a1, none, none, none, none, none], [])
  | 28, [a0, a1, a2, a3, a4, a5] => some ([some a0, some a1, some a2, some a3, some a4, some a5, none], [])
  | 52, [a0, a1, a2, a3, a4, a5, s0] => some ([some a0, some a1, some a2, some a3, some a4, some a5, none], [s0])
  | _, _ => none
def f_X6_fewestWrong : Nat → Nat → List Value → xH → xO
  | 0 => fun _ _ _ => none
  | n + 1 => fun pc env P => match pc, env with
    | 0, [.ref a0, .int a1] => b_X6_fewestWrong_0 n (f_X6_fewestWrong n) a0 a1 P
    | 28, [.ref a0, .int a1, .int a2, .int a3, .int a4, .int a5] => b_X6_fewestWrong_28 n (f_X6_fewestWrong n) a0 a1 a2 a3 a4 a5 P
    | 52, [.ref a0, .int a1, .int a2, .int a3, .int a4, .int a5, .int s0] => b_X6_fewestWrong_52 n (f_X6_fewestWrong n) a0 a1 a2 a3 a4 a5 s0 P
    | _, _ => none
set_option maxHeartbeats 2000000 in
set_option maxRecDepth 20000 in
theorem t_X6_fewestWrong_0 {G : xG} {l : Launch} (hl : l.stackTraces = false) {n : Nat} {rec : Nat → List Value → xH → xO} (hrec : ∀ pc env P z, rec pc env P = some z → ∀ L st, lay_X6_fewestWrong pc env = some (L, st) → ∀ Q : xR → xH → Prop, Q z.1 z.2 → Wp G l 11 mX6_fewestWrong pc L st P Q) {a0 a1} {P : xH} {z : xR × xH} (h : b_X6_fewestWrong_0 n rec a0 a1 P = some z) {Q : xR → xH → Prop} (hQ : Q z.1 z.2) : Wp G l 11 mX6_fewestWrong 0 [some (.ref a0), some (.int a1), none, none, none, none, none] [] P Q := by
  unfold b_X6_fewestWrong_0 at h
  refine x_aload_nr dX6_fewestWrong_0 rfl ?_
  obtain ⟨v1, e2, h⟩ := Option.bind_eq_some_iff.mp h
  refine k_rI e2 dX6_fewestWrong_1 f_X6_26 ?_
  refine x_bipush 10 dX6_fewestWrong_4 (by decide) ?_
  refine x_mmin dX6_fewestWrong_6 wl_X6_67 (Nat.le_of_ble_eq_true rfl) (by omega) ?_
  refine x_istore_n dX6_fewestWrong_9 (Nat.le_of_ble_eq_true rfl) ?_
  refine x_aload_nr dX6_fewestWrong_10 rfl ?_
  refine x_iload_n dX6_fewestWrong_11 rfl ?_
  refine x_iload_n dX6_fewestWrong_12 rfl ?_
  obtain ⟨_, e6, h⟩ := Option.bind_eq_some_iff.mp h
  obtain ⟨fse6, e6⟩ := kO_ok e6
  obtain ⟨r4, e5, h⟩ := Option.bind_eq_some_iff.mp h
  replace h := xU_ok h
  obtain ⟨P3, rfl, h⟩ := h
  refine x_callV (c_X6_findFoes hl e5) dX6_fewestWrong_13 cw_X6_findFoes wl_X6_70 wi_X6_findFoes wse_X6_findFoes rfl e6 (by decide) rfl (by omega) (by decide) rfl (Nat.le_of_ble_eq_true rfl) rfl (fun v9 P9 hq9 => ?_) (fun i9 P9 hq9 => by cases hq9)
  cases hq9
  refine x_iconst 1 dX6_fewestWrong_16 (by decide) ?_
  refine x_iload_n dX6_fewestWrong_17 rfl ?_
  refine x_ishl dX6_fewestWrong_18 ?_
  refine x_iconst 1 dX6_fewestWrong_19 (by decide) ?_
  refine x_isub dX6_fewestWrong_20 ?_
  refine x_istore_n dX6_fewestWrong_21 (Nat.le_of_ble_eq_true rfl) ?_
  refine x_iload_n dX6_fewestWrong_22 rfl ?_
  refine x_istore dX6_fewestWrong_23 (Nat.le_of_ble_eq_true rfl) ?_
  refine x_iconst 0 dX6_fewestWrong_25 (by decide) ?_
  refine x_istore dX6_fewestWrong_26 (Nat.le_of_ble_eq_true rfl) ?_
  exact Wp.mask [true, true, true, true, true, true, false] (hrec 28 _ _ _ h _ _ rfl _ hQ)
set_option maxHeartbeats 2000000 in
set_option maxRecDepth 20000 in
theorem t_X6_fewestWrong_28 {G : xG} {l : Launch} (hl : l.stackTraces = false) {n : Nat} {rec : Nat → List Value → xH → xO} (hrec : ∀ pc env P z, rec pc env P = some z → ∀ L st, lay_X6_fewestWrong pc env = some (L, st) → ∀ Q : xR → xH → Prop, Q z.1 z.2 → Wp G l 11 mX6_fewestWrong pc L st P Q) {a0 a1 a2 a3 a4 a5} {P : xH} {z : xR × xH} (h : b_X6_fewestWrong_28 n rec a0 a1 a2 a3 a4 a5 P = some z) {Q : xR → xH → Prop} (hQ : Q z.1 z.2) : Wp G l 11 mX6_fewestWrong 28 [some (.ref a0), some (.int a1), some (.int a2), some (.int a3), some (.int a4), some (.int a5), none] [] P Q := by
  unfold b_X6_fewestWrong_28 at h
  refine x_iload dX6_fewestWrong_28 rfl ?_
  refine x_iload_n dX6_fewestWrong_30 rfl ?_
  refine x_icmp_gt 83 dX6_fewestWrong_31 (by decide) (fun q10 => ?_) (fun q10 => ?_)
  · rw [if_pos q10] at h
    refine x_iload dX6_fewestWrong_83 rfl ?_
    cases h
    exact x_iret .int rfl rfl dX6_fewestWrong_85 hQ
  · rw [if_neg q10] at h
    refine x_iload dX6_fewestWrong_34 rfl ?_
    obtain ⟨r2, e3, h⟩ := Option.bind_eq_some_iff.mp h
    replace h := xI_ok h
    obtain ⟨v4, P1, rfl, h⟩ := h
    refine x_callS (c_J6_bitCount_0f7a4 hl e3) dX6_fewestWrong_36 cw_J6_bitCount_0f7a4 wl_X6_74 ws_J6_bitCount_0f7a4 rfl (by omega) (by decide) rfl (Nat.le_of_ble_eq_true rfl) rfl (fun v9 P9 hq9 => ?_) (fun i9 P9 hq9 => by cases hq9)
    cases hq9
    refine x_iload dX6_fewestWrong_39 rfl ?_
    obtain ⟨r6, e7, h⟩ := Option.bind_eq_some_iff.mp h
    replace h := xI_ok h
    obtain ⟨v8, P5, rfl, h⟩ := h
    refine x_callS (c_J6_bitCount_0f7a4 hl e7) dX6_fewestWrong_41 cw_J6_bitCount_0f7a4 wl_X6_74 ws_J6_bitCount_0f7a4 rfl (by omega) (by decide) rfl (Nat.le_of_ble_eq_true rfl) rfl (fun v9 P9 hq9 => ?_) (fun i9 P9 hq9 => by cases hq9)
    cases hq9
    refine x_icmp_ge 51 dX6_fewestWrong_44 (by decide) (fun q9 => ?_) (fun q9 => ?_)
    · rw [if_pos q9] at h
      refine x_iconst 0 dX6_fewestWrong_51 (by decide) ?_
      exact Wp.mask [true, true, true, true, true, true, false] (hrec 52 _ _ _ h _ _ rfl _ hQ)
    · rw [if_neg q9] at h
      refine x_iconst 1 dX6_fewestWrong_47 (by decide) ?_
      refine x_goto 52 dX6_fewestWrong_48 (by decide) ?_
      exact Wp.mask [true, true, true, true, true, true, false] (hrec 52 _ _ _ h _ _ rfl _ hQ)
set_option maxHeartbeats 2000000 in
set_option maxRecDepth 20000 in
theorem t_X6_fewestWrong_52 {G : xG} {l : Launch} (hl : l.stackTraces = false) {n : Nat} {rec : Nat → List Value → xH → xO} (hrec : ∀ pc env P z, rec pc env P = some z → ∀ L st, lay_X6_fewestWrong pc env = some (L, st) → ∀ Q : xR → xH → Prop, Q z.1 z.2 → Wp G l 11 mX6_fewestWrong pc L st P Q) {a0 a1 a2 a3 a4 a5 s0} {P : xH} {z : xR × xH} (h : b_X6_fewestWrong_52 n rec a0 a1 a2 a3 a4 a5 s0 P = some z) {Q : xR → xH → Prop} (hQ : Q z.1 z.2) : Wp G l 11 mX6_fewestWrong 52 [some (.ref a0), some (.int a1), some (.int a2), some (.int a3), some (.int a4), some (.int a5), none] [.int s0] P Q := by
  unfold b_X6_fewestWrong_52 at h
  refine x_istore dX6_fewestWrong_52 (Nat.le_of_ble_eq_true rfl) ?_
  refine x_iload dX6_fewestWrong_54 rfl ?_
  refine x_if_eq 77 dX6_fewestWrong_56 (by decide) (fun q7 => ?_) (fun q7 => ?_)
  · rw [if_pos q7] at h
    refine x_iinc (a5 + 1) dX6_fewestWrong_77 rfl (by rfl) ?_
    refine x_goto 28 dX6_fewestWrong_80 (by decide) ?_
    exact Wp.mask [true, true, true, true, true, true, false] (hrec 28 _ _ _ h _ _ rfl _ hQ)
  · rw [if_neg q7] at h
    refine x_aload_nr dX6_fewestWrong_59 rfl ?_
    refine x_iload_n dX6_fewestWrong_60 rfl ?_
    refine x_iload dX6_fewestWrong_61 rfl ?_
    refine x_iconst (-1) dX6_fewestWrong_63 (by decide) ?_
    refine x_ixor dX6_fewestWrong_64 ?_
    refine x_iand dX6_fewestWrong_65 ?_
    refine x_iload_n dX6_fewestWrong_66 rfl ?_
    obtain ⟨_, e5, h⟩ := Option.bind_eq_some_iff.mp h
    obtain ⟨fse5, e5⟩ := kO_ok e5
    obtain ⟨r2, e3, h⟩ := Option.bind_eq_some_iff.mp h
    replace h := xI_ok h
    obtain ⟨v4, P1, rfl, h⟩ := h
    refine x_callV (c_X6_areAtPeace hl e3) dX6_fewestWrong_67 cw_X6_areAtPeace wl_X6_79 wi_X6_areAtPeace wse_X6_areAtPeace rfl e5 (by decide) rfl (by omega) (by decide) rfl (Nat.le_of_ble_eq_true rfl) rfl (fun v9 P9 hq9 => ?_) (fun i9 P9 hq9 => by cases hq9)
    cases hq9
    refine x_if_eq 77 dX6_fewestWrong_70 (by decide) (fun q6 => ?_) (fun q6 => ?_)
    · rw [if_pos q6] at h
      refine x_iinc (a5 + 1) dX6_fewestWrong_77 rfl (by rfl) ?_
      refine x_goto 28 dX6_fewestWrong_80 (by decide) ?_
      exact Wp.mask [true, true, true, true, true, true, false] (hrec 28 _ _ _ h _ _ rfl _ hQ)
    · rw [if_neg q6] at h
      refine x_iload dX6_fewestWrong_73 rfl ?_
      refine x_istore dX6_fewestWrong_75 (Nat.le_of_ble_eq_true rfl) ?_
      refine x_iinc (a5 + 1) dX6_fewestWrong_77 rfl (by rfl) ?_
      refine x_goto 28 dX6_fewestWrong_80 (by decide) ?_
      exact Wp.mask [true, true, true, true, true, true, false] (hrec 28 _ _ _ h _ _ rfl _ hQ)
theorem s_X6_fewestWrong {G : xG} {l : Launch} (hl : l.stackTraces = false) : ∀ n pc env P z, f_X6_fewestWrong n pc env P = some z → ∀ L st, lay_X6_fewestWrong pc env = some (L, st) → ∀ Q : xR → xH → Prop, Q z.1 z.2 → Wp G l 11 mX6_fewestWrong pc L st P Q := by
  intro n
  induction n with
  | zero => intro pc env P z h; cases h
  | succ n ih =>
    intro pc env P z h L st hlay Q hQ
    unfold f_X6_fewestWrong at h
    split at h
    · cases hlay
      exact t_X6_fewestWrong_0 hl ih h hQ
    · cases hlay
      exact t_X6_fewestWrong_28 hl ih h hQ
    · cases hlay
      exact t_X6_fewestWrong_52 hl ih h hQ
    · cases h
theorem c_X6_fewestWrong {G : xG} {l : Launch} (hl : l.stackTraces = false) {n : Nat} {as : List Value} {P : xH} {z : xR × xH} (h : f_X6_fewestWrong n 0 as P = some z) : Ct G l 11 mX6_fewestWrong as P (fun r P1 => (r, P1) = z) := by
  cases n with
  | zero => cases h
  | succ n =>
    unfold f_X6_fewestWrong at h
    split at h
    · exact Ct.of hl (by decide +kernel) wc_X6_fewestWrong (Nat.le_of_ble_eq_true rfl) (t_X6_fewestWrong_0 hl (s_X6_fewestWrong hl _) h rfl)
    all_goals first | (cases h; done) | (rename_i q9 _; exact absurd q9 (by decide)) | (rename_i q9; exact absurd q9 (by decide)) | contradiction
/-! QuakeNet.least(IIZ)I -/
def b_X10_least_0 (n : Nat) (rec : Nat → List Value → xH → xO) (a0 : Nat) (a1 : Int32) (a2 : Int32) (a3 : Int32) (P : xH) : xO :=
  (f_X10_needIndex n 0 [.int a1, .int 16] P).bind fun r2 => xUt r2 fun P1 =>
  (rA P1 a0 10 3).bind fun v4 =>
  (kO P1 v4 6).bind fun _ =>
  (f_X6_gather n 0 [.ref v4, .int a1, .int a2] P1).bind fun r7 => xU r7 fun P6 =>
  (rA P6 a0 10 3).bind fun v10 =>
  (rA P6 a0 10 1).bind fun v12 =>
  (rI P6 v12 7 8).bind fun v14 =>
  (kO P6 v10 6).bind fun _ =>
  (f_X6_fewestWrong n 0 [.ref v10, .int v14] P6).bind fun r17 => xI r17 fun v19 P16 =>
  if a3 = 0 then
    (f_J6_bitCount_0f7a4 n 0 [.int v19] P16).bind fun r22 => xI r22 fun v24 P21 =>
    some (.inl (some (.int v24)), P21)
  else
    some (.inl (some (.int v19)), P16)
def lay_X10_least : Nat → List Value → Option (xL × List Value)
  | 0, [a0, a1, a2, a3] => some ([some a0, some a1, some a2, some a3, none], [])
  | _, _ => none
def f_X10_least : Nat → Nat → List Value → xH → xO
  | 0 => fun _ _ _ => none
  | n + 1 => fun pc env P => match pc, env with
    | 0, [.ref a0, .int a1, .int a2, .int a3] => b_X10_least_0 n (f_X10_least n) a0 a1 a2 a3 P
    | _, _ => none
set_option maxHeartbeats 2000000 in
set_option maxRecDepth 20000 in
theorem t_X10_least_0 {G : xG} {l : Launch} (hl : l.stackTraces = false) {n : Nat} {rec : Nat → List Value → xH → xO} (hrec : ∀ pc env P z, rec pc env P = some z → ∀ L st, lay_X10_least pc env = some (L, st) → ∀ Q : xR → xH → Prop, Q z.1 z.2 → Wp G l 12 mX10_least pc L st P Q) {a0 a1 a2 a3} {P : xH} {z : xR × xH} (h : b_X10_least_0 n rec a0 a1 a2 a3 P = some z) {Q : xR → xH → Prop} (hQ : Q z.1 z.2) : Wp G l 12 mX10_least 0 [some (.ref a0), some (.int a1), some (.int a2), some (.int a3), none] [] P Q := by
  unfold b_X10_least_0 at h
  refine x_iload_n dX10_least_0 rfl ?_
  refine x_bipush 16 dX10_least_1 (by decide) ?_
  obtain ⟨r2, e3, h⟩ := Option.bind_eq_some_iff.mp h
  replace h := xUt_ok h
  rcases h with ⟨P1, hr9, h⟩ | ⟨i8, P8, rfl, rfl⟩
  · subst hr9
    refine x_callS (c_X10_needIndex hl e3) dX10_least_3 cw_X10_needIndex wl_X10_87 ws_X10_needIndex rfl (by omega) (by decide) rfl (Nat.le_of_ble_eq_true rfl) rfl (fun v9 P9 hq9 => ?_) (fun i9 P9 hq9 => by cases hq9)
    cases hq9
    refine x_aload_nr dX10_least_6 rfl ?_
    obtain ⟨v4, e5, h⟩ := Option.bind_eq_some_iff.mp h
    refine k_rA e5 dX10_least_7 f_X10_48 ?_
    refine x_iload_n dX10_least_10 rfl ?_
    refine x_iload_n dX10_least_11 rfl ?_
    obtain ⟨_, e9, h⟩ := Option.bind_eq_some_iff.mp h
    obtain ⟨fse9, e9⟩ := kO_ok e9
    obtain ⟨r7, e8, h⟩ := Option.bind_eq_some_iff.mp h
    replace h := xU_ok h
    obtain ⟨P6, rfl, h⟩ := h
    refine x_callV (c_X6_gather hl e8) dX10_least_12 cw_X6_gather wl_X10_201 wi_X6_gather wse_X6_gather rfl e9 (by decide) rfl (by omega) (by decide) rfl (Nat.le_of_ble_eq_true rfl) rfl (fun v9 P9 hq9 => ?_) (fun i9 P9 hq9 => by cases hq9)
    cases hq9
    refine x_aload_nr dX10_least_15 rfl ?_
    obtain ⟨v10, e11, h⟩ := Option.bind_eq_some_iff.mp h
    refine k_rA e11 dX10_least_16 f_X10_48 ?_
    refine x_aload_nr dX10_least_19 rfl ?_
    obtain ⟨v12, e13, h⟩ := Option.bind_eq_some_iff.mp h
    refine k_rA e13 dX10_least_20 f_X10_19 ?_
    obtain ⟨v14, e15, h⟩ := Option.bind_eq_some_iff.mp h
    refine k_rI e15 dX10_least_23 f_X10_213 ?_
    obtain ⟨_, e20, h⟩ := Option.bind_eq_some_iff.mp h
    obtain ⟨fse20, e20⟩ := kO_ok e20
    obtain ⟨r17, e18, h⟩ := Option.bind_eq_some_iff.mp h
    replace h := xI_ok h
    obtain ⟨v19, P16, rfl, h⟩ := h
    refine x_callV (c_X6_fewestWrong hl e18) dX10_least_26 cw_X6_fewestWrong wl_X10_219 wi_X6_fewestWrong wse_X6_fewestWrong rfl e20 (by decide) rfl (by omega) (by decide) rfl (Nat.le_of_ble_eq_true rfl) rfl (fun v9 P9 hq9 => ?_) (fun i9 P9 hq9 => by cases hq9)
    cases hq9
    refine x_istore dX10_least_29 (Nat.le_of_ble_eq_true rfl) ?_
    refine x_iload_n dX10_least_31 rfl ?_
    refine x_if_eq 40 dX10_least_32 (by decide) (fun q25 => ?_) (fun q25 => ?_)
    · rw [if_pos q25] at h
      refine x_iload dX10_least_40 rfl ?_
      obtain ⟨r22, e23, h⟩ := Option.bind_eq_some_iff.mp h
      replace h := xI_ok h
      obtain ⟨v24, P21, rfl, h⟩ := h
      refine x_callS (c_J6_bitCount_0f7a4 hl e23) dX10_least_42 cw_J6_bitCount_0f7a4 wl_X10_207 ws_J6_bitCount_0f7a4 rfl (by omega) (by decide) rfl (Nat.le_of_ble_eq_true rfl) rfl (fun v9 P9 hq9 => ?_) (fun i9 P9 hq9 => by cases hq9)
      cases hq9
      cases h
      exact x_iret .int rfl rfl dX10_least_45 hQ
    · rw [if_neg q25] at h
      refine x_iload dX10_least_35 rfl ?_
      refine x_goto 45 dX10_least_37 (by decide) ?_
      cases h
      exact x_iret .int rfl rfl dX10_least_45 hQ
  · exact x_callS (c_X10_needIndex hl e3) dX10_least_3 cw_X10_needIndex wl_X10_87 ws_X10_needIndex rfl (by omega) (by decide) rfl (Nat.le_of_ble_eq_true rfl) rfl (fun v9 P9 hq9 => by cases hq9) (fun i9 P9 hq9 => by cases hq9; exact hQ)
theorem s_X10_least {G : xG} {l : Launch} (hl : l.stackTraces = false) : ∀ n pc env P z, f_X10_least n pc env P = some z → ∀ L st, lay_X10_least pc env = some (L, st) → ∀ Q : xR → xH → Prop, Q z.1 z.2 → Wp G l 12 mX10_least pc L st P Q := by
  intro n
  induction n with
  | zero => intro pc env P z h; cases h
  | succ n ih =>
    intro pc env P z h L st hlay Q hQ
    unfold f_X10_least at h
    split at h
    · cases hlay
      exact t_X10_least_0 hl ih h hQ
    · cases h
theorem c_X10_least {G : xG} {l : Launch} (hl : l.stackTraces = false) {n : Nat} {as : List Value} {P : xH} {z : xR × xH} (h : f_X10_least n 0 as P = some z) : Ct G l 12 mX10_least as P (fun r P1 => (r, P1) = z) := by
  cases n with
  | zero => cases h
  | succ n =>
    unfold f_X10_least at h
    split at h
    · exact Ct.of hl (by decide +kernel) wc_X10_least (Nat.le_of_ble_eq_true rfl) (t_X10_least_0 hl (s_X10_least hl _) h rfl)
    all_goals first | (cases h; done) | (rename_i q9 _; exact absurd q9 (by decide)) | (rename_i q9; exact absurd q9 (by decide)) | contradiction
/-! QuakeNet$Words.setVerdict(IZ)Z -/
def b_X9_setVerdict_0 (n : Nat) (rec : Nat → List Value → xH → xO) (a0 : Nat) (a1 : Int32) (a2 : Int32) (P : xH) : xO :=
  (rA P a0 9 2).bind fun v1 =>
  (aI P v1 a1).bind fun v3 =>
  (rA P a0 9 2).bind fun v5 =>
  if a2 = 0 then
    rec 21 [.ref a0, .int a1, .int a2, .int v3, .ref v5, .int a1, .int 2] P
  else
    rec 21 [.ref a0, .int a1, .int a2, .int v3, .ref v5, .int a1, .int 1] P
def b_X9_setVerdict_21 (n : Nat) (rec : Nat → List Value → xH → xO) (a0 : Nat) (a1 : Int32) (a2 : Int32) (a3 : Int32) (s0 : Nat) (s1 : Int32) (s2 : Int32) (P : xH) : xO :=
  (sI P s0 s1 s2).bind fun P1 =>
  (rA P1 a0 9 2).bind fun v3 =>
  (aI P1 v3 a1).bind fun v5 =>
  if a3 = v5 then
    some (.inl (some (.int 0)), P1)
  else
    some (.inl (some (.int 1)), P1)
def lay_X9_setVerdict : Nat → List Value → Option (xL × List Value)
  | 0, [a0, a1, a2] => some ([some a0, some a1, some a2, none], [])
  | 21, [a0, a1, a2, a3, s0, s1, s2] => some ([some a0, some a1, some a2, some a3], [s2, s1, s0])
  | _, _ => none
def f_X9_setVerdict : Nat → Nat → List Value → xH → xO
  | 0 => fun _ _ _ => none
  | n + 1 => fun pc env P => match pc, env with
    | 0, [.ref a0, .int a1, .int a2] => b_X9_setVerdict_0 n (f_X9_setVerdict n) a0 a1 a2 P
    | 21, [.ref a0, .int a1, .int a2, .int a3, .ref s0, .int s1, .int s2] => b_X9_setVerdict_21 n (f_X9_setVerdict n) a0 a1 a2 a3 s0 s1 s2 P
    | _, _ => none
set_option maxHeartbeats 2000000 in
set_option maxRecDepth 20000 in
theorem t_X9_setVerdict_0 {G : xG} {l : Launch} (hl : l.stackTraces = false) {n : Nat} {rec : Nat → List Value → xH → xO} (hrec : ∀ pc env P z, rec pc env P = some z → ∀ L st, lay_X9_setVerdict pc env = some (L, st) → ∀ Q : xR → xH → Prop, Q z.1 z.2 → Wp G l 3 mX9_setVerdict pc L st P Q) {a0 a1 a2} {P : xH} {z : xR × xH} (h : b_X9_setVerdict_0 n rec a0 a1 a2 P = some z) {Q : xR → xH → Prop} (hQ : Q z.1 z.2) : Wp G l 3 mX9_setVerdict 0 [some (.ref a0), some (.int a1), some (.int a2), none] [] P Q := by
  unfold b_X9_setVerdict_0 at h
  refine x_aload_nr dX9_setVerdict_0 rfl ?_
  obtain ⟨v1, e2, h⟩ := Option.bind_eq_some_iff.mp h
  refine k_rA e2 dX9_setVerdict_1 f_X9_20 ?_
  refine x_iload_n dX9_setVerdict_4 rfl ?_
  obtain ⟨v3, e4, h⟩ := Option.bind_eq_some_iff.mp h
  refine k_aI e4 dX9_setVerdict_5 ?_
  refine x_istore_n dX9_setVerdict_6 (Nat.le_of_ble_eq_true rfl) ?_
  refine x_aload_nr dX9_setVerdict_7 rfl ?_
  obtain ⟨v5, e6, h⟩ := Option.bind_eq_some_iff.mp h
  refine k_rA e6 dX9_setVerdict_8 f_X9_20 ?_
  refine x_iload_n dX9_setVerdict_11 rfl ?_
  refine x_iload_n dX9_setVerdict_12 rfl ?_
  refine x_if_eq 20 dX9_setVerdict_13 (by decide) (fun q7 => ?_) (fun q7 => ?_)
  · rw [if_pos q7] at h
    refine x_iconst 2 dX9_setVerdict_20 (by decide) ?_
    exact Wp.mask [true, true, true, true] (hrec 21 _ _ _ h _ _ rfl _ hQ)
  · rw [if_neg q7] at h
    refine x_iconst 1 dX9_setVerdict_16 (by decide) ?_
    refine x_goto 21 dX9_setVerdict_17 (by decide) ?_
    exact Wp.mask [true, true, true, true] (hrec 21 _ _ _ h _ _ rfl _ hQ)
set_option maxHeartbeats 2000000 in
set_option maxRecDepth 20000 in
theorem t_X9_setVerdict_21 {G : xG} {l : Launch} (hl : l.stackTraces = false) {n : Nat} {rec : Nat → List Value → xH → xO} (hrec : ∀ pc env P z, rec pc env P = some z → ∀ L st, lay_X9_setVerdict pc env = some (L, st) → ∀ Q : xR → xH → Prop, Q z.1 z.2 → Wp G l 3 mX9_setVerdict pc L st P Q) {a0 a1 a2 a3 s0 s1 s2} {P : xH} {z : xR × xH} (h : b_X9_setVerdict_21 n rec a0 a1 a2 a3 s0 s1 s2 P = some z) {Q : xR → xH → Prop} (hQ : Q z.1 z.2) : Wp G l 3 mX9_setVerdict 21 [some (.ref a0), some (.int a1), some (.int a2), some (.int a3)] [.int s2, .int s1, .ref s0] P Q := by
  unfold b_X9_setVerdict_21 at h
  obtain ⟨P1, e2, h⟩ := Option.bind_eq_some_iff.mp h
  refine k_sI e2 dX9_setVerdict_21 ?_
  refine x_iload_n dX9_setVerdict_22 rfl ?_
  refine x_aload_nr dX9_setVerdict_23 rfl ?_
  obtain ⟨v3, e4, h⟩ := Option.bind_eq_some_iff.mp h
  refine k_rA e4 dX9_setVerdict_24 f_X9_20 ?_
  refine x_iload_n dX9_setVerdict_27 rfl ?_
  obtain ⟨v5, e6, h⟩ := Option.bind_eq_some_iff.mp h
  refine k_aI e6 dX9_setVerdict_28 ?_
  refine x_icmp_eq 36 dX9_setVerdict_29 (by decide) (fun q7 => ?_) (fun q7 => ?_)
  · rw [if_pos q7] at h
    refine x_iconst 0 dX9_setVerdict_36 (by decide) ?_
    cases h
    exact x_iret .boolean rfl rfl dX9_setVerdict_37 hQ
  · rw [if_neg q7] at h
    refine x_iconst 1 dX9_setVerdict_32 (by decide) ?_
    refine x_goto 37 dX9_setVerdict_33 (by decide) ?_
    cases h
    exact x_iret .boolean rfl rfl dX9_setVerdict_37 hQ
theorem s_X9_setVerdict {G : xG} {l : Launch} (hl : l.stackTraces = false) : ∀ n pc env P z, f_X9_setVerdict n pc env P = some z → ∀ L st, lay_X9_setVerdict pc env = some (L, st) → ∀ Q : xR → xH → Prop, Q z.1 z.2 → Wp G l 3 mX9_setVerdict pc L st P Q := by
  intro n
  induction n with
  | zero => intro pc env P z h; cases h
  | succ n ih =>
    intro pc env P z h L st hlay Q hQ
    unfold f_X9_setVerdict at h
    split at h
    · cases hlay
      exact t_X9_setVerdict_0 hl ih h hQ
    · cases hlay
      exact t_X9_setVerdict_21 hl ih h hQ
    · cases h
theorem c_X9_setVerdict {G : xG} {l : Launch} (hl : l.stackTraces = false) {n : Nat} {as : List Value} {P : xH} {z : xR × xH} (h : f_X9_setVerdict n 0 as P = some z) : Ct G l 3 mX9_setVerdict as P (fun r P1 => (r, P1) = z) := by
  cases n with
  | zero => cases h
  | succ n =>
    unfold f_X9_setVerdict at h
    split at h
    · exact Ct.of hl (by decide +kernel) wc_X9_setVerdict (Nat.le_of_ble_eq_true rfl) (t_X9_setVerdict_0 hl (s_X9_setVerdict hl _) h rfl)
    all_goals first | (cases h; done) | (rename_i q9 _; exact absurd q9 (by decide)) | (rename_i q9; exact absurd q9 (by decide)) | contradiction
/-! QuakeNet.judge(IZ)Z -/
def b_X10_judge_0 (n : Nat) (rec : Nat → List Value → xH → xO) (a0 : Nat) (a1 : Int32) (a2 : Int32) (P : xH) : xO :=
  (kO P a0 10).bind fun _ =>
  (f_X10_needWord n 0 [.ref a0, .int a1] P).bind fun r2 => xUt r2 fun P1 =>
  (rA P1 a0 10 1).bind fun v5 =>
  (rA P1 v5 7 1).bind fun v7 =>
  (kO P1 v7 9).bind fun _ =>
  (f_X9_setVerdict n 0 [.ref v7, .int a1, .int a2] P1).bind fun r10 => xI r10 fun v12 P9 =>
  if v12 = 0 ∨ v12 = 1 then some (.inl (some (.int v12)), P9) else none
def lay_X10_judge : Nat → List Value → Option (xL × List Value)
  | 0, [a0, a1, a2] => some ([some a0, some a1, some a2], [])
  | _, _ => none
def f_X10_judge : Nat → Nat → List Value → xH → xO
  | 0 => fun _ _ _ => none
  | n + 1 => fun pc env P => match pc, env with
    | 0, [.ref a0, .int a1, .int a2] => b_X10_judge_0 n (f_X10_judge n) a0 a1 a2 P
    | _, _ => none
set_option maxHeartbeats 2000000 in
set_option maxRecDepth 20000 in
theorem t_X10_judge_0 {G : xG} {l : Launch} (hl : l.stackTraces = false) {n : Nat} {rec : Nat → List Value → xH → xO} (hrec : ∀ pc env P z, rec pc env P = some z → ∀ L st, lay_X10_judge pc env = some (L, st) → ∀ Q : xR → xH → Prop, Q z.1 z.2 → Wp G l 10 mX10_judge pc L st P Q) {a0 a1 a2} {P : xH} {z : xR × xH} (h : b_X10_judge_0 n rec a0 a1 a2 P = some z) {Q : xR → xH → Prop} (hQ : Q z.1 z.2) : Wp G l 10 mX10_judge 0 [some (.ref a0), some (.int a1), some (.int a2)] [] P Q := by
  unfold b_X10_judge_0 at h
  refine x_aload_nr dX10_judge_0 rfl ?_
  refine x_iload_n dX10_judge_1 rfl ?_
  obtain ⟨_, e4, h⟩ := Option.bind_eq_some_iff.mp h
  obtain ⟨fse4, e4⟩ := kO_ok e4
  obtain ⟨r2, e3, h⟩ := Option.bind_eq_some_iff.mp h
  replace h := xUt_ok h
  rcases h with ⟨P1, hr9, h⟩ | ⟨i8, P8, rfl, rfl⟩
  · subst hr9
    refine x_callV (c_X10_needWord hl e3) dX10_judge_2 cw_X10_needWord wl_X10_141 wi_X10_needWord wse_X10_needWord rfl e4 (by decide) rfl (by omega) (by decide) rfl (Nat.le_of_ble_eq_true rfl) rfl (fun v9 P9 hq9 => ?_) (fun i9 P9 hq9 => by cases hq9)
    cases hq9
    refine x_aload_nr dX10_judge_5 rfl ?_
    obtain ⟨v5, e6, h⟩ := Option.bind_eq_some_iff.mp h
    refine k_rA e6 dX10_judge_6 f_X10_19 ?_
    obtain ⟨v7, e8, h⟩ := Option.bind_eq_some_iff.mp h
    refine k_rA e8 dX10_judge_9 f_X10_25 ?_
    refine x_iload_n dX10_judge_12 rfl ?_
    refine x_iload_n dX10_judge_13 rfl ?_
    obtain ⟨_, e13, h⟩ := Option.bind_eq_some_iff.mp h
    obtain ⟨fse13, e13⟩ := kO_ok e13
    obtain ⟨r10, e11, h⟩ := Option.bind_eq_some_iff.mp h
    replace h := xI_ok h
    obtain ⟨v12, P9, rfl, h⟩ := h
    refine x_callV (c_X9_setVerdict hl e11) dX10_judge_14 cw_X9_setVerdict wl_X10_222 wi_X9_setVerdict wse_X9_setVerdict rfl e13 (by decide) rfl (by omega) (by decide) rfl (Nat.le_of_ble_eq_true rfl) rfl (fun v9 P9 hq9 => ?_) (fun i9 P9 hq9 => by cases hq9)
    cases hq9
    by_cases q14 : v12 = 0 ∨ v12 = 1
    · rw [if_pos q14] at h
      cases h
      exact x_iret .boolean rfl (by rcases q14 with z9 | z9 <;> rw [z9] <;> rfl) dX10_judge_17 hQ
    · rw [if_neg q14] at h
      cases h
  · exact x_callV (c_X10_needWord hl e3) dX10_judge_2 cw_X10_needWord wl_X10_141 wi_X10_needWord wse_X10_needWord rfl e4 (by decide) rfl (by omega) (by decide) rfl (Nat.le_of_ble_eq_true rfl) rfl (fun v9 P9 hq9 => by cases hq9) (fun i9 P9 hq9 => by cases hq9; exact hQ)
theorem s_X10_judge {G : xG} {l : Launch} (hl : l.stackTraces = false) : ∀ n pc env P z, f_X10_judge n pc env P = some z → ∀ L st, lay_X10_judge pc env = some (L, st) → ∀ Q : xR → xH → Prop, Q z.1 z.2 → Wp G l 10 mX10_judge pc L st P Q := by
  intro n
  induction n with
  | zero => intro pc env P z h; cases h
  | succ n ih =>
    intro pc env P z h L st hlay Q hQ
    unfold f_X10_judge at h
    split at h
    · cases hlay
      exact t_X10_judge_0 hl ih h hQ
    · cases h
theorem c_X10_judge {G : xG} {l : Launch} (hl : l.stackTraces = false) {n : Nat} {as : List Value} {P : xH} {z : xR × xH} (h : f_X10_judge n 0 as P = some z) : Ct G l 10 mX10_judge as P (fun r P1 => (r, P1) = z) := by
  cases n with
  | zero => cases h
  | succ n =>
    unfold f_X10_judge at h
    split at h
    · exact Ct.of hl (by decide +kernel) wc_X10_judge (Nat.le_of_ble_eq_true rfl) (t_X10_judge_0 hl (s_X10_judge hl _) h rfl)
    all_goals first | (cases h; done) | (rename_i q9 _; exact absurd q9 (by decide)) | (rename_i q9; exact absurd q9 (by decide)) | contradiction
/-! QuakeNet$Words.trust(I)I -/
def b_X9_trust_0 (n : Nat) (rec : Nat → List Value → xH → xO) (a0 : Nat) (a1 : Int32) (P : xH) : xO :=
  rec 7 [.ref a0, .int a1, .int 0, .int 0, .int 0] P
def b_X9_trust_7 (n : Nat) (rec : Nat → List Value → xH → xO) (a0 : Nat) (a1 : Int32) (a2 : Int32) (a3 : Int32) (a4 : Int32) (P : xH) : xO :=
  (rI P a0 9 3).bind fun v1 =>
  if v1 ≤ a4 then
    if ((a2 + 2)) = 0 then none else
    some (.inl (some (.int ((((1000 * ((a3 + 1)))) / ((a2 + 2)))))), P)
  else
    (rA P a0 9 0).bind fun v4 =>
    (aA P v4 1).bind fun v6 =>
    (aI P v6 a4).bind fun v8 =>
    if ¬ v8 = a1 then
      rec 7 [.ref a0, .int a1, .int a2, .int a3, .int ((a4 + 1))] P
    else
      (rA P a0 9 2).bind fun v10 =>
      (aI P v10 a4).bind fun v12 =>
      if v12 = 0 then
        rec 7 [.ref a0, .int a1, .int a2, .int a3, .int ((a4 + 1))] P
      else
        (rA P a0 9 2).bind fun v14 =>
        (aI P v14 a4).bind fun v16 =>
        if ¬ v16 = 1 then
          rec 7 [.ref a0, .int a1, .int ((a2 + 1)), .int ((a3 + 0)), .int ((a4 + 1))] P
        else
          rec 7 [.ref a0, .int a1, .int ((a2 + 1)), .int ((a3 + 1)), .int ((a4 + 1))] P
def lay_X9_trust : Nat → List Value → Option (xL × List Value)
  | 0, [a0, a1] => some ([some a0, some a1, none, none, none], [])
  | 7, [a0, a1, a2, a3, a4] => some ([some a0, some a1, some a2, some a3, some a4], [])
  | _, _ => none
def f_X9_trust : Nat → Nat → List Value → xH → xO
  | 0 => fun _ _ _ => none
  | n + 1 => fun pc env P => match pc, env with
    | 0, [.ref a0, .int a1] => b_X9_trust_0 n (f_X9_trust n) a0 a1 P
    | 7, [.ref a0, .int a1, .int a2, .int a3, .int a4] => b_X9_trust_7 n (f_X9_trust n) a0 a1 a2 a3 a4 P
    | _, _ => none
set_option maxHeartbeats 2000000 in
set_option maxRecDepth 20000 in
theorem t_X9_trust_0 {G : xG} {l : Launch} (hl : l.stackTraces = false) {n : Nat} {rec : Nat → List Value → xH → xO} (hrec : ∀ pc env P z, rec pc env P = some z → ∀ L st, lay_X9_trust pc env = some (L, st) → ∀ Q : xR → xH → Prop, Q z.1 z.2 → Wp G l 3 mX9_trust pc L st P Q) {a0 a1} {P : xH} {z : xR × xH} (h : b_X9_trust_0 n rec a0 a1 P = some z) {Q : xR → xH → Prop} (hQ : Q z.1 z.2) : Wp G l 3 mX9_trust 0 [some (.ref a0), some (.int a1), none, none, none] [] P Q := by
  unfold b_X9_trust_0 at h
  refine x_iconst 0 dX9_trust_0 (by decide) ?_
  refine x_istore_n dX9_trust_1 (Nat.le_of_ble_eq_true rfl) ?_
  refine x_iconst 0 dX9_trust_2 (by decide) ?_
  refine x_istore_n dX9_trust_3 (Nat.le_of_ble_eq_true rfl) ?_
  refine x_iconst 0 dX9_trust_4 (by decide) ?_
  refine x_istore dX9_trust_5 (Nat.le_of_ble_eq_true rfl) ?_
  exact Wp.mask [true, true, true, true, true] (hrec 7 _ _ _ h _ _ rfl _ hQ)
set_option maxHeartbeats 2000000 in
set_option maxRecDepth 20000 in
theorem t_X9_trust_7 {G : xG} {l : Launch} (hl : l.stackTraces = false) {n : Nat} {rec : Nat → List Value → xH → xO} (hrec : ∀ pc env P z, rec pc env P = some z → ∀ L st, lay_X9_trust pc env = some (L, st) → ∀ Q : xR → xH → Prop, Q z.1 z.2 → Wp G l 3 mX9_trust pc L st P Q) {a0 a1 a2 a3 a4} {P : xH} {z : xR × xH} (h : b_X9_trust_7 n rec a0 a1 a2 a3 a4 P = some z) {Q : xR → xH → Prop} (hQ : Q z.1 z.2) : Wp G l 3 mX9_trust 7 [some (.ref a0), some (.int a1), some (.int a2), some (.int a3), some (.int a4)] [] P Q := by
  unfold b_X9_trust_7 at h
  refine x_iload dX9_trust_7 rfl ?_
  refine x_aload_nr dX9_trust_9 rfl ?_
  obtain ⟨v1, e2, h⟩ := Option.bind_eq_some_iff.mp h
  refine k_rI e2 dX9_trust_10 f_X9_31 ?_
  refine x_icmp_ge 67 dX9_trust_13 (by decide) (fun q21 => ?_) (fun q21 => ?_)
  · rw [if_pos q21] at h
    refine x_sipush 1000 dX9_trust_67 (by decide) ?_
    refine x_iload_n dX9_trust_70 rfl ?_
    refine x_iconst 1 dX9_trust_71 (by decide) ?_
    refine x_iadd dX9_trust_72 ?_
    refine x_imul dX9_trust_73 ?_
    refine x_iload_n dX9_trust_74 rfl ?_
    refine x_iconst 2 dX9_trust_75 (by decide) ?_
    refine x_iadd dX9_trust_76 ?_
    by_cases q3 : ((a2 + 2)) = 0
    · rw [if_pos q3] at h; cases h
    rw [if_neg q3] at h
    refine x_idiv dX9_trust_77 q3 ?_
    cases h
    exact x_iret .int rfl rfl dX9_trust_78 hQ
  · rw [if_neg q21] at h
    refine x_aload_nr dX9_trust_16 rfl ?_
    obtain ⟨v4, e5, h⟩ := Option.bind_eq_some_iff.mp h
    refine k_rA e5 dX9_trust_17 f_X9_13 ?_
    refine x_iconst 1 dX9_trust_20 (by decide) ?_
    obtain ⟨v6, e7, h⟩ := Option.bind_eq_some_iff.mp h
    refine k_aA e7 dX9_trust_21 ?_
    refine x_iload dX9_trust_22 rfl ?_
    obtain ⟨v8, e9, h⟩ := Option.bind_eq_some_iff.mp h
    refine k_aI e9 dX9_trust_24 ?_
    refine x_iload_n dX9_trust_25 rfl ?_
    refine x_icmp_ne 61 dX9_trust_26 (by decide) (fun q20 => ?_) (fun q20 => ?_)
    · rw [if_pos q20] at h
      refine x_iinc (a4 + 1) dX9_trust_61 rfl (by rfl) ?_
      refine x_goto 7 dX9_trust_64 (by decide) ?_
      exact Wp.mask [true, true, true, true, true] (hrec 7 _ _ _ h _ _ rfl _ hQ)
    · rw [if_neg (fun z9 => z9 q20)] at h
      refine x_aload_nr dX9_trust_29 rfl ?_
      obtain ⟨v10, e11, h⟩ := Option.bind_eq_some_iff.mp h
      refine k_rA e11 dX9_trust_30 f_X9_20 ?_
      refine x_iload dX9_trust_33 rfl ?_
      obtain ⟨v12, e13, h⟩ := Option.bind_eq_some_iff.mp h
      refine k_aI e13 dX9_trust_35 ?_
      refine x_if_eq 61 dX9_trust_36 (by decide) (fun q19 => ?_) (fun q19 => ?_)
      · rw [if_pos q19] at h
        refine x_iinc (a4 + 1) dX9_trust_61 rfl (by rfl) ?_
        refine x_goto 7 dX9_trust_64 (by decide) ?_
        exact Wp.mask [true, true, true, true, true] (hrec 7 _ _ _ h _ _ rfl _ hQ)
      · rw [if_neg q19] at h
        refine x_iinc (a2 + 1) dX9_trust_39 rfl (by rfl) ?_
        refine x_iload_n dX9_trust_42 rfl ?_
        refine x_aload_nr dX9_trust_43 rfl ?_
        obtain ⟨v14, e15, h⟩ := Option.bind_eq_some_iff.mp h
        refine k_rA e15 dX9_trust_44 f_X9_20 ?_
        refine x_iload dX9_trust_47 rfl ?_
        obtain ⟨v16, e17, h⟩ := Option.bind_eq_some_iff.mp h
        refine k_aI e17 dX9_trust_49 ?_
        refine x_iconst 1 dX9_trust_50 (by decide) ?_
        refine x_icmp_ne 58 dX9_trust_51 (by decide) (fun q18 => ?_) (fun q18 => ?_)
        · rw [if_pos q18] at h
          refine x_iconst 0 dX9_trust_58 (by decide) ?_
          refine x_iadd dX9_trust_59 ?_
          refine x_istore_n dX9_trust_60 (Nat.le_of_ble_eq_true rfl) ?_
          refine x_iinc (a4 + 1) dX9_trust_61 rfl (by rfl) ?_
          refine x_goto 7 dX9_trust_64 (by decide) ?_
          exact Wp.mask [true, true, true, true, true] (hrec 7 _ _ _ h _ _ rfl _ hQ)
        · rw [if_neg (fun z9 => z9 q18)] at h
          refine x_iconst 1 dX9_trust_54 (by decide) ?_
          refine x_goto 59 dX9_trust_55 (by decide) ?_
          refine x_iadd dX9_trust_59 ?_
          refine x_istore_n dX9_trust_60 (Nat.le_of_ble_eq_true rfl) ?_
          refine x_iinc (a4 + 1) dX9_trust_61 rfl (by rfl) ?_
          refine x_goto 7 dX9_trust_64 (by decide) ?_
          exact Wp.mask [true, true, true, true, true] (hrec 7 _ _ _ h _ _ rfl _ hQ)
theorem s_X9_trust {G : xG} {l : Launch} (hl : l.stackTraces = false) : ∀ n pc env P z, f_X9_trust n pc env P = some z → ∀ L st, lay_X9_trust pc env = some (L, st) → ∀ Q : xR → xH → Prop, Q z.1 z.2 → Wp G l 3 mX9_trust pc L st P Q := by
  intro n
  induction n with
  | zero => intro pc env P z h; cases h
  | succ n ih =>
    intro pc env P z h L st hlay Q hQ
    unfold f_X9_trust at h
    split at h
    · cases hlay
      exact t_X9_trust_0 hl ih h hQ
    · cases hlay
      exact t_X9_trust_7 hl ih h hQ
    · cases h
theorem c_X9_trust {G : xG} {l : Launch} (hl : l.stackTraces = false) {n : Nat} {as : List Value} {P : xH} {z : xR × xH} (h : f_X9_trust n 0 as P = some z) : Ct G l 3 mX9_trust as P (fun r P1 => (r, P1) = z) := by
  cases n with
  | zero => cases h
  | succ n =>
    unfold f_X9_trust at h
    split at h
    · exact Ct.of hl (by decide +kernel) wc_X9_trust (Nat.le_of_ble_eq_true rfl) (t_X9_trust_0 hl (s_X9_trust hl _) h rfl)
    all_goals first | (cases h; done) | (rename_i q9 _; exact absurd q9 (by decide)) | (rename_i q9; exact absurd q9 (by decide)) | contradiction
/-! QuakeNet.weight(I)I -/
def b_X10_weight_0 (n : Nat) (rec : Nat → List Value → xH → xO) (a0 : Nat) (a1 : Int32) (P : xH) : xO :=
  (kO P a0 10).bind fun _ =>
  (f_X10_needPhone n 0 [.ref a0, .int a1] P).bind fun r2 => xUt r2 fun P1 =>
  (rA P1 a0 10 1).bind fun v5 =>
  (rA P1 v5 7 1).bind fun v7 =>
  (kO P1 v7 9).bind fun _ =>
  (f_X9_trust n 0 [.ref v7, .int a1] P1).bind fun r10 => xI r10 fun v12 P9 =>
  some (.inl (some (.int v12)), P9)
def lay_X10_weight : Nat → List Value → Option (xL × List Value)
  | 0, [a0, a1] => some ([some a0, some a1], [])
  | _, _ => none
def f_X10_weight : Nat → Nat → List Value → xH → xO
  | 0 => fun _ _ _ => none
  | n + 1 => fun pc env P => match pc, env with
    | 0, [.ref a0, .int a1] => b_X10_weight_0 n (f_X10_weight n) a0 a1 P
    | _, _ => none
set_option maxHeartbeats 2000000 in
set_option maxRecDepth 20000 in
theorem t_X10_weight_0 {G : xG} {l : Launch} (hl : l.stackTraces = false) {n : Nat} {rec : Nat → List Value → xH → xO} (hrec : ∀ pc env P z, rec pc env P = some z → ∀ L st, lay_X10_weight pc env = some (L, st) → ∀ Q : xR → xH → Prop, Q z.1 z.2 → Wp G l 10 mX10_weight pc L st P Q) {a0 a1} {P : xH} {z : xR × xH} (h : b_X10_weight_0 n rec a0 a1 P = some z) {Q : xR → xH → Prop} (hQ : Q z.1 z.2) : Wp G l 10 mX10_weight 0 [some (.ref a0), some (.int a1)] [] P Q := by
  unfold b_X10_weight_0 at h
  refine x_aload_nr dX10_weight_0 rfl ?_
  refine x_iload_n dX10_weight_1 rfl ?_
  obtain ⟨_, e4, h⟩ := Option.bind_eq_some_iff.mp h
  obtain ⟨fse4, e4⟩ := kO_ok e4
  obtain ⟨r2, e3, h⟩ := Option.bind_eq_some_iff.mp h
  replace h := xUt_ok h
  rcases h with ⟨P1, hr9, h⟩ | ⟨i8, P8, rfl, rfl⟩
  · subst hr9
    refine x_callV (c_X10_needPhone hl e3) dX10_weight_2 cw_X10_needPhone wl_X10_90 wi_X10_needPhone wse_X10_needPhone rfl e4 (by decide) rfl (by omega) (by decide) rfl (Nat.le_of_ble_eq_true rfl) rfl (fun v9 P9 hq9 => ?_) (fun i9 P9 hq9 => by cases hq9)
    cases hq9
    refine x_aload_nr dX10_weight_5 rfl ?_
    obtain ⟨v5, e6, h⟩ := Option.bind_eq_some_iff.mp h
    refine k_rA e6 dX10_weight_6 f_X10_19 ?_
    obtain ⟨v7, e8, h⟩ := Option.bind_eq_some_iff.mp h
    refine k_rA e8 dX10_weight_9 f_X10_25 ?_
    refine x_iload_n dX10_weight_12 rfl ?_
    obtain ⟨_, e13, h⟩ := Option.bind_eq_some_iff.mp h
    obtain ⟨fse13, e13⟩ := kO_ok e13
    obtain ⟨r10, e11, h⟩ := Option.bind_eq_some_iff.mp h
    replace h := xI_ok h
    obtain ⟨v12, P9, rfl, h⟩ := h
    refine x_callV (c_X9_trust hl e11) dX10_weight_13 cw_X9_trust wl_X10_226 wi_X9_trust wse_X9_trust rfl e13 (by decide) rfl (by omega) (by decide) rfl (Nat.le_of_ble_eq_true rfl) rfl (fun v9 P9 hq9 => ?_) (fun i9 P9 hq9 => by cases hq9)
    cases hq9
    cases h
    exact x_iret .int rfl rfl dX10_weight_16 hQ
  · exact x_callV (c_X10_needPhone hl e3) dX10_weight_2 cw_X10_needPhone wl_X10_90 wi_X10_needPhone wse_X10_needPhone rfl e4 (by decide) rfl (by omega) (by decide) rfl (Nat.le_of_ble_eq_true rfl) rfl (fun v9 P9 hq9 => by cases hq9) (fun i9 P9 hq9 => by cases hq9; exact hQ)
theorem s_X10_weight {G : xG} {l : Launch} (hl : l.stackTraces = false) : ∀ n pc env P z, f_X10_weight n pc env P = some z → ∀ L st, lay_X10_weight pc env = some (L, st) → ∀ Q : xR → xH → Prop, Q z.1 z.2 → Wp G l 10 mX10_weight pc L st P Q := by
  intro n
  induction n with
  | zero => intro pc env P z h; cases h
  | succ n ih =>
    intro pc env P z h L st hlay Q hQ
    unfold f_X10_weight at h
    split at h
    · cases hlay
      exact t_X10_weight_0 hl ih h hQ
    · cases h
theorem c_X10_weight {G : xG} {l : Launch} (hl : l.stackTraces = false) {n : Nat} {as : List Value} {P : xH} {z : xR × xH} (h : f_X10_weight n 0 as P = some z) : Ct G l 10 mX10_weight as P (fun r P1 => (r, P1) = z) := by
  cases n with
  | zero => cases h
  | succ n =>
    unfold f_X10_weight at h
    split at h
    · exact Ct.of hl (by decide +kernel) wc_X10_weight (Nat.le_of_ble_eq_true rfl) (t_X10_weight_0 hl (s_X10_weight hl _) h rfl)
    all_goals first | (cases h; done) | (rename_i q9 _; exact absurd q9 (by decide)) | (rename_i q9; exact absurd q9 (by decide)) | contradiction
/-! QuakeNet$Sayings.anyAgainst(I)Z -/
def b_X6_anyAgainst_0 (n : Nat) (rec : Nat → List Value → xH → xO) (a0 : Nat) (a1 : Int32) (P : xH) : xO :=
  rec 2 [.ref a0, .int a1, .int 0] P
def b_X6_anyAgainst_2 (n : Nat) (rec : Nat → List Value → xH → xO) (a0 : Nat) (a1 : Int32) (a2 : Int32) (P : xH) : xO :=
  (rI P a0 6 4).bind fun v1 =>
  if v1 ≤ a2 then
    some (.inl (some (.int 0)), P)
  else
    rec 14 [.ref a0, .int a1, .int a2, .int ((a2 + 1))] P
def b_X6_anyAgainst_14 (n : Nat) (rec : Nat → List Value → xH → xO) (a0 : Nat) (a1 : Int32) (a2 : Int32) (a3 : Int32) (P : xH) : xO :=
  (rI P a0 6 4).bind fun v1 =>
  if v1 ≤ a3 then
    rec 2 [.ref a0, .int a1, .int ((a2 + 1))] P
  else
    (kO P a0 6).bind fun _ =>
    (f_X6_isAgainst n 0 [.ref a0, .int a2, .int a3, .int a1] P).bind fun r4 => xI r4 fun v6 P3 =>
    if v6 = 0 then
      rec 14 [.ref a0, .int a1, .int a2, .int ((a3 + 1))] P3
    else
      some (.inl (some (.int 1)), P3)
def lay_X6_anyAgainst : Nat → List Value → Option (xL × List Value)
  | 0, [a0, a1] => some ([some a0, some a1, none, none], [])
  | 2, [a0, a1, a2] => some ([some a0, some a1, some a2, none], [])
  | 14, [a0, a1, a2, a3] => some ([some a0, some a1, some a2, some a3], [])
  | _, _ => none
def f_X6_anyAgainst : Nat → Nat → List Value → xH → xO
  | 0 => fun _ _ _ => none
  | n + 1 => fun pc env P => match pc, env with
    | 0, [.ref a0, .int a1] => b_X6_anyAgainst_0 n (f_X6_anyAgainst n) a0 a1 P
    | 2, [.ref a0, .int a1, .int a2] => b_X6_anyAgainst_2 n (f_X6_anyAgainst n) a0 a1 a2 P
    | 14, [.ref a0, .int a1, .int a2, .int a3] => b_X6_anyAgainst_14 n (f_X6_anyAgainst n) a0 a1 a2 a3 P
    | _, _ => none
set_option maxHeartbeats 2000000 in
set_option maxRecDepth 20000 in
theorem t_X6_anyAgainst_0 {G : xG} {l : Launch} (hl : l.stackTraces = false) {n : Nat} {rec : Nat → List Value → xH → xO} (hrec : ∀ pc env P z, rec pc env P = some z → ∀ L st, lay_X6_anyAgainst pc env = some (L, st) → ∀ Q : xR → xH → Prop, Q z.1 z.2 → Wp G l 10 mX6_anyAgainst pc L st P Q) {a0 a1} {P : xH} {z : xR × xH} (h : b_X6_anyAgainst_0 n rec a0 a1 P = some z) {Q : xR → xH → Prop} (hQ : Q z.1 z.2) : Wp G l 10 mX6_anyAgainst 0 [some (.ref a0), some (.int a1), none, none] [] P Q := by
  unfold b_X6_anyAgainst_0 at h
  refine x_iconst 0 dX6_anyAgainst_0 (by decide) ?_
  refine x_istore_n dX6_anyAgainst_1 (Nat.le_of_ble_eq_true rfl) ?_
  exact Wp.mask [true, true, true, false] (hrec 2 _ _ _ h _ _ rfl _ hQ)
set_option maxHeartbeats 2000000 in
set_option maxRecDepth 20000 in
theorem t_X6_anyAgainst_2 {G : xG} {l : Launch} (hl : l.stackTraces = false) {n : Nat} {rec : Nat → List Value → xH → xO} (hrec : ∀ pc env P z, rec pc env P = some z → ∀ L st, lay_X6_anyAgainst pc env = some (L, st) → ∀ Q : xR → xH → Prop, Q z.1 z.2 → Wp G l 10 mX6_anyAgainst pc L st P Q) {a0 a1 a2} {P : xH} {z : xR × xH} (h : b_X6_anyAgainst_2 n rec a0 a1 a2 P = some z) {Q : xR → xH → Prop} (hQ : Q z.1 z.2) : Wp G l 10 mX6_anyAgainst 2 [some (.ref a0), some (.int a1), some (.int a2), none] [] P Q := by
  unfold b_X6_anyAgainst_2 at h
  refine x_iload_n dX6_anyAgainst_2 rfl ?_
  refine x_aload_nr dX6_anyAgainst_3 rfl ?_
  obtain ⟨v1, e2, h⟩ := Option.bind_eq_some_iff.mp h
  refine k_rI e2 dX6_anyAgainst_4 f_X6_26 ?_
  refine x_icmp_ge 46 dX6_anyAgainst_7 (by decide) (fun q3 => ?_) (fun q3 => ?_)
  · rw [if_pos q3] at h
    refine x_iconst 0 dX6_anyAgainst_46 (by decide) ?_
    cases h
    exact x_iret .boolean rfl rfl dX6_anyAgainst_47 hQ
  · rw [if_neg q3] at h
    refine x_iload_n dX6_anyAgainst_10 rfl ?_
    refine x_iconst 1 dX6_anyAgainst_11 (by decide) ?_
    refine x_iadd dX6_anyAgainst_12 ?_
    refine x_istore_n dX6_anyAgainst_13 (Nat.le_of_ble_eq_true rfl) ?_
    exact Wp.mask [true, true, true, true] (hrec 14 _ _ _ h _ _ rfl _ hQ)
set_option maxHeartbeats 2000000 in
set_option maxRecDepth 20000 in
theorem t_X6_anyAgainst_14 {G : xG} {l : Launch} (hl : l.stackTraces = false) {n : Nat} {rec : Nat → List Value → xH → xO} (hrec : ∀ pc env P z, rec pc env P = some z → ∀ L st, lay_X6_anyAgainst pc env = some (L, st) → ∀ Q : xR → xH → Prop, Q z.1 z.2 → Wp G l 10 mX6_anyAgainst pc L st P Q) {a0 a1 a2 a3} {P : xH} {z : xR × xH} (h : b_X6_anyAgainst_14 n rec a0 a1 a2 a3 P = some z) {Q : xR → xH → Prop} (hQ : Q z.1 z.2) : Wp G l 10 mX6_anyAgainst 14 [some (.ref a0), some (.int a1), some (.int a2), some (.int a3)] [] P Q := by
  unfold b_X6_anyAgainst_14 at h
  refine x_iload_n dX6_anyAgainst_14 rfl ?_
  refine x_aload_nr dX6_anyAgainst_15 rfl ?_
  obtain ⟨v1, e2, h⟩ := Option.bind_eq_some_iff.mp h
  refine k_rI e2 dX6_anyAgainst_16 f_X6_26 ?_
  refine x_icmp_ge 40 dX6_anyAgainst_19 (by decide) (fun q9 => ?_) (fun q9 => ?_)
  · rw [if_pos q9] at h
    refine x_iinc (a2 + 1) dX6_anyAgainst_40 rfl (by rfl) ?_
    refine x_goto 2 dX6_anyAgainst_43 (by decide) ?_
    exact Wp.mask [true, true, true, false] (hrec 2 _ _ _ h _ _ rfl _ hQ)
  · rw [if_neg q9] at h
    refine x_aload_nr dX6_anyAgainst_22 rfl ?_
    refine x_iload_n dX6_anyAgainst_23 rfl ?_
    refine x_iload_n dX6_anyAgainst_24 rfl ?_
    refine x_iload_n dX6_anyAgainst_25 rfl ?_
    obtain ⟨_, e7, h⟩ := Option.bind_eq_some_iff.mp h
    obtain ⟨fse7, e7⟩ := kO_ok e7
    obtain ⟨r4, e5, h⟩ := Option.bind_eq_some_iff.mp h
    replace h := xI_ok h
    obtain ⟨v6, P3, rfl, h⟩ := h
    refine x_callV (c_X6_isAgainst hl e5) dX6_anyAgainst_26 cw_X6_isAgainst wl_X6_63 wi_X6_isAgainst wse_X6_isAgainst rfl e7 (by decide) rfl (by omega) (by decide) rfl (Nat.le_of_ble_eq_true rfl) rfl (fun v9 P9 hq9 => ?_) (fun i9 P9 hq9 => by cases hq9)
    cases hq9
    refine x_if_eq 34 dX6_anyAgainst_29 (by decide) (fun q8 => ?_) (fun q8 => ?_)
    · rw [if_pos q8] at h
      refine x_iinc (a3 + 1) dX6_anyAgainst_34 rfl (by rfl) ?_
      refine x_goto 14 dX6_anyAgainst_37 (by decide) ?_
      exact Wp.mask [true, true, true, true] (hrec 14 _ _ _ h _ _ rfl _ hQ)
    · rw [if_neg q8] at h
      refine x_iconst 1 dX6_anyAgainst_32 (by decide) ?_
      cases h
      exact x_iret .boolean rfl rfl dX6_anyAgainst_33 hQ
theorem s_X6_anyAgainst {G : xG} {l : Launch} (hl : l.stackTraces = false) : ∀ n pc env P z, f_X6_anyAgainst n pc env P = some z → ∀ L st, lay_X6_anyAgainst pc env = some (L, st) → ∀ Q : xR → xH → Prop, Q z.1 z.2 → Wp G l 10 mX6_anyAgainst pc L st P Q := by
  intro n
  induction n with
  | zero => intro pc env P z h; cases h
  | succ n ih =>
    intro pc env P z h L st hlay Q hQ
    unfold f_X6_anyAgainst at h
    split at h
    · cases hlay
      exact t_X6_anyAgainst_0 hl ih h hQ
    · cases hlay
      exact t_X6_anyAgainst_2 hl ih h hQ
    · cases hlay
      exact t_X6_anyAgainst_14 hl ih h hQ
    · cases h
theorem c_X6_anyAgainst {G : xG} {l : Launch} (hl : l.stackTraces = false) {n : Nat} {as : List Value} {P : xH} {z : xR × xH} (h : f_X6_anyAgainst n 0 as P = some z) : Ct G l 10 mX6_anyAgainst as P (fun r P1 => (r, P1) = z) := by
  cases n with
  | zero => cases h
  | succ n =>
    unfold f_X6_anyAgainst at h
    split at h
    · exact Ct.of hl (by decide +kernel) wc_X6_anyAgainst (Nat.le_of_ble_eq_true rfl) (t_X6_anyAgainst_0 hl (s_X6_anyAgainst hl _) h rfl)
    all_goals first | (cases h; done) | (rename_i q9 _; exact absurd q9 (by decide)) | (rename_i q9; exact absurd q9 (by decide)) | contradiction
/-! QuakeNet.sure(II)I -/
def b_X10_sure_0 (n : Nat) (rec : Nat → List Value → xH → xO) (a0 : Nat) (a1 : Int32) (a2 : Int32) (P : xH) : xO :=
  (f_X10_needIndex n 0 [.int a1, .int 16] P).bind fun r2 => xUt r2 fun P1 =>
  (f_X10_needPlace n 0 [.int a2] P1).bind fun r5 => xUt r5 fun P4 =>
  (rA P4 a0 10 3).bind fun v7 =>
  (rA P4 a0 10 1).bind fun v9 =>
  (rA P4 v9 7 3).bind fun v11 =>
  (rI P4 v11 1 2).bind fun v13 =>
  (kO P4 v7 6).bind fun _ =>
  (f_X6_gather n 0 [.ref v7, .int a1, .int v13] P4).bind fun r16 => xU r16 fun P15 =>
  (rA P15 a0 10 3).bind fun v19 =>
  (rA P15 a0 10 1).bind fun v21 =>
  (rI P15 v21 7 8).bind fun v23 =>
  (kO P15 v19 6).bind fun _ =>
  (f_X6_anyAgainst n 0 [.ref v19, .int v23] P15).bind fun r26 => xI r26 fun v28 P25 =>
  if v28 = 0 then
    (rA P25 a0 10 3).bind fun v30 =>
    (kO P25 v30 6).bind fun _ =>
    (f_X6_mouthsAt n 0 [.ref v30, .int a2] P25).bind fun r33 => xI r33 fun v35 P32 =>
    rec 62 [.ref a0, .int a1, .int a2, .int v35, .int 0, .int 0] P32
  else
    some (.inl (some (.int 0)), P25)
def b_X10_sure_62 (n : Nat) (rec : Nat → List Value → xH → xO) (a0 : Nat) (a1 : Int32) (a2 : Int32) (a3 : Int32) (a4 : Int32) (a5 : Int32) (P : xH) : xO :=
  (rA P a0 10 1).bind fun v1 =>
  (rA P v1 7 3).bind fun v3 =>
  (rI P v3 1 3).bind fun v5 =>
  if v5 ≤ a5 then
    some (.inl (some (.int a4)), P)
  else
    if ((((a3 >>> (a5 &&& 31))) &&& 1)) = 0 then
      rec 62 [.ref a0, .int a1, .int a2, .int a3, .int a4, .int ((a5 + 1))] P
    else
      (rA P a0 10 1).bind fun v7 =>
      (rA P v7 7 1).bind fun v9 =>
      (kO P v9 9).bind fun _ =>
      (f_X9_trust n 0 [.ref v9, .int a5] P).bind fun r12 => xI r12 fun v14 P11 =>
      rec 62 [.ref a0, .int a1, .int a2, .int a3, .int ((a4 + v14)), .int ((a5 + 1))] P11
def lay_X10_sure : Nat → List Value → Option (xL × List Value)
  | 0, [a0, a1, a2] => some ([some a0, some a1, some a2, none, none, none], [])
  | 62, [a0, a1, a2, a3, a4, a5] => some ([some a0, some a1, some a2, some a3, some a4, some a5], [])
  | _, _ => none
def f_X10_sure : Nat → Nat → List Value → xH → xO
  | 0 => fun _ _ _ => none
  | n + 1 => fun pc env P => match pc, env with
    | 0, [.ref a0, .int a1, .int a2] => b_X10_sure_0 n (f_X10_sure n) a0 a1 a2 P
    | 62, [.ref a0, .int a1, .int a2, .int a3, .int a4, .int a5] => b_X10_sure_62 n (f_X10_sure n) a0 a1 a2 a3 a4 a5 P
    | _, _ => none
set_option maxHeartbeats 2000000 in
set_option maxRecDepth 20000 in
theorem t_X10_sure_0 {G : xG} {l : Launch} (hl : l.stackTraces = false) {n : Nat} {rec : Nat → List Value → xH → xO} (hrec : ∀ pc env P z, rec pc env P = some z → ∀ L st, lay_X10_sure pc env = some (L, st) → ∀ Q : xR → xH → Prop, Q z.1 z.2 → Wp G l 11 mX10_sure pc L st P Q) {a0 a1 a2} {P : xH} {z : xR × xH} (h : b_X10_sure_0 n rec a0 a1 a2 P = some z) {Q : xR → xH → Prop} (hQ : Q z.1 z.2) : Wp G l 11 mX10_sure 0 [some (.ref a0), some (.int a1), some (.int a2), none, none, none] [] P Q := by
  unfold b_X10_sure_0 at h
  refine x_iload_n dX10_sure_0 rfl ?_
  refine x_bipush 16 dX10_sure_1 (by decide) ?_
  obtain ⟨r2, e3, h⟩ := Option.bind_eq_some_iff.mp h
  replace h := xUt_ok h
  rcases h with ⟨P1, hr9, h⟩ | ⟨i8, P8, rfl, rfl⟩
  · subst hr9
    refine x_callS (c_X10_needIndex hl e3) dX10_sure_3 cw_X10_needIndex wl_X10_87 ws_X10_needIndex rfl (by omega) (by decide) rfl (Nat.le_of_ble_eq_true rfl) rfl (fun v9 P9 hq9 => ?_) (fun i9 P9 hq9 => by cases hq9)
    cases hq9
    refine x_iload_n dX10_sure_6 rfl ?_
    obtain ⟨r5, e6, h⟩ := Option.bind_eq_some_iff.mp h
    replace h := xUt_ok h
    rcases h with ⟨P4, hr9, h⟩ | ⟨i8, P8, rfl, rfl⟩
    · subst hr9
      refine x_callS (c_X10_needPlace hl e6) dX10_sure_7 cw_X10_needPlace wl_X10_64 ws_X10_needPlace rfl (by omega) (by decide) rfl (Nat.le_of_ble_eq_true rfl) rfl (fun v9 P9 hq9 => ?_) (fun i9 P9 hq9 => by cases hq9)
      cases hq9
      refine x_aload_nr dX10_sure_10 rfl ?_
      obtain ⟨v7, e8, h⟩ := Option.bind_eq_some_iff.mp h
      refine k_rA e8 dX10_sure_11 f_X10_48 ?_
      refine x_iload_n dX10_sure_14 rfl ?_
      refine x_aload_nr dX10_sure_15 rfl ?_
      obtain ⟨v9, e10, h⟩ := Option.bind_eq_some_iff.mp h
      refine k_rA e10 dX10_sure_16 f_X10_19 ?_
      obtain ⟨v11, e12, h⟩ := Option.bind_eq_some_iff.mp h
      refine k_rA e12 dX10_sure_19 f_X10_42 ?_
      obtain ⟨v13, e14, h⟩ := Option.bind_eq_some_iff.mp h
      refine k_rI e14 dX10_sure_22 f_X10_93 ?_
      obtain ⟨_, e18, h⟩ := Option.bind_eq_some_iff.mp h
      obtain ⟨fse18, e18⟩ := kO_ok e18
      obtain ⟨r16, e17, h⟩ := Option.bind_eq_some_iff.mp h
      replace h := xU_ok h
      obtain ⟨P15, rfl, h⟩ := h
      refine x_callV (c_X6_gather hl e17) dX10_sure_25 cw_X6_gather wl_X10_201 wi_X6_gather wse_X6_gather rfl e18 (by decide) rfl (by omega) (by decide) rfl (Nat.le_of_ble_eq_true rfl) rfl (fun v9 P9 hq9 => ?_) (fun i9 P9 hq9 => by cases hq9)
      cases hq9
      refine x_aload_nr dX10_sure_28 rfl ?_
      obtain ⟨v19, e20, h⟩ := Option.bind_eq_some_iff.mp h
      refine k_rA e20 dX10_sure_29 f_X10_48 ?_
      refine x_aload_nr dX10_sure_32 rfl ?_
      obtain ⟨v21, e22, h⟩ := Option.bind_eq_some_iff.mp h
      refine k_rA e22 dX10_sure_33 f_X10_19 ?_
      obtain ⟨v23, e24, h⟩ := Option.bind_eq_some_iff.mp h
      refine k_rI e24 dX10_sure_36 f_X10_213 ?_
      obtain ⟨_, e29, h⟩ := Option.bind_eq_some_iff.mp h
      obtain ⟨fse29, e29⟩ := kO_ok e29
      obtain ⟨r26, e27, h⟩ := Option.bind_eq_some_iff.mp h
      replace h := xI_ok h
      obtain ⟨v28, P25, rfl, h⟩ := h
      refine x_callV (c_X6_anyAgainst hl e27) dX10_sure_39 cw_X6_anyAgainst wl_X10_229 wi_X6_anyAgainst wse_X6_anyAgainst rfl e29 (by decide) rfl (by omega) (by decide) rfl (Nat.le_of_ble_eq_true rfl) rfl (fun v9 P9 hq9 => ?_) (fun i9 P9 hq9 => by cases hq9)
      cases hq9
      refine x_if_eq 47 dX10_sure_42 (by decide) (fun q37 => ?_) (fun q37 => ?_)
      · rw [if_pos q37] at h
        refine x_aload_nr dX10_sure_47 rfl ?_
        obtain ⟨v30, e31, h⟩ := Option.bind_eq_some_iff.mp h
        refine k_rA e31 dX10_sure_48 f_X10_48 ?_
        refine x_iload_n dX10_sure_51 rfl ?_
        obtain ⟨_, e36, h⟩ := Option.bind_eq_some_iff.mp h
        obtain ⟨fse36, e36⟩ := kO_ok e36
        obtain ⟨r33, e34, h⟩ := Option.bind_eq_some_iff.mp h
        replace h := xI_ok h
        obtain ⟨v35, P32, rfl, h⟩ := h
        refine x_callV (c_X6_mouthsAt hl e34) dX10_sure_52 cw_X6_mouthsAt wl_X10_204 wi_X6_mouthsAt wse_X6_mouthsAt rfl e36 (by decide) rfl (by omega) (by decide) rfl (Nat.le_of_ble_eq_true rfl) rfl (fun v9 P9 hq9 => ?_) (fun i9 P9 hq9 => by cases hq9)
        cases hq9
        refine x_istore_n dX10_sure_55 (Nat.le_of_ble_eq_true rfl) ?_
        refine x_iconst 0 dX10_sure_56 (by decide) ?_
        refine x_istore dX10_sure_57 (Nat.le_of_ble_eq_true rfl) ?_
        refine x_iconst 0 dX10_sure_59 (by decide) ?_
        refine x_istore dX10_sure_60 (Nat.le_of_ble_eq_true rfl) ?_
        exact Wp.mask [true, true, true, true, true, true] (hrec 62 _ _ _ h _ _ rfl _ hQ)
      · rw [if_neg q37] at h
        refine x_iconst 0 dX10_sure_45 (by decide) ?_
        cases h
        exact x_iret .int rfl rfl dX10_sure_46 hQ
    · exact x_callS (c_X10_needPlace hl e6) dX10_sure_7 cw_X10_needPlace wl_X10_64 ws_X10_needPlace rfl (by omega) (by decide) rfl (Nat.le_of_ble_eq_true rfl) rfl (fun v9 P9 hq9 => by cases hq9) (fun i9 P9 hq9 => by cases hq9; exact hQ)
  · exact x_callS (c_X10_needIndex hl e3) dX10_sure_3 cw_X10_needIndex wl_X10_87 ws_X10_needIndex rfl (by omega) (by decide) rfl (Nat.le_of_ble_eq_true rfl) rfl (fun v9 P9 hq9 => by cases hq9) (fun i9 P9 hq9 => by cases hq9; exact hQ)
set_option maxHeartbeats 2000000 in
set_option maxRecDepth 20000 in
theorem t_X10_sure_62 {G : xG} {l : Launch} (hl : l.stackTraces = false) {n : Nat} {rec : Nat → List Value → xH → xO} (hrec : ∀ pc env P z, rec pc env P = some z → ∀ L st, lay_X10_sure pc env = some (L, st) → ∀ Q : xR → xH → Prop, Q z.1 z.2 → Wp G l 11 mX10_sure pc L st P Q) {a0 a1 a2 a3 a4 a5} {P : xH} {z : xR × xH} (h : b_X10_sure_62 n rec a0 a1 a2 a3 a4 a5 P = some z) {Q : xR → xH → Prop} (hQ : Q z.1 z.2) : Wp G l 11 mX10_sure 62 [some (.ref a0), some (.int a1), some (.int a2), some (.int a3), some (.int a4), some (.int a5)] [] P Q := by
  unfold b_X10_sure_62 at h
  refine x_iload dX10_sure_62 rfl ?_
  refine x_aload_nr dX10_sure_64 rfl ?_
  obtain ⟨v1, e2, h⟩ := Option.bind_eq_some_iff.mp h
  refine k_rA e2 dX10_sure_65 f_X10_19 ?_
  obtain ⟨v3, e4, h⟩ := Option.bind_eq_some_iff.mp h
  refine k_rA e4 dX10_sure_68 f_X10_42 ?_
  obtain ⟨v5, e6, h⟩ := Option.bind_eq_some_iff.mp h
  refine k_rI e6 dX10_sure_71 f_X10_71 ?_
  refine x_icmp_ge 109 dX10_sure_74 (by decide) (fun q17 => ?_) (fun q17 => ?_)
  · rw [if_pos q17] at h
    refine x_iload dX10_sure_109 rfl ?_
    cases h
    exact x_iret .int rfl rfl dX10_sure_111 hQ
  · rw [if_neg q17] at h
    refine x_iload_n dX10_sure_77 rfl ?_
    refine x_iload dX10_sure_78 rfl ?_
    refine x_ishr dX10_sure_80 ?_
    refine x_iconst 1 dX10_sure_81 (by decide) ?_
    refine x_iand dX10_sure_82 ?_
    refine x_if_eq 103 dX10_sure_83 (by decide) (fun q16 => ?_) (fun q16 => ?_)
    · rw [if_pos q16] at h
      refine x_iinc (a5 + 1) dX10_sure_103 rfl (by rfl) ?_
      refine x_goto 62 dX10_sure_106 (by decide) ?_
      exact Wp.mask [true, true, true, true, true, true] (hrec 62 _ _ _ h _ _ rfl _ hQ)
    · rw [if_neg q16] at h
      refine x_iload dX10_sure_86 rfl ?_
      refine x_aload_nr dX10_sure_88 rfl ?_
      obtain ⟨v7, e8, h⟩ := Option.bind_eq_some_iff.mp h
      refine k_rA e8 dX10_sure_89 f_X10_19 ?_
      obtain ⟨v9, e10, h⟩ := Option.bind_eq_some_iff.mp h
      refine k_rA e10 dX10_sure_92 f_X10_25 ?_
      refine x_iload dX10_sure_95 rfl ?_
      obtain ⟨_, e15, h⟩ := Option.bind_eq_some_iff.mp h
      obtain ⟨fse15, e15⟩ := kO_ok e15
      obtain ⟨r12, e13, h⟩ := Option.bind_eq_some_iff.mp h
      replace h := xI_ok h
      obtain ⟨v14, P11, rfl, h⟩ := h
      refine x_callV (c_X9_trust hl e13) dX10_sure_97 cw_X9_trust wl_X10_226 wi_X9_trust wse_X9_trust rfl e15 (by decide) rfl (by omega) (by decide) rfl (Nat.le_of_ble_eq_true rfl) rfl (fun v9 P9 hq9 => ?_) (fun i9 P9 hq9 => by cases hq9)
      cases hq9
      refine x_iadd dX10_sure_100 ?_
      refine x_istore dX10_sure_101 (Nat.le_of_ble_eq_true rfl) ?_
      refine x_iinc (a5 + 1) dX10_sure_103 rfl (by rfl) ?_
      refine x_goto 62 dX10_sure_106 (by decide) ?_
      exact Wp.mask [true, true, true, true, true, true] (hrec 62 _ _ _ h _ _ rfl _ hQ)
theorem s_X10_sure {G : xG} {l : Launch} (hl : l.stackTraces = false) : ∀ n pc env P z, f_X10_sure n pc env P = some z → ∀ L st, lay_X10_sure pc env = some (L, st) → ∀ Q : xR → xH → Prop, Q z.1 z.2 → Wp G l 11 mX10_sure pc L st P Q := by
  intro n
  induction n with
  | zero => intro pc env P z h; cases h
  | succ n ih =>
    intro pc env P z h L st hlay Q hQ
    unfold f_X10_sure at h
    split at h
    · cases hlay
      exact t_X10_sure_0 hl ih h hQ
    · cases hlay
      exact t_X10_sure_62 hl ih h hQ
    · cases h
theorem c_X10_sure {G : xG} {l : Launch} (hl : l.stackTraces = false) {n : Nat} {as : List Value} {P : xH} {z : xR × xH} (h : f_X10_sure n 0 as P = some z) : Ct G l 11 mX10_sure as P (fun r P1 => (r, P1) = z) := by
  cases n with
  | zero => cases h
  | succ n =>
    unfold f_X10_sure at h
    split at h
    · exact Ct.of hl (by decide +kernel) wc_X10_sure (Nat.le_of_ble_eq_true rfl) (t_X10_sure_0 hl (s_X10_sure hl _) h rfl)
    all_goals first | (cases h; done) | (rename_i q9 _; exact absurd q9 (by decide)) | (rename_i q9; exact absurd q9 (by decide)) | contradiction
/-! QuakeNet$Parting.add(III)I -/
def b_X2_add_0 (n : Nat) (rec : Nat → List Value → xH → xO) (a0 : Nat) (a1 : Int32) (a2 : Int32) (a3 : Int32) (P : xH) : xO :=
  (rI P a0 2 5).bind fun v1 =>
  if v1 < 7 then
    (rA P a0 2 0).bind fun v3 =>
    (sI P v3 v1 a1).bind fun P5 =>
    (rA P5 a0 2 1).bind fun v7 =>
    (sI P5 v7 v1 a2).bind fun P9 =>
    (rA P9 a0 2 2).bind fun v11 =>
    (sI P9 v11 v1 a3).bind fun P13 =>
    (rI P13 a0 2 5).bind fun v15 =>
    (wV P13 a0 2 5 (.int ((v15 + 1)))).bind fun P17 =>
    some (.inl (some (.int v1)), P17)
  else
    some (.inl (some (.int ((-1)))), P)
def lay_X2_add : Nat → List Value → Option (xL × List Value)
  | 0, [a0, a1, a2, a3] => some ([some a0, some a1, some a2, some a3, none], [])
  | _, _ => none
def f_X2_add : Nat → Nat → List Value → xH → xO
  | 0 => fun _ _ _ => none
  | n + 1 => fun pc env P => match pc, env with
    | 0, [.ref a0, .int a1, .int a2, .int a3] => b_X2_add_0 n (f_X2_add n) a0 a1 a2 a3 P
    | _, _ => none
set_option maxHeartbeats 2000000 in
set_option maxRecDepth 20000 in
theorem t_X2_add_0 {G : xG} {l : Launch} (hl : l.stackTraces = false) {n : Nat} {rec : Nat → List Value → xH → xO} (hrec : ∀ pc env P z, rec pc env P = some z → ∀ L st, lay_X2_add pc env = some (L, st) → ∀ Q : xR → xH → Prop, Q z.1 z.2 → Wp G l 3 mX2_add pc L st P Q) {a0 a1 a2 a3} {P : xH} {z : xR × xH} (h : b_X2_add_0 n rec a0 a1 a2 a3 P = some z) {Q : xR → xH → Prop} (hQ : Q z.1 z.2) : Wp G l 3 mX2_add 0 [some (.ref a0), some (.int a1), some (.int a2), some (.int a3), none] [] P Q := by
  unfold b_X2_add_0 at h
  refine x_aload_nr dX2_add_0 rfl ?_
  obtain ⟨v1, e2, h⟩ := Option.bind_eq_some_iff.mp h
  refine k_rI e2 dX2_add_1 f_X2_35 ?_
  refine x_istore dX2_add_4 (Nat.le_of_ble_eq_true rfl) ?_
  refine x_iload dX2_add_6 rfl ?_
  refine x_bipush 7 dX2_add_8 (by decide) ?_
  refine x_icmp_lt 15 dX2_add_10 (by decide) (fun q19 => ?_) (fun q19 => ?_)
  · rw [if_pos q19] at h
    refine x_aload_nr dX2_add_15 rfl ?_
    obtain ⟨v3, e4, h⟩ := Option.bind_eq_some_iff.mp h
    refine k_rA e4 dX2_add_16 f_X2_11 ?_
    refine x_iload dX2_add_19 rfl ?_
    refine x_iload_n dX2_add_21 rfl ?_
    obtain ⟨P5, e6, h⟩ := Option.bind_eq_some_iff.mp h
    refine k_sI e6 dX2_add_22 ?_
    refine x_aload_nr dX2_add_23 rfl ?_
    obtain ⟨v7, e8, h⟩ := Option.bind_eq_some_iff.mp h
    refine k_rA e8 dX2_add_24 f_X2_15 ?_
    refine x_iload dX2_add_27 rfl ?_
    refine x_iload_n dX2_add_29 rfl ?_
    obtain ⟨P9, e10, h⟩ := Option.bind_eq_some_iff.mp h
    refine k_sI e10 dX2_add_30 ?_
    refine x_aload_nr dX2_add_31 rfl ?_
    obtain ⟨v11, e12, h⟩ := Option.bind_eq_some_iff.mp h
    refine k_rA e12 dX2_add_32 f_X2_18 ?_
    refine x_iload dX2_add_35 rfl ?_
    refine x_iload_n dX2_add_37 rfl ?_
    obtain ⟨P13, e14, h⟩ := Option.bind_eq_some_iff.mp h
    refine k_sI e14 dX2_add_38 ?_
    refine x_aload_nr dX2_add_39 rfl ?_
    refine x_dup dX2_add_40 rfl ?_
    obtain ⟨v15, e16, h⟩ := Option.bind_eq_some_iff.mp h
    refine k_rI e16 dX2_add_41 f_X2_35 ?_
    refine x_iconst 1 dX2_add_44 (by decide) ?_
    refine x_iadd dX2_add_45 ?_
    obtain ⟨P17, e18, h⟩ := Option.bind_eq_some_iff.mp h
    refine k_wI e18 dX2_add_46 f_X2_35 (Or.inl (by decide)) rfl ?_
    refine x_iload dX2_add_49 rfl ?_
    cases h
    exact x_iret .int rfl rfl dX2_add_51 hQ
  · rw [if_neg q19] at h
    refine x_iconst (-1) dX2_add_13 (by decide) ?_
    cases h
    exact x_iret .int rfl rfl dX2_add_14 hQ
theorem s_X2_add {G : xG} {l : Launch} (hl : l.stackTraces = false) : ∀ n pc env P z, f_X2_add n pc env P = some z → ∀ L st, lay_X2_add pc env = some (L, st) → ∀ Q : xR → xH → Prop, Q z.1 z.2 → Wp G l 3 mX2_add pc L st P Q := by
  intro n
  induction n with
  | zero => intro pc env P z h; cases h
  | succ n ih =>
    intro pc env P z h L st hlay Q hQ
    unfold f_X2_add at h
    split at h
    · cases hlay
      exact t_X2_add_0 hl ih h hQ
    · cases h
theorem c_X2_add {G : xG} {l : Launch} (hl : l.stackTraces = false) {n : Nat} {as : List Value} {P : xH} {z : xR × xH} (h : f_X2_add n 0 as P = some z) : Ct G l 3 mX2_add as P (fun r P1 => (r, P1) = z) := by
  cases n with
  | zero => cases h
  | succ n =>
    unfold f_X2_add at h
    split at h
    · exact Ct.of hl (by decide +kernel) wc_X2_add (Nat.le_of_ble_eq_true rfl) (t_X2_add_0 hl (s_X2_add hl _) h rfl)
    all_goals first | (cases h; done) | (rename_i q9 _; exact absurd q9 (by decide)) | (rename_i q9; exact absurd q9 (by decide)) | contradiction
