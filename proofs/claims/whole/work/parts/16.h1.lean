/-! QuakeNetLaw.phone(LQuakeNet;IIII[J)I -/
def b_L_phone_0 (n : Nat) (rec : Nat → List Value → xH → xO) (a0 : Nat) (a1 : Int32) (a2 : Int32) (a3 : Int32) (a4 : Int32) (a5 : Nat) (P : xH) : xO :=
  (kO P a0 10).bind fun _ =>
  (f_X10_phone n 0 [.ref a0, .int a1, .int a2, .int a3, .int a4] P).bind fun r2 => xIh r2 (fun k8 i8 P8 =>
    if k8 = 0 then
      some (.inl (some (.int 1)), P8)
    else
    if k8 = 1 then
      some (.inl (some (.int 2)), P8)
    else
    if k8 = 2 then
      some (.inl (some (.int 3)), P8)
    else
    if k8 = 3 then
      some (.inl (some (.int 4)), P8)
    else
    none) fun v4 P1 =>
    (sJ P1 a5 0 ((Int32.toInt64 v4))).bind fun P6 =>
    some (.inl (some (.int 0)), P6)
def lay_L_phone : Nat → List Value → Option (xL × List Value)
  | 0, [a0, a1, a2, a3, a4, a5] => some ([some a0, some a1, some a2, some a3, some a4, some a5, none], [])
  | _, _ => none
def f_L_phone : Nat → Nat → List Value → xH → xO
  | 0 => fun _ _ _ => none
  | n + 1 => fun pc env P => match pc, env with
    | 0, [.ref a0, .int a1, .int a2, .int a3, .int a4, .ref a5] => b_L_phone_0 n (f_L_phone n) a0 a1 a2 a3 a4 a5 P
    | _, _ => none
set_option maxHeartbeats 2000000 in
set_option maxRecDepth 20000 in
theorem t_L_phone_0 {G : xG} {l : Launch} (hl : l.stackTraces = false) {n : Nat} {rec : Nat → List Value → xH → xO} (hrec : ∀ pc env P z, rec pc env P = some z → ∀ L st, lay_L_phone pc env = some (L, st) → ∀ Q : xR → xH → Prop, Q z.1 z.2 → Wp G l 11 mL_phone pc L st P Q) {a0 a1 a2 a3 a4 a5} {P : xH} {z : xR × xH} (h : b_L_phone_0 n rec a0 a1 a2 a3 a4 a5 P = some z) {Q : xR → xH → Prop} (hQ : Q z.1 z.2) : Wp G l 11 mL_phone 0 [some (.ref a0), some (.int a1), some (.int a2), some (.int a3), some (.int a4), some (.ref a5), none] [] P Q := by
  unfold b_L_phone_0 at h
  refine x_aloadr dL_phone_0 rfl ?_
  refine x_iconst 0 dL_phone_2 (by decide) ?_
  refine x_aload_nr dL_phone_3 rfl ?_
  refine x_iload_n dL_phone_4 rfl ?_
  refine x_iload_n dL_phone_5 rfl ?_
  refine x_iload_n dL_phone_6 rfl ?_
  refine x_iload dL_phone_7 rfl ?_
  obtain ⟨_, e5, h⟩ := Option.bind_eq_some_iff.mp h
  obtain ⟨fse5, e5⟩ := kO_ok e5
  obtain ⟨r2, e3, h⟩ := Option.bind_eq_some_iff.mp h
  replace h := xIh_ok h
  rcases h with ⟨v4, P1, hr9, h⟩ | ⟨i8, P8, k8, hr9, hk8, h⟩
  · subst hr9
    refine x_callVH rfl (c_X10_phone hl e3) dL_phone_9 cw_X10_phone wl_L_7 wi_X10_phone wse_X10_phone rfl e5 (by decide) rfl (by omega) (by decide) rfl (Nat.le_of_ble_eq_true rfl) (fun v9 P9 hq9 => ?_) (fun i9 P9 hq9 => by cases hq9)
    cases hq9
    refine x_i2l dL_phone_12 ?_
    obtain ⟨P6, e7, h⟩ := Option.bind_eq_some_iff.mp h
    refine k_sJ e7 dL_phone_13 ?_
    refine x_goto 33 dL_phone_14 (by decide) ?_
    refine x_iconst 0 dL_phone_33 (by decide) ?_
    cases h
    exact x_iret .int rfl rfl dL_phone_34 hQ
  · subst hr9
    by_cases q8 : k8 = 0
    · rw [if_pos q8] at h
      subst q8
      refine x_callVH rfl (c_X10_phone hl e3) dL_phone_9 cw_X10_phone wl_L_7 wi_X10_phone wse_X10_phone rfl e5 (by decide) rfl (by omega) (by decide) rfl (Nat.le_of_ble_eq_true rfl) (fun v9 P9 hq9 => by cases hq9) (fun i9 P9 hq9 => ?_)
      cases hq9
      refine ⟨_, 17, hk8, by decide, ?_⟩
      refine x_astore dL_phone_17 (Nat.le_of_ble_eq_true rfl) ?_
      refine x_iconst 1 dL_phone_19 (by decide) ?_
      cases h
      exact x_iret .int rfl rfl dL_phone_20 hQ
    · rw [if_neg q8] at h
      by_cases q8 : k8 = 1
      · rw [if_pos q8] at h
        subst q8
        refine x_callVH rfl (c_X10_phone hl e3) dL_phone_9 cw_X10_phone wl_L_7 wi_X10_phone wse_X10_phone rfl e5 (by decide) rfl (by omega) (by decide) rfl (Nat.le_of_ble_eq_true rfl) (fun v9 P9 hq9 => by cases hq9) (fun i9 P9 hq9 => ?_)
        cases hq9
        refine ⟨_, 21, hk8, by decide, ?_⟩
        refine x_astore dL_phone_21 (Nat.le_of_ble_eq_true rfl) ?_
        refine x_iconst 2 dL_phone_23 (by decide) ?_
        cases h
        exact x_iret .int rfl rfl dL_phone_24 hQ
      · rw [if_neg q8] at h
        by_cases q8 : k8 = 2
        · rw [if_pos q8] at h
          subst q8
          refine x_callVH rfl (c_X10_phone hl e3) dL_phone_9 cw_X10_phone wl_L_7 wi_X10_phone wse_X10_phone rfl e5 (by decide) rfl (by omega) (by decide) rfl (Nat.le_of_ble_eq_true rfl) (fun v9 P9 hq9 => by cases hq9) (fun i9 P9 hq9 => ?_)
          cases hq9
          refine ⟨_, 25, hk8, by decide, ?_⟩
          refine x_astore dL_phone_25 (Nat.le_of_ble_eq_true rfl) ?_
          refine x_iconst 3 dL_phone_27 (by decide) ?_
          cases h
          exact x_iret .int rfl rfl dL_phone_28 hQ
        · rw [if_neg q8] at h
          by_cases q8 : k8 = 3
          · rw [if_pos q8] at h
            subst q8
            refine x_callVH rfl (c_X10_phone hl e3) dL_phone_9 cw_X10_phone wl_L_7 wi_X10_phone wse_X10_phone rfl e5 (by decide) rfl (by omega) (by decide) rfl (Nat.le_of_ble_eq_true rfl) (fun v9 P9 hq9 => by cases hq9) (fun i9 P9 hq9 => ?_)
            cases hq9
            refine ⟨_, 29, hk8, by decide, ?_⟩
            refine x_astore dL_phone_29 (Nat.le_of_ble_eq_true rfl) ?_
            refine x_iconst 4 dL_phone_31 (by decide) ?_
            cases h
            exact x_iret .int rfl rfl dL_phone_32 hQ
          · rw [if_neg q8] at h
            cases h
theorem s_L_phone {G : xG} {l : Launch} (hl : l.stackTraces = false) : ∀ n pc env P z, f_L_phone n pc env P = some z → ∀ L st, lay_L_phone pc env = some (L, st) → ∀ Q : xR → xH → Prop, Q z.1 z.2 → Wp G l 11 mL_phone pc L st P Q := by
  intro n
  induction n with
  | zero => intro pc env P z h; cases h
  | succ n ih =>
    intro pc env P z h L st hlay Q hQ
    unfold f_L_phone at h
    split at h
    · cases hlay
      exact t_L_phone_0 hl ih h hQ
    · cases h
theorem c_L_phone {G : xG} {l : Launch} (hl : l.stackTraces = false) {n : Nat} {as : List Value} {P : xH} {z : xR × xH} (h : f_L_phone n 0 as P = some z) : Ct G l 11 mL_phone as P (fun r P1 => (r, P1) = z) := by
  cases n with
  | zero => cases h
  | succ n =>
    unfold f_L_phone at h
    split at h
    · exact Ct.ofW hl (by decide +kernel) wc_L_phone (Nat.le_of_ble_eq_true rfl) (t_L_phone_0 hl (s_L_phone hl _) h rfl)
    all_goals first | (cases h; done) | (rename_i q9 _; exact absurd q9 (by decide)) | (rename_i q9; exact absurd q9 (by decide)) | contradiction
/-! QuakeNetLaw.move(LQuakeNet;IIII[J)I -/
def b_L_move_0 (n : Nat) (rec : Nat → List Value → xH → xO) (a0 : Nat) (a1 : Int32) (a2 : Int32) (a3 : Int32) (a4 : Int32) (a5 : Nat) (P : xH) : xO :=
  (kO P a0 10).bind fun _ =>
  (f_X10_move n 0 [.ref a0, .int a1, .int a2, .int a3, .int a4] P).bind fun r2 => xIh r2 (fun k8 i8 P8 =>
    if k8 = 0 then
      some (.inl (some (.int 1)), P8)
    else
    if k8 = 1 then
      some (.inl (some (.int 2)), P8)
    else
    none) fun v4 P1 =>
    (sJ P1 a5 0 ((Int32.toInt64 v4))).bind fun P6 =>
    some (.inl (some (.int 0)), P6)
def lay_L_move : Nat → List Value → Option (xL × List Value)
  | 0, [a0, a1, a2, a3, a4, a5] => some ([some a0, some a1, some a2, some a3, some a4, some a5, none], [])
  | _, _ => none
def f_L_move : Nat → Nat → List Value → xH → xO
  | 0 => fun _ _ _ => none
  | n + 1 => fun pc env P => match pc, env with
    | 0, [.ref a0, .int a1, .int a2, .int a3, .int a4, .ref a5] => b_L_move_0 n (f_L_move n) a0 a1 a2 a3 a4 a5 P
    | _, _ => none
set_option maxHeartbeats 2000000 in
set_option maxRecDepth 20000 in
theorem t_L_move_0 {G : xG} {l : Launch} (hl : l.stackTraces = false) {n : Nat} {rec : Nat → List Value → xH → xO} (hrec : ∀ pc env P z, rec pc env P = some z → ∀ L st, lay_L_move pc env = some (L, st) → ∀ Q : xR → xH → Prop, Q z.1 z.2 → Wp G l 11 mL_move pc L st P Q) {a0 a1 a2 a3 a4 a5} {P : xH} {z : xR × xH} (h : b_L_move_0 n rec a0 a1 a2 a3 a4 a5 P = some z) {Q : xR → xH → Prop} (hQ : Q z.1 z.2) : Wp G l 11 mL_move 0 [some (.ref a0), some (.int a1), some (.int a2), some (.int a3), some (.int a4), some (.ref a5), none] [] P Q := by
  unfold b_L_move_0 at h
  refine x_aloadr dL_move_0 rfl ?_
  refine x_iconst 0 dL_move_2 (by decide) ?_
  refine x_aload_nr dL_move_3 rfl ?_
  refine x_iload_n dL_move_4 rfl ?_
  refine x_iload_n dL_move_5 rfl ?_
  refine x_iload_n dL_move_6 rfl ?_
  refine x_iload dL_move_7 rfl ?_
  obtain ⟨_, e5, h⟩ := Option.bind_eq_some_iff.mp h
  obtain ⟨fse5, e5⟩ := kO_ok e5
  obtain ⟨r2, e3, h⟩ := Option.bind_eq_some_iff.mp h
  replace h := xIh_ok h
  rcases h with ⟨v4, P1, hr9, h⟩ | ⟨i8, P8, k8, hr9, hk8, h⟩
  · subst hr9
    refine x_callVH rfl (c_X10_move hl e3) dL_move_9 cw_X10_move wl_L_21 wi_X10_move wse_X10_move rfl e5 (by decide) rfl (by omega) (by decide) rfl (Nat.le_of_ble_eq_true rfl) (fun v9 P9 hq9 => ?_) (fun i9 P9 hq9 => by cases hq9)
    cases hq9
    refine x_i2l dL_move_12 ?_
    obtain ⟨P6, e7, h⟩ := Option.bind_eq_some_iff.mp h
    refine k_sJ e7 dL_move_13 ?_
    refine x_goto 25 dL_move_14 (by decide) ?_
    refine x_iconst 0 dL_move_25 (by decide) ?_
    cases h
    exact x_iret .int rfl rfl dL_move_26 hQ
  · subst hr9
    by_cases q8 : k8 = 0
    · rw [if_pos q8] at h
      subst q8
      refine x_callVH rfl (c_X10_move hl e3) dL_move_9 cw_X10_move wl_L_21 wi_X10_move wse_X10_move rfl e5 (by decide) rfl (by omega) (by decide) rfl (Nat.le_of_ble_eq_true rfl) (fun v9 P9 hq9 => by cases hq9) (fun i9 P9 hq9 => ?_)
      cases hq9
      refine ⟨_, 17, hk8, by decide, ?_⟩
      refine x_astore dL_move_17 (Nat.le_of_ble_eq_true rfl) ?_
      refine x_iconst 1 dL_move_19 (by decide) ?_
      cases h
      exact x_iret .int rfl rfl dL_move_20 hQ
    · rw [if_neg q8] at h
      by_cases q8 : k8 = 1
      · rw [if_pos q8] at h
        subst q8
        refine x_callVH rfl (c_X10_move hl e3) dL_move_9 cw_X10_move wl_L_21 wi_X10_move wse_X10_move rfl e5 (by decide) rfl (by omega) (by decide) rfl (Nat.le_of_ble_eq_true rfl) (fun v9 P9 hq9 => by cases hq9) (fun i9 P9 hq9 => ?_)
        cases hq9
        refine ⟨_, 21, hk8, by decide, ?_⟩
        refine x_astore dL_move_21 (Nat.le_of_ble_eq_true rfl) ?_
        refine x_iconst 2 dL_move_23 (by decide) ?_
        cases h
        exact x_iret .int rfl rfl dL_move_24 hQ
      · rw [if_neg q8] at h
        cases h
theorem s_L_move {G : xG} {l : Launch} (hl : l.stackTraces = false) : ∀ n pc env P z, f_L_move n pc env P = some z → ∀ L st, lay_L_move pc env = some (L, st) → ∀ Q : xR → xH → Prop, Q z.1 z.2 → Wp G l 11 mL_move pc L st P Q := by
  intro n
  induction n with
  | zero => intro pc env P z h; cases h
  | succ n ih =>
    intro pc env P z h L st hlay Q hQ
    unfold f_L_move at h
    split at h
    · cases hlay
      exact t_L_move_0 hl ih h hQ
    · cases h
theorem c_L_move {G : xG} {l : Launch} (hl : l.stackTraces = false) {n : Nat} {as : List Value} {P : xH} {z : xR × xH} (h : f_L_move n 0 as P = some z) : Ct G l 11 mL_move as P (fun r P1 => (r, P1) = z) := by
  cases n with
  | zero => cases h
  | succ n =>
    unfold f_L_move at h
    split at h
    · exact Ct.ofW hl (by decide +kernel) wc_L_move (Nat.le_of_ble_eq_true rfl) (t_L_move_0 hl (s_L_move hl _) h rfl)
    all_goals first | (cases h; done) | (rename_i q9 _; exact absurd q9 (by decide)) | (rename_i q9; exact absurd q9 (by decide)) | contradiction
/-! QuakeNetLaw.rules(LQuakeNet;[J)I -/
def b_L_rules_0 (n : Nat) (rec : Nat → List Value → xH → xO) (a0 : Nat) (a1 : Nat) (P : xH) : xO :=
  (kO P a0 10).bind fun _ =>
  (f_X10_rules n 0 [.ref a0] P).bind fun r2 => xIh r2 (fun k8 i8 P8 =>
    if k8 = 1 then
      some (.inl (some (.int 1)), P8)
    else
    if k8 = 3 then
      some (.inl (some (.int 2)), P8)
    else
    none) fun v4 P1 =>
    (sJ P1 a1 0 ((Int32.toInt64 v4))).bind fun P6 =>
    some (.inl (some (.int 0)), P6)
def lay_L_rules : Nat → List Value → Option (xL × List Value)
  | 0, [a0, a1] => some ([some a0, some a1, none], [])
  | _, _ => none
def f_L_rules : Nat → Nat → List Value → xH → xO
  | 0 => fun _ _ _ => none
  | n + 1 => fun pc env P => match pc, env with
    | 0, [.ref a0, .ref a1] => b_L_rules_0 n (f_L_rules n) a0 a1 P
    | _, _ => none
set_option maxHeartbeats 2000000 in
set_option maxRecDepth 20000 in
theorem t_L_rules_0 {G : xG} {l : Launch} (hl : l.stackTraces = false) {n : Nat} {rec : Nat → List Value → xH → xO} (hrec : ∀ pc env P z, rec pc env P = some z → ∀ L st, lay_L_rules pc env = some (L, st) → ∀ Q : xR → xH → Prop, Q z.1 z.2 → Wp G l 44 mL_rules pc L st P Q) {a0 a1} {P : xH} {z : xR × xH} (h : b_L_rules_0 n rec a0 a1 P = some z) {Q : xR → xH → Prop} (hQ : Q z.1 z.2) : Wp G l 44 mL_rules 0 [some (.ref a0), some (.ref a1), none] [] P Q := by
  unfold b_L_rules_0 at h
  refine x_aload_nr dL_rules_0 rfl ?_
  refine x_iconst 0 dL_rules_1 (by decide) ?_
  refine x_aload_nr dL_rules_2 rfl ?_
  obtain ⟨_, e5, h⟩ := Option.bind_eq_some_iff.mp h
  obtain ⟨fse5, e5⟩ := kO_ok e5
  obtain ⟨r2, e3, h⟩ := Option.bind_eq_some_iff.mp h
  replace h := xIh_ok h
  rcases h with ⟨v4, P1, hr9, h⟩ | ⟨i8, P8, k8, hr9, hk8, h⟩
  · subst hr9
    refine x_callVH rfl (c_X10_rules hl e3) dL_rules_3 cw_X10_rules wl_L_24 wi_X10_rules wse_X10_rules rfl e5 (by decide) rfl (by omega) (by decide) rfl (Nat.le_of_ble_eq_true rfl) (fun v9 P9 hq9 => ?_) (fun i9 P9 hq9 => by cases hq9)
    cases hq9
    refine x_i2l dL_rules_6 ?_
    obtain ⟨P6, e7, h⟩ := Option.bind_eq_some_iff.mp h
    refine k_sJ e7 dL_rules_7 ?_
    refine x_goto 17 dL_rules_8 (by decide) ?_
    refine x_iconst 0 dL_rules_17 (by decide) ?_
    cases h
    exact x_iret .int rfl rfl dL_rules_18 hQ
  · subst hr9
    by_cases q8 : k8 = 1
    · rw [if_pos q8] at h
      subst q8
      refine x_callVH rfl (c_X10_rules hl e3) dL_rules_3 cw_X10_rules wl_L_24 wi_X10_rules wse_X10_rules rfl e5 (by decide) rfl (by omega) (by decide) rfl (Nat.le_of_ble_eq_true rfl) (fun v9 P9 hq9 => by cases hq9) (fun i9 P9 hq9 => ?_)
      cases hq9
      refine ⟨_, 11, hk8, by decide, ?_⟩
      refine x_astore_n dL_rules_11 (Nat.le_of_ble_eq_true rfl) ?_
      refine x_iconst 1 dL_rules_12 (by decide) ?_
      cases h
      exact x_iret .int rfl rfl dL_rules_13 hQ
    · rw [if_neg q8] at h
      by_cases q8 : k8 = 3
      · rw [if_pos q8] at h
        subst q8
        refine x_callVH rfl (c_X10_rules hl e3) dL_rules_3 cw_X10_rules wl_L_24 wi_X10_rules wse_X10_rules rfl e5 (by decide) rfl (by omega) (by decide) rfl (Nat.le_of_ble_eq_true rfl) (fun v9 P9 hq9 => by cases hq9) (fun i9 P9 hq9 => ?_)
        cases hq9
        refine ⟨_, 14, hk8, by decide, ?_⟩
        refine x_astore_n dL_rules_14 (Nat.le_of_ble_eq_true rfl) ?_
        refine x_iconst 2 dL_rules_15 (by decide) ?_
        cases h
        exact x_iret .int rfl rfl dL_rules_16 hQ
      · rw [if_neg q8] at h
        cases h
theorem s_L_rules {G : xG} {l : Launch} (hl : l.stackTraces = false) : ∀ n pc env P z, f_L_rules n pc env P = some z → ∀ L st, lay_L_rules pc env = some (L, st) → ∀ Q : xR → xH → Prop, Q z.1 z.2 → Wp G l 44 mL_rules pc L st P Q := by
  intro n
  induction n with
  | zero => intro pc env P z h; cases h
  | succ n ih =>
    intro pc env P z h L st hlay Q hQ
    unfold f_L_rules at h
    split at h
    · cases hlay
      exact t_L_rules_0 hl ih h hQ
    · cases h
theorem c_L_rules {G : xG} {l : Launch} (hl : l.stackTraces = false) {n : Nat} {as : List Value} {P : xH} {z : xR × xH} (h : f_L_rules n 0 as P = some z) : Ct G l 44 mL_rules as P (fun r P1 => (r, P1) = z) := by
  cases n with
  | zero => cases h
  | succ n =>
    unfold f_L_rules at h
    split at h
    · exact Ct.ofW hl (by decide +kernel) wc_L_rules (Nat.le_of_ble_eq_true rfl) (t_L_rules_0 hl (s_L_rules hl _) h rfl)
    all_goals first | (cases h; done) | (rename_i q9 _; exact absurd q9 (by decide)) | (rename_i q9; exact absurd q9 (by decide)) | contradiction
/-! QuakeNetLaw.say(LQuakeNet;IIIIIII[J)I -/
def b_L_say_0 (n : Nat) (rec : Nat → List Value → xH → xO) (a0 : Nat) (a1 : Int32) (a2 : Int32) (a3 : Int32) (a4 : Int32) (a5 : Int32) (a6 : Int32) (a7 : Int32) (a8 : Nat) (P : xH) : xO :=
  (kO P a0 10).bind fun _ =>
  (f_X10_say n 0 [.ref a0, .int a1, .int a2, .int a3, .int a4, .int a5, .int a6, .int a7] P).bind fun r2 => xIh r2 (fun k8 i8 P8 =>
    if k8 = 0 then
      some (.inl (some (.int 1)), P8)
    else
    if k8 = 1 then
      some (.inl (some (.int 2)), P8)
    else
    if k8 = 2 then
      some (.inl (some (.int 3)), P8)
    else
    none) fun v4 P1 =>
    (sJ P1 a8 0 ((Int32.toInt64 v4))).bind fun P6 =>
    some (.inl (some (.int 0)), P6)
def lay_L_say : Nat → List Value → Option (xL × List Value)
  | 0, [a0, a1, a2, a3, a4, a5, a6, a7, a8] => some ([some a0, some a1, some a2, some a3, some a4, some a5, some a6, some a7, some a8, none], [])
  | _, _ => none
def f_L_say : Nat → Nat → List Value → xH → xO
  | 0 => fun _ _ _ => none
  | n + 1 => fun pc env P => match pc, env with
    | 0, [.ref a0, .int a1, .int a2, .int a3, .int a4, .int a5, .int a6, .int a7, .ref a8] => b_L_say_0 n (f_L_say n) a0 a1 a2 a3 a4 a5 a6 a7 a8 P
    | _, _ => none
set_option maxHeartbeats 2000000 in
set_option maxRecDepth 20000 in
theorem t_L_say_0 {G : xG} {l : Launch} (hl : l.stackTraces = false) {n : Nat} {rec : Nat → List Value → xH → xO} (hrec : ∀ pc env P z, rec pc env P = some z → ∀ L st, lay_L_say pc env = some (L, st) → ∀ Q : xR → xH → Prop, Q z.1 z.2 → Wp G l 11 mL_say pc L st P Q) {a0 a1 a2 a3 a4 a5 a6 a7 a8} {P : xH} {z : xR × xH} (h : b_L_say_0 n rec a0 a1 a2 a3 a4 a5 a6 a7 a8 P = some z) {Q : xR → xH → Prop} (hQ : Q z.1 z.2) : Wp G l 11 mL_say 0 [some (.ref a0), some (.int a1), some (.int a2), some (.int a3), some (.int a4), some (.int a5), some (.int a6), some (.int a7), some (.ref a8), none] [] P Q := by
  unfold b_L_say_0 at h
  refine x_aloadr dL_say_0 rfl ?_
  refine x_iconst 0 dL_say_2 (by decide) ?_
  refine x_aload_nr dL_say_3 rfl ?_
  refine x_iload_n dL_say_4 rfl ?_
  refine x_iload_n dL_say_5 rfl ?_
  refine x_iload_n dL_say_6 rfl ?_
  refine x_iload dL_say_7 rfl ?_
  refine x_iload dL_say_9 rfl ?_
  refine x_iload dL_say_11 rfl ?_
  refine x_iload dL_say_13 rfl ?_
  obtain ⟨_, e5, h⟩ := Option.bind_eq_some_iff.mp h
  obtain ⟨fse5, e5⟩ := kO_ok e5
  obtain ⟨r2, e3, h⟩ := Option.bind_eq_some_iff.mp h
  replace h := xIh_ok h
  rcases h with ⟨v4, P1, hr9, h⟩ | ⟨i8, P8, k8, hr9, hk8, h⟩
  · subst hr9
    refine x_callVH rfl (c_X10_say hl e3) dL_say_15 cw_X10_say wl_L_28 wi_X10_say wse_X10_say rfl e5 (by decide) rfl (by omega) (by decide) rfl (Nat.le_of_ble_eq_true rfl) (fun v9 P9 hq9 => ?_) (fun i9 P9 hq9 => by cases hq9)
    cases hq9
    refine x_i2l dL_say_18 ?_
    obtain ⟨P6, e7, h⟩ := Option.bind_eq_some_iff.mp h
    refine k_sJ e7 dL_say_19 ?_
    refine x_goto 35 dL_say_20 (by decide) ?_
    refine x_iconst 0 dL_say_35 (by decide) ?_
    cases h
    exact x_iret .int rfl rfl dL_say_36 hQ
  · subst hr9
    by_cases q8 : k8 = 0
    · rw [if_pos q8] at h
      subst q8
      refine x_callVH rfl (c_X10_say hl e3) dL_say_15 cw_X10_say wl_L_28 wi_X10_say wse_X10_say rfl e5 (by decide) rfl (by omega) (by decide) rfl (Nat.le_of_ble_eq_true rfl) (fun v9 P9 hq9 => by cases hq9) (fun i9 P9 hq9 => ?_)
      cases hq9
      refine ⟨_, 23, hk8, by decide, ?_⟩
      refine x_astore dL_say_23 (Nat.le_of_ble_eq_true rfl) ?_
      refine x_iconst 1 dL_say_25 (by decide) ?_
      cases h
      exact x_iret .int rfl rfl dL_say_26 hQ
    · rw [if_neg q8] at h
      by_cases q8 : k8 = 1
      · rw [if_pos q8] at h
        subst q8
        refine x_callVH rfl (c_X10_say hl e3) dL_say_15 cw_X10_say wl_L_28 wi_X10_say wse_X10_say rfl e5 (by decide) rfl (by omega) (by decide) rfl (Nat.le_of_ble_eq_true rfl) (fun v9 P9 hq9 => by cases hq9) (fun i9 P9 hq9 => ?_)
        cases hq9
        refine ⟨_, 27, hk8, by decide, ?_⟩
        refine x_astore dL_say_27 (Nat.le_of_ble_eq_true rfl) ?_
        refine x_iconst 2 dL_say_29 (by decide) ?_
        cases h
        exact x_iret .int rfl rfl dL_say_30 hQ
      · rw [if_neg q8] at h
        by_cases q8 : k8 = 2
        · rw [if_pos q8] at h
          subst q8
          refine x_callVH rfl (c_X10_say hl e3) dL_say_15 cw_X10_say wl_L_28 wi_X10_say wse_X10_say rfl e5 (by decide) rfl (by omega) (by decide) rfl (Nat.le_of_ble_eq_true rfl) (fun v9 P9 hq9 => by cases hq9) (fun i9 P9 hq9 => ?_)
          cases hq9
          refine ⟨_, 31, hk8, by decide, ?_⟩
          refine x_astore dL_say_31 (Nat.le_of_ble_eq_true rfl) ?_
          refine x_iconst 3 dL_say_33 (by decide) ?_
          cases h
          exact x_iret .int rfl rfl dL_say_34 hQ
        · rw [if_neg q8] at h
          cases h
theorem s_L_say {G : xG} {l : Launch} (hl : l.stackTraces = false) : ∀ n pc env P z, f_L_say n pc env P = some z → ∀ L st, lay_L_say pc env = some (L, st) → ∀ Q : xR → xH → Prop, Q z.1 z.2 → Wp G l 11 mL_say pc L st P Q := by
  intro n
  induction n with
  | zero => intro pc env P z h; cases h
  | succ n ih =>
    intro pc env P z h L st hlay Q hQ
    unfold f_L_say at h
    split at h
    · cases hlay
      exact t_L_say_0 hl ih h hQ
    · cases h
theorem c_L_say {G : xG} {l : Launch} (hl : l.stackTraces = false) {n : Nat} {as : List Value} {P : xH} {z : xR × xH} (h : f_L_say n 0 as P = some z) : Ct G l 11 mL_say as P (fun r P1 => (r, P1) = z) := by
  cases n with
  | zero => cases h
  | succ n =>
    unfold f_L_say at h
    split at h
    · exact Ct.ofW hl (by decide +kernel) wc_L_say (Nat.le_of_ble_eq_true rfl) (t_L_say_0 hl (s_L_say hl _) h rfl)
    all_goals first | (cases h; done) | (rename_i q9 _; exact absurd q9 (by decide)) | (rename_i q9; exact absurd q9 (by decide)) | contradiction
/-! QuakeNetLaw.undo(LQuakeNet;III[J)I -/
def b_L_undo_0 (n : Nat) (rec : Nat → List Value → xH → xO) (a0 : Nat) (a1 : Int32) (a2 : Int32) (a3 : Int32) (a4 : Nat) (P : xH) : xO :=
  (kO P a0 10).bind fun _ =>
  (f_X10_undo n 0 [.ref a0, .int a1, .int a2, .int a3] P).bind fun r2 => xIh r2 (fun k8 i8 P8 =>
    if k8 = 0 then
      some (.inl (some (.int 1)), P8)
    else
    if k8 = 1 then
      some (.inl (some (.int 2)), P8)
    else
    if k8 = 2 then
      some (.inl (some (.int 3)), P8)
    else
    none) fun v4 P1 =>
    (sJ P1 a4 0 ((Int32.toInt64 v4))).bind fun P6 =>
    some (.inl (some (.int 0)), P6)
def lay_L_undo : Nat → List Value → Option (xL × List Value)
  | 0, [a0, a1, a2, a3, a4] => some ([some a0, some a1, some a2, some a3, some a4, none], [])
  | _, _ => none
def f_L_undo : Nat → Nat → List Value → xH → xO
  | 0 => fun _ _ _ => none
  | n + 1 => fun pc env P => match pc, env with
    | 0, [.ref a0, .int a1, .int a2, .int a3, .ref a4] => b_L_undo_0 n (f_L_undo n) a0 a1 a2 a3 a4 P
    | _, _ => none
set_option maxHeartbeats 2000000 in
set_option maxRecDepth 20000 in
theorem t_L_undo_0 {G : xG} {l : Launch} (hl : l.stackTraces = false) {n : Nat} {rec : Nat → List Value → xH → xO} (hrec : ∀ pc env P z, rec pc env P = some z → ∀ L st, lay_L_undo pc env = some (L, st) → ∀ Q : xR → xH → Prop, Q z.1 z.2 → Wp G l 11 mL_undo pc L st P Q) {a0 a1 a2 a3 a4} {P : xH} {z : xR × xH} (h : b_L_undo_0 n rec a0 a1 a2 a3 a4 P = some z) {Q : xR → xH → Prop} (hQ : Q z.1 z.2) : Wp G l 11 mL_undo 0 [some (.ref a0), some (.int a1), some (.int a2), some (.int a3), some (.ref a4), none] [] P Q := by
  unfold b_L_undo_0 at h
  refine x_aloadr dL_undo_0 rfl ?_
  refine x_iconst 0 dL_undo_2 (by decide) ?_
  refine x_aload_nr dL_undo_3 rfl ?_
  refine x_iload_n dL_undo_4 rfl ?_
  refine x_iload_n dL_undo_5 rfl ?_
  refine x_iload_n dL_undo_6 rfl ?_
  obtain ⟨_, e5, h⟩ := Option.bind_eq_some_iff.mp h
  obtain ⟨fse5, e5⟩ := kO_ok e5
  obtain ⟨r2, e3, h⟩ := Option.bind_eq_some_iff.mp h
  replace h := xIh_ok h
  rcases h with ⟨v4, P1, hr9, h⟩ | ⟨i8, P8, k8, hr9, hk8, h⟩
  · subst hr9
    refine x_callVH rfl (c_X10_undo hl e3) dL_undo_7 cw_X10_undo wl_L_32 wi_X10_undo wse_X10_undo rfl e5 (by decide) rfl (by omega) (by decide) rfl (Nat.le_of_ble_eq_true rfl) (fun v9 P9 hq9 => ?_) (fun i9 P9 hq9 => by cases hq9)
    cases hq9
    refine x_i2l dL_undo_10 ?_
    obtain ⟨P6, e7, h⟩ := Option.bind_eq_some_iff.mp h
    refine k_sJ e7 dL_undo_11 ?_
    refine x_goto 27 dL_undo_12 (by decide) ?_
    refine x_iconst 0 dL_undo_27 (by decide) ?_
    cases h
    exact x_iret .int rfl rfl dL_undo_28 hQ
  · subst hr9
    by_cases q8 : k8 = 0
    · rw [if_pos q8] at h
      subst q8
      refine x_callVH rfl (c_X10_undo hl e3) dL_undo_7 cw_X10_undo wl_L_32 wi_X10_undo wse_X10_undo rfl e5 (by decide) rfl (by omega) (by decide) rfl (Nat.le_of_ble_eq_true rfl) (fun v9 P9 hq9 => by cases hq9) (fun i9 P9 hq9 => ?_)
      cases hq9
      refine ⟨_, 15, hk8, by decide, ?_⟩
      refine x_astore dL_undo_15 (Nat.le_of_ble_eq_true rfl) ?_
      refine x_iconst 1 dL_undo_17 (by decide) ?_
      cases h
      exact x_iret .int rfl rfl dL_undo_18 hQ
    · rw [if_neg q8] at h
      by_cases q8 : k8 = 1
      · rw [if_pos q8] at h
        subst q8
        refine x_callVH rfl (c_X10_undo hl e3) dL_undo_7 cw_X10_undo wl_L_32 wi_X10_undo wse_X10_undo rfl e5 (by decide) rfl (by omega) (by decide) rfl (Nat.le_of_ble_eq_true rfl) (fun v9 P9 hq9 => by cases hq9) (fun i9 P9 hq9 => ?_)
        cases hq9
        refine ⟨_, 19, hk8, by decide, ?_⟩
        refine x_astore dL_undo_19 (Nat.le_of_ble_eq_true rfl) ?_
        refine x_iconst 2 dL_undo_21 (by decide) ?_
        cases h
        exact x_iret .int rfl rfl dL_undo_22 hQ
      · rw [if_neg q8] at h
        by_cases q8 : k8 = 2
        · rw [if_pos q8] at h
          subst q8
          refine x_callVH rfl (c_X10_undo hl e3) dL_undo_7 cw_X10_undo wl_L_32 wi_X10_undo wse_X10_undo rfl e5 (by decide) rfl (by omega) (by decide) rfl (Nat.le_of_ble_eq_true rfl) (fun v9 P9 hq9 => by cases hq9) (fun i9 P9 hq9 => ?_)
          cases hq9
          refine ⟨_, 23, hk8, by decide, ?_⟩
          refine x_astore dL_undo_23 (Nat.le_of_ble_eq_true rfl) ?_
          refine x_iconst 3 dL_undo_25 (by decide) ?_
          cases h
          exact x_iret .int rfl rfl dL_undo_26 hQ
        · rw [if_neg q8] at h
          cases h
theorem s_L_undo {G : xG} {l : Launch} (hl : l.stackTraces = false) : ∀ n pc env P z, f_L_undo n pc env P = some z → ∀ L st, lay_L_undo pc env = some (L, st) → ∀ Q : xR → xH → Prop, Q z.1 z.2 → Wp G l 11 mL_undo pc L st P Q := by
  intro n
  induction n with
  | zero => intro pc env P z h; cases h
  | succ n ih =>
    intro pc env P z h L st hlay Q hQ
    unfold f_L_undo at h
    split at h
    · cases hlay
      exact t_L_undo_0 hl ih h hQ
    · cases h
theorem c_L_undo {G : xG} {l : Launch} (hl : l.stackTraces = false) {n : Nat} {as : List Value} {P : xH} {z : xR × xH} (h : f_L_undo n 0 as P = some z) : Ct G l 11 mL_undo as P (fun r P1 => (r, P1) = z) := by
  cases n with
  | zero => cases h
  | succ n =>
    unfold f_L_undo at h
    split at h
    · exact Ct.ofW hl (by decide +kernel) wc_L_undo (Nat.le_of_ble_eq_true rfl) (t_L_undo_0 hl (s_L_undo hl _) h rfl)
    all_goals first | (cases h; done) | (rename_i q9 _; exact absurd q9 (by decide)) | (rename_i q9; exact absurd q9 (by decide)) | contradiction
/-! QuakeNetLaw.ticks(LQuakeNet;I[J)I -/
def b_L_ticks_0 (n : Nat) (rec : Nat → List Value → xH → xO) (a0 : Nat) (a1 : Int32) (a2 : Nat) (P : xH) : xO :=
  (kO P a0 10).bind fun _ =>
  (f_X10_ticks n 0 [.ref a0, .int a1] P).bind fun r2 => xIh r2 (fun k8 i8 P8 =>
    if k8 = 1 then
      some (.inl (some (.int 1)), P8)
    else
    none) fun v4 P1 =>
    (sJ P1 a2 0 ((Int32.toInt64 v4))).bind fun P6 =>
    some (.inl (some (.int 0)), P6)
def lay_L_ticks : Nat → List Value → Option (xL × List Value)
  | 0, [a0, a1, a2] => some ([some a0, some a1, some a2, none], [])
  | _, _ => none
def f_L_ticks : Nat → Nat → List Value → xH → xO
  | 0 => fun _ _ _ => none
  | n + 1 => fun pc env P => match pc, env with
    | 0, [.ref a0, .int a1, .ref a2] => b_L_ticks_0 n (f_L_ticks n) a0 a1 a2 P
    | _, _ => none
set_option maxHeartbeats 2000000 in
set_option maxRecDepth 20000 in
theorem t_L_ticks_0 {G : xG} {l : Launch} (hl : l.stackTraces = false) {n : Nat} {rec : Nat → List Value → xH → xO} (hrec : ∀ pc env P z, rec pc env P = some z → ∀ L st, lay_L_ticks pc env = some (L, st) → ∀ Q : xR → xH → Prop, Q z.1 z.2 → Wp G l 12 mL_ticks pc L st P Q) {a0 a1 a2} {P : xH} {z : xR × xH} (h : b_L_ticks_0 n rec a0 a1 a2 P = some z) {Q : xR → xH → Prop} (hQ : Q z.1 z.2) : Wp G l 12 mL_ticks 0 [some (.ref a0), some (.int a1), some (.ref a2), none] [] P Q := by
  unfold b_L_ticks_0 at h
  refine x_aload_nr dL_ticks_0 rfl ?_
  refine x_iconst 0 dL_ticks_1 (by decide) ?_
  refine x_aload_nr dL_ticks_2 rfl ?_
  refine x_iload_n dL_ticks_3 rfl ?_
  obtain ⟨_, e5, h⟩ := Option.bind_eq_some_iff.mp h
  obtain ⟨fse5, e5⟩ := kO_ok e5
  obtain ⟨r2, e3, h⟩ := Option.bind_eq_some_iff.mp h
  replace h := xIh_ok h
  rcases h with ⟨v4, P1, hr9, h⟩ | ⟨i8, P8, k8, hr9, hk8, h⟩
  · subst hr9
    refine x_callVH rfl (c_X10_ticks hl e3) dL_ticks_4 cw_X10_ticks wl_L_36 wi_X10_ticks wse_X10_ticks rfl e5 (by decide) rfl (by omega) (by decide) rfl (Nat.le_of_ble_eq_true rfl) (fun v9 P9 hq9 => ?_) (fun i9 P9 hq9 => by cases hq9)
    cases hq9
    refine x_i2l dL_ticks_7 ?_
    obtain ⟨P6, e7, h⟩ := Option.bind_eq_some_iff.mp h
    refine k_sJ e7 dL_ticks_8 ?_
    refine x_goto 15 dL_ticks_9 (by decide) ?_
    refine x_iconst 0 dL_ticks_15 (by decide) ?_
    cases h
    exact x_iret .int rfl rfl dL_ticks_16 hQ
  · subst hr9
    by_cases q8 : k8 = 1
    · rw [if_pos q8] at h
      subst q8
      refine x_callVH rfl (c_X10_ticks hl e3) dL_ticks_4 cw_X10_ticks wl_L_36 wi_X10_ticks wse_X10_ticks rfl e5 (by decide) rfl (by omega) (by decide) rfl (Nat.le_of_ble_eq_true rfl) (fun v9 P9 hq9 => by cases hq9) (fun i9 P9 hq9 => ?_)
      cases hq9
      refine ⟨_, 12, hk8, by decide, ?_⟩
      refine x_astore_n dL_ticks_12 (Nat.le_of_ble_eq_true rfl) ?_
      refine x_iconst 1 dL_ticks_13 (by decide) ?_
      cases h
      exact x_iret .int rfl rfl dL_ticks_14 hQ
    · rw [if_neg q8] at h
      cases h
theorem s_L_ticks {G : xG} {l : Launch} (hl : l.stackTraces = false) : ∀ n pc env P z, f_L_ticks n pc env P = some z → ∀ L st, lay_L_ticks pc env = some (L, st) → ∀ Q : xR → xH → Prop, Q z.1 z.2 → Wp G l 12 mL_ticks pc L st P Q := by
  intro n
  induction n with
  | zero => intro pc env P z h; cases h
  | succ n ih =>
    intro pc env P z h L st hlay Q hQ
    unfold f_L_ticks at h
    split at h
    · cases hlay
      exact t_L_ticks_0 hl ih h hQ
    · cases h
theorem c_L_ticks {G : xG} {l : Launch} (hl : l.stackTraces = false) {n : Nat} {as : List Value} {P : xH} {z : xR × xH} (h : f_L_ticks n 0 as P = some z) : Ct G l 12 mL_ticks as P (fun r P1 => (r, P1) = z) := by
  cases n with
  | zero => cases h
  | succ n =>
    unfold f_L_ticks at h
    split at h
    · exact Ct.ofW hl (by decide +kernel) wc_L_ticks (Nat.le_of_ble_eq_true rfl) (t_L_ticks_0 hl (s_L_ticks hl _) h rfl)
    all_goals first | (cases h; done) | (rename_i q9 _; exact absurd q9 (by decide)) | (rename_i q9; exact absurd q9 (by decide)) | contradiction
/-! QuakeNetLaw.look(LQuakeNet;II[J)I -/
def b_L_look_0 (n : Nat) (rec : Nat → List Value → xH → xO) (a0 : Nat) (a1 : Int32) (a2 : Int32) (a3 : Nat) (P : xH) : xO :=
  (kO P a0 10).bind fun _ =>
  (f_X10_look n 0 [.ref a0, .int a1, .int a2] P).bind fun r2 => xIh r2 (fun k8 i8 P8 =>
    if k8 = 0 then
      some (.inl (some (.int 1)), P8)
    else
    if k8 = 4 then
      some (.inl (some (.int 2)), P8)
    else
    none) fun v4 P1 =>
    (sJ P1 a3 0 ((Int32.toInt64 v4))).bind fun P6 =>
    some (.inl (some (.int 0)), P6)
def lay_L_look : Nat → List Value → Option (xL × List Value)
  | 0, [a0, a1, a2, a3] => some ([some a0, some a1, some a2, some a3, none], [])
  | _, _ => none
def f_L_look : Nat → Nat → List Value → xH → xO
  | 0 => fun _ _ _ => none
  | n + 1 => fun pc env P => match pc, env with
    | 0, [.ref a0, .int a1, .int a2, .ref a3] => b_L_look_0 n (f_L_look n) a0 a1 a2 a3 P
    | _, _ => none
set_option maxHeartbeats 2000000 in
set_option maxRecDepth 20000 in
theorem t_L_look_0 {G : xG} {l : Launch} (hl : l.stackTraces = false) {n : Nat} {rec : Nat → List Value → xH → xO} (hrec : ∀ pc env P z, rec pc env P = some z → ∀ L st, lay_L_look pc env = some (L, st) → ∀ Q : xR → xH → Prop, Q z.1 z.2 → Wp G l 11 mL_look pc L st P Q) {a0 a1 a2 a3} {P : xH} {z : xR × xH} (h : b_L_look_0 n rec a0 a1 a2 a3 P = some z) {Q : xR → xH → Prop} (hQ : Q z.1 z.2) : Wp G l 11 mL_look 0 [some (.ref a0), some (.int a1), some (.int a2), some (.ref a3), none] [] P Q := by
  unfold b_L_look_0 at h
  refine x_aload_nr dL_look_0 rfl ?_
  refine x_iconst 0 dL_look_1 (by decide) ?_
  refine x_aload_nr dL_look_2 rfl ?_
  refine x_iload_n dL_look_3 rfl ?_
  refine x_iload_n dL_look_4 rfl ?_
  obtain ⟨_, e5, h⟩ := Option.bind_eq_some_iff.mp h
  obtain ⟨fse5, e5⟩ := kO_ok e5
  obtain ⟨r2, e3, h⟩ := Option.bind_eq_some_iff.mp h
  replace h := xIh_ok h
  rcases h with ⟨v4, P1, hr9, h⟩ | ⟨i8, P8, k8, hr9, hk8, h⟩
  · subst hr9
    refine x_callVH rfl (c_X10_look hl e3) dL_look_5 cw_X10_look wl_L_40 wi_X10_look wse_X10_look rfl e5 (by decide) rfl (by omega) (by decide) rfl (Nat.le_of_ble_eq_true rfl) (fun v9 P9 hq9 => ?_) (fun i9 P9 hq9 => by cases hq9)
    cases hq9
    refine x_i2l dL_look_8 ?_
    obtain ⟨P6, e7, h⟩ := Option.bind_eq_some_iff.mp h
    refine k_sJ e7 dL_look_9 ?_
    refine x_goto 21 dL_look_10 (by decide) ?_
    refine x_iconst 0 dL_look_21 (by decide) ?_
    cases h
    exact x_iret .int rfl rfl dL_look_22 hQ
  · subst hr9
    by_cases q8 : k8 = 0
    · rw [if_pos q8] at h
      subst q8
      refine x_callVH rfl (c_X10_look hl e3) dL_look_5 cw_X10_look wl_L_40 wi_X10_look wse_X10_look rfl e5 (by decide) rfl (by omega) (by decide) rfl (Nat.le_of_ble_eq_true rfl) (fun v9 P9 hq9 => by cases hq9) (fun i9 P9 hq9 => ?_)
      cases hq9
      refine ⟨_, 13, hk8, by decide, ?_⟩
      refine x_astore dL_look_13 (Nat.le_of_ble_eq_true rfl) ?_
      refine x_iconst 1 dL_look_15 (by decide) ?_
      cases h
      exact x_iret .int rfl rfl dL_look_16 hQ
    · rw [if_neg q8] at h
      by_cases q8 : k8 = 4
      · rw [if_pos q8] at h
        subst q8
        refine x_callVH rfl (c_X10_look hl e3) dL_look_5 cw_X10_look wl_L_40 wi_X10_look wse_X10_look rfl e5 (by decide) rfl (by omega) (by decide) rfl (Nat.le_of_ble_eq_true rfl) (fun v9 P9 hq9 => by cases hq9) (fun i9 P9 hq9 => ?_)
        cases hq9
        refine ⟨_, 17, hk8, by decide, ?_⟩
        refine x_astore dL_look_17 (Nat.le_of_ble_eq_true rfl) ?_
        refine x_iconst 2 dL_look_19 (by decide) ?_
        cases h
        exact x_iret .int rfl rfl dL_look_20 hQ
      · rw [if_neg q8] at h
        cases h
theorem s_L_look {G : xG} {l : Launch} (hl : l.stackTraces = false) : ∀ n pc env P z, f_L_look n pc env P = some z → ∀ L st, lay_L_look pc env = some (L, st) → ∀ Q : xR → xH → Prop, Q z.1 z.2 → Wp G l 11 mL_look pc L st P Q := by
  intro n
  induction n with
  | zero => intro pc env P z h; cases h
  | succ n ih =>
    intro pc env P z h L st hlay Q hQ
    unfold f_L_look at h
    split at h
    · cases hlay
      exact t_L_look_0 hl ih h hQ
    · cases h
theorem c_L_look {G : xG} {l : Launch} (hl : l.stackTraces = false) {n : Nat} {as : List Value} {P : xH} {z : xR × xH} (h : f_L_look n 0 as P = some z) : Ct G l 11 mL_look as P (fun r P1 => (r, P1) = z) := by
  cases n with
  | zero => cases h
  | succ n =>
    unfold f_L_look at h
    split at h
    · exact Ct.ofW hl (by decide +kernel) wc_L_look (Nat.le_of_ble_eq_true rfl) (t_L_look_0 hl (s_L_look hl _) h rfl)
    all_goals first | (cases h; done) | (rename_i q9 _; exact absurd q9 (by decide)) | (rename_i q9; exact absurd q9 (by decide)) | contradiction
/-! QuakeNetLaw.copy(LQuakeNet;III[J)I -/
def b_L_copy_0 (n : Nat) (rec : Nat → List Value → xH → xO) (a0 : Nat) (a1 : Int32) (a2 : Int32) (a3 : Int32) (a4 : Nat) (P : xH) : xO :=
  (kO P a0 10).bind fun _ =>
  (f_X10_copy n 0 [.ref a0, .int a1, .int a2, .int a3] P).bind fun r2 => xIh r2 (fun k8 i8 P8 =>
    if k8 = 0 then
      some (.inl (some (.int 1)), P8)
    else
    if k8 = 4 then
      some (.inl (some (.int 2)), P8)
    else
    none) fun v4 P1 =>
    (sJ P1 a4 0 ((Int32.toInt64 v4))).bind fun P6 =>
    some (.inl (some (.int 0)), P6)
def lay_L_copy : Nat → List Value → Option (xL × List Value)
  | 0, [a0, a1, a2, a3, a4] => some ([some a0, some a1, some a2, some a3, some a4, none], [])
  | _, _ => none
def f_L_copy : Nat → Nat → List Value → xH → xO
  | 0 => fun _ _ _ => none
  | n + 1 => fun pc env P => match pc, env with
    | 0, [.ref a0, .int a1, .int a2, .int a3, .ref a4] => b_L_copy_0 n (f_L_copy n) a0 a1 a2 a3 a4 P
    | _, _ => none
set_option maxHeartbeats 2000000 in
set_option maxRecDepth 20000 in
theorem t_L_copy_0 {G : xG} {l : Launch} (hl : l.stackTraces = false) {n : Nat} {rec : Nat → List Value → xH → xO} (hrec : ∀ pc env P z, rec pc env P = some z → ∀ L st, lay_L_copy pc env = some (L, st) → ∀ Q : xR → xH → Prop, Q z.1 z.2 → Wp G l 11 mL_copy pc L st P Q) {a0 a1 a2 a3 a4} {P : xH} {z : xR × xH} (h : b_L_copy_0 n rec a0 a1 a2 a3 a4 P = some z) {Q : xR → xH → Prop} (hQ : Q z.1 z.2) : Wp G l 11 mL_copy 0 [some (.ref a0), some (.int a1), some (.int a2), some (.int a3), some (.ref a4), none] [] P Q := by
  unfold b_L_copy_0 at h
  refine x_aloadr dL_copy_0 rfl ?_
  refine x_iconst 0 dL_copy_2 (by decide) ?_
  refine x_aload_nr dL_copy_3 rfl ?_
  refine x_iload_n dL_copy_4 rfl ?_
  refine x_iload_n dL_copy_5 rfl ?_
  refine x_iload_n dL_copy_6 rfl ?_
  obtain ⟨_, e5, h⟩ := Option.bind_eq_some_iff.mp h
  obtain ⟨fse5, e5⟩ := kO_ok e5
  obtain ⟨r2, e3, h⟩ := Option.bind_eq_some_iff.mp h
  replace h := xIh_ok h
  rcases h with ⟨v4, P1, hr9, h⟩ | ⟨i8, P8, k8, hr9, hk8, h⟩
  · subst hr9
    refine x_callVH rfl (c_X10_copy hl e3) dL_copy_7 cw_X10_copy wl_L_46 wi_X10_copy wse_X10_copy rfl e5 (by decide) rfl (by omega) (by decide) rfl (Nat.le_of_ble_eq_true rfl) (fun v9 P9 hq9 => ?_) (fun i9 P9 hq9 => by cases hq9)
    cases hq9
    refine x_i2l dL_copy_10 ?_
    obtain ⟨P6, e7, h⟩ := Option.bind_eq_some_iff.mp h
    refine k_sJ e7 dL_copy_11 ?_
    refine x_goto 23 dL_copy_12 (by decide) ?_
    refine x_iconst 0 dL_copy_23 (by decide) ?_
    cases h
    exact x_iret .int rfl rfl dL_copy_24 hQ
  · subst hr9
    by_cases q8 : k8 = 0
    · rw [if_pos q8] at h
      subst q8
      refine x_callVH rfl (c_X10_copy hl e3) dL_copy_7 cw_X10_copy wl_L_46 wi_X10_copy wse_X10_copy rfl e5 (by decide) rfl (by omega) (by decide) rfl (Nat.le_of_ble_eq_true rfl) (fun v9 P9 hq9 => by cases hq9) (fun i9 P9 hq9 => ?_)
      cases hq9
      refine ⟨_, 15, hk8, by decide, ?_⟩
      refine x_astore dL_copy_15 (Nat.le_of_ble_eq_true rfl) ?_
      refine x_iconst 1 dL_copy_17 (by decide) ?_
      cases h
      exact x_iret .int rfl rfl dL_copy_18 hQ
    · rw [if_neg q8] at h
      by_cases q8 : k8 = 4
      · rw [if_pos q8] at h
        subst q8
        refine x_callVH rfl (c_X10_copy hl e3) dL_copy_7 cw_X10_copy wl_L_46 wi_X10_copy wse_X10_copy rfl e5 (by decide) rfl (by omega) (by decide) rfl (Nat.le_of_ble_eq_true rfl) (fun v9 P9 hq9 => by cases hq9) (fun i9 P9 hq9 => ?_)
        cases hq9
        refine ⟨_, 19, hk8, by decide, ?_⟩
        refine x_astore dL_copy_19 (Nat.le_of_ble_eq_true rfl) ?_
        refine x_iconst 2 dL_copy_21 (by decide) ?_
        cases h
        exact x_iret .int rfl rfl dL_copy_22 hQ
      · rw [if_neg q8] at h
        cases h
theorem s_L_copy {G : xG} {l : Launch} (hl : l.stackTraces = false) : ∀ n pc env P z, f_L_copy n pc env P = some z → ∀ L st, lay_L_copy pc env = some (L, st) → ∀ Q : xR → xH → Prop, Q z.1 z.2 → Wp G l 11 mL_copy pc L st P Q := by
  intro n
  induction n with
  | zero => intro pc env P z h; cases h
  | succ n ih =>
    intro pc env P z h L st hlay Q hQ
    unfold f_L_copy at h
    split at h
    · cases hlay
      exact t_L_copy_0 hl ih h hQ
    · cases h
theorem c_L_copy {G : xG} {l : Launch} (hl : l.stackTraces = false) {n : Nat} {as : List Value} {P : xH} {z : xR × xH} (h : f_L_copy n 0 as P = some z) : Ct G l 11 mL_copy as P (fun r P1 => (r, P1) = z) := by
  cases n with
  | zero => cases h
  | succ n =>
    unfold f_L_copy at h
    split at h
    · exact Ct.ofW hl (by decide +kernel) wc_L_copy (Nat.le_of_ble_eq_true rfl) (t_L_copy_0 hl (s_L_copy hl _) h rfl)
    all_goals first | (cases h; done) | (rename_i q9 _; exact absurd q9 (by decide)) | (rename_i q9; exact absurd q9 (by decide)) | contradiction
/-! QuakeNetLaw.word(LQuakeNet;II[J)I -/
def b_L_word_0 (n : Nat) (rec : Nat → List Value → xH → xO) (a0 : Nat) (a1 : Int32) (a2 : Int32) (a3 : Nat) (P : xH) : xO :=
  (kO P a0 10).bind fun _ =>
  (f_X10_word n 0 [.ref a0, .int a1, .int a2] P).bind fun r2 => xIh r2 (fun k8 i8 P8 =>
    if k8 = 0 then
      some (.inl (some (.int 1)), P8)
    else
    if k8 = 4 then
      some (.inl (some (.int 2)), P8)
    else
    none) fun v4 P1 =>
    (sJ P1 a3 0 ((Int32.toInt64 v4))).bind fun P6 =>
    some (.inl (some (.int 0)), P6)
def lay_L_word : Nat → List Value → Option (xL × List Value)
  | 0, [a0, a1, a2, a3] => some ([some a0, some a1, some a2, some a3, none], [])
  | _, _ => none
def f_L_word : Nat → Nat → List Value → xH → xO
  | 0 => fun _ _ _ => none
  | n + 1 => fun pc env P => match pc, env with
    | 0, [.ref a0, .int a1, .int a2, .ref a3] => b_L_word_0 n (f_L_word n) a0 a1 a2 a3 P
    | _, _ => none
set_option maxHeartbeats 2000000 in
set_option maxRecDepth 20000 in
theorem t_L_word_0 {G : xG} {l : Launch} (hl : l.stackTraces = false) {n : Nat} {rec : Nat → List Value → xH → xO} (hrec : ∀ pc env P z, rec pc env P = some z → ∀ L st, lay_L_word pc env = some (L, st) → ∀ Q : xR → xH → Prop, Q z.1 z.2 → Wp G l 11 mL_word pc L st P Q) {a0 a1 a2 a3} {P : xH} {z : xR × xH} (h : b_L_word_0 n rec a0 a1 a2 a3 P = some z) {Q : xR → xH → Prop} (hQ : Q z.1 z.2) : Wp G l 11 mL_word 0 [some (.ref a0), some (.int a1), some (.int a2), some (.ref a3), none] [] P Q := by
  unfold b_L_word_0 at h
  refine x_aload_nr dL_word_0 rfl ?_
  refine x_iconst 0 dL_word_1 (by decide) ?_
  refine x_aload_nr dL_word_2 rfl ?_
  refine x_iload_n dL_word_3 rfl ?_
  refine x_iload_n dL_word_4 rfl ?_
  obtain ⟨_, e5, h⟩ := Option.bind_eq_some_iff.mp h
  obtain ⟨fse5, e5⟩ := kO_ok e5
  obtain ⟨r2, e3, h⟩ := Option.bind_eq_some_iff.mp h
  replace h := xIh_ok h
  rcases h with ⟨v4, P1, hr9, h⟩ | ⟨i8, P8, k8, hr9, hk8, h⟩
  · subst hr9
    refine x_callVH rfl (c_X10_word hl e3) dL_word_5 cw_X10_word wl_L_49 wi_X10_word wse_X10_word rfl e5 (by decide) rfl (by omega) (by decide) rfl (Nat.le_of_ble_eq_true rfl) (fun v9 P9 hq9 => ?_) (fun i9 P9 hq9 => by cases hq9)
    cases hq9
    refine x_i2l dL_word_8 ?_
    obtain ⟨P6, e7, h⟩ := Option.bind_eq_some_iff.mp h
    refine k_sJ e7 dL_word_9 ?_
    refine x_goto 21 dL_word_10 (by decide) ?_
    refine x_iconst 0 dL_word_21 (by decide) ?_
    cases h
    exact x_iret .int rfl rfl dL_word_22 hQ
  · subst hr9
    by_cases q8 : k8 = 0
    · rw [if_pos q8] at h
      subst q8
      refine x_callVH rfl (c_X10_word hl e3) dL_word_5 cw_X10_word wl_L_49 wi_X10_word wse_X10_word rfl e5 (by decide) rfl (by omega) (by decide) rfl (Nat.le_of_ble_eq_true rfl) (fun v9 P9 hq9 => by cases hq9) (fun i9 P9 hq9 => ?_)
      cases hq9
      refine ⟨_, 13, hk8, by decide, ?_⟩
      refine x_astore dL_word_13 (Nat.le_of_ble_eq_true rfl) ?_
      refine x_iconst 1 dL_word_15 (by decide) ?_
      cases h
      exact x_iret .int rfl rfl dL_word_16 hQ
    · rw [if_neg q8] at h
      by_cases q8 : k8 = 4
      · rw [if_pos q8] at h
        subst q8
        refine x_callVH rfl (c_X10_word hl e3) dL_word_5 cw_X10_word wl_L_49 wi_X10_word wse_X10_word rfl e5 (by decide) rfl (by omega) (by decide) rfl (Nat.le_of_ble_eq_true rfl) (fun v9 P9 hq9 => by cases hq9) (fun i9 P9 hq9 => ?_)
        cases hq9
        refine ⟨_, 17, hk8, by decide, ?_⟩
        refine x_astore dL_word_17 (Nat.le_of_ble_eq_true rfl) ?_
        refine x_iconst 2 dL_word_19 (by decide) ?_
        cases h
        exact x_iret .int rfl rfl dL_word_20 hQ
      · rw [if_neg q8] at h
        cases h
theorem s_L_word {G : xG} {l : Launch} (hl : l.stackTraces = false) : ∀ n pc env P z, f_L_word n pc env P = some z → ∀ L st, lay_L_word pc env = some (L, st) → ∀ Q : xR → xH → Prop, Q z.1 z.2 → Wp G l 11 mL_word pc L st P Q := by
  intro n
  induction n with
  | zero => intro pc env P z h; cases h
  | succ n ih =>
    intro pc env P z h L st hlay Q hQ
    unfold f_L_word at h
    split at h
    · cases hlay
      exact t_L_word_0 hl ih h hQ
    · cases h
theorem c_L_word {G : xG} {l : Launch} (hl : l.stackTraces = false) {n : Nat} {as : List Value} {P : xH} {z : xR × xH} (h : f_L_word n 0 as P = some z) : Ct G l 11 mL_word as P (fun r P1 => (r, P1) = z) := by
  cases n with
  | zero => cases h
  | succ n =>
    unfold f_L_word at h
    split at h
    · exact Ct.ofW hl (by decide +kernel) wc_L_word (Nat.le_of_ble_eq_true rfl) (t_L_word_0 hl (s_L_word hl _) h rfl)
    all_goals first | (cases h; done) | (rename_i q9 _; exact absurd q9 (by decide)) | (rename_i q9; exact absurd q9 (by decide)) | contradiction
/-! QuakeNetLaw.had(LQuakeNet;I[J)I -/
def b_L_had_0 (n : Nat) (rec : Nat → List Value → xH → xO) (a0 : Nat) (a1 : Int32) (a2 : Nat) (P : xH) : xO :=
  (kO P a0 10).bind fun _ =>
  (f_X10_had n 0 [.ref a0, .int a1] P).bind fun r2 => xIh r2 (fun k8 i8 P8 =>
    if k8 = 0 then
      some (.inl (some (.int 1)), P8)
    else
    none) fun v4 P1 =>
    (sJ P1 a2 0 ((Int32.toInt64 v4))).bind fun P6 =>
    some (.inl (some (.int 0)), P6)
def lay_L_had : Nat → List Value → Option (xL × List Value)
  | 0, [a0, a1, a2] => some ([some a0, some a1, some a2, none], [])
  | _, _ => none
def f_L_had : Nat → Nat → List Value → xH → xO
  | 0 => fun _ _ _ => none
  | n + 1 => fun pc env P => match pc, env with
    | 0, [.ref a0, .int a1, .ref a2] => b_L_had_0 n (f_L_had n) a0 a1 a2 P
    | _, _ => none
set_option maxHeartbeats 2000000 in
set_option maxRecDepth 20000 in
theorem t_L_had_0 {G : xG} {l : Launch} (hl : l.stackTraces = false) {n : Nat} {rec : Nat → List Value → xH → xO} (hrec : ∀ pc env P z, rec pc env P = some z → ∀ L st, lay_L_had pc env = some (L, st) → ∀ Q : xR → xH → Prop, Q z.1 z.2 → Wp G l 11 mL_had pc L st P Q) {a0 a1 a2} {P : xH} {z : xR × xH} (h : b_L_had_0 n rec a0 a1 a2 P = some z) {Q : xR → xH → Prop} (hQ : Q z.1 z.2) : Wp G l 11 mL_had 0 [some (.ref a0), some (.int a1), some (.ref a2), none] [] P Q := by
  unfold b_L_had_0 at h
  refine x_aload_nr dL_had_0 rfl ?_
  refine x_iconst 0 dL_had_1 (by decide) ?_
  refine x_aload_nr dL_had_2 rfl ?_
  refine x_iload_n dL_had_3 rfl ?_
  obtain ⟨_, e5, h⟩ := Option.bind_eq_some_iff.mp h
  obtain ⟨fse5, e5⟩ := kO_ok e5
  obtain ⟨r2, e3, h⟩ := Option.bind_eq_some_iff.mp h
  replace h := xIh_ok h
  rcases h with ⟨v4, P1, hr9, h⟩ | ⟨i8, P8, k8, hr9, hk8, h⟩
  · subst hr9
    refine x_callVH rfl (c_X10_had hl e3) dL_had_4 cw_X10_had wl_L_52 wi_X10_had wse_X10_had rfl e5 (by decide) rfl (by omega) (by decide) rfl (Nat.le_of_ble_eq_true rfl) (fun v9 P9 hq9 => ?_) (fun i9 P9 hq9 => by cases hq9)
    cases hq9
    refine x_i2l dL_had_7 ?_
    obtain ⟨P6, e7, h⟩ := Option.bind_eq_some_iff.mp h
    refine k_sJ e7 dL_had_8 ?_
    refine x_goto 15 dL_had_9 (by decide) ?_
    refine x_iconst 0 dL_had_15 (by decide) ?_
    cases h
    exact x_iret .int rfl rfl dL_had_16 hQ
  · subst hr9
    by_cases q8 : k8 = 0
    · rw [if_pos q8] at h
      subst q8
      refine x_callVH rfl (c_X10_had hl e3) dL_had_4 cw_X10_had wl_L_52 wi_X10_had wse_X10_had rfl e5 (by decide) rfl (by omega) (by decide) rfl (Nat.le_of_ble_eq_true rfl) (fun v9 P9 hq9 => by cases hq9) (fun i9 P9 hq9 => ?_)
      cases hq9
      refine ⟨_, 12, hk8, by decide, ?_⟩
      refine x_astore_n dL_had_12 (Nat.le_of_ble_eq_true rfl) ?_
      refine x_iconst 1 dL_had_13 (by decide) ?_
      cases h
      exact x_iret .int rfl rfl dL_had_14 hQ
    · rw [if_neg q8] at h
      cases h
theorem s_L_had {G : xG} {l : Launch} (hl : l.stackTraces = false) : ∀ n pc env P z, f_L_had n pc env P = some z → ∀ L st, lay_L_had pc env = some (L, st) → ∀ Q : xR → xH → Prop, Q z.1 z.2 → Wp G l 11 mL_had pc L st P Q := by
  intro n
  induction n with
  | zero => intro pc env P z h; cases h
  | succ n ih =>
    intro pc env P z h L st hlay Q hQ
    unfold f_L_had at h
    split at h
    · cases hlay
      exact t_L_had_0 hl ih h hQ
    · cases h
theorem c_L_had {G : xG} {l : Launch} (hl : l.stackTraces = false) {n : Nat} {as : List Value} {P : xH} {z : xR × xH} (h : f_L_had n 0 as P = some z) : Ct G l 11 mL_had as P (fun r P1 => (r, P1) = z) := by
  cases n with
  | zero => cases h
  | succ n =>
    unfold f_L_had at h
    split at h
    · exact Ct.ofW hl (by decide +kernel) wc_L_had (Nat.le_of_ble_eq_true rfl) (t_L_had_0 hl (s_L_had hl _) h rfl)
    all_goals first | (cases h; done) | (rename_i q9 _; exact absurd q9 (by decide)) | (rename_i q9; exact absurd q9 (by decide)) | contradiction
/-! QuakeNetLaw.way(LQuakeNet;II[J)I -/
def b_L_way_0 (n : Nat) (rec : Nat → List Value → xH → xO) (a0 : Nat) (a1 : Int32) (a2 : Int32) (a3 : Nat) (P : xH) : xO :=
  (kO P a0 10).bind fun _ =>
  (f_X10_way n 0 [.ref a0, .int a1, .int a2] P).bind fun r2 => xIh r2 (fun k8 i8 P8 =>
    if k8 = 0 then
      some (.inl (some (.int 1)), P8)
    else
    none) fun v4 P1 =>
    (sJ P1 a3 0 ((Int32.toInt64 v4))).bind fun P6 =>
    some (.inl (some (.int 0)), P6)
def lay_L_way : Nat → List Value → Option (xL × List Value)
  | 0, [a0, a1, a2, a3] => some ([some a0, some a1, some a2, some a3, none], [])
  | _, _ => none
def f_L_way : Nat → Nat → List Value → xH → xO
  | 0 => fun _ _ _ => none
  | n + 1 => fun pc env P => match pc, env with
    | 0, [.ref a0, .int a1, .int a2, .ref a3] => b_L_way_0 n (f_L_way n) a0 a1 a2 a3 P
    | _, _ => none
set_option maxHeartbeats 2000000 in
set_option maxRecDepth 20000 in
theorem t_L_way_0 {G : xG} {l : Launch} (hl : l.stackTraces = false) {n : Nat} {rec : Nat → List Value → xH → xO} (hrec : ∀ pc env P z, rec pc env P = some z → ∀ L st, lay_L_way pc env = some (L, st) → ∀ Q : xR → xH → Prop, Q z.1 z.2 → Wp G l 11 mL_way pc L st P Q) {a0 a1 a2 a3} {P : xH} {z : xR × xH} (h : b_L_way_0 n rec a0 a1 a2 a3 P = some z) {Q : xR → xH → Prop} (hQ : Q z.1 z.2) : Wp G l 11 mL_way 0 [some (.ref a0), some (.int a1), some (.int a2), some (.ref a3), none] [] P Q := by
  unfold b_L_way_0 at h
  refine x_aload_nr dL_way_0 rfl ?_
  refine x_iconst 0 dL_way_1 (by decide) ?_
  refine x_aload_nr dL_way_2 rfl ?_
  refine x_iload_n dL_way_3 rfl ?_
  refine x_iload_n dL_way_4 rfl ?_
  obtain ⟨_, e5, h⟩ := Option.bind_eq_some_iff.mp h
  obtain ⟨fse5, e5⟩ := kO_ok e5
  obtain ⟨r2, e3, h⟩ := Option.bind_eq_some_iff.mp h
  replace h := xIh_ok h
  rcases h with ⟨v4, P1, hr9, h⟩ | ⟨i8, P8, k8, hr9, hk8, h⟩
  · subst hr9
    refine x_callVH rfl (c_X10_way hl e3) dL_way_5 cw_X10_way wl_L_55 wi_X10_way wse_X10_way rfl e5 (by decide) rfl (by omega) (by decide) rfl (Nat.le_of_ble_eq_true rfl) (fun v9 P9 hq9 => ?_) (fun i9 P9 hq9 => by cases hq9)
    cases hq9
    refine x_i2l dL_way_8 ?_
    obtain ⟨P6, e7, h⟩ := Option.bind_eq_some_iff.mp h
    refine k_sJ e7 dL_way_9 ?_
    refine x_goto 17 dL_way_10 (by decide) ?_
    refine x_iconst 0 dL_way_17 (by decide) ?_
    cases h
    exact x_iret .int rfl rfl dL_way_18 hQ
  · subst hr9
    by_cases q8 : k8 = 0
    · rw [if_pos q8] at h
      subst q8
      refine x_callVH rfl (c_X10_way hl e3) dL_way_5 cw_X10_way wl_L_55 wi_X10_way wse_X10_way rfl e5 (by decide) rfl (by omega) (by decide) rfl (Nat.le_of_ble_eq_true rfl) (fun v9 P9 hq9 => by cases hq9) (fun i9 P9 hq9 => ?_)
      cases hq9
      refine ⟨_, 13, hk8, by decide, ?_⟩
      refine x_astore dL_way_13 (Nat.le_of_ble_eq_true rfl) ?_
      refine x_iconst 1 dL_way_15 (by decide) ?_
      cases h
      exact x_iret .int rfl rfl dL_way_16 hQ
    · rw [if_neg q8] at h
      cases h
theorem s_L_way {G : xG} {l : Launch} (hl : l.stackTraces = false) : ∀ n pc env P z, f_L_way n pc env P = some z → ∀ L st, lay_L_way pc env = some (L, st) → ∀ Q : xR → xH → Prop, Q z.1 z.2 → Wp G l 11 mL_way pc L st P Q := by
  intro n
  induction n with
  | zero => intro pc env P z h; cases h
  | succ n ih =>
    intro pc env P z h L st hlay Q hQ
    unfold f_L_way at h
    split at h
    · cases hlay
      exact t_L_way_0 hl ih h hQ
    · cases h
theorem c_L_way {G : xG} {l : Launch} (hl : l.stackTraces = false) {n : Nat} {as : List Value} {P : xH} {z : xR × xH} (h : f_L_way n 0 as P = some z) : Ct G l 11 mL_way as P (fun r P1 => (r, P1) = z) := by
  cases n with
  | zero => cases h
  | succ n =>
    unfold f_L_way at h
    split at h
    · exact Ct.ofW hl (by decide +kernel) wc_L_way (Nat.le_of_ble_eq_true rfl) (t_L_way_0 hl (s_L_way hl _) h rfl)
    all_goals first | (cases h; done) | (rename_i q9 _; exact absurd q9 (by decide)) | (rename_i q9; exact absurd q9 (by decide)) | contradiction
/-! QuakeNetLaw.late(LQuakeNet;I[J)I -/
def b_L_late_0 (n : Nat) (rec : Nat → List Value → xH → xO) (a0 : Nat) (a1 : Int32) (a2 : Nat) (P : xH) : xO :=
  (kO P a0 10).bind fun _ =>
  (f_X10_late n 0 [.ref a0, .int a1] P).bind fun r2 => xIh r2 (fun k8 i8 P8 =>
    if k8 = 0 then
      some (.inl (some (.int 1)), P8)
    else
    none) fun v4 P1 =>
    (sJ P1 a2 0 ((Int32.toInt64 v4))).bind fun P6 =>
    some (.inl (some (.int 0)), P6)
def lay_L_late : Nat → List Value → Option (xL × List Value)
  | 0, [a0, a1, a2] => some ([some a0, some a1, some a2, none], [])
  | _, _ => none
def f_L_late : Nat → Nat → List Value → xH → xO
  | 0 => fun _ _ _ => none
  | n + 1 => fun pc env P => match pc, env with
    | 0, [.ref a0, .int a1, .ref a2] => b_L_late_0 n (f_L_late n) a0 a1 a2 P
    | _, _ => none
set_option maxHeartbeats 2000000 in
set_option maxRecDepth 20000 in
theorem t_L_late_0 {G : xG} {l : Launch} (hl : l.stackTraces = false) {n : Nat} {rec : Nat → List Value → xH → xO} (hrec : ∀ pc env P z, rec pc env P = some z → ∀ L st, lay_L_late pc env = some (L, st) → ∀ Q : xR → xH → Prop, Q z.1 z.2 → Wp G l 11 mL_late pc L st P Q) {a0 a1 a2} {P : xH} {z : xR × xH} (h : b_L_late_0 n rec a0 a1 a2 P = some z) {Q : xR → xH → Prop} (hQ : Q z.1 z.2) : Wp G l 11 mL_late 0 [some (.ref a0), some (.int a1), some (.ref a2), none] [] P Q := by
  unfold b_L_late_0 at h
  refine x_aload_nr dL_late_0 rfl ?_
  refine x_iconst 0 dL_late_1 (by decide) ?_
  refine x_aload_nr dL_late_2 rfl ?_
  refine x_iload_n dL_late_3 rfl ?_
  obtain ⟨_, e5, h⟩ := Option.bind_eq_some_iff.mp h
  obtain ⟨fse5, e5⟩ := kO_ok e5
  obtain ⟨r2, e3, h⟩ := Option.bind_eq_some_iff.mp h
  replace h := xIh_ok h
  rcases h with ⟨v4, P1, hr9, h⟩ | ⟨i8, P8, k8, hr9, hk8, h⟩
  · subst hr9
    refine x_callVH rfl (c_X10_late hl e3) dL_late_4 cw_X10_late wl_L_58 wi_X10_late wse_X10_late rfl e5 (by decide) rfl (by omega) (by decide) rfl (Nat.le_of_ble_eq_true rfl) (fun v9 P9 hq9 => ?_) (fun i9 P9 hq9 => by cases hq9)
    cases hq9
    refine x_i2l dL_late_7 ?_
    obtain ⟨P6, e7, h⟩ := Option.bind_eq_some_iff.mp h
    refine k_sJ e7 dL_late_8 ?_
    refine x_goto 15 dL_late_9 (by decide) ?_
    refine x_iconst 0 dL_late_15 (by decide) ?_
    cases h
    exact x_iret .int rfl rfl dL_late_16 hQ
  · subst hr9
    by_cases q8 : k8 = 0
    · rw [if_pos q8] at h
      subst q8
      refine x_callVH rfl (c_X10_late hl e3) dL_late_4 cw_X10_late wl_L_58 wi_X10_late wse_X10_late rfl e5 (by decide) rfl (by omega) (by decide) rfl (Nat.le_of_ble_eq_true rfl) (fun v9 P9 hq9 => by cases hq9) (fun i9 P9 hq9 => ?_)
      cases hq9
      refine ⟨_, 12, hk8, by decide, ?_⟩
      refine x_astore_n dL_late_12 (Nat.le_of_ble_eq_true rfl) ?_
      refine x_iconst 1 dL_late_13 (by decide) ?_
      cases h
      exact x_iret .int rfl rfl dL_late_14 hQ
    · rw [if_neg q8] at h
      cases h
theorem s_L_late {G : xG} {l : Launch} (hl : l.stackTraces = false) : ∀ n pc env P z, f_L_late n pc env P = some z → ∀ L st, lay_L_late pc env = some (L, st) → ∀ Q : xR → xH → Prop, Q z.1 z.2 → Wp G l 11 mL_late pc L st P Q := by
  intro n
  induction n with
  | zero => intro pc env P z h; cases h
  | succ n ih =>
    intro pc env P z h L st hlay Q hQ
    unfold f_L_late at h
    split at h
    · cases hlay
      exact t_L_late_0 hl ih h hQ
    · cases h
theorem c_L_late {G : xG} {l : Launch} (hl : l.stackTraces = false) {n : Nat} {as : List Value} {P : xH} {z : xR × xH} (h : f_L_late n 0 as P = some z) : Ct G l 11 mL_late as P (fun r P1 => (r, P1) = z) := by
  cases n with
  | zero => cases h
  | succ n =>
    unfold f_L_late at h
    split at h
    · exact Ct.ofW hl (by decide +kernel) wc_L_late (Nat.le_of_ble_eq_true rfl) (t_L_late_0 hl (s_L_late hl _) h rfl)
    all_goals first | (cases h; done) | (rename_i q9 _; exact absurd q9 (by decide)) | (rename_i q9; exact absurd q9 (by decide)) | contradiction
/-! QuakeNetLaw.rumour(LQuakeNet;I[J)I -/
def b_L_rumour_0 (n : Nat) (rec : Nat → List Value → xH → xO) (a0 : Nat) (a1 : Int32) (a2 : Nat) (P : xH) : xO :=
  (kO P a0 10).bind fun _ =>
  (f_X10_rumour n 0 [.ref a0, .int a1] P).bind fun r2 => xIh r2 (fun k8 i8 P8 =>
    if k8 = 0 then
      some (.inl (some (.int 1)), P8)
    else
    none) fun v4 P1 =>
    (sJ P1 a2 0 ((Int32.toInt64 v4))).bind fun P6 =>
    some (.inl (some (.int 0)), P6)
def lay_L_rumour : Nat → List Value → Option (xL × List Value)
  | 0, [a0, a1, a2] => some ([some a0, some a1, some a2, none], [])
  | _, _ => none
def f_L_rumour : Nat → Nat → List Value → xH → xO
  | 0 => fun _ _ _ => none
  | n + 1 => fun pc env P => match pc, env with
    | 0, [.ref a0, .int a1, .ref a2] => b_L_rumour_0 n (f_L_rumour n) a0 a1 a2 P
    | _, _ => none
set_option maxHeartbeats 2000000 in
set_option maxRecDepth 20000 in
theorem t_L_rumour_0 {G : xG} {l : Launch} (hl : l.stackTraces = false) {n : Nat} {rec : Nat → List Value → xH → xO} (hrec : ∀ pc env P z, rec pc env P = some z → ∀ L st, lay_L_rumour pc env = some (L, st) → ∀ Q : xR → xH → Prop, Q z.1 z.2 → Wp G l 11 mL_rumour pc L st P Q) {a0 a1 a2} {P : xH} {z : xR × xH} (h : b_L_rumour_0 n rec a0 a1 a2 P = some z) {Q : xR → xH → Prop} (hQ : Q z.1 z.2) : Wp G l 11 mL_rumour 0 [some (.ref a0), some (.int a1), some (.ref a2), none] [] P Q := by
  unfold b_L_rumour_0 at h
  refine x_aload_nr dL_rumour_0 rfl ?_
  refine x_iconst 0 dL_rumour_1 (by decide) ?_
  refine x_aload_nr dL_rumour_2 rfl ?_
  refine x_iload_n dL_rumour_3 rfl ?_
  obtain ⟨_, e5, h⟩ := Option.bind_eq_some_iff.mp h
  obtain ⟨fse5, e5⟩ := kO_ok e5
  obtain ⟨r2, e3, h⟩ := Option.bind_eq_some_iff.mp h
  replace h := xIh_ok h
  rcases h with ⟨v4, P1, hr9, h⟩ | ⟨i8, P8, k8, hr9, hk8, h⟩
  · subst hr9
    refine x_callVH rfl (c_X10_rumour hl e3) dL_rumour_4 cw_X10_rumour wl_L_61 wi_X10_rumour wse_X10_rumour rfl e5 (by decide) rfl (by omega) (by decide) rfl (Nat.le_of_ble_eq_true rfl) (fun v9 P9 hq9 => ?_) (fun i9 P9 hq9 => by cases hq9)
    cases hq9
    refine x_i2l dL_rumour_7 ?_
    obtain ⟨P6, e7, h⟩ := Option.bind_eq_some_iff.mp h
    refine k_sJ e7 dL_rumour_8 ?_
    refine x_goto 15 dL_rumour_9 (by decide) ?_
    refine x_iconst 0 dL_rumour_15 (by decide) ?_
    cases h
    exact x_iret .int rfl rfl dL_rumour_16 hQ
  · subst hr9
    by_cases q8 : k8 = 0
    · rw [if_pos q8] at h
      subst q8
      refine x_callVH rfl (c_X10_rumour hl e3) dL_rumour_4 cw_X10_rumour wl_L_61 wi_X10_rumour wse_X10_rumour rfl e5 (by decide) rfl (by omega) (by decide) rfl (Nat.le_of_ble_eq_true rfl) (fun v9 P9 hq9 => by cases hq9) (fun i9 P9 hq9 => ?_)
      cases hq9
      refine ⟨_, 12, hk8, by decide, ?_⟩
      refine x_astore_n dL_rumour_12 (Nat.le_of_ble_eq_true rfl) ?_
      refine x_iconst 1 dL_rumour_13 (by decide) ?_
      cases h
      exact x_iret .int rfl rfl dL_rumour_14 hQ
    · rw [if_neg q8] at h
      cases h
theorem s_L_rumour {G : xG} {l : Launch} (hl : l.stackTraces = false) : ∀ n pc env P z, f_L_rumour n pc env P = some z → ∀ L st, lay_L_rumour pc env = some (L, st) → ∀ Q : xR → xH → Prop, Q z.1 z.2 → Wp G l 11 mL_rumour pc L st P Q := by
  intro n
  induction n with
  | zero => intro pc env P z h; cases h
  | succ n ih =>
    intro pc env P z h L st hlay Q hQ
    unfold f_L_rumour at h
    split at h
    · cases hlay
      exact t_L_rumour_0 hl ih h hQ
    · cases h
theorem c_L_rumour {G : xG} {l : Launch} (hl : l.stackTraces = false) {n : Nat} {as : List Value} {P : xH} {z : xR × xH} (h : f_L_rumour n 0 as P = some z) : Ct G l 11 mL_rumour as P (fun r P1 => (r, P1) = z) := by
  cases n with
  | zero => cases h
  | succ n =>
    unfold f_L_rumour at h
    split at h
    · exact Ct.ofW hl (by decide +kernel) wc_L_rumour (Nat.le_of_ble_eq_true rfl) (t_L_rumour_0 hl (s_L_rumour hl _) h rfl)
    all_goals first | (cases h; done) | (rename_i q9 _; exact absurd q9 (by decide)) | (rename_i q9; exact absurd q9 (by decide)) | contradiction
/-! QuakeNetLaw.sayings(LQuakeNet;IIZ[J)I -/
def b_L_sayings_0 (n : Nat) (rec : Nat → List Value → xH → xO) (a0 : Nat) (a1 : Int32) (a2 : Int32) (a3 : Int32) (a4 : Nat) (P : xH) : xO :=
  (kO P a0 10).bind fun _ =>
  (f_X10_sayings n 0 [.ref a0, .int a1, .int a2, .int a3] P).bind fun r2 => xIh r2 (fun k8 i8 P8 =>
    if k8 = 0 then
      some (.inl (some (.int 1)), P8)
    else
    none) fun v4 P1 =>
    (sJ P1 a4 0 ((Int32.toInt64 v4))).bind fun P6 =>
    some (.inl (some (.int 0)), P6)
def lay_L_sayings : Nat → List Value → Option (xL × List Value)
  | 0, [a0, a1, a2, a3, a4] => some ([some a0, some a1, some a2, some a3, some a4, none], [])
  | _, _ => none
def f_L_sayings : Nat → Nat → List Value → xH → xO
  | 0 => fun _ _ _ => none
  | n + 1 => fun pc env P => match pc, env with
    | 0, [.ref a0, .int a1, .int a2, .int a3, .ref a4] => b_L_sayings_0 n (f_L_sayings n) a0 a1 a2 a3 a4 P
    | _, _ => none
set_option maxHeartbeats 2000000 in
set_option maxRecDepth 20000 in
theorem t_L_sayings_0 {G : xG} {l : Launch} (hl : l.stackTraces = false) {n : Nat} {rec : Nat → List Value → xH → xO} (hrec : ∀ pc env P z, rec pc env P = some z → ∀ L st, lay_L_sayings pc env = some (L, st) → ∀ Q : xR → xH → Prop, Q z.1 z.2 → Wp G l 10 mL_sayings pc L st P Q) {a0 a1 a2 a3 a4} {P : xH} {z : xR × xH} (h : b_L_sayings_0 n rec a0 a1 a2 a3 a4 P = some z) {Q : xR → xH → Prop} (hQ : Q z.1 z.2) : Wp G l 10 mL_sayings 0 [some (.ref a0), some (.int a1), some (.int a2), some (.int a3), some (.ref a4), none] [] P Q := by
  unfold b_L_sayings_0 at h
  refine x_aloadr dL_sayings_0 rfl ?_
  refine x_iconst 0 dL_sayings_2 (by decide) ?_
  refine x_aload_nr dL_sayings_3 rfl ?_
  refine x_iload_n dL_sayings_4 rfl ?_
  refine x_iload_n dL_sayings_5 rfl ?_
  refine x_iload_n dL_sayings_6 rfl ?_
  obtain ⟨_, e5, h⟩ := Option.bind_eq_some_iff.mp h
  obtain ⟨fse5, e5⟩ := kO_ok e5
  obtain ⟨r2, e3, h⟩ := Option.bind_eq_some_iff.mp h
  replace h := xIh_ok h
  rcases h with ⟨v4, P1, hr9, h⟩ | ⟨i8, P8, k8, hr9, hk8, h⟩
  · subst hr9
    refine x_callVH rfl (c_X10_sayings hl e3) dL_sayings_7 cw_X10_sayings wl_L_64 wi_X10_sayings wse_X10_sayings rfl e5 (by decide) rfl (by omega) (by decide) rfl (Nat.le_of_ble_eq_true rfl) (fun v9 P9 hq9 => ?_) (fun i9 P9 hq9 => by cases hq9)
    cases hq9
    refine x_i2l dL_sayings_10 ?_
    obtain ⟨P6, e7, h⟩ := Option.bind_eq_some_iff.mp h
    refine k_sJ e7 dL_sayings_11 ?_
    refine x_goto 19 dL_sayings_12 (by decide) ?_
    refine x_iconst 0 dL_sayings_19 (by decide) ?_
    cases h
    exact x_iret .int rfl rfl dL_sayings_20 hQ
  · subst hr9
    by_cases q8 : k8 = 0
    · rw [if_pos q8] at h
      subst q8
      refine x_callVH rfl (c_X10_sayings hl e3) dL_sayings_7 cw_X10_sayings wl_L_64 wi_X10_sayings wse_X10_sayings rfl e5 (by decide) rfl (by omega) (by decide) rfl (Nat.le_of_ble_eq_true rfl) (fun v9 P9 hq9 => by cases hq9) (fun i9 P9 hq9 => ?_)
      cases hq9
      refine ⟨_, 15, hk8, by decide, ?_⟩
      refine x_astore dL_sayings_15 (Nat.le_of_ble_eq_true rfl) ?_
      refine x_iconst 1 dL_sayings_17 (by decide) ?_
      cases h
      exact x_iret .int rfl rfl dL_sayings_18 hQ
    · rw [if_neg q8] at h
      cases h
theorem s_L_sayings {G : xG} {l : Launch} (hl : l.stackTraces = false) : ∀ n pc env P z, f_L_sayings n pc env P = some z → ∀ L st, lay_L_sayings pc env = some (L, st) → ∀ Q : xR → xH → Prop, Q z.1 z.2 → Wp G l 10 mL_sayings pc L st P Q := by
  intro n
  induction n with
  | zero => intro pc env P z h; cases h
  | succ n ih =>
    intro pc env P z h L st hlay Q hQ
    unfold f_L_sayings at h
    split at h
    · cases hlay
      exact t_L_sayings_0 hl ih h hQ
    · cases h
theorem c_L_sayings {G : xG} {l : Launch} (hl : l.stackTraces = false) {n : Nat} {as : List Value} {P : xH} {z : xR × xH} (h : f_L_sayings n 0 as P = some z) : Ct G l 10 mL_sayings as P (fun r P1 => (r, P1) = z) := by
  cases n with
  | zero => cases h
  | succ n =>
    unfold f_L_sayings at h
    split at h
    · exact Ct.ofW hl (by decide +kernel) wc_L_sayings (Nat.le_of_ble_eq_true rfl) (t_L_sayings_0 hl (s_L_sayings hl _) h rfl)
    all_goals first | (cases h; done) | (rename_i q9 _; exact absurd q9 (by decide)) | (rename_i q9; exact absurd q9 (by decide)) | contradiction
/-! QuakeNetLaw.speed(LQuakeNet;I)I -/
def b_L_speed_0 (n : Nat) (rec : Nat → List Value → xH → xO) (a0 : Nat) (a1 : Int32) (P : xH) : xO :=
  (kO P a0 10).bind fun _ =>
  (f_X10_speed n 0 [.ref a0, .int a1] P).bind fun r2 => xUh r2 (fun k8 i8 P8 =>
    if k8 = 1 then
      some (.inl (some (.int 1)), P8)
    else
    none) fun P1 =>
    some (.inl (some (.int 0)), P1)
def lay_L_speed : Nat → List Value → Option (xL × List Value)
  | 0, [a0, a1] => some ([some a0, some a1, none], [])
  | _, _ => none
def f_L_speed : Nat → Nat → List Value → xH → xO
  | 0 => fun _ _ _ => none
  | n + 1 => fun pc env P => match pc, env with
    | 0, [.ref a0, .int a1] => b_L_speed_0 n (f_L_speed n) a0 a1 P
    | _, _ => none
set_option maxHeartbeats 2000000 in
set_option maxRecDepth 20000 in
theorem t_L_speed_0 {G : xG} {l : Launch} (hl : l.stackTraces = false) {n : Nat} {rec : Nat → List Value → xH → xO} (hrec : ∀ pc env P z, rec pc env P = some z → ∀ L st, lay_L_speed pc env = some (L, st) → ∀ Q : xR → xH → Prop, Q z.1 z.2 → Wp G l 10 mL_speed pc L st P Q) {a0 a1} {P : xH} {z : xR × xH} (h : b_L_speed_0 n rec a0 a1 P = some z) {Q : xR → xH → Prop} (hQ : Q z.1 z.2) : Wp G l 10 mL_speed 0 [some (.ref a0), some (.int a1), none] [] P Q := by
  unfold b_L_speed_0 at h
  refine x_aload_nr dL_speed_0 rfl ?_
  refine x_iload_n dL_speed_1 rfl ?_
  obtain ⟨_, e4, h⟩ := Option.bind_eq_some_iff.mp h
  obtain ⟨fse4, e4⟩ := kO_ok e4
  obtain ⟨r2, e3, h⟩ := Option.bind_eq_some_iff.mp h
  replace h := xUh_ok h
  rcases h with ⟨P1, hr9, h⟩ | ⟨i8, P8, k8, hr9, hk8, h⟩
  · subst hr9
    refine x_callVH rfl (c_X10_speed hl e3) dL_speed_2 cw_X10_speed wl_L_68 wi_X10_speed wse_X10_speed rfl e4 (by decide) rfl (by omega) (by decide) rfl (Nat.le_of_ble_eq_true rfl) (fun v9 P9 hq9 => ?_) (fun i9 P9 hq9 => by cases hq9)
    cases hq9
    refine x_goto 11 dL_speed_5 (by decide) ?_
    refine x_iconst 0 dL_speed_11 (by decide) ?_
    cases h
    exact x_iret .int rfl rfl dL_speed_12 hQ
  · subst hr9
    by_cases q8 : k8 = 1
    · rw [if_pos q8] at h
      subst q8
      refine x_callVH rfl (c_X10_speed hl e3) dL_speed_2 cw_X10_speed wl_L_68 wi_X10_speed wse_X10_speed rfl e4 (by decide) rfl (by omega) (by decide) rfl (Nat.le_of_ble_eq_true rfl) (fun v9 P9 hq9 => by cases hq9) (fun i9 P9 hq9 => ?_)
      cases hq9
      refine ⟨_, 8, hk8, by decide, ?_⟩
      refine x_astore_n dL_speed_8 (Nat.le_of_ble_eq_true rfl) ?_
      refine x_iconst 1 dL_speed_9 (by decide) ?_
      cases h
      exact x_iret .int rfl rfl dL_speed_10 hQ
    · rw [if_neg q8] at h
      cases h
theorem s_L_speed {G : xG} {l : Launch} (hl : l.stackTraces = false) : ∀ n pc env P z, f_L_speed n pc env P = some z → ∀ L st, lay_L_speed pc env = some (L, st) → ∀ Q : xR → xH → Prop, Q z.1 z.2 → Wp G l 10 mL_speed pc L st P Q := by
  intro n
  induction n with
  | zero => intro pc env P z h; cases h
  | succ n ih =>
    intro pc env P z h L st hlay Q hQ
    unfold f_L_speed at h
    split at h
    · cases hlay
      exact t_L_speed_0 hl ih h hQ
    · cases h
theorem c_L_speed {G : xG} {l : Launch} (hl : l.stackTraces = false) {n : Nat} {as : List Value} {P : xH} {z : xR × xH} (h : f_L_speed n 0 as P = some z) : Ct G l 10 mL_speed as P (fun r P1 => (r, P1) = z) := by
  cases n with
  | zero => cases h
  | succ n =>
    unfold f_L_speed at h
    split at h
    · exact Ct.ofW hl (by decide +kernel) wc_L_speed (Nat.le_of_ble_eq_true rfl) (t_L_speed_0 hl (s_L_speed hl _) h rfl)
    all_goals first | (cases h; done) | (rename_i q9 _; exact absurd q9 (by decide)) | (rename_i q9; exact absurd q9 (by decide)) | contradiction
/-! QuakeNetLaw.could(LQuakeNet;III[J)I -/
def b_L_could_0 (n : Nat) (rec : Nat → List Value → xH → xO) (a0 : Nat) (a1 : Int32) (a2 : Int32) (a3 : Int32) (a4 : Nat) (P : xH) : xO :=
  (kO P a0 10).bind fun _ =>
  (f_X10_could n 0 [.ref a0, .int a1, .int a2, .int a3] P).bind fun r2 => xIh r2 (fun k8 i8 P8 =>
    if k8 = 0 then
      some (.inl (some (.int 1)), P8)
    else
    if k8 = 1 then
      some (.inl (some (.int 2)), P8)
    else
    none) fun v4 P1 =>
    (sJ P1 a4 0 ((Int32.toInt64 v4))).bind fun P6 =>
    some (.inl (some (.int 0)), P6)
def lay_L_could : Nat → List Value → Option (xL × List Value)
  | 0, [a0, a1, a2, a3, a4] => some ([some a0, some a1, some a2, some a3, some a4, none], [])
  | _, _ => none
def f_L_could : Nat → Nat → List Value → xH → xO
  | 0 => fun _ _ _ => none
  | n + 1 => fun pc env P => match pc, env with
    | 0, [.ref a0, .int a1, .int a2, .int a3, .ref a4] => b_L_could_0 n (f_L_could n) a0 a1 a2 a3 a4 P
    | _, _ => none
set_option maxHeartbeats 2000000 in
set_option maxRecDepth 20000 in
theorem t_L_could_0 {G : xG} {l : Launch} (hl : l.stackTraces = false) {n : Nat} {rec : Nat → List Value → xH → xO} (hrec : ∀ pc env P z, rec pc env P = some z → ∀ L st, lay_L_could pc env = some (L, st) → ∀ Q : xR → xH → Prop, Q z.1 z.2 → Wp G l 11 mL_could pc L st P Q) {a0 a1 a2 a3 a4} {P : xH} {z : xR × xH} (h : b_L_could_0 n rec a0 a1 a2 a3 a4 P = some z) {Q : xR → xH → Prop} (hQ : Q z.1 z.2) : Wp G l 11 mL_could 0 [some (.ref a0), some (.int a1), some (.int a2), some (.int a3), some (.ref a4), none] [] P Q := by
  unfold b_L_could_0 at h
  refine x_aloadr dL_could_0 rfl ?_
  refine x_iconst 0 dL_could_2 (by decide) ?_
  refine x_aload_nr dL_could_3 rfl ?_
  refine x_iload_n dL_could_4 rfl ?_
  refine x_iload_n dL_could_5 rfl ?_
  refine x_iload_n dL_could_6 rfl ?_
  obtain ⟨_, e5, h⟩ := Option.bind_eq_some_iff.mp h
  obtain ⟨fse5, e5⟩ := kO_ok e5
  obtain ⟨r2, e3, h⟩ := Option.bind_eq_some_iff.mp h
  replace h := xIh_ok h
  rcases h with ⟨v4, P1, hr9, h⟩ | ⟨i8, P8, k8, hr9, hk8, h⟩
  · subst hr9
    refine x_callVH rfl (c_X10_could hl e3) dL_could_7 cw_X10_could wl_L_72 wi_X10_could wse_X10_could rfl e5 (by decide) rfl (by omega) (by decide) rfl (Nat.le_of_ble_eq_true rfl) (fun v9 P9 hq9 => ?_) (fun i9 P9 hq9 => by cases hq9)
    cases hq9
    refine x_i2l dL_could_10 ?_
    obtain ⟨P6, e7, h⟩ := Option.bind_eq_some_iff.mp h
    refine k_sJ e7 dL_could_11 ?_
    refine x_goto 23 dL_could_12 (by decide) ?_
    refine x_iconst 0 dL_could_23 (by decide) ?_
    cases h
    exact x_iret .int rfl rfl dL_could_24 hQ
  · subst hr9
    by_cases q8 : k8 = 0
    · rw [if_pos q8] at h
      subst q8
      refine x_callVH rfl (c_X10_could hl e3) dL_could_7 cw_X10_could wl_L_72 wi_X10_could wse_X10_could rfl e5 (by decide) rfl (by omega) (by decide) rfl (Nat.le_of_ble_eq_true rfl) (fun v9 P9 hq9 => by cases hq9) (fun i9 P9 hq9 => ?_)
      cases hq9
      refine ⟨_, 15, hk8, by decide, ?_⟩
      refine x_astore dL_could_15 (Nat.le_of_ble_eq_true rfl) ?_
      refine x_iconst 1 dL_could_17 (by decide) ?_
      cases h
      exact x_iret .int rfl rfl dL_could_18 hQ
    · rw [if_neg q8] at h
      by_cases q8 : k8 = 1
      · rw [if_pos q8] at h
        subst q8
        refine x_callVH rfl (c_X10_could hl e3) dL_could_7 cw_X10_could wl_L_72 wi_X10_could wse_X10_could rfl e5 (by decide) rfl (by omega) (by decide) rfl (Nat.le_of_ble_eq_true rfl) (fun v9 P9 hq9 => by cases hq9) (fun i9 P9 hq9 => ?_)
        cases hq9
        refine ⟨_, 19, hk8, by decide, ?_⟩
        refine x_astore dL_could_19 (Nat.le_of_ble_eq_true rfl) ?_
        refine x_iconst 2 dL_could_21 (by decide) ?_
        cases h
        exact x_iret .int rfl rfl dL_could_22 hQ
      · rw [if_neg q8] at h
        cases h
theorem s_L_could {G : xG} {l : Launch} (hl : l.stackTraces = false) : ∀ n pc env P z, f_L_could n pc env P = some z → ∀ L st, lay_L_could pc env = some (L, st) → ∀ Q : xR → xH → Prop, Q z.1 z.2 → Wp G l 11 mL_could pc L st P Q := by
  intro n
  induction n with
  | zero => intro pc env P z h; cases h
  | succ n ih =>
    intro pc env P z h L st hlay Q hQ
    unfold f_L_could at h
    split at h
    · cases hlay
      exact t_L_could_0 hl ih h hQ
    · cases h
theorem c_L_could {G : xG} {l : Launch} (hl : l.stackTraces = false) {n : Nat} {as : List Value} {P : xH} {z : xR × xH} (h : f_L_could n 0 as P = some z) : Ct G l 11 mL_could as P (fun r P1 => (r, P1) = z) := by
  cases n with
  | zero => cases h
  | succ n =>
    unfold f_L_could at h
    split at h
    · exact Ct.ofW hl (by decide +kernel) wc_L_could (Nat.le_of_ble_eq_true rfl) (t_L_could_0 hl (s_L_could hl _) h rfl)
    all_goals first | (cases h; done) | (rename_i q9 _; exact absurd q9 (by decide)) | (rename_i q9; exact absurd q9 (by decide)) | contradiction
/-! QuakeNetLaw.least(LQuakeNet;IIZ[J)I -/
def b_L_least_0 (n : Nat) (rec : Nat → List Value → xH → xO) (a0 : Nat) (a1 : Int32) (a2 : Int32) (a3 : Int32) (a4 : Nat) (P : xH) : xO :=
  (kO P a0 10).bind fun _ =>
  (f_X10_least n 0 [.ref a0, .int a1, .int a2, .int a3] P).bind fun r2 => xIh r2 (fun k8 i8 P8 =>
    if k8 = 0 then
      some (.inl (some (.int 1)), P8)
    else
    none) fun v4 P1 =>
    (sJ P1 a4 0 ((Int32.toInt64 v4))).bind fun P6 =>
    some (.inl (some (.int 0)), P6)
def lay_L_least : Nat → List Value → Option (xL × List Value)
  | 0, [a0, a1, a2, a3, a4] => some ([some a0, some a1, some a2, some a3, some a4, none], [])
  | _, _ => none
def f_L_least : Nat → Nat → List Value → xH → xO
  | 0 => fun _ _ _ => none
  | n + 1 => fun pc env P => match pc, env with
    | 0, [.ref a0, .int a1, .int a2, .int a3, .ref a4] => b_L_least_0 n (f_L_least n) a0 a1 a2 a3 a4 P
    | _, _ => none
set_option maxHeartbeats 2000000 in
set_option maxRecDepth 20000 in
theorem t_L_least_0 {G : xG} {l : Launch} (hl : l.stackTraces = false) {n : Nat} {rec : Nat → List Value → xH → xO} (hrec : ∀ pc env P z, rec pc env P = some z → ∀ L st, lay_L_least pc env = some (L, st) → ∀ Q : xR → xH → Prop, Q z.1 z.2 → Wp G l 13 mL_least pc L st P Q) {a0 a1 a2 a3 a4} {P : xH} {z : xR × xH} (h : b_L_least_0 n rec a0 a1 a2 a3 a4 P = some z) {Q : xR → xH → Prop} (hQ : Q z.1 z.2) : Wp G l 13 mL_least 0 [some (.ref a0), some (.int a1), some (.int a2), some (.int a3), some (.ref a4), none] [] P Q := by
  unfold b_L_least_0 at h
  refine x_aloadr dL_least_0 rfl ?_
  refine x_iconst 0 dL_least_2 (by decide) ?_
  refine x_aload_nr dL_least_3 rfl ?_
  refine x_iload_n dL_least_4 rfl ?_
  refine x_iload_n dL_least_5 rfl ?_
  refine x_iload_n dL_least_6 rfl ?_
  obtain ⟨_, e5, h⟩ := Option.bind_eq_some_iff.mp h
  obtain ⟨fse5, e5⟩ := kO_ok e5
  obtain ⟨r2, e3, h⟩ := Option.bind_eq_some_iff.mp h
  replace h := xIh_ok h
  rcases h with ⟨v4, P1, hr9, h⟩ | ⟨i8, P8, k8, hr9, hk8, h⟩
  · subst hr9
    refine x_callVH rfl (c_X10_least hl e3) dL_least_7 cw_X10_least wl_L_75 wi_X10_least wse_X10_least rfl e5 (by decide) rfl (by omega) (by decide) rfl (Nat.le_of_ble_eq_true rfl) (fun v9 P9 hq9 => ?_) (fun i9 P9 hq9 => by cases hq9)
    cases hq9
    refine x_i2l dL_least_10 ?_
    obtain ⟨P6, e7, h⟩ := Option.bind_eq_some_iff.mp h
    refine k_sJ e7 dL_least_11 ?_
    refine x_goto 19 dL_least_12 (by decide) ?_
    refine x_iconst 0 dL_least_19 (by decide) ?_
    cases h
    exact x_iret .int rfl rfl dL_least_20 hQ
  · subst hr9
    by_cases q8 : k8 = 0
    · rw [if_pos q8] at h
      subst q8
      refine x_callVH rfl (c_X10_least hl e3) dL_least_7 cw_X10_least wl_L_75 wi_X10_least wse_X10_least rfl e5 (by decide) rfl (by omega) (by decide) rfl (Nat.le_of_ble_eq_true rfl) (fun v9 P9 hq9 => by cases hq9) (fun i9 P9 hq9 => ?_)
      cases hq9
      refine ⟨_, 15, hk8, by decide, ?_⟩
      refine x_astore dL_least_15 (Nat.le_of_ble_eq_true rfl) ?_
      refine x_iconst 1 dL_least_17 (by decide) ?_
      cases h
      exact x_iret .int rfl rfl dL_least_18 hQ
    · rw [if_neg q8] at h
      cases h
theorem s_L_least {G : xG} {l : Launch} (hl : l.stackTraces = false) : ∀ n pc env P z, f_L_least n pc env P = some z → ∀ L st, lay_L_least pc env = some (L, st) → ∀ Q : xR → xH → Prop, Q z.1 z.2 → Wp G l 13 mL_least pc L st P Q := by
  intro n
  induction n with
  | zero => intro pc env P z h; cases h
  | succ n ih =>
    intro pc env P z h L st hlay Q hQ
    unfold f_L_least at h
    split at h
    · cases hlay
      exact t_L_least_0 hl ih h hQ
    · cases h
theorem c_L_least {G : xG} {l : Launch} (hl : l.stackTraces = false) {n : Nat} {as : List Value} {P : xH} {z : xR × xH} (h : f_L_least n 0 as P = some z) : Ct G l 13 mL_least as P (fun r P1 => (r, P1) = z) := by
  cases n with
  | zero => cases h
  | succ n =>
    unfold f_L_least at h
    split at h
    · exact Ct.ofW hl (by decide +kernel) wc_L_least (Nat.le_of_ble_eq_true rfl) (t_L_least_0 hl (s_L_least hl _) h rfl)
    all_goals first | (cases h; done) | (rename_i q9 _; exact absurd q9 (by decide)) | (rename_i q9; exact absurd q9 (by decide)) | contradiction
