/-! QuakeNetLaw.judge(LQuakeNet;IZ[J)I -/
def b_L_judge_0 (n : Nat) (rec : Nat → List Value → xH → xO) (a0 : Nat) (a1 : Int32) (a2 : Int32) (a3 : Nat) (P : xH) : xO :=
  (kO P a0 10).bind fun _ =>
  (f_X10_judge n 0 [.ref a0, .int a1, .int a2] P).bind fun r2 => xIh r2 (fun k8 i8 P8 =>
    if k8 = 0 then
      some (.inl (some (.int 1)), P8)
    else
    none) fun v4 P1 =>
    if v4 = 0 then
      (sJ P1 a3 0 0).bind fun P6 =>
      some (.inl (some (.int 0)), P6)
    else
      (sJ P1 a3 0 1).bind fun P8 =>
      some (.inl (some (.int 0)), P8)
def lay_L_judge : Nat → List Value → Option (xL × List Value)
  | 0, [a0, a1, a2, a3] => some ([some a0, some a1, some a2, some a3, none], [])
  | _, _ => none
def f_L_judge : Nat → Nat → List Value → xH → xO
  | 0 => fun _ _ _ => none
  | n + 1 => fun pc env P => match pc, env with
    | 0, [.ref a0, .int a1, .int a2, .ref a3] => b_L_judge_0 n (f_L_judge n) a0 a1 a2 a3 P
    | _, _ => none
set_option maxHeartbeats 2000000 in
set_option maxRecDepth 20000 in
theorem t_L_judge_0 {G : xG} {l : Launch} (hl : l.stackTraces = false) {n : Nat} {rec : Nat → List Value → xH → xO} (hrec : ∀ pc env P z, rec pc env P = some z → ∀ L st, lay_L_judge pc env = some (L, st) → ∀ Q : xR → xH → Prop, Q z.1 z.2 → Wp G l 11 mL_judge pc L st P Q) {a0 a1 a2 a3} {P : xH} {z : xR × xH} (h : b_L_judge_0 n rec a0 a1 a2 a3 P = some z) {Q : xR → xH → Prop} (hQ : Q z.1 z.2) : Wp G l 11 mL_judge 0 [some (.ref a0), some (.int a1), some (.int a2), some (.ref a3), none] [] P Q := by
  unfold b_L_judge_0 at h
  refine x_aload_nr dL_judge_0 rfl ?_
  refine x_iconst 0 dL_judge_1 (by decide) ?_
  refine x_aload_nr dL_judge_2 rfl ?_
  refine x_iload_n dL_judge_3 rfl ?_
  refine x_iload_n dL_judge_4 rfl ?_
  obtain ⟨_, e5, h⟩ := Option.bind_eq_some_iff.mp h
  obtain ⟨fse5, e5⟩ := kO_ok e5
  obtain ⟨r2, e3, h⟩ := Option.bind_eq_some_iff.mp h
  replace h := xIh_ok h
  rcases h with ⟨v4, P1, hr9, h⟩ | ⟨i8, P8, k8, hr9, hk8, h⟩
  · subst hr9
    refine x_callVH rfl (c_X10_judge hl e3) dL_judge_5 cw_X10_judge wl_L_78 wi_X10_judge wse_X10_judge rfl e5 (by decide) rfl (by omega) (by decide) rfl (Nat.le_of_ble_eq_true rfl) (fun v9 P9 hq9 => ?_) (fun i9 P9 hq9 => by cases hq9)
    cases hq9
    refine x_if_eq 15 dL_judge_8 (by decide) (fun q10 => ?_) (fun q10 => ?_)
    · rw [if_pos q10] at h
      refine x_lconst 0 dL_judge_15 (by decide) ?_
      obtain ⟨P6, e7, h⟩ := Option.bind_eq_some_iff.mp h
      refine k_sJ e7 dL_judge_16 ?_
      refine x_goto 24 dL_judge_17 (by decide) ?_
      refine x_iconst 0 dL_judge_24 (by decide) ?_
      cases h
      exact x_iret .int rfl rfl dL_judge_25 hQ
    · rw [if_neg q10] at h
      refine x_lconst 1 dL_judge_11 (by decide) ?_
      refine x_goto 16 dL_judge_12 (by decide) ?_
      obtain ⟨P8, e9, h⟩ := Option.bind_eq_some_iff.mp h
      refine k_sJ e9 dL_judge_16 ?_
      refine x_goto 24 dL_judge_17 (by decide) ?_
      refine x_iconst 0 dL_judge_24 (by decide) ?_
      cases h
      exact x_iret .int rfl rfl dL_judge_25 hQ
  · subst hr9
    by_cases q8 : k8 = 0
    · rw [if_pos q8] at h
      subst q8
      refine x_callVH rfl (c_X10_judge hl e3) dL_judge_5 cw_X10_judge wl_L_78 wi_X10_judge wse_X10_judge rfl e5 (by decide) rfl (by omega) (by decide) rfl (Nat.le_of_ble_eq_true rfl) (fun v9 P9 hq9 => by cases hq9) (fun i9 P9 hq9 => ?_)
      cases hq9
      refine ⟨_, 20, hk8, by decide, ?_⟩
      refine x_astore dL_judge_20 (Nat.le_of_ble_eq_true rfl) ?_
      refine x_iconst 1 dL_judge_22 (by decide) ?_
      cases h
      exact x_iret .int rfl rfl dL_judge_23 hQ
    · rw [if_neg q8] at h
      cases h
theorem s_L_judge {G : xG} {l : Launch} (hl : l.stackTraces = false) : ∀ n pc env P z, f_L_judge n pc env P = some z → ∀ L st, lay_L_judge pc env = some (L, st) → ∀ Q : xR → xH → Prop, Q z.1 z.2 → Wp G l 11 mL_judge pc L st P Q := by
  intro n
  induction n with
  | zero => intro pc env P z h; cases h
  | succ n ih =>
    intro pc env P z h L st hlay Q hQ
    unfold f_L_judge at h
    split at h
    · cases hlay
      exact t_L_judge_0 hl ih h hQ
    · cases h
theorem c_L_judge {G : xG} {l : Launch} (hl : l.stackTraces = false) {n : Nat} {as : List Value} {P : xH} {z : xR × xH} (h : f_L_judge n 0 as P = some z) : Ct G l 11 mL_judge as P (fun r P1 => (r, P1) = z) := by
  cases n with
  | zero => cases h
  | succ n =>
    unfold f_L_judge at h
    split at h
    · exact Ct.ofW hl (by decide +kernel) wc_L_judge (Nat.le_of_ble_eq_true rfl) (t_L_judge_0 hl (s_L_judge hl _) h rfl)
    all_goals first | (cases h; done) | (rename_i q9 _; exact absurd q9 (by decide)) | (rename_i q9; exact absurd q9 (by decide)) | contradiction
/-! QuakeNetLaw.weight(LQuakeNet;I[J)I -/
def b_L_weight_0 (n : Nat) (rec : Nat → List Value → xH → xO) (a0 : Nat) (a1 : Int32) (a2 : Nat) (P : xH) : xO :=
  (kO P a0 10).bind fun _ =>
  (f_X10_weight n 0 [.ref a0, .int a1] P).bind fun r2 => xIh r2 (fun k8 i8 P8 =>
    if k8 = 0 then
      some (.inl (some (.int 1)), P8)
    else
    none) fun v4 P1 =>
    (sJ P1 a2 0 ((Int32.toInt64 v4))).bind fun P6 =>
    some (.inl (some (.int 0)), P6)
def lay_L_weight : Nat → List Value → Option (xL × List Value)
  | 0, [a0, a1, a2] => some ([some a0, some a1, some a2, none], [])
  | _, _ => none
def f_L_weight : Nat → Nat → List Value → xH → xO
  | 0 => fun _ _ _ => none
  | n + 1 => fun pc env P => match pc, env with
    | 0, [.ref a0, .int a1, .ref a2] => b_L_weight_0 n (f_L_weight n) a0 a1 a2 P
    | _, _ => none
set_option maxHeartbeats 2000000 in
set_option maxRecDepth 20000 in
theorem t_L_weight_0 {G : xG} {l : Launch} (hl : l.stackTraces = false) {n : Nat} {rec : Nat → List Value → xH → xO} (hrec : ∀ pc env P z, rec pc env P = some z → ∀ L st, lay_L_weight pc env = some (L, st) → ∀ Q : xR → xH → Prop, Q z.1 z.2 → Wp G l 11 mL_weight pc L st P Q) {a0 a1 a2} {P : xH} {z : xR × xH} (h : b_L_weight_0 n rec a0 a1 a2 P = some z) {Q : xR → xH → Prop} (hQ : Q z.1 z.2) : Wp G l 11 mL_weight 0 [some (.ref a0), some (.int a1), some (.ref a2), none] [] P Q := by
  unfold b_L_weight_0 at h
  refine x_aload_nr dL_weight_0 rfl ?_
  refine x_iconst 0 dL_weight_1 (by decide) ?_
  refine x_aload_nr dL_weight_2 rfl ?_
  refine x_iload_n dL_weight_3 rfl ?_
  obtain ⟨_, e5, h⟩ := Option.bind_eq_some_iff.mp h
  obtain ⟨fse5, e5⟩ := kO_ok e5
  obtain ⟨r2, e3, h⟩ := Option.bind_eq_some_iff.mp h
  replace h := xIh_ok h
  rcases h with ⟨v4, P1, hr9, h⟩ | ⟨i8, P8, k8, hr9, hk8, h⟩
  · subst hr9
    refine x_callVH rfl (c_X10_weight hl e3) dL_weight_4 cw_X10_weight wl_L_82 wi_X10_weight wse_X10_weight rfl e5 (by decide) rfl (by omega) (by decide) rfl (Nat.le_of_ble_eq_true rfl) (fun v9 P9 hq9 => ?_) (fun i9 P9 hq9 => by cases hq9)
    cases hq9
    refine x_i2l dL_weight_7 ?_
    obtain ⟨P6, e7, h⟩ := Option.bind_eq_some_iff.mp h
    refine k_sJ e7 dL_weight_8 ?_
    refine x_goto 15 dL_weight_9 (by decide) ?_
    refine x_iconst 0 dL_weight_15 (by decide) ?_
    cases h
    exact x_iret .int rfl rfl dL_weight_16 hQ
  · subst hr9
    by_cases q8 : k8 = 0
    · rw [if_pos q8] at h
      subst q8
      refine x_callVH rfl (c_X10_weight hl e3) dL_weight_4 cw_X10_weight wl_L_82 wi_X10_weight wse_X10_weight rfl e5 (by decide) rfl (by omega) (by decide) rfl (Nat.le_of_ble_eq_true rfl) (fun v9 P9 hq9 => by cases hq9) (fun i9 P9 hq9 => ?_)
      cases hq9
      refine ⟨_, 12, hk8, by decide, ?_⟩
      refine x_astore_n dL_weight_12 (Nat.le_of_ble_eq_true rfl) ?_
      refine x_iconst 1 dL_weight_13 (by decide) ?_
      cases h
      exact x_iret .int rfl rfl dL_weight_14 hQ
    · rw [if_neg q8] at h
      cases h
theorem s_L_weight {G : xG} {l : Launch} (hl : l.stackTraces = false) : ∀ n pc env P z, f_L_weight n pc env P = some z → ∀ L st, lay_L_weight pc env = some (L, st) → ∀ Q : xR → xH → Prop, Q z.1 z.2 → Wp G l 11 mL_weight pc L st P Q := by
  intro n
  induction n with
  | zero => intro pc env P z h; cases h
  | succ n ih =>
    intro pc env P z h L st hlay Q hQ
    unfold f_L_weight at h
    split at h
    · cases hlay
      exact t_L_weight_0 hl ih h hQ
    · cases h
theorem c_L_weight {G : xG} {l : Launch} (hl : l.stackTraces = false) {n : Nat} {as : List Value} {P : xH} {z : xR × xH} (h : f_L_weight n 0 as P = some z) : Ct G l 11 mL_weight as P (fun r P1 => (r, P1) = z) := by
  cases n with
  | zero => cases h
  | succ n =>
    unfold f_L_weight at h
    split at h
    · exact Ct.ofW hl (by decide +kernel) wc_L_weight (Nat.le_of_ble_eq_true rfl) (t_L_weight_0 hl (s_L_weight hl _) h rfl)
    all_goals first | (cases h; done) | (rename_i q9 _; exact absurd q9 (by decide)) | (rename_i q9; exact absurd q9 (by decide)) | contradiction
/-! QuakeNetLaw.sure(LQuakeNet;II[J)I -/
def b_L_sure_0 (n : Nat) (rec : Nat → List Value → xH → xO) (a0 : Nat) (a1 : Int32) (a2 : Int32) (a3 : Nat) (P : xH) : xO :=
  (kO P a0 10).bind fun _ =>
  (f_X10_sure n 0 [.ref a0, .int a1, .int a2] P).bind fun r2 => xIh r2 (fun k8 i8 P8 =>
    if k8 = 0 then
      some (.inl (some (.int 1)), P8)
    else
    none) fun v4 P1 =>
    (sJ P1 a3 0 ((Int32.toInt64 v4))).bind fun P6 =>
    some (.inl (some (.int 0)), P6)
def lay_L_sure : Nat → List Value → Option (xL × List Value)
  | 0, [a0, a1, a2, a3] => some ([some a0, some a1, some a2, some a3, none], [])
  | _, _ => none
def f_L_sure : Nat → Nat → List Value → xH → xO
  | 0 => fun _ _ _ => none
  | n + 1 => fun pc env P => match pc, env with
    | 0, [.ref a0, .int a1, .int a2, .ref a3] => b_L_sure_0 n (f_L_sure n) a0 a1 a2 a3 P
    | _, _ => none
set_option maxHeartbeats 2000000 in
set_option maxRecDepth 20000 in
theorem t_L_sure_0 {G : xG} {l : Launch} (hl : l.stackTraces = false) {n : Nat} {rec : Nat → List Value → xH → xO} (hrec : ∀ pc env P z, rec pc env P = some z → ∀ L st, lay_L_sure pc env = some (L, st) → ∀ Q : xR → xH → Prop, Q z.1 z.2 → Wp G l 12 mL_sure pc L st P Q) {a0 a1 a2 a3} {P : xH} {z : xR × xH} (h : b_L_sure_0 n rec a0 a1 a2 a3 P = some z) {Q : xR → xH → Prop} (hQ : Q z.1 z.2) : Wp G l 12 mL_sure 0 [some (.ref a0), some (.int a1), some (.int a2), some (.ref a3), none] [] P Q := by
  unfold b_L_sure_0 at h
  refine x_aload_nr dL_sure_0 rfl ?_
  refine x_iconst 0 dL_sure_1 (by decide) ?_
  refine x_aload_nr dL_sure_2 rfl ?_
  refine x_iload_n dL_sure_3 rfl ?_
  refine x_iload_n dL_sure_4 rfl ?_
  obtain ⟨_, e5, h⟩ := Option.bind_eq_some_iff.mp h
  obtain ⟨fse5, e5⟩ := kO_ok e5
  obtain ⟨r2, e3, h⟩ := Option.bind_eq_some_iff.mp h
  replace h := xIh_ok h
  rcases h with ⟨v4, P1, hr9, h⟩ | ⟨i8, P8, k8, hr9, hk8, h⟩
  · subst hr9
    refine x_callVH rfl (c_X10_sure hl e3) dL_sure_5 cw_X10_sure wl_L_85 wi_X10_sure wse_X10_sure rfl e5 (by decide) rfl (by omega) (by decide) rfl (Nat.le_of_ble_eq_true rfl) (fun v9 P9 hq9 => ?_) (fun i9 P9 hq9 => by cases hq9)
    cases hq9
    refine x_i2l dL_sure_8 ?_
    obtain ⟨P6, e7, h⟩ := Option.bind_eq_some_iff.mp h
    refine k_sJ e7 dL_sure_9 ?_
    refine x_goto 17 dL_sure_10 (by decide) ?_
    refine x_iconst 0 dL_sure_17 (by decide) ?_
    cases h
    exact x_iret .int rfl rfl dL_sure_18 hQ
  · subst hr9
    by_cases q8 : k8 = 0
    · rw [if_pos q8] at h
      subst q8
      refine x_callVH rfl (c_X10_sure hl e3) dL_sure_5 cw_X10_sure wl_L_85 wi_X10_sure wse_X10_sure rfl e5 (by decide) rfl (by omega) (by decide) rfl (Nat.le_of_ble_eq_true rfl) (fun v9 P9 hq9 => by cases hq9) (fun i9 P9 hq9 => ?_)
      cases hq9
      refine ⟨_, 13, hk8, by decide, ?_⟩
      refine x_astore dL_sure_13 (Nat.le_of_ble_eq_true rfl) ?_
      refine x_iconst 1 dL_sure_15 (by decide) ?_
      cases h
      exact x_iret .int rfl rfl dL_sure_16 hQ
    · rw [if_neg q8] at h
      cases h
theorem s_L_sure {G : xG} {l : Launch} (hl : l.stackTraces = false) : ∀ n pc env P z, f_L_sure n pc env P = some z → ∀ L st, lay_L_sure pc env = some (L, st) → ∀ Q : xR → xH → Prop, Q z.1 z.2 → Wp G l 12 mL_sure pc L st P Q := by
  intro n
  induction n with
  | zero => intro pc env P z h; cases h
  | succ n ih =>
    intro pc env P z h L st hlay Q hQ
    unfold f_L_sure at h
    split at h
    · cases hlay
      exact t_L_sure_0 hl ih h hQ
    · cases h
theorem c_L_sure {G : xG} {l : Launch} (hl : l.stackTraces = false) {n : Nat} {as : List Value} {P : xH} {z : xR × xH} (h : f_L_sure n 0 as P = some z) : Ct G l 12 mL_sure as P (fun r P1 => (r, P1) = z) := by
  cases n with
  | zero => cases h
  | succ n =>
    unfold f_L_sure at h
    split at h
    · exact Ct.ofW hl (by decide +kernel) wc_L_sure (Nat.le_of_ble_eq_true rfl) (t_L_sure_0 hl (s_L_sure hl _) h rfl)
    all_goals first | (cases h; done) | (rename_i q9 _; exact absurd q9 (by decide)) | (rename_i q9; exact absurd q9 (by decide)) | contradiction
/-! QuakeNetLaw.describe(LQuakeNet;III[J)I -/
def b_L_describe_0 (n : Nat) (rec : Nat → List Value → xH → xO) (a0 : Nat) (a1 : Int32) (a2 : Int32) (a3 : Int32) (a4 : Nat) (P : xH) : xO :=
  (kO P a0 10).bind fun _ =>
  (f_X10_describe n 0 [.ref a0, .int a1, .int a2, .int a3] P).bind fun r2 => xIh r2 (fun k8 i8 P8 =>
    if k8 = 1 then
      some (.inl (some (.int 1)), P8)
    else
    none) fun v4 P1 =>
    (sJ P1 a4 0 ((Int32.toInt64 v4))).bind fun P6 =>
    some (.inl (some (.int 0)), P6)
def lay_L_describe : Nat → List Value → Option (xL × List Value)
  | 0, [a0, a1, a2, a3, a4] => some ([some a0, some a1, some a2, some a3, some a4, none], [])
  | _, _ => none
def f_L_describe : Nat → Nat → List Value → xH → xO
  | 0 => fun _ _ _ => none
  | n + 1 => fun pc env P => match pc, env with
    | 0, [.ref a0, .int a1, .int a2, .int a3, .ref a4] => b_L_describe_0 n (f_L_describe n) a0 a1 a2 a3 a4 P
    | _, _ => none
set_option maxHeartbeats 2000000 in
set_option maxRecDepth 20000 in
theorem t_L_describe_0 {G : xG} {l : Launch} (hl : l.stackTraces = false) {n : Nat} {rec : Nat → List Value → xH → xO} (hrec : ∀ pc env P z, rec pc env P = some z → ∀ L st, lay_L_describe pc env = some (L, st) → ∀ Q : xR → xH → Prop, Q z.1 z.2 → Wp G l 10 mL_describe pc L st P Q) {a0 a1 a2 a3 a4} {P : xH} {z : xR × xH} (h : b_L_describe_0 n rec a0 a1 a2 a3 a4 P = some z) {Q : xR → xH → Prop} (hQ : Q z.1 z.2) : Wp G l 10 mL_describe 0 [some (.ref a0), some (.int a1), some (.int a2), some (.int a3), some (.ref a4), none] [] P Q := by
  unfold b_L_describe_0 at h
  refine x_aloadr dL_describe_0 rfl ?_
  refine x_iconst 0 dL_describe_2 (by decide) ?_
  refine x_aload_nr dL_describe_3 rfl ?_
  refine x_iload_n dL_describe_4 rfl ?_
  refine x_iload_n dL_describe_5 rfl ?_
  refine x_iload_n dL_describe_6 rfl ?_
  obtain ⟨_, e5, h⟩ := Option.bind_eq_some_iff.mp h
  obtain ⟨fse5, e5⟩ := kO_ok e5
  obtain ⟨r2, e3, h⟩ := Option.bind_eq_some_iff.mp h
  replace h := xIh_ok h
  rcases h with ⟨v4, P1, hr9, h⟩ | ⟨i8, P8, k8, hr9, hk8, h⟩
  · subst hr9
    refine x_callVH rfl (c_X10_describe hl e3) dL_describe_7 cw_X10_describe wl_L_88 wi_X10_describe wse_X10_describe rfl e5 (by decide) rfl (by omega) (by decide) rfl (Nat.le_of_ble_eq_true rfl) (fun v9 P9 hq9 => ?_) (fun i9 P9 hq9 => by cases hq9)
    cases hq9
    refine x_i2l dL_describe_10 ?_
    obtain ⟨P6, e7, h⟩ := Option.bind_eq_some_iff.mp h
    refine k_sJ e7 dL_describe_11 ?_
    refine x_goto 19 dL_describe_12 (by decide) ?_
    refine x_iconst 0 dL_describe_19 (by decide) ?_
    cases h
    exact x_iret .int rfl rfl dL_describe_20 hQ
  · subst hr9
    by_cases q8 : k8 = 1
    · rw [if_pos q8] at h
      subst q8
      refine x_callVH rfl (c_X10_describe hl e3) dL_describe_7 cw_X10_describe wl_L_88 wi_X10_describe wse_X10_describe rfl e5 (by decide) rfl (by omega) (by decide) rfl (Nat.le_of_ble_eq_true rfl) (fun v9 P9 hq9 => by cases hq9) (fun i9 P9 hq9 => ?_)
      cases hq9
      refine ⟨_, 15, hk8, by decide, ?_⟩
      refine x_astore dL_describe_15 (Nat.le_of_ble_eq_true rfl) ?_
      refine x_iconst 1 dL_describe_17 (by decide) ?_
      cases h
      exact x_iret .int rfl rfl dL_describe_18 hQ
    · rw [if_neg q8] at h
      cases h
theorem s_L_describe {G : xG} {l : Launch} (hl : l.stackTraces = false) : ∀ n pc env P z, f_L_describe n pc env P = some z → ∀ L st, lay_L_describe pc env = some (L, st) → ∀ Q : xR → xH → Prop, Q z.1 z.2 → Wp G l 10 mL_describe pc L st P Q := by
  intro n
  induction n with
  | zero => intro pc env P z h; cases h
  | succ n ih =>
    intro pc env P z h L st hlay Q hQ
    unfold f_L_describe at h
    split at h
    · cases hlay
      exact t_L_describe_0 hl ih h hQ
    · cases h
theorem c_L_describe {G : xG} {l : Launch} (hl : l.stackTraces = false) {n : Nat} {as : List Value} {P : xH} {z : xR × xH} (h : f_L_describe n 0 as P = some z) : Ct G l 10 mL_describe as P (fun r P1 => (r, P1) = z) := by
  cases n with
  | zero => cases h
  | succ n =>
    unfold f_L_describe at h
    split at h
    · exact Ct.ofW hl (by decide +kernel) wc_L_describe (Nat.le_of_ble_eq_true rfl) (t_L_describe_0 hl (s_L_describe hl _) h rfl)
    all_goals first | (cases h; done) | (rename_i q9 _; exact absurd q9 (by decide)) | (rename_i q9; exact absurd q9 (by decide)) | contradiction
/-! QuakeNetLaw.apart(LQuakeNet;I)I -/
def b_L_apart_0 (n : Nat) (rec : Nat → List Value → xH → xO) (a0 : Nat) (a1 : Int32) (P : xH) : xO :=
  (kO P a0 10).bind fun _ =>
  (f_X10_apart n 0 [.ref a0, .int a1] P).bind fun r2 => xUh r2 (fun k8 i8 P8 =>
    if k8 = 1 then
      some (.inl (some (.int 1)), P8)
    else
    none) fun P1 =>
    some (.inl (some (.int 0)), P1)
def lay_L_apart : Nat → List Value → Option (xL × List Value)
  | 0, [a0, a1] => some ([some a0, some a1, none], [])
  | _, _ => none
def f_L_apart : Nat → Nat → List Value → xH → xO
  | 0 => fun _ _ _ => none
  | n + 1 => fun pc env P => match pc, env with
    | 0, [.ref a0, .int a1] => b_L_apart_0 n (f_L_apart n) a0 a1 P
    | _, _ => none
set_option maxHeartbeats 2000000 in
set_option maxRecDepth 20000 in
theorem t_L_apart_0 {G : xG} {l : Launch} (hl : l.stackTraces = false) {n : Nat} {rec : Nat → List Value → xH → xO} (hrec : ∀ pc env P z, rec pc env P = some z → ∀ L st, lay_L_apart pc env = some (L, st) → ∀ Q : xR → xH → Prop, Q z.1 z.2 → Wp G l 10 mL_apart pc L st P Q) {a0 a1} {P : xH} {z : xR × xH} (h : b_L_apart_0 n rec a0 a1 P = some z) {Q : xR → xH → Prop} (hQ : Q z.1 z.2) : Wp G l 10 mL_apart 0 [some (.ref a0), some (.int a1), none] [] P Q := by
  unfold b_L_apart_0 at h
  refine x_aload_nr dL_apart_0 rfl ?_
  refine x_iload_n dL_apart_1 rfl ?_
  obtain ⟨_, e4, h⟩ := Option.bind_eq_some_iff.mp h
  obtain ⟨fse4, e4⟩ := kO_ok e4
  obtain ⟨r2, e3, h⟩ := Option.bind_eq_some_iff.mp h
  replace h := xUh_ok h
  rcases h with ⟨P1, hr9, h⟩ | ⟨i8, P8, k8, hr9, hk8, h⟩
  · subst hr9
    refine x_callVH rfl (c_X10_apart hl e3) dL_apart_2 cw_X10_apart wl_L_91 wi_X10_apart wse_X10_apart rfl e4 (by decide) rfl (by omega) (by decide) rfl (Nat.le_of_ble_eq_true rfl) (fun v9 P9 hq9 => ?_) (fun i9 P9 hq9 => by cases hq9)
    cases hq9
    refine x_goto 11 dL_apart_5 (by decide) ?_
    refine x_iconst 0 dL_apart_11 (by decide) ?_
    cases h
    exact x_iret .int rfl rfl dL_apart_12 hQ
  · subst hr9
    by_cases q8 : k8 = 1
    · rw [if_pos q8] at h
      subst q8
      refine x_callVH rfl (c_X10_apart hl e3) dL_apart_2 cw_X10_apart wl_L_91 wi_X10_apart wse_X10_apart rfl e4 (by decide) rfl (by omega) (by decide) rfl (Nat.le_of_ble_eq_true rfl) (fun v9 P9 hq9 => by cases hq9) (fun i9 P9 hq9 => ?_)
      cases hq9
      refine ⟨_, 8, hk8, by decide, ?_⟩
      refine x_astore_n dL_apart_8 (Nat.le_of_ble_eq_true rfl) ?_
      refine x_iconst 1 dL_apart_9 (by decide) ?_
      cases h
      exact x_iret .int rfl rfl dL_apart_10 hQ
    · rw [if_neg q8] at h
      cases h
theorem s_L_apart {G : xG} {l : Launch} (hl : l.stackTraces = false) : ∀ n pc env P z, f_L_apart n pc env P = some z → ∀ L st, lay_L_apart pc env = some (L, st) → ∀ Q : xR → xH → Prop, Q z.1 z.2 → Wp G l 10 mL_apart pc L st P Q := by
  intro n
  induction n with
  | zero => intro pc env P z h; cases h
  | succ n ih =>
    intro pc env P z h L st hlay Q hQ
    unfold f_L_apart at h
    split at h
    · cases hlay
      exact t_L_apart_0 hl ih h hQ
    · cases h
theorem c_L_apart {G : xG} {l : Launch} (hl : l.stackTraces = false) {n : Nat} {as : List Value} {P : xH} {z : xR × xH} (h : f_L_apart n 0 as P = some z) : Ct G l 10 mL_apart as P (fun r P1 => (r, P1) = z) := by
  cases n with
  | zero => cases h
  | succ n =>
    unfold f_L_apart at h
    split at h
    · exact Ct.ofW hl (by decide +kernel) wc_L_apart (Nat.le_of_ble_eq_true rfl) (t_L_apart_0 hl (s_L_apart hl _) h rfl)
    all_goals first | (cases h; done) | (rename_i q9 _; exact absurd q9 (by decide)) | (rename_i q9; exact absurd q9 (by decide)) | contradiction
/-! QuakeNetLaw.heaps(LQuakeNet;I[J)I -/
def b_L_heaps_0 (n : Nat) (rec : Nat → List Value → xH → xO) (a0 : Nat) (a1 : Int32) (a2 : Nat) (P : xH) : xO :=
  (kO P a0 10).bind fun _ =>
  (f_X10_heaps n 0 [.ref a0, .int a1] P).bind fun r2 => xIh r2 (fun k8 i8 P8 =>
    if k8 = 4 then
      some (.inl (some (.int 1)), P8)
    else
    none) fun v4 P1 =>
    (sJ P1 a2 0 ((Int32.toInt64 v4))).bind fun P6 =>
    some (.inl (some (.int 0)), P6)
def lay_L_heaps : Nat → List Value → Option (xL × List Value)
  | 0, [a0, a1, a2] => some ([some a0, some a1, some a2, none], [])
  | _, _ => none
def f_L_heaps : Nat → Nat → List Value → xH → xO
  | 0 => fun _ _ _ => none
  | n + 1 => fun pc env P => match pc, env with
    | 0, [.ref a0, .int a1, .ref a2] => b_L_heaps_0 n (f_L_heaps n) a0 a1 a2 P
    | _, _ => none
set_option maxHeartbeats 2000000 in
set_option maxRecDepth 20000 in
theorem t_L_heaps_0 {G : xG} {l : Launch} (hl : l.stackTraces = false) {n : Nat} {rec : Nat → List Value → xH → xO} (hrec : ∀ pc env P z, rec pc env P = some z → ∀ L st, lay_L_heaps pc env = some (L, st) → ∀ Q : xR → xH → Prop, Q z.1 z.2 → Wp G l 42 mL_heaps pc L st P Q) {a0 a1 a2} {P : xH} {z : xR × xH} (h : b_L_heaps_0 n rec a0 a1 a2 P = some z) {Q : xR → xH → Prop} (hQ : Q z.1 z.2) : Wp G l 42 mL_heaps 0 [some (.ref a0), some (.int a1), some (.ref a2), none] [] P Q := by
  unfold b_L_heaps_0 at h
  refine x_aload_nr dL_heaps_0 rfl ?_
  refine x_iconst 0 dL_heaps_1 (by decide) ?_
  refine x_aload_nr dL_heaps_2 rfl ?_
  refine x_iload_n dL_heaps_3 rfl ?_
  obtain ⟨_, e5, h⟩ := Option.bind_eq_some_iff.mp h
  obtain ⟨fse5, e5⟩ := kO_ok e5
  obtain ⟨r2, e3, h⟩ := Option.bind_eq_some_iff.mp h
  replace h := xIh_ok h
  rcases h with ⟨v4, P1, hr9, h⟩ | ⟨i8, P8, k8, hr9, hk8, h⟩
  · subst hr9
    refine x_callVH rfl (c_X10_heaps hl e3) dL_heaps_4 cw_X10_heaps wl_L_94 wi_X10_heaps wse_X10_heaps rfl e5 (by decide) rfl (by omega) (by decide) rfl (Nat.le_of_ble_eq_true rfl) (fun v9 P9 hq9 => ?_) (fun i9 P9 hq9 => by cases hq9)
    cases hq9
    refine x_i2l dL_heaps_7 ?_
    obtain ⟨P6, e7, h⟩ := Option.bind_eq_some_iff.mp h
    refine k_sJ e7 dL_heaps_8 ?_
    refine x_goto 15 dL_heaps_9 (by decide) ?_
    refine x_iconst 0 dL_heaps_15 (by decide) ?_
    cases h
    exact x_iret .int rfl rfl dL_heaps_16 hQ
  · subst hr9
    by_cases q8 : k8 = 4
    · rw [if_pos q8] at h
      subst q8
      refine x_callVH rfl (c_X10_heaps hl e3) dL_heaps_4 cw_X10_heaps wl_L_94 wi_X10_heaps wse_X10_heaps rfl e5 (by decide) rfl (by omega) (by decide) rfl (Nat.le_of_ble_eq_true rfl) (fun v9 P9 hq9 => by cases hq9) (fun i9 P9 hq9 => ?_)
      cases hq9
      refine ⟨_, 12, hk8, by decide, ?_⟩
      refine x_astore_n dL_heaps_12 (Nat.le_of_ble_eq_true rfl) ?_
      refine x_iconst 1 dL_heaps_13 (by decide) ?_
      cases h
      exact x_iret .int rfl rfl dL_heaps_14 hQ
    · rw [if_neg q8] at h
      cases h
theorem s_L_heaps {G : xG} {l : Launch} (hl : l.stackTraces = false) : ∀ n pc env P z, f_L_heaps n pc env P = some z → ∀ L st, lay_L_heaps pc env = some (L, st) → ∀ Q : xR → xH → Prop, Q z.1 z.2 → Wp G l 42 mL_heaps pc L st P Q := by
  intro n
  induction n with
  | zero => intro pc env P z h; cases h
  | succ n ih =>
    intro pc env P z h L st hlay Q hQ
    unfold f_L_heaps at h
    split at h
    · cases hlay
      exact t_L_heaps_0 hl ih h hQ
    · cases h
theorem c_L_heaps {G : xG} {l : Launch} (hl : l.stackTraces = false) {n : Nat} {as : List Value} {P : xH} {z : xR × xH} (h : f_L_heaps n 0 as P = some z) : Ct G l 42 mL_heaps as P (fun r P1 => (r, P1) = z) := by
  cases n with
  | zero => cases h
  | succ n =>
    unfold f_L_heaps at h
    split at h
    · exact Ct.ofW hl (by decide +kernel) wc_L_heaps (Nat.le_of_ble_eq_true rfl) (t_L_heaps_0 hl (s_L_heaps hl _) h rfl)
    all_goals first | (cases h; done) | (rename_i q9 _; exact absurd q9 (by decide)) | (rename_i q9; exact absurd q9 (by decide)) | contradiction
/-! QuakeNetLaw.heap(LQuakeNet;I[J)I -/
def b_L_heap_0 (n : Nat) (rec : Nat → List Value → xH → xO) (a0 : Nat) (a1 : Int32) (a2 : Nat) (P : xH) : xO :=
  (kO P a0 10).bind fun _ =>
  (f_X10_heap n 0 [.ref a0, .int a1] P).bind fun r2 => xIh r2 (fun k8 i8 P8 =>
    if k8 = 0 then
      some (.inl (some (.int 1)), P8)
    else
    none) fun v4 P1 =>
    (sJ P1 a2 0 ((Int32.toInt64 v4))).bind fun P6 =>
    some (.inl (some (.int 0)), P6)
def lay_L_heap : Nat → List Value → Option (xL × List Value)
  | 0, [a0, a1, a2] => some ([some a0, some a1, some a2, none], [])
  | _, _ => none
def f_L_heap : Nat → Nat → List Value → xH → xO
  | 0 => fun _ _ _ => none
  | n + 1 => fun pc env P => match pc, env with
    | 0, [.ref a0, .int a1, .ref a2] => b_L_heap_0 n (f_L_heap n) a0 a1 a2 P
    | _, _ => none
set_option maxHeartbeats 2000000 in
set_option maxRecDepth 20000 in
theorem t_L_heap_0 {G : xG} {l : Launch} (hl : l.stackTraces = false) {n : Nat} {rec : Nat → List Value → xH → xO} (hrec : ∀ pc env P z, rec pc env P = some z → ∀ L st, lay_L_heap pc env = some (L, st) → ∀ Q : xR → xH → Prop, Q z.1 z.2 → Wp G l 42 mL_heap pc L st P Q) {a0 a1 a2} {P : xH} {z : xR × xH} (h : b_L_heap_0 n rec a0 a1 a2 P = some z) {Q : xR → xH → Prop} (hQ : Q z.1 z.2) : Wp G l 42 mL_heap 0 [some (.ref a0), some (.int a1), some (.ref a2), none] [] P Q := by
  unfold b_L_heap_0 at h
  refine x_aload_nr dL_heap_0 rfl ?_
  refine x_iconst 0 dL_heap_1 (by decide) ?_
  refine x_aload_nr dL_heap_2 rfl ?_
  refine x_iload_n dL_heap_3 rfl ?_
  obtain ⟨_, e5, h⟩ := Option.bind_eq_some_iff.mp h
  obtain ⟨fse5, e5⟩ := kO_ok e5
  obtain ⟨r2, e3, h⟩ := Option.bind_eq_some_iff.mp h
  replace h := xIh_ok h
  rcases h with ⟨v4, P1, hr9, h⟩ | ⟨i8, P8, k8, hr9, hk8, h⟩
  · subst hr9
    refine x_callVH rfl (c_X10_heap hl e3) dL_heap_4 cw_X10_heap wl_L_97 wi_X10_heap wse_X10_heap rfl e5 (by decide) rfl (by omega) (by decide) rfl (Nat.le_of_ble_eq_true rfl) (fun v9 P9 hq9 => ?_) (fun i9 P9 hq9 => by cases hq9)
    cases hq9
    refine x_i2l dL_heap_7 ?_
    obtain ⟨P6, e7, h⟩ := Option.bind_eq_some_iff.mp h
    refine k_sJ e7 dL_heap_8 ?_
    refine x_goto 15 dL_heap_9 (by decide) ?_
    refine x_iconst 0 dL_heap_15 (by decide) ?_
    cases h
    exact x_iret .int rfl rfl dL_heap_16 hQ
  · subst hr9
    by_cases q8 : k8 = 0
    · rw [if_pos q8] at h
      subst q8
      refine x_callVH rfl (c_X10_heap hl e3) dL_heap_4 cw_X10_heap wl_L_97 wi_X10_heap wse_X10_heap rfl e5 (by decide) rfl (by omega) (by decide) rfl (Nat.le_of_ble_eq_true rfl) (fun v9 P9 hq9 => by cases hq9) (fun i9 P9 hq9 => ?_)
      cases hq9
      refine ⟨_, 12, hk8, by decide, ?_⟩
      refine x_astore_n dL_heap_12 (Nat.le_of_ble_eq_true rfl) ?_
      refine x_iconst 1 dL_heap_13 (by decide) ?_
      cases h
      exact x_iret .int rfl rfl dL_heap_14 hQ
    · rw [if_neg q8] at h
      cases h
theorem s_L_heap {G : xG} {l : Launch} (hl : l.stackTraces = false) : ∀ n pc env P z, f_L_heap n pc env P = some z → ∀ L st, lay_L_heap pc env = some (L, st) → ∀ Q : xR → xH → Prop, Q z.1 z.2 → Wp G l 42 mL_heap pc L st P Q := by
  intro n
  induction n with
  | zero => intro pc env P z h; cases h
  | succ n ih =>
    intro pc env P z h L st hlay Q hQ
    unfold f_L_heap at h
    split at h
    · cases hlay
      exact t_L_heap_0 hl ih h hQ
    · cases h
theorem c_L_heap {G : xG} {l : Launch} (hl : l.stackTraces = false) {n : Nat} {as : List Value} {P : xH} {z : xR × xH} (h : f_L_heap n 0 as P = some z) : Ct G l 42 mL_heap as P (fun r P1 => (r, P1) = z) := by
  cases n with
  | zero => cases h
  | succ n =>
    unfold f_L_heap at h
    split at h
    · exact Ct.ofW hl (by decide +kernel) wc_L_heap (Nat.le_of_ble_eq_true rfl) (t_L_heap_0 hl (s_L_heap hl _) h rfl)
    all_goals first | (cases h; done) | (rename_i q9 _; exact absurd q9 (by decide)) | (rename_i q9; exact absurd q9 (by decide)) | contradiction
/-! QuakeNetLaw.stones(LQuakeNet;IIIII[J)I -/
def b_L_stones_0 (n : Nat) (rec : Nat → List Value → xH → xO) (a0 : Nat) (a1 : Int32) (a2 : Int32) (a3 : Int32) (a4 : Int32) (a5 : Int32) (a6 : Nat) (P : xH) : xO :=
  (kO P a0 10).bind fun _ =>
  (f_X10_stones n 0 [.ref a0, .int a1, .int a2, .int a3, .int a4, .int a5] P).bind fun r2 => xIh r2 (fun k8 i8 P8 =>
    if k8 = 0 then
      some (.inl (some (.int 1)), P8)
    else
    if k8 = 1 then
      some (.inl (some (.int 2)), P8)
    else
    if k8 = 2 then
      some (.inl (some (.int 3)), P8)
    else
    none) fun v4 P1 =>
    (sJ P1 a6 0 ((Int32.toInt64 v4))).bind fun P6 =>
    some (.inl (some (.int 0)), P6)
def lay_L_stones : Nat → List Value → Option (xL × List Value)
  | 0, [a0, a1, a2, a3, a4, a5, a6] => some ([some a0, some a1, some a2, some a3, some a4, some a5, some a6, none], [])
  | _, _ => none
def f_L_stones : Nat → Nat → List Value → xH → xO
  | 0 => fun _ _ _ => none
  | n + 1 => fun pc env P => match pc, env with
    | 0, [.ref a0, .int a1, .int a2, .int a3, .int a4, .int a5, .ref a6] => b_L_stones_0 n (f_L_stones n) a0 a1 a2 a3 a4 a5 a6 P
    | _, _ => none
set_option maxHeartbeats 2000000 in
set_option maxRecDepth 20000 in
theorem t_L_stones_0 {G : xG} {l : Launch} (hl : l.stackTraces = false) {n : Nat} {rec : Nat → List Value → xH → xO} (hrec : ∀ pc env P z, rec pc env P = some z → ∀ L st, lay_L_stones pc env = some (L, st) → ∀ Q : xR → xH → Prop, Q z.1 z.2 → Wp G l 11 mL_stones pc L st P Q) {a0 a1 a2 a3 a4 a5 a6} {P : xH} {z : xR × xH} (h : b_L_stones_0 n rec a0 a1 a2 a3 a4 a5 a6 P = some z) {Q : xR → xH → Prop} (hQ : Q z.1 z.2) : Wp G l 11 mL_stones 0 [some (.ref a0), some (.int a1), some (.int a2), some (.int a3), some (.int a4), some (.int a5), some (.ref a6), none] [] P Q := by
  unfold b_L_stones_0 at h
  refine x_aloadr dL_stones_0 rfl ?_
  refine x_iconst 0 dL_stones_2 (by decide) ?_
  refine x_aload_nr dL_stones_3 rfl ?_
  refine x_iload_n dL_stones_4 rfl ?_
  refine x_iload_n dL_stones_5 rfl ?_
  refine x_iload_n dL_stones_6 rfl ?_
  refine x_iload dL_stones_7 rfl ?_
  refine x_iload dL_stones_9 rfl ?_
  obtain ⟨_, e5, h⟩ := Option.bind_eq_some_iff.mp h
  obtain ⟨fse5, e5⟩ := kO_ok e5
  obtain ⟨r2, e3, h⟩ := Option.bind_eq_some_iff.mp h
  replace h := xIh_ok h
  rcases h with ⟨v4, P1, hr9, h⟩ | ⟨i8, P8, k8, hr9, hk8, h⟩
  · subst hr9
    refine x_callVH rfl (c_X10_stones hl e3) dL_stones_11 cw_X10_stones wl_L_100 wi_X10_stones wse_X10_stones rfl e5 (by decide) rfl (by omega) (by decide) rfl (Nat.le_of_ble_eq_true rfl) (fun v9 P9 hq9 => ?_) (fun i9 P9 hq9 => by cases hq9)
    cases hq9
    refine x_i2l dL_stones_14 ?_
    obtain ⟨P6, e7, h⟩ := Option.bind_eq_some_iff.mp h
    refine k_sJ e7 dL_stones_15 ?_
    refine x_goto 31 dL_stones_16 (by decide) ?_
    refine x_iconst 0 dL_stones_31 (by decide) ?_
    cases h
    exact x_iret .int rfl rfl dL_stones_32 hQ
  · subst hr9
    by_cases q8 : k8 = 0
    · rw [if_pos q8] at h
      subst q8
      refine x_callVH rfl (c_X10_stones hl e3) dL_stones_11 cw_X10_stones wl_L_100 wi_X10_stones wse_X10_stones rfl e5 (by decide) rfl (by omega) (by decide) rfl (Nat.le_of_ble_eq_true rfl) (fun v9 P9 hq9 => by cases hq9) (fun i9 P9 hq9 => ?_)
      cases hq9
      refine ⟨_, 19, hk8, by decide, ?_⟩
      refine x_astore dL_stones_19 (Nat.le_of_ble_eq_true rfl) ?_
      refine x_iconst 1 dL_stones_21 (by decide) ?_
      cases h
      exact x_iret .int rfl rfl dL_stones_22 hQ
    · rw [if_neg q8] at h
      by_cases q8 : k8 = 1
      · rw [if_pos q8] at h
        subst q8
        refine x_callVH rfl (c_X10_stones hl e3) dL_stones_11 cw_X10_stones wl_L_100 wi_X10_stones wse_X10_stones rfl e5 (by decide) rfl (by omega) (by decide) rfl (Nat.le_of_ble_eq_true rfl) (fun v9 P9 hq9 => by cases hq9) (fun i9 P9 hq9 => ?_)
        cases hq9
        refine ⟨_, 23, hk8, by decide, ?_⟩
        refine x_astore dL_stones_23 (Nat.le_of_ble_eq_true rfl) ?_
        refine x_iconst 2 dL_stones_25 (by decide) ?_
        cases h
        exact x_iret .int rfl rfl dL_stones_26 hQ
      · rw [if_neg q8] at h
        by_cases q8 : k8 = 2
        · rw [if_pos q8] at h
          subst q8
          refine x_callVH rfl (c_X10_stones hl e3) dL_stones_11 cw_X10_stones wl_L_100 wi_X10_stones wse_X10_stones rfl e5 (by decide) rfl (by omega) (by decide) rfl (Nat.le_of_ble_eq_true rfl) (fun v9 P9 hq9 => by cases hq9) (fun i9 P9 hq9 => ?_)
          cases hq9
          refine ⟨_, 27, hk8, by decide, ?_⟩
          refine x_astore dL_stones_27 (Nat.le_of_ble_eq_true rfl) ?_
          refine x_iconst 3 dL_stones_29 (by decide) ?_
          cases h
          exact x_iret .int rfl rfl dL_stones_30 hQ
        · rw [if_neg q8] at h
          cases h
theorem s_L_stones {G : xG} {l : Launch} (hl : l.stackTraces = false) : ∀ n pc env P z, f_L_stones n pc env P = some z → ∀ L st, lay_L_stones pc env = some (L, st) → ∀ Q : xR → xH → Prop, Q z.1 z.2 → Wp G l 11 mL_stones pc L st P Q := by
  intro n
  induction n with
  | zero => intro pc env P z h; cases h
  | succ n ih =>
    intro pc env P z h L st hlay Q hQ
    unfold f_L_stones at h
    split at h
    · cases hlay
      exact t_L_stones_0 hl ih h hQ
    · cases h
theorem c_L_stones {G : xG} {l : Launch} (hl : l.stackTraces = false) {n : Nat} {as : List Value} {P : xH} {z : xR × xH} (h : f_L_stones n 0 as P = some z) : Ct G l 11 mL_stones as P (fun r P1 => (r, P1) = z) := by
  cases n with
  | zero => cases h
  | succ n =>
    unfold f_L_stones at h
    split at h
    · exact Ct.ofW hl (by decide +kernel) wc_L_stones (Nat.le_of_ble_eq_true rfl) (t_L_stones_0 hl (s_L_stones hl _) h rfl)
    all_goals first | (cases h; done) | (rename_i q9 _; exact absurd q9 (by decide)) | (rename_i q9; exact absurd q9 (by decide)) | contradiction
/-! QuakeNetLaw.gang(LQuakeNet;II[J)I -/
def b_L_gang_0 (n : Nat) (rec : Nat → List Value → xH → xO) (a0 : Nat) (a1 : Int32) (a2 : Int32) (a3 : Nat) (P : xH) : xO :=
  (kO P a0 10).bind fun _ =>
  (f_X10_gang n 0 [.ref a0, .int a1, .int a2] P).bind fun r2 => xIh r2 (fun k8 i8 P8 =>
    if k8 = 0 then
      some (.inl (some (.int 1)), P8)
    else
    if k8 = 1 then
      some (.inl (some (.int 2)), P8)
    else
    if k8 = 2 then
      some (.inl (some (.int 3)), P8)
    else
    none) fun v4 P1 =>
    (sJ P1 a3 0 ((Int32.toInt64 v4))).bind fun P6 =>
    some (.inl (some (.int 0)), P6)
def lay_L_gang : Nat → List Value → Option (xL × List Value)
  | 0, [a0, a1, a2, a3] => some ([some a0, some a1, some a2, some a3, none], [])
  | _, _ => none
def f_L_gang : Nat → Nat → List Value → xH → xO
  | 0 => fun _ _ _ => none
  | n + 1 => fun pc env P => match pc, env with
    | 0, [.ref a0, .int a1, .int a2, .ref a3] => b_L_gang_0 n (f_L_gang n) a0 a1 a2 a3 P
    | _, _ => none
set_option maxHeartbeats 2000000 in
set_option maxRecDepth 20000 in
theorem t_L_gang_0 {G : xG} {l : Launch} (hl : l.stackTraces = false) {n : Nat} {rec : Nat → List Value → xH → xO} (hrec : ∀ pc env P z, rec pc env P = some z → ∀ L st, lay_L_gang pc env = some (L, st) → ∀ Q : xR → xH → Prop, Q z.1 z.2 → Wp G l 11 mL_gang pc L st P Q) {a0 a1 a2 a3} {P : xH} {z : xR × xH} (h : b_L_gang_0 n rec a0 a1 a2 a3 P = some z) {Q : xR → xH → Prop} (hQ : Q z.1 z.2) : Wp G l 11 mL_gang 0 [some (.ref a0), some (.int a1), some (.int a2), some (.ref a3), none] [] P Q := by
  unfold b_L_gang_0 at h
  refine x_aload_nr dL_gang_0 rfl ?_
  refine x_iconst 0 dL_gang_1 (by decide) ?_
  refine x_aload_nr dL_gang_2 rfl ?_
  refine x_iload_n dL_gang_3 rfl ?_
  refine x_iload_n dL_gang_4 rfl ?_
  obtain ⟨_, e5, h⟩ := Option.bind_eq_some_iff.mp h
  obtain ⟨fse5, e5⟩ := kO_ok e5
  obtain ⟨r2, e3, h⟩ := Option.bind_eq_some_iff.mp h
  replace h := xIh_ok h
  rcases h with ⟨v4, P1, hr9, h⟩ | ⟨i8, P8, k8, hr9, hk8, h⟩
  · subst hr9
    refine x_callVH rfl (c_X10_gang hl e3) dL_gang_5 cw_X10_gang wl_L_104 wi_X10_gang wse_X10_gang rfl e5 (by decide) rfl (by omega) (by decide) rfl (Nat.le_of_ble_eq_true rfl) (fun v9 P9 hq9 => ?_) (fun i9 P9 hq9 => by cases hq9)
    cases hq9
    refine x_i2l dL_gang_8 ?_
    obtain ⟨P6, e7, h⟩ := Option.bind_eq_some_iff.mp h
    refine k_sJ e7 dL_gang_9 ?_
    refine x_goto 25 dL_gang_10 (by decide) ?_
    refine x_iconst 0 dL_gang_25 (by decide) ?_
    cases h
    exact x_iret .int rfl rfl dL_gang_26 hQ
  · subst hr9
    by_cases q8 : k8 = 0
    · rw [if_pos q8] at h
      subst q8
      refine x_callVH rfl (c_X10_gang hl e3) dL_gang_5 cw_X10_gang wl_L_104 wi_X10_gang wse_X10_gang rfl e5 (by decide) rfl (by omega) (by decide) rfl (Nat.le_of_ble_eq_true rfl) (fun v9 P9 hq9 => by cases hq9) (fun i9 P9 hq9 => ?_)
      cases hq9
      refine ⟨_, 13, hk8, by decide, ?_⟩
      refine x_astore dL_gang_13 (Nat.le_of_ble_eq_true rfl) ?_
      refine x_iconst 1 dL_gang_15 (by decide) ?_
      cases h
      exact x_iret .int rfl rfl dL_gang_16 hQ
    · rw [if_neg q8] at h
      by_cases q8 : k8 = 1
      · rw [if_pos q8] at h
        subst q8
        refine x_callVH rfl (c_X10_gang hl e3) dL_gang_5 cw_X10_gang wl_L_104 wi_X10_gang wse_X10_gang rfl e5 (by decide) rfl (by omega) (by decide) rfl (Nat.le_of_ble_eq_true rfl) (fun v9 P9 hq9 => by cases hq9) (fun i9 P9 hq9 => ?_)
        cases hq9
        refine ⟨_, 17, hk8, by decide, ?_⟩
        refine x_astore dL_gang_17 (Nat.le_of_ble_eq_true rfl) ?_
        refine x_iconst 2 dL_gang_19 (by decide) ?_
        cases h
        exact x_iret .int rfl rfl dL_gang_20 hQ
      · rw [if_neg q8] at h
        by_cases q8 : k8 = 2
        · rw [if_pos q8] at h
          subst q8
          refine x_callVH rfl (c_X10_gang hl e3) dL_gang_5 cw_X10_gang wl_L_104 wi_X10_gang wse_X10_gang rfl e5 (by decide) rfl (by omega) (by decide) rfl (Nat.le_of_ble_eq_true rfl) (fun v9 P9 hq9 => by cases hq9) (fun i9 P9 hq9 => ?_)
          cases hq9
          refine ⟨_, 21, hk8, by decide, ?_⟩
          refine x_astore dL_gang_21 (Nat.le_of_ble_eq_true rfl) ?_
          refine x_iconst 3 dL_gang_23 (by decide) ?_
          cases h
          exact x_iret .int rfl rfl dL_gang_24 hQ
        · rw [if_neg q8] at h
          cases h
theorem s_L_gang {G : xG} {l : Launch} (hl : l.stackTraces = false) : ∀ n pc env P z, f_L_gang n pc env P = some z → ∀ L st, lay_L_gang pc env = some (L, st) → ∀ Q : xR → xH → Prop, Q z.1 z.2 → Wp G l 11 mL_gang pc L st P Q := by
  intro n
  induction n with
  | zero => intro pc env P z h; cases h
  | succ n ih =>
    intro pc env P z h L st hlay Q hQ
    unfold f_L_gang at h
    split at h
    · cases hlay
      exact t_L_gang_0 hl ih h hQ
    · cases h
theorem c_L_gang {G : xG} {l : Launch} (hl : l.stackTraces = false) {n : Nat} {as : List Value} {P : xH} {z : xR × xH} (h : f_L_gang n 0 as P = some z) : Ct G l 11 mL_gang as P (fun r P1 => (r, P1) = z) := by
  cases n with
  | zero => cases h
  | succ n =>
    unfold f_L_gang at h
    split at h
    · exact Ct.ofW hl (by decide +kernel) wc_L_gang (Nat.le_of_ble_eq_true rfl) (t_L_gang_0 hl (s_L_gang hl _) h rfl)
    all_goals first | (cases h; done) | (rename_i q9 _; exact absurd q9 (by decide)) | (rename_i q9; exact absurd q9 (by decide)) | contradiction
/-! QuakeNetLaw.saved(LQuakeNet;II[J)I -/
def b_L_saved_0 (n : Nat) (rec : Nat → List Value → xH → xO) (a0 : Nat) (a1 : Int32) (a2 : Int32) (a3 : Nat) (P : xH) : xO :=
  (kO P a0 10).bind fun _ =>
  (f_X10_saved n 0 [.ref a0, .int a1, .int a2] P).bind fun r2 => xIh r2 (fun k8 i8 P8 =>
    if k8 = 0 then
      some (.inl (some (.int 1)), P8)
    else
    none) fun v4 P1 =>
    (sJ P1 a3 0 ((Int32.toInt64 v4))).bind fun P6 =>
    some (.inl (some (.int 0)), P6)
def lay_L_saved : Nat → List Value → Option (xL × List Value)
  | 0, [a0, a1, a2, a3] => some ([some a0, some a1, some a2, some a3, none], [])
  | _, _ => none
def f_L_saved : Nat → Nat → List Value → xH → xO
  | 0 => fun _ _ _ => none
  | n + 1 => fun pc env P => match pc, env with
    | 0, [.ref a0, .int a1, .int a2, .ref a3] => b_L_saved_0 n (f_L_saved n) a0 a1 a2 a3 P
    | _, _ => none
set_option maxHeartbeats 2000000 in
set_option maxRecDepth 20000 in
theorem t_L_saved_0 {G : xG} {l : Launch} (hl : l.stackTraces = false) {n : Nat} {rec : Nat → List Value → xH → xO} (hrec : ∀ pc env P z, rec pc env P = some z → ∀ L st, lay_L_saved pc env = some (L, st) → ∀ Q : xR → xH → Prop, Q z.1 z.2 → Wp G l 10 mL_saved pc L st P Q) {a0 a1 a2 a3} {P : xH} {z : xR × xH} (h : b_L_saved_0 n rec a0 a1 a2 a3 P = some z) {Q : xR → xH → Prop} (hQ : Q z.1 z.2) : Wp G l 10 mL_saved 0 [some (.ref a0), some (.int a1), some (.int a2), some (.ref a3), none] [] P Q := by
  unfold b_L_saved_0 at h
  refine x_aload_nr dL_saved_0 rfl ?_
  refine x_iconst 0 dL_saved_1 (by decide) ?_
  refine x_aload_nr dL_saved_2 rfl ?_
  refine x_iload_n dL_saved_3 rfl ?_
  refine x_iload_n dL_saved_4 rfl ?_
  obtain ⟨_, e5, h⟩ := Option.bind_eq_some_iff.mp h
  obtain ⟨fse5, e5⟩ := kO_ok e5
  obtain ⟨r2, e3, h⟩ := Option.bind_eq_some_iff.mp h
  replace h := xIh_ok h
  rcases h with ⟨v4, P1, hr9, h⟩ | ⟨i8, P8, k8, hr9, hk8, h⟩
  · subst hr9
    refine x_callVH rfl (c_X10_saved hl e3) dL_saved_5 cw_X10_saved wl_L_107 wi_X10_saved wse_X10_saved rfl e5 (by decide) rfl (by omega) (by decide) rfl (Nat.le_of_ble_eq_true rfl) (fun v9 P9 hq9 => ?_) (fun i9 P9 hq9 => by cases hq9)
    cases hq9
    refine x_i2l dL_saved_8 ?_
    obtain ⟨P6, e7, h⟩ := Option.bind_eq_some_iff.mp h
    refine k_sJ e7 dL_saved_9 ?_
    refine x_goto 17 dL_saved_10 (by decide) ?_
    refine x_iconst 0 dL_saved_17 (by decide) ?_
    cases h
    exact x_iret .int rfl rfl dL_saved_18 hQ
  · subst hr9
    by_cases q8 : k8 = 0
    · rw [if_pos q8] at h
      subst q8
      refine x_callVH rfl (c_X10_saved hl e3) dL_saved_5 cw_X10_saved wl_L_107 wi_X10_saved wse_X10_saved rfl e5 (by decide) rfl (by omega) (by decide) rfl (Nat.le_of_ble_eq_true rfl) (fun v9 P9 hq9 => by cases hq9) (fun i9 P9 hq9 => ?_)
      cases hq9
      refine ⟨_, 13, hk8, by decide, ?_⟩
      refine x_astore dL_saved_13 (Nat.le_of_ble_eq_true rfl) ?_
      refine x_iconst 1 dL_saved_15 (by decide) ?_
      cases h
      exact x_iret .int rfl rfl dL_saved_16 hQ
    · rw [if_neg q8] at h
      cases h
theorem s_L_saved {G : xG} {l : Launch} (hl : l.stackTraces = false) : ∀ n pc env P z, f_L_saved n pc env P = some z → ∀ L st, lay_L_saved pc env = some (L, st) → ∀ Q : xR → xH → Prop, Q z.1 z.2 → Wp G l 10 mL_saved pc L st P Q := by
  intro n
  induction n with
  | zero => intro pc env P z h; cases h
  | succ n ih =>
    intro pc env P z h L st hlay Q hQ
    unfold f_L_saved at h
    split at h
    · cases hlay
      exact t_L_saved_0 hl ih h hQ
    · cases h
theorem c_L_saved {G : xG} {l : Launch} (hl : l.stackTraces = false) {n : Nat} {as : List Value} {P : xH} {z : xR × xH} (h : f_L_saved n 0 as P = some z) : Ct G l 10 mL_saved as P (fun r P1 => (r, P1) = z) := by
  cases n with
  | zero => cases h
  | succ n =>
    unfold f_L_saved at h
    split at h
    · exact Ct.ofW hl (by decide +kernel) wc_L_saved (Nat.le_of_ble_eq_true rfl) (t_L_saved_0 hl (s_L_saved hl _) h rfl)
    all_goals first | (cases h; done) | (rename_i q9 _; exact absurd q9 (by decide)) | (rename_i q9; exact absurd q9 (by decide)) | contradiction
/-! QuakeNetLaw.send(LQuakeNet;I[J)I -/
def b_L_send_0 (n : Nat) (rec : Nat → List Value → xH → xO) (a0 : Nat) (a1 : Int32) (a2 : Nat) (P : xH) : xO :=
  (kO P a0 10).bind fun _ =>
  (f_X10_send n 0 [.ref a0, .int a1] P).bind fun r2 => xIh r2 (fun k8 i8 P8 =>
    if k8 = 0 then
      some (.inl (some (.int 1)), P8)
    else
    none) fun v4 P1 =>
    (sJ P1 a2 0 ((Int32.toInt64 v4))).bind fun P6 =>
    some (.inl (some (.int 0)), P6)
def lay_L_send : Nat → List Value → Option (xL × List Value)
  | 0, [a0, a1, a2] => some ([some a0, some a1, some a2, none], [])
  | _, _ => none
def f_L_send : Nat → Nat → List Value → xH → xO
  | 0 => fun _ _ _ => none
  | n + 1 => fun pc env P => match pc, env with
    | 0, [.ref a0, .int a1, .ref a2] => b_L_send_0 n (f_L_send n) a0 a1 a2 P
    | _, _ => none
set_option maxHeartbeats 2000000 in
set_option maxRecDepth 20000 in
theorem t_L_send_0 {G : xG} {l : Launch} (hl : l.stackTraces = false) {n : Nat} {rec : Nat → List Value → xH → xO} (hrec : ∀ pc env P z, rec pc env P = some z → ∀ L st, lay_L_send pc env = some (L, st) → ∀ Q : xR → xH → Prop, Q z.1 z.2 → Wp G l 42 mL_send pc L st P Q) {a0 a1 a2} {P : xH} {z : xR × xH} (h : b_L_send_0 n rec a0 a1 a2 P = some z) {Q : xR → xH → Prop} (hQ : Q z.1 z.2) : Wp G l 42 mL_send 0 [some (.ref a0), some (.int a1), some (.ref a2), none] [] P Q := by
  unfold b_L_send_0 at h
  refine x_aload_nr dL_send_0 rfl ?_
  refine x_iconst 0 dL_send_1 (by decide) ?_
  refine x_aload_nr dL_send_2 rfl ?_
  refine x_iload_n dL_send_3 rfl ?_
  obtain ⟨_, e5, h⟩ := Option.bind_eq_some_iff.mp h
  obtain ⟨fse5, e5⟩ := kO_ok e5
  obtain ⟨r2, e3, h⟩ := Option.bind_eq_some_iff.mp h
  replace h := xIh_ok h
  rcases h with ⟨v4, P1, hr9, h⟩ | ⟨i8, P8, k8, hr9, hk8, h⟩
  · subst hr9
    refine x_callVH rfl (c_X10_send hl e3) dL_send_4 cw_X10_send wl_L_110 wi_X10_send wse_X10_send rfl e5 (by decide) rfl (by omega) (by decide) rfl (Nat.le_of_ble_eq_true rfl) (fun v9 P9 hq9 => ?_) (fun i9 P9 hq9 => by cases hq9)
    cases hq9
    refine x_i2l dL_send_7 ?_
    obtain ⟨P6, e7, h⟩ := Option.bind_eq_some_iff.mp h
    refine k_sJ e7 dL_send_8 ?_
    refine x_goto 15 dL_send_9 (by decide) ?_
    refine x_iconst 0 dL_send_15 (by decide) ?_
    cases h
    exact x_iret .int rfl rfl dL_send_16 hQ
  · subst hr9
    by_cases q8 : k8 = 0
    · rw [if_pos q8] at h
      subst q8
      refine x_callVH rfl (c_X10_send hl e3) dL_send_4 cw_X10_send wl_L_110 wi_X10_send wse_X10_send rfl e5 (by decide) rfl (by omega) (by decide) rfl (Nat.le_of_ble_eq_true rfl) (fun v9 P9 hq9 => by cases hq9) (fun i9 P9 hq9 => ?_)
      cases hq9
      refine ⟨_, 12, hk8, by decide, ?_⟩
      refine x_astore_n dL_send_12 (Nat.le_of_ble_eq_true rfl) ?_
      refine x_iconst 1 dL_send_13 (by decide) ?_
      cases h
      exact x_iret .int rfl rfl dL_send_14 hQ
    · rw [if_neg q8] at h
      cases h
theorem s_L_send {G : xG} {l : Launch} (hl : l.stackTraces = false) : ∀ n pc env P z, f_L_send n pc env P = some z → ∀ L st, lay_L_send pc env = some (L, st) → ∀ Q : xR → xH → Prop, Q z.1 z.2 → Wp G l 42 mL_send pc L st P Q := by
  intro n
  induction n with
  | zero => intro pc env P z h; cases h
  | succ n ih =>
    intro pc env P z h L st hlay Q hQ
    unfold f_L_send at h
    split at h
    · cases hlay
      exact t_L_send_0 hl ih h hQ
    · cases h
theorem c_L_send {G : xG} {l : Launch} (hl : l.stackTraces = false) {n : Nat} {as : List Value} {P : xH} {z : xR × xH} (h : f_L_send n 0 as P = some z) : Ct G l 42 mL_send as P (fun r P1 => (r, P1) = z) := by
  cases n with
  | zero => cases h
  | succ n =>
    unfold f_L_send at h
    split at h
    · exact Ct.ofW hl (by decide +kernel) wc_L_send (Nat.le_of_ble_eq_true rfl) (t_L_send_0 hl (s_L_send hl _) h rfl)
    all_goals first | (cases h; done) | (rename_i q9 _; exact absurd q9 (by decide)) | (rename_i q9; exact absurd q9 (by decide)) | contradiction
/-! QuakeNetLaw.hide(LQuakeNet;IZ[J)I -/
def b_L_hide_0 (n : Nat) (rec : Nat → List Value → xH → xO) (a0 : Nat) (a1 : Int32) (a2 : Int32) (a3 : Nat) (P : xH) : xO :=
  (kO P a0 10).bind fun _ =>
  (f_X10_hide n 0 [.ref a0, .int a1, .int a2] P).bind fun r2 => xIh r2 (fun k8 i8 P8 =>
    if k8 = 0 then
      some (.inl (some (.int 1)), P8)
    else
    none) fun v4 P1 =>
    if v4 = 0 then
      (sJ P1 a3 0 0).bind fun P6 =>
      some (.inl (some (.int 0)), P6)
    else
      (sJ P1 a3 0 1).bind fun P8 =>
      some (.inl (some (.int 0)), P8)
def lay_L_hide : Nat → List Value → Option (xL × List Value)
  | 0, [a0, a1, a2, a3] => some ([some a0, some a1, some a2, some a3, none], [])
  | _, _ => none
def f_L_hide : Nat → Nat → List Value → xH → xO
  | 0 => fun _ _ _ => none
  | n + 1 => fun pc env P => match pc, env with
    | 0, [.ref a0, .int a1, .int a2, .ref a3] => b_L_hide_0 n (f_L_hide n) a0 a1 a2 a3 P
    | _, _ => none
set_option maxHeartbeats 2000000 in
set_option maxRecDepth 20000 in
theorem t_L_hide_0 {G : xG} {l : Launch} (hl : l.stackTraces = false) {n : Nat} {rec : Nat → List Value → xH → xO} (hrec : ∀ pc env P z, rec pc env P = some z → ∀ L st, lay_L_hide pc env = some (L, st) → ∀ Q : xR → xH → Prop, Q z.1 z.2 → Wp G l 10 mL_hide pc L st P Q) {a0 a1 a2 a3} {P : xH} {z : xR × xH} (h : b_L_hide_0 n rec a0 a1 a2 a3 P = some z) {Q : xR → xH → Prop} (hQ : Q z.1 z.2) : Wp G l 10 mL_hide 0 [some (.ref a0), some (.int a1), some (.int a2), some (.ref a3), none] [] P Q := by
  unfold b_L_hide_0 at h
  refine x_aload_nr dL_hide_0 rfl ?_
  refine x_iconst 0 dL_hide_1 (by decide) ?_
  refine x_aload_nr dL_hide_2 rfl ?_
  refine x_iload_n dL_hide_3 rfl ?_
  refine x_iload_n dL_hide_4 rfl ?_
  obtain ⟨_, e5, h⟩ := Option.bind_eq_some_iff.mp h
  obtain ⟨fse5, e5⟩ := kO_ok e5
  obtain ⟨r2, e3, h⟩ := Option.bind_eq_some_iff.mp h
  replace h := xIh_ok h
  rcases h with ⟨v4, P1, hr9, h⟩ | ⟨i8, P8, k8, hr9, hk8, h⟩
  · subst hr9
    refine x_callVH rfl (c_X10_hide hl e3) dL_hide_5 cw_X10_hide wl_L_113 wi_X10_hide wse_X10_hide rfl e5 (by decide) rfl (by omega) (by decide) rfl (Nat.le_of_ble_eq_true rfl) (fun v9 P9 hq9 => ?_) (fun i9 P9 hq9 => by cases hq9)
    cases hq9
    refine x_if_eq 15 dL_hide_8 (by decide) (fun q10 => ?_) (fun q10 => ?_)
    · rw [if_pos q10] at h
      refine x_lconst 0 dL_hide_15 (by decide) ?_
      obtain ⟨P6, e7, h⟩ := Option.bind_eq_some_iff.mp h
      refine k_sJ e7 dL_hide_16 ?_
      refine x_goto 24 dL_hide_17 (by decide) ?_
      refine x_iconst 0 dL_hide_24 (by decide) ?_
      cases h
      exact x_iret .int rfl rfl dL_hide_25 hQ
    · rw [if_neg q10] at h
      refine x_lconst 1 dL_hide_11 (by decide) ?_
      refine x_goto 16 dL_hide_12 (by decide) ?_
      obtain ⟨P8, e9, h⟩ := Option.bind_eq_some_iff.mp h
      refine k_sJ e9 dL_hide_16 ?_
      refine x_goto 24 dL_hide_17 (by decide) ?_
      refine x_iconst 0 dL_hide_24 (by decide) ?_
      cases h
      exact x_iret .int rfl rfl dL_hide_25 hQ
  · subst hr9
    by_cases q8 : k8 = 0
    · rw [if_pos q8] at h
      subst q8
      refine x_callVH rfl (c_X10_hide hl e3) dL_hide_5 cw_X10_hide wl_L_113 wi_X10_hide wse_X10_hide rfl e5 (by decide) rfl (by omega) (by decide) rfl (Nat.le_of_ble_eq_true rfl) (fun v9 P9 hq9 => by cases hq9) (fun i9 P9 hq9 => ?_)
      cases hq9
      refine ⟨_, 20, hk8, by decide, ?_⟩
      refine x_astore dL_hide_20 (Nat.le_of_ble_eq_true rfl) ?_
      refine x_iconst 1 dL_hide_22 (by decide) ?_
      cases h
      exact x_iret .int rfl rfl dL_hide_23 hQ
    · rw [if_neg q8] at h
      cases h
theorem s_L_hide {G : xG} {l : Launch} (hl : l.stackTraces = false) : ∀ n pc env P z, f_L_hide n pc env P = some z → ∀ L st, lay_L_hide pc env = some (L, st) → ∀ Q : xR → xH → Prop, Q z.1 z.2 → Wp G l 10 mL_hide pc L st P Q := by
  intro n
  induction n with
  | zero => intro pc env P z h; cases h
  | succ n ih =>
    intro pc env P z h L st hlay Q hQ
    unfold f_L_hide at h
    split at h
    · cases hlay
      exact t_L_hide_0 hl ih h hQ
    · cases h
theorem c_L_hide {G : xG} {l : Launch} (hl : l.stackTraces = false) {n : Nat} {as : List Value} {P : xH} {z : xR × xH} (h : f_L_hide n 0 as P = some z) : Ct G l 10 mL_hide as P (fun r P1 => (r, P1) = z) := by
  cases n with
  | zero => cases h
  | succ n =>
    unfold f_L_hide at h
    split at h
    · exact Ct.ofW hl (by decide +kernel) wc_L_hide (Nat.le_of_ble_eq_true rfl) (t_L_hide_0 hl (s_L_hide hl _) h rfl)
    all_goals first | (cases h; done) | (rename_i q9 _; exact absurd q9 (by decide)) | (rename_i q9; exact absurd q9 (by decide)) | contradiction
/-! QuakeNetLaw.ask(LQuakeNet;IZ[J)I -/
def b_L_ask_0 (n : Nat) (rec : Nat → List Value → xH → xO) (a0 : Nat) (a1 : Int32) (a2 : Int32) (a3 : Nat) (P : xH) : xO :=
  (kO P a0 10).bind fun _ =>
  (f_X10_ask n 0 [.ref a0, .int a1, .int a2] P).bind fun r2 => xIh r2 (fun k8 i8 P8 =>
    if k8 = 0 then
      some (.inl (some (.int 1)), P8)
    else
    none) fun v4 P1 =>
    (sJ P1 a3 0 ((Int32.toInt64 v4))).bind fun P6 =>
    some (.inl (some (.int 0)), P6)
def lay_L_ask : Nat → List Value → Option (xL × List Value)
  | 0, [a0, a1, a2, a3] => some ([some a0, some a1, some a2, some a3, none], [])
  | _, _ => none
def f_L_ask : Nat → Nat → List Value → xH → xO
  | 0 => fun _ _ _ => none
  | n + 1 => fun pc env P => match pc, env with
    | 0, [.ref a0, .int a1, .int a2, .ref a3] => b_L_ask_0 n (f_L_ask n) a0 a1 a2 a3 P
    | _, _ => none
set_option maxHeartbeats 2000000 in
set_option maxRecDepth 20000 in
theorem t_L_ask_0 {G : xG} {l : Launch} (hl : l.stackTraces = false) {n : Nat} {rec : Nat → List Value → xH → xO} (hrec : ∀ pc env P z, rec pc env P = some z → ∀ L st, lay_L_ask pc env = some (L, st) → ∀ Q : xR → xH → Prop, Q z.1 z.2 → Wp G l 11 mL_ask pc L st P Q) {a0 a1 a2 a3} {P : xH} {z : xR × xH} (h : b_L_ask_0 n rec a0 a1 a2 a3 P = some z) {Q : xR → xH → Prop} (hQ : Q z.1 z.2) : Wp G l 11 mL_ask 0 [some (.ref a0), some (.int a1), some (.int a2), some (.ref a3), none] [] P Q := by
  unfold b_L_ask_0 at h
  refine x_aload_nr dL_ask_0 rfl ?_
  refine x_iconst 0 dL_ask_1 (by decide) ?_
  refine x_aload_nr dL_ask_2 rfl ?_
  refine x_iload_n dL_ask_3 rfl ?_
  refine x_iload_n dL_ask_4 rfl ?_
  obtain ⟨_, e5, h⟩ := Option.bind_eq_some_iff.mp h
  obtain ⟨fse5, e5⟩ := kO_ok e5
  obtain ⟨r2, e3, h⟩ := Option.bind_eq_some_iff.mp h
  replace h := xIh_ok h
  rcases h with ⟨v4, P1, hr9, h⟩ | ⟨i8, P8, k8, hr9, hk8, h⟩
  · subst hr9
    refine x_callVH rfl (c_X10_ask hl e3) dL_ask_5 cw_X10_ask wl_L_116 wi_X10_ask wse_X10_ask rfl e5 (by decide) rfl (by omega) (by decide) rfl (Nat.le_of_ble_eq_true rfl) (fun v9 P9 hq9 => ?_) (fun i9 P9 hq9 => by cases hq9)
    cases hq9
    refine x_i2l dL_ask_8 ?_
    obtain ⟨P6, e7, h⟩ := Option.bind_eq_some_iff.mp h
    refine k_sJ e7 dL_ask_9 ?_
    refine x_goto 17 dL_ask_10 (by decide) ?_
    refine x_iconst 0 dL_ask_17 (by decide) ?_
    cases h
    exact x_iret .int rfl rfl dL_ask_18 hQ
  · subst hr9
    by_cases q8 : k8 = 0
    · rw [if_pos q8] at h
      subst q8
      refine x_callVH rfl (c_X10_ask hl e3) dL_ask_5 cw_X10_ask wl_L_116 wi_X10_ask wse_X10_ask rfl e5 (by decide) rfl (by omega) (by decide) rfl (Nat.le_of_ble_eq_true rfl) (fun v9 P9 hq9 => by cases hq9) (fun i9 P9 hq9 => ?_)
      cases hq9
      refine ⟨_, 13, hk8, by decide, ?_⟩
      refine x_astore dL_ask_13 (Nat.le_of_ble_eq_true rfl) ?_
      refine x_iconst 1 dL_ask_15 (by decide) ?_
      cases h
      exact x_iret .int rfl rfl dL_ask_16 hQ
    · rw [if_neg q8] at h
      cases h
theorem s_L_ask {G : xG} {l : Launch} (hl : l.stackTraces = false) : ∀ n pc env P z, f_L_ask n pc env P = some z → ∀ L st, lay_L_ask pc env = some (L, st) → ∀ Q : xR → xH → Prop, Q z.1 z.2 → Wp G l 11 mL_ask pc L st P Q := by
  intro n
  induction n with
  | zero => intro pc env P z h; cases h
  | succ n ih =>
    intro pc env P z h L st hlay Q hQ
    unfold f_L_ask at h
    split at h
    · cases hlay
      exact t_L_ask_0 hl ih h hQ
    · cases h
theorem c_L_ask {G : xG} {l : Launch} (hl : l.stackTraces = false) {n : Nat} {as : List Value} {P : xH} {z : xR × xH} (h : f_L_ask n 0 as P = some z) : Ct G l 11 mL_ask as P (fun r P1 => (r, P1) = z) := by
  cases n with
  | zero => cases h
  | succ n =>
    unfold f_L_ask at h
    split at h
    · exact Ct.ofW hl (by decide +kernel) wc_L_ask (Nat.le_of_ble_eq_true rfl) (t_L_ask_0 hl (s_L_ask hl _) h rfl)
    all_goals first | (cases h; done) | (rename_i q9 _; exact absurd q9 (by decide)) | (rename_i q9; exact absurd q9 (by decide)) | contradiction
/-! QuakeNetLaw.far(LQuakeNet;II[J)I -/
def b_L_far_0 (n : Nat) (rec : Nat → List Value → xH → xO) (a0 : Nat) (a1 : Int32) (a2 : Int32) (a3 : Nat) (P : xH) : xO :=
  (kO P a0 10).bind fun _ =>
  (f_X10_far n 0 [.ref a0, .int a1, .int a2] P).bind fun r2 => xIh r2 (fun k8 i8 P8 =>
    if k8 = 0 then
      some (.inl (some (.int 1)), P8)
    else
    if k8 = 1 then
      some (.inl (some (.int 2)), P8)
    else
    none) fun v4 P1 =>
    (sJ P1 a3 0 ((Int32.toInt64 v4))).bind fun P6 =>
    some (.inl (some (.int 0)), P6)
def lay_L_far : Nat → List Value → Option (xL × List Value)
  | 0, [a0, a1, a2, a3] => some ([some a0, some a1, some a2, some a3, none], [])
  | _, _ => none
def f_L_far : Nat → Nat → List Value → xH → xO
  | 0 => fun _ _ _ => none
  | n + 1 => fun pc env P => match pc, env with
    | 0, [.ref a0, .int a1, .int a2, .ref a3] => b_L_far_0 n (f_L_far n) a0 a1 a2 a3 P
    | _, _ => none
set_option maxHeartbeats 2000000 in
set_option maxRecDepth 20000 in
theorem t_L_far_0 {G : xG} {l : Launch} (hl : l.stackTraces = false) {n : Nat} {rec : Nat → List Value → xH → xO} (hrec : ∀ pc env P z, rec pc env P = some z → ∀ L st, lay_L_far pc env = some (L, st) → ∀ Q : xR → xH → Prop, Q z.1 z.2 → Wp G l 13 mL_far pc L st P Q) {a0 a1 a2 a3} {P : xH} {z : xR × xH} (h : b_L_far_0 n rec a0 a1 a2 a3 P = some z) {Q : xR → xH → Prop} (hQ : Q z.1 z.2) : Wp G l 13 mL_far 0 [some (.ref a0), some (.int a1), some (.int a2), some (.ref a3), none] [] P Q := by
  unfold b_L_far_0 at h
  refine x_aload_nr dL_far_0 rfl ?_
  refine x_iconst 0 dL_far_1 (by decide) ?_
  refine x_aload_nr dL_far_2 rfl ?_
  refine x_iload_n dL_far_3 rfl ?_
  refine x_iload_n dL_far_4 rfl ?_
  obtain ⟨_, e5, h⟩ := Option.bind_eq_some_iff.mp h
  obtain ⟨fse5, e5⟩ := kO_ok e5
  obtain ⟨r2, e3, h⟩ := Option.bind_eq_some_iff.mp h
  replace h := xIh_ok h
  rcases h with ⟨v4, P1, hr9, h⟩ | ⟨i8, P8, k8, hr9, hk8, h⟩
  · subst hr9
    refine x_callVH rfl (c_X10_far hl e3) dL_far_5 cw_X10_far wl_L_120 wi_X10_far wse_X10_far rfl e5 (by decide) rfl (by omega) (by decide) rfl (Nat.le_of_ble_eq_true rfl) (fun v9 P9 hq9 => ?_) (fun i9 P9 hq9 => by cases hq9)
    cases hq9
    refine x_i2l dL_far_8 ?_
    obtain ⟨P6, e7, h⟩ := Option.bind_eq_some_iff.mp h
    refine k_sJ e7 dL_far_9 ?_
    refine x_goto 21 dL_far_10 (by decide) ?_
    refine x_iconst 0 dL_far_21 (by decide) ?_
    cases h
    exact x_iret .int rfl rfl dL_far_22 hQ
  · subst hr9
    by_cases q8 : k8 = 0
    · rw [if_pos q8] at h
      subst q8
      refine x_callVH rfl (c_X10_far hl e3) dL_far_5 cw_X10_far wl_L_120 wi_X10_far wse_X10_far rfl e5 (by decide) rfl (by omega) (by decide) rfl (Nat.le_of_ble_eq_true rfl) (fun v9 P9 hq9 => by cases hq9) (fun i9 P9 hq9 => ?_)
      cases hq9
      refine ⟨_, 13, hk8, by decide, ?_⟩
      refine x_astore dL_far_13 (Nat.le_of_ble_eq_true rfl) ?_
      refine x_iconst 1 dL_far_15 (by decide) ?_
      cases h
      exact x_iret .int rfl rfl dL_far_16 hQ
    · rw [if_neg q8] at h
      by_cases q8 : k8 = 1
      · rw [if_pos q8] at h
        subst q8
        refine x_callVH rfl (c_X10_far hl e3) dL_far_5 cw_X10_far wl_L_120 wi_X10_far wse_X10_far rfl e5 (by decide) rfl (by omega) (by decide) rfl (Nat.le_of_ble_eq_true rfl) (fun v9 P9 hq9 => by cases hq9) (fun i9 P9 hq9 => ?_)
        cases hq9
        refine ⟨_, 17, hk8, by decide, ?_⟩
        refine x_astore dL_far_17 (Nat.le_of_ble_eq_true rfl) ?_
        refine x_iconst 2 dL_far_19 (by decide) ?_
        cases h
        exact x_iret .int rfl rfl dL_far_20 hQ
      · rw [if_neg q8] at h
        cases h
theorem s_L_far {G : xG} {l : Launch} (hl : l.stackTraces = false) : ∀ n pc env P z, f_L_far n pc env P = some z → ∀ L st, lay_L_far pc env = some (L, st) → ∀ Q : xR → xH → Prop, Q z.1 z.2 → Wp G l 13 mL_far pc L st P Q := by
  intro n
  induction n with
  | zero => intro pc env P z h; cases h
  | succ n ih =>
    intro pc env P z h L st hlay Q hQ
    unfold f_L_far at h
    split at h
    · cases hlay
      exact t_L_far_0 hl ih h hQ
    · cases h
theorem c_L_far {G : xG} {l : Launch} (hl : l.stackTraces = false) {n : Nat} {as : List Value} {P : xH} {z : xR × xH} (h : f_L_far n 0 as P = some z) : Ct G l 13 mL_far as P (fun r P1 => (r, P1) = z) := by
  cases n with
  | zero => cases h
  | succ n =>
    unfold f_L_far at h
    split at h
    · exact Ct.ofW hl (by decide +kernel) wc_L_far (Nat.le_of_ble_eq_true rfl) (t_L_far_0 hl (s_L_far hl _) h rfl)
    all_goals first | (cases h; done) | (rename_i q9 _; exact absurd q9 (by decide)) | (rename_i q9; exact absurd q9 (by decide)) | contradiction
/-! QuakeNetLaw.would(LQuakeNet;I[J)I -/
def b_L_would_0 (n : Nat) (rec : Nat → List Value → xH → xO) (a0 : Nat) (a1 : Int32) (a2 : Nat) (P : xH) : xO :=
  (kO P a0 10).bind fun _ =>
  (f_X10_would n 0 [.ref a0, .int a1] P).bind fun r2 => xIh r2 (fun k8 i8 P8 =>
    if k8 = 0 then
      some (.inl (some (.int 1)), P8)
    else
    if k8 = 1 then
      some (.inl (some (.int 2)), P8)
    else
    none) fun v4 P1 =>
    (sJ P1 a2 0 ((Int32.toInt64 v4))).bind fun P6 =>
    some (.inl (some (.int 0)), P6)
def lay_L_would : Nat → List Value → Option (xL × List Value)
  | 0, [a0, a1, a2] => some ([some a0, some a1, some a2, none], [])
  | _, _ => none
def f_L_would : Nat → Nat → List Value → xH → xO
  | 0 => fun _ _ _ => none
  | n + 1 => fun pc env P => match pc, env with
    | 0, [.ref a0, .int a1, .ref a2] => b_L_would_0 n (f_L_would n) a0 a1 a2 P
    | _, _ => none
set_option maxHeartbeats 2000000 in
set_option maxRecDepth 20000 in
theorem t_L_would_0 {G : xG} {l : Launch} (hl : l.stackTraces = false) {n : Nat} {rec : Nat → List Value → xH → xO} (hrec : ∀ pc env P z, rec pc env P = some z → ∀ L st, lay_L_would pc env = some (L, st) → ∀ Q : xR → xH → Prop, Q z.1 z.2 → Wp G l 44 mL_would pc L st P Q) {a0 a1 a2} {P : xH} {z : xR × xH} (h : b_L_would_0 n rec a0 a1 a2 P = some z) {Q : xR → xH → Prop} (hQ : Q z.1 z.2) : Wp G l 44 mL_would 0 [some (.ref a0), some (.int a1), some (.ref a2), none] [] P Q := by
  unfold b_L_would_0 at h
  refine x_aload_nr dL_would_0 rfl ?_
  refine x_iconst 0 dL_would_1 (by decide) ?_
  refine x_aload_nr dL_would_2 rfl ?_
  refine x_iload_n dL_would_3 rfl ?_
  obtain ⟨_, e5, h⟩ := Option.bind_eq_some_iff.mp h
  obtain ⟨fse5, e5⟩ := kO_ok e5
  obtain ⟨r2, e3, h⟩ := Option.bind_eq_some_iff.mp h
  replace h := xIh_ok h
  rcases h with ⟨v4, P1, hr9, h⟩ | ⟨i8, P8, k8, hr9, hk8, h⟩
  · subst hr9
    refine x_callVH rfl (c_X10_would hl e3) dL_would_4 cw_X10_would wl_L_123 wi_X10_would wse_X10_would rfl e5 (by decide) rfl (by omega) (by decide) rfl (Nat.le_of_ble_eq_true rfl) (fun v9 P9 hq9 => ?_) (fun i9 P9 hq9 => by cases hq9)
    cases hq9
    refine x_i2l dL_would_7 ?_
    obtain ⟨P6, e7, h⟩ := Option.bind_eq_some_iff.mp h
    refine k_sJ e7 dL_would_8 ?_
    refine x_goto 18 dL_would_9 (by decide) ?_
    refine x_iconst 0 dL_would_18 (by decide) ?_
    cases h
    exact x_iret .int rfl rfl dL_would_19 hQ
  · subst hr9
    by_cases q8 : k8 = 0
    · rw [if_pos q8] at h
      subst q8
      refine x_callVH rfl (c_X10_would hl e3) dL_would_4 cw_X10_would wl_L_123 wi_X10_would wse_X10_would rfl e5 (by decide) rfl (by omega) (by decide) rfl (Nat.le_of_ble_eq_true rfl) (fun v9 P9 hq9 => by cases hq9) (fun i9 P9 hq9 => ?_)
      cases hq9
      refine ⟨_, 12, hk8, by decide, ?_⟩
      refine x_astore_n dL_would_12 (Nat.le_of_ble_eq_true rfl) ?_
      refine x_iconst 1 dL_would_13 (by decide) ?_
      cases h
      exact x_iret .int rfl rfl dL_would_14 hQ
    · rw [if_neg q8] at h
      by_cases q8 : k8 = 1
      · rw [if_pos q8] at h
        subst q8
        refine x_callVH rfl (c_X10_would hl e3) dL_would_4 cw_X10_would wl_L_123 wi_X10_would wse_X10_would rfl e5 (by decide) rfl (by omega) (by decide) rfl (Nat.le_of_ble_eq_true rfl) (fun v9 P9 hq9 => by cases hq9) (fun i9 P9 hq9 => ?_)
        cases hq9
        refine ⟨_, 15, hk8, by decide, ?_⟩
        refine x_astore_n dL_would_15 (Nat.le_of_ble_eq_true rfl) ?_
        refine x_iconst 2 dL_would_16 (by decide) ?_
        cases h
        exact x_iret .int rfl rfl dL_would_17 hQ
      · rw [if_neg q8] at h
        cases h
theorem s_L_would {G : xG} {l : Launch} (hl : l.stackTraces = false) : ∀ n pc env P z, f_L_would n pc env P = some z → ∀ L st, lay_L_would pc env = some (L, st) → ∀ Q : xR → xH → Prop, Q z.1 z.2 → Wp G l 44 mL_would pc L st P Q := by
  intro n
  induction n with
  | zero => intro pc env P z h; cases h
  | succ n ih =>
    intro pc env P z h L st hlay Q hQ
    unfold f_L_would at h
    split at h
    · cases hlay
      exact t_L_would_0 hl ih h hQ
    · cases h
theorem c_L_would {G : xG} {l : Launch} (hl : l.stackTraces = false) {n : Nat} {as : List Value} {P : xH} {z : xR × xH} (h : f_L_would n 0 as P = some z) : Ct G l 44 mL_would as P (fun r P1 => (r, P1) = z) := by
  cases n with
  | zero => cases h
  | succ n =>
    unfold f_L_would at h
    split at h
    · exact Ct.ofW hl (by decide +kernel) wc_L_would (Nat.le_of_ble_eq_true rfl) (t_L_would_0 hl (s_L_would hl _) h rfl)
    all_goals first | (cases h; done) | (rename_i q9 _; exact absurd q9 (by decide)) | (rename_i q9; exact absurd q9 (by decide)) | contradiction
/-! QuakeNetLaw.tear(LQuakeNet;II[J)I -/
def b_L_tear_0 (n : Nat) (rec : Nat → List Value → xH → xO) (a0 : Nat) (a1 : Int32) (a2 : Int32) (a3 : Nat) (P : xH) : xO :=
  (kO P a0 10).bind fun _ =>
  (f_X10_tear n 0 [.ref a0, .int a1, .int a2] P).bind fun r2 => xIh r2 (fun k8 i8 P8 =>
    if k8 = 4 then
      some (.inl (some (.int 1)), P8)
    else
    none) fun v4 P1 =>
    (sJ P1 a3 0 ((Int32.toInt64 v4))).bind fun P6 =>
    some (.inl (some (.int 0)), P6)
def lay_L_tear : Nat → List Value → Option (xL × List Value)
  | 0, [a0, a1, a2, a3] => some ([some a0, some a1, some a2, some a3, none], [])
  | _, _ => none
def f_L_tear : Nat → Nat → List Value → xH → xO
  | 0 => fun _ _ _ => none
  | n + 1 => fun pc env P => match pc, env with
    | 0, [.ref a0, .int a1, .int a2, .ref a3] => b_L_tear_0 n (f_L_tear n) a0 a1 a2 a3 P
    | _, _ => none
set_option maxHeartbeats 2000000 in
set_option maxRecDepth 20000 in
theorem t_L_tear_0 {G : xG} {l : Launch} (hl : l.stackTraces = false) {n : Nat} {rec : Nat → List Value → xH → xO} (hrec : ∀ pc env P z, rec pc env P = some z → ∀ L st, lay_L_tear pc env = some (L, st) → ∀ Q : xR → xH → Prop, Q z.1 z.2 → Wp G l 10 mL_tear pc L st P Q) {a0 a1 a2 a3} {P : xH} {z : xR × xH} (h : b_L_tear_0 n rec a0 a1 a2 a3 P = some z) {Q : xR → xH → Prop} (hQ : Q z.1 z.2) : Wp G l 10 mL_tear 0 [some (.ref a0), some (.int a1), some (.int a2), some (.ref a3), none] [] P Q := by
  unfold b_L_tear_0 at h
  refine x_aload_nr dL_tear_0 rfl ?_
  refine x_iconst 0 dL_tear_1 (by decide) ?_
  refine x_aload_nr dL_tear_2 rfl ?_
  refine x_iload_n dL_tear_3 rfl ?_
  refine x_iload_n dL_tear_4 rfl ?_
  obtain ⟨_, e5, h⟩ := Option.bind_eq_some_iff.mp h
  obtain ⟨fse5, e5⟩ := kO_ok e5
  obtain ⟨r2, e3, h⟩ := Option.bind_eq_some_iff.mp h
  replace h := xIh_ok h
  rcases h with ⟨v4, P1, hr9, h⟩ | ⟨i8, P8, k8, hr9, hk8, h⟩
  · subst hr9
    refine x_callVH rfl (c_X10_tear hl e3) dL_tear_5 cw_X10_tear wl_L_126 wi_X10_tear wse_X10_tear rfl e5 (by decide) rfl (by omega) (by decide) rfl (Nat.le_of_ble_eq_true rfl) (fun v9 P9 hq9 => ?_) (fun i9 P9 hq9 => by cases hq9)
    cases hq9
    refine x_i2l dL_tear_8 ?_
    obtain ⟨P6, e7, h⟩ := Option.bind_eq_some_iff.mp h
    refine k_sJ e7 dL_tear_9 ?_
    refine x_goto 17 dL_tear_10 (by decide) ?_
    refine x_iconst 0 dL_tear_17 (by decide) ?_
    cases h
    exact x_iret .int rfl rfl dL_tear_18 hQ
  · subst hr9
    by_cases q8 : k8 = 4
    · rw [if_pos q8] at h
      subst q8
      refine x_callVH rfl (c_X10_tear hl e3) dL_tear_5 cw_X10_tear wl_L_126 wi_X10_tear wse_X10_tear rfl e5 (by decide) rfl (by omega) (by decide) rfl (Nat.le_of_ble_eq_true rfl) (fun v9 P9 hq9 => by cases hq9) (fun i9 P9 hq9 => ?_)
      cases hq9
      refine ⟨_, 13, hk8, by decide, ?_⟩
      refine x_astore dL_tear_13 (Nat.le_of_ble_eq_true rfl) ?_
      refine x_iconst 1 dL_tear_15 (by decide) ?_
      cases h
      exact x_iret .int rfl rfl dL_tear_16 hQ
    · rw [if_neg q8] at h
      cases h
theorem s_L_tear {G : xG} {l : Launch} (hl : l.stackTraces = false) : ∀ n pc env P z, f_L_tear n pc env P = some z → ∀ L st, lay_L_tear pc env = some (L, st) → ∀ Q : xR → xH → Prop, Q z.1 z.2 → Wp G l 10 mL_tear pc L st P Q := by
  intro n
  induction n with
  | zero => intro pc env P z h; cases h
  | succ n ih =>
    intro pc env P z h L st hlay Q hQ
    unfold f_L_tear at h
    split at h
    · cases hlay
      exact t_L_tear_0 hl ih h hQ
    · cases h
theorem c_L_tear {G : xG} {l : Launch} (hl : l.stackTraces = false) {n : Nat} {as : List Value} {P : xH} {z : xR × xH} (h : f_L_tear n 0 as P = some z) : Ct G l 10 mL_tear as P (fun r P1 => (r, P1) = z) := by
  cases n with
  | zero => cases h
  | succ n =>
    unfold f_L_tear at h
    split at h
    · exact Ct.ofW hl (by decide +kernel) wc_L_tear (Nat.le_of_ble_eq_true rfl) (t_L_tear_0 hl (s_L_tear hl _) h rfl)
    all_goals first | (cases h; done) | (rename_i q9 _; exact absurd q9 (by decide)) | (rename_i q9; exact absurd q9 (by decide)) | contradiction
theorem ch_L_phone : xCh mL_phone 6 := ⟨wc_L_phone, wini_L, ⟨by decide +kernel, by decide +kernel⟩, by decide +kernel⟩
theorem ch_L_move : xCh mL_move 6 := ⟨wc_L_move, wini_L, ⟨by decide +kernel, by decide +kernel⟩, by decide +kernel⟩
theorem ch_L_rules : xCh mL_rules 2 := ⟨wc_L_rules, wini_L, ⟨by decide +kernel, by decide +kernel⟩, by decide +kernel⟩
theorem ch_L_say : xCh mL_say 9 := ⟨wc_L_say, wini_L, ⟨by decide +kernel, by decide +kernel⟩, by decide +kernel⟩
theorem ch_L_undo : xCh mL_undo 5 := ⟨wc_L_undo, wini_L, ⟨by decide +kernel, by decide +kernel⟩, by decide +kernel⟩
theorem ch_L_ticks : xCh mL_ticks 3 := ⟨wc_L_ticks, wini_L, ⟨by decide +kernel, by decide +kernel⟩, by decide +kernel⟩
theorem ch_L_look : xCh mL_look 4 := ⟨wc_L_look, wini_L, ⟨by decide +kernel, by decide +kernel⟩, by decide +kernel⟩
theorem ch_L_copy : xCh mL_copy 5 := ⟨wc_L_copy, wini_L, ⟨by decide +kernel, by decide +kernel⟩, by decide +kernel⟩
theorem ch_L_word : xCh mL_word 4 := ⟨wc_L_word, wini_L, ⟨by decide +kernel, by decide +kernel⟩, by decide +kernel⟩
theorem ch_L_had : xCh mL_had 3 := ⟨wc_L_had, wini_L, ⟨by decide +kernel, by decide +kernel⟩, by decide +kernel⟩
theorem ch_L_way : xCh mL_way 4 := ⟨wc_L_way, wini_L, ⟨by decide +kernel, by decide +kernel⟩, by decide +kernel⟩
theorem ch_L_late : xCh mL_late 3 := ⟨wc_L_late, wini_L, ⟨by decide +kernel, by decide +kernel⟩, by decide +kernel⟩
theorem ch_L_rumour : xCh mL_rumour 3 := ⟨wc_L_rumour, wini_L, ⟨by decide +kernel, by decide +kernel⟩, by decide +kernel⟩
theorem ch_L_sayings : xCh mL_sayings 5 := ⟨wc_L_sayings, wini_L, ⟨by decide +kernel, by decide +kernel⟩, by decide +kernel⟩
theorem ch_L_speed : xCh mL_speed 2 := ⟨wc_L_speed, wini_L, ⟨by decide +kernel, by decide +kernel⟩, by decide +kernel⟩
theorem ch_L_could : xCh mL_could 5 := ⟨wc_L_could, wini_L, ⟨by decide +kernel, by decide +kernel⟩, by decide +kernel⟩
theorem ch_L_least : xCh mL_least 5 := ⟨wc_L_least, wini_L, ⟨by decide +kernel, by decide +kernel⟩, by decide +kernel⟩
theorem ch_L_judge : xCh mL_judge 4 := ⟨wc_L_judge, wini_L, ⟨by decide +kernel, by decide +kernel⟩, by decide +kernel⟩
theorem ch_L_weight : xCh mL_weight 3 := ⟨wc_L_weight, wini_L, ⟨by decide +kernel, by decide +kernel⟩, by decide +kernel⟩
theorem ch_L_sure : xCh mL_sure 4 := ⟨wc_L_sure, wini_L, ⟨by decide +kernel, by decide +kernel⟩, by decide +kernel⟩
theorem ch_L_describe : xCh mL_describe 5 := ⟨wc_L_describe, wini_L, ⟨by decide +kernel, by decide +kernel⟩, by decide +kernel⟩
theorem ch_L_apart : xCh mL_apart 2 := ⟨wc_L_apart, wini_L, ⟨by decide +kernel, by decide +kernel⟩, by decide +kernel⟩
theorem ch_L_heaps : xCh mL_heaps 3 := ⟨wc_L_heaps, wini_L, ⟨by decide +kernel, by decide +kernel⟩, by decide +kernel⟩
theorem ch_L_heap : xCh mL_heap 3 := ⟨wc_L_heap, wini_L, ⟨by decide +kernel, by decide +kernel⟩, by decide +kernel⟩
theorem ch_L_stones : xCh mL_stones 7 := ⟨wc_L_stones, wini_L, ⟨by decide +kernel, by decide +kernel⟩, by decide +kernel⟩
theorem ch_L_gang : xCh mL_gang 4 := ⟨wc_L_gang, wini_L, ⟨by decide +kernel, by decide +kernel⟩, by decide +kernel⟩
theorem ch_L_saved : xCh mL_saved 4 := ⟨wc_L_saved, wini_L, ⟨by decide +kernel, by decide +kernel⟩, by decide +kernel⟩
theorem ch_L_send : xCh mL_send 3 := ⟨wc_L_send, wini_L, ⟨by decide +kernel, by decide +kernel⟩, by decide +kernel⟩
theorem ch_L_hide : xCh mL_hide 4 := ⟨wc_L_hide, wini_L, ⟨by decide +kernel, by decide +kernel⟩, by decide +kernel⟩
theorem ch_L_ask : xCh mL_ask 4 := ⟨wc_L_ask, wini_L, ⟨by decide +kernel, by decide +kernel⟩, by decide +kernel⟩
theorem ch_L_far : xCh mL_far 4 := ⟨wc_L_far, wini_L, ⟨by decide +kernel, by decide +kernel⟩, by decide +kernel⟩
theorem ch_L_would : xCh mL_would 3 := ⟨wc_L_would, wini_L, ⟨by decide +kernel, by decide +kernel⟩, by decide +kernel⟩
theorem ch_L_tear : xCh mL_tear 4 := ⟨wc_L_tear, wini_L, ⟨by decide +kernel, by decide +kernel⟩, by decide +kernel⟩
