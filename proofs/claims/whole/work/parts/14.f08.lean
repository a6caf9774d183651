/-! QuakeNet$Rows.add(I)V -/
def b_X4_add_0 (n : Nat) (rec : Nat → List Value → xH → xO) (a0 : Nat) (a1 : Int32) (P : xH) : xO :=
  (rI P a0 4 2).bind fun v1 =>
  if v1 < 8 then
    rec 45 [.ref a0, .int a1] P
  else
    (rA P a0 4 0).bind fun v3 =>
    (rA P a0 4 0).bind fun v5 =>
    (cpI P v3 1 v5 0 7).bind fun P7 =>
    (rA P7 a0 4 1).bind fun v9 =>
    (rA P7 a0 4 1).bind fun v11 =>
    (cpI P7 v9 1 v11 0 7).bind fun P13 =>
    (wV P13 a0 4 2 (.int 7)).bind fun P15 =>
    rec 45 [.ref a0, .int a1] P15
def b_X4_add_45 (n : Nat) (rec : Nat → List Value → xH → xO) (a0 : Nat) (a1 : Int32) (P : xH) : xO :=
  (rA P a0 4 0).bind fun v1 =>
  (rI P a0 4 2).bind fun v3 =>
  (sI P v1 v3 a1).bind fun P5 =>
  (rA P5 a0 4 1).bind fun v7 =>
  (rI P5 a0 4 2).bind fun v9 =>
  (sI P5 v7 v9 a1).bind fun P11 =>
  (rI P11 a0 4 2).bind fun v13 =>
  (wV P11 a0 4 2 (.int ((v13 + 1)))).bind fun P15 =>
  some (.inl none, P15)
def lay_X4_add : Nat → List Value → Option (xL × List Value)
  | 0, [a0, a1] => some ([some a0, some a1], [])
  | 45, [a0, a1] => some ([some a0, some a1], [])
  | _, _ => none
def f_X4_add : Nat → Nat → List Value → xH → xO
  | 0 => fun _ _ _ => none
  | n + 1 => fun pc env P => match pc, env with
    | 0, [.ref a0, .int a1] => b_X4_add_0 n (f_X4_add n) a0 a1 P
    | 45, [.ref a0, .int a1] => b_X4_add_45 n (f_X4_add n) a0 a1 P
    | _, _ => none
set_option maxHeartbeats 2000000 in
set_option maxRecDepth 20000 in
theorem t_X4_add_0 {G : xG} {l : Launch} (hl : l.stackTraces = false) {n : Nat} {rec : Nat → List Value → xH → xO} (hrec : ∀ pc env P z, rec pc env P = some z → ∀ L st, lay_X4_add pc env = some (L, st) → ∀ Q : xR → xH → Prop, Q z.1 z.2 → Wp G l 3 mX4_add pc L st P Q) {a0 a1} {P : xH} {z : xR × xH} (h : b_X4_add_0 n rec a0 a1 P = some z) {Q : xR → xH → Prop} (hQ : Q z.1 z.2) : Wp G l 3 mX4_add 0 [some (.ref a0), some (.int a1)] [] P Q := by
  unfold b_X4_add_0 at h
  refine x_aload_nr dX4_add_0 rfl ?_
  obtain ⟨v1, e2, h⟩ := Option.bind_eq_some_iff.mp h
  refine k_rI e2 dX4_add_1 f_X4_22 ?_
  refine x_bipush 8 dX4_add_4 (by decide) ?_
  refine x_icmp_lt 45 dX4_add_6 (by decide) (fun q17 => ?_) (fun q17 => ?_)
  · rw [if_pos q17] at h
    exact Wp.mask [true, true] (hrec 45 _ _ _ h _ _ rfl _ hQ)
  · rw [if_neg q17] at h
    refine x_aload_nr dX4_add_9 rfl ?_
    obtain ⟨v3, e4, h⟩ := Option.bind_eq_some_iff.mp h
    refine k_rA e4 dX4_add_10 f_X4_11 ?_
    refine x_iconst 1 dX4_add_13 (by decide) ?_
    refine x_aload_nr dX4_add_14 rfl ?_
    obtain ⟨v5, e6, h⟩ := Option.bind_eq_some_iff.mp h
    refine k_rA e6 dX4_add_15 f_X4_11 ?_
    refine x_iconst 0 dX4_add_18 (by decide) ?_
    refine x_bipush 7 dX4_add_19 (by decide) ?_
    obtain ⟨P7, e8, h⟩ := Option.bind_eq_some_iff.mp h
    refine k_cpI e8 dX4_add_21 wl_X4_26 (Nat.le_of_ble_eq_true rfl) (by omega) ?_
    refine x_aload_nr dX4_add_24 rfl ?_
    obtain ⟨v9, e10, h⟩ := Option.bind_eq_some_iff.mp h
    refine k_rA e10 dX4_add_25 f_X4_15 ?_
    refine x_iconst 1 dX4_add_28 (by decide) ?_
    refine x_aload_nr dX4_add_29 rfl ?_
    obtain ⟨v11, e12, h⟩ := Option.bind_eq_some_iff.mp h
    refine k_rA e12 dX4_add_30 f_X4_15 ?_
    refine x_iconst 0 dX4_add_33 (by decide) ?_
    refine x_bipush 7 dX4_add_34 (by decide) ?_
    obtain ⟨P13, e14, h⟩ := Option.bind_eq_some_iff.mp h
    refine k_cpI e14 dX4_add_36 wl_X4_26 (Nat.le_of_ble_eq_true rfl) (by omega) ?_
    refine x_aload_nr dX4_add_39 rfl ?_
    refine x_bipush 7 dX4_add_40 (by decide) ?_
    obtain ⟨P15, e16, h⟩ := Option.bind_eq_some_iff.mp h
    refine k_wI e16 dX4_add_42 f_X4_22 (Or.inl (by decide)) rfl ?_
    exact Wp.mask [true, true] (hrec 45 _ _ _ h _ _ rfl _ hQ)
set_option maxHeartbeats 2000000 in
set_option maxRecDepth 20000 in
theorem t_X4_add_45 {G : xG} {l : Launch} (hl : l.stackTraces = false) {n : Nat} {rec : Nat → List Value → xH → xO} (hrec : ∀ pc env P z, rec pc env P = some z → ∀ L st, lay_X4_add pc env = some (L, st) → ∀ Q : xR → xH → Prop, Q z.1 z.2 → Wp G l 3 mX4_add pc L st P Q) {a0 a1} {P : xH} {z : xR × xH} (h : b_X4_add_45 n rec a0 a1 P = some z) {Q : xR → xH → Prop} (hQ : Q z.1 z.2) : Wp G l 3 mX4_add 45 [some (.ref a0), some (.int a1)] [] P Q := by
  unfold b_X4_add_45 at h
  refine x_aload_nr dX4_add_45 rfl ?_
  obtain ⟨v1, e2, h⟩ := Option.bind_eq_some_iff.mp h
  refine k_rA e2 dX4_add_46 f_X4_11 ?_
  refine x_aload_nr dX4_add_49 rfl ?_
  obtain ⟨v3, e4, h⟩ := Option.bind_eq_some_iff.mp h
  refine k_rI e4 dX4_add_50 f_X4_22 ?_
  refine x_iload_n dX4_add_53 rfl ?_
  obtain ⟨P5, e6, h⟩ := Option.bind_eq_some_iff.mp h
  refine k_sI e6 dX4_add_54 ?_
  refine x_aload_nr dX4_add_55 rfl ?_
  obtain ⟨v7, e8, h⟩ := Option.bind_eq_some_iff.mp h
  refine k_rA e8 dX4_add_56 f_X4_15 ?_
  refine x_aload_nr dX4_add_59 rfl ?_
  obtain ⟨v9, e10, h⟩ := Option.bind_eq_some_iff.mp h
  refine k_rI e10 dX4_add_60 f_X4_22 ?_
  refine x_iload_n dX4_add_63 rfl ?_
  obtain ⟨P11, e12, h⟩ := Option.bind_eq_some_iff.mp h
  refine k_sI e12 dX4_add_64 ?_
  refine x_aload_nr dX4_add_65 rfl ?_
  refine x_dup dX4_add_66 rfl ?_
  obtain ⟨v13, e14, h⟩ := Option.bind_eq_some_iff.mp h
  refine k_rI e14 dX4_add_67 f_X4_22 ?_
  refine x_iconst 1 dX4_add_70 (by decide) ?_
  refine x_iadd dX4_add_71 ?_
  obtain ⟨P15, e16, h⟩ := Option.bind_eq_some_iff.mp h
  refine k_wI e16 dX4_add_72 f_X4_22 (Or.inl (by decide)) rfl ?_
  cases h
  exact x_ret rfl dX4_add_75 hQ
theorem s_X4_add {G : xG} {l : Launch} (hl : l.stackTraces = false) : ∀ n pc env P z, f_X4_add n pc env P = some z → ∀ L st, lay_X4_add pc env = some (L, st) → ∀ Q : xR → xH → Prop, Q z.1 z.2 → Wp G l 3 mX4_add pc L st P Q := by
  intro n
  induction n with
  | zero => intro pc env P z h; cases h
  | succ n ih =>
    intro pc env P z h L st hlay Q hQ
    unfold f_X4_add at h
    split at h
    · cases hlay
      exact t_X4_add_0 hl ih h hQ
    · cases hlay
      exact t_X4_add_45 hl ih h hQ
    · cases h
theorem c_X4_add {G : xG} {l : Launch} (hl : l.stackTraces = false) {n : Nat} {as : List Value} {P : xH} {z : xR × xH} (h : f_X4_add n 0 as P = some z) : Ct G l 3 mX4_add as P (fun r P1 => (r, P1) = z) := by
  cases n with
  | zero => cases h
  | succ n =>
    unfold f_X4_add at h
    split at h
    · exact Ct.of hl (by decide +kernel) wc_X4_add (Nat.le_of_ble_eq_true rfl) (t_X4_add_0 hl (s_X4_add hl _) h rfl)
    all_goals first | (cases h; done) | (rename_i q9 _; exact absurd q9 (by decide)) | (rename_i q9; exact absurd q9 (by decide)) | contradiction
/-! QuakeNet$Town.goOn()V -/
def b_X7_goOn_0 (n : Nat) (rec : Nat → List Value → xH → xO) (a0 : Nat) (P : xH) : xO :=
  (rA P a0 7 3).bind fun v1 =>
  (rI P v1 1 2).bind fun v3 =>
  if ¬ v3 = 0 then
    rec 21 [.ref a0] P
  else
    (rA P a0 7 4).bind fun v5 =>
    (rA P a0 7 3).bind fun v7 =>
    (kO P v5 1).bind fun _ =>
    (f_X1_become n 0 [.ref v5, .ref v7] P).bind fun r10 => xU r10 fun P9 =>
    rec 21 [.ref a0] P9
def b_X7_goOn_21 (n : Nat) (rec : Nat → List Value → xH → xO) (a0 : Nat) (P : xH) : xO :=
  (rA P a0 7 3).bind fun v1 =>
  (rA P a0 7 2).bind fun v3 =>
  (kO P v1 1).bind fun _ =>
  (f_X1_step n 0 [.ref v1, .ref v3, .int 0] P).bind fun r6 => xU r6 fun P5 =>
  (rA P5 a0 7 5).bind fun v9 =>
  (rA P5 a0 7 3).bind fun v11 =>
  (kO P5 v11 1).bind fun _ =>
  (f_X1_total n 0 [.ref v11, .int 2] P5).bind fun r14 => xI r14 fun v16 P13 =>
  (kO P13 v9 4).bind fun _ =>
  (f_X4_add n 0 [.ref v9, .int v16] P13).bind fun r19 => xU r19 fun P18 =>
  some (.inl none, P18)
def lay_X7_goOn : Nat → List Value → Option (xL × List Value)
  | 0, [a0] => some ([some a0], [])
  | 21, [a0] => some ([some a0], [])
  | _, _ => none
def f_X7_goOn : Nat → Nat → List Value → xH → xO
  | 0 => fun _ _ _ => none
  | n + 1 => fun pc env P => match pc, env with
    | 0, [.ref a0] => b_X7_goOn_0 n (f_X7_goOn n) a0 P
    | 21, [.ref a0] => b_X7_goOn_21 n (f_X7_goOn n) a0 P
    | _, _ => none
set_option maxHeartbeats 2000000 in
set_option maxRecDepth 20000 in
theorem t_X7_goOn_0 {G : xG} {l : Launch} (hl : l.stackTraces = false) {n : Nat} {rec : Nat → List Value → xH → xO} (hrec : ∀ pc env P z, rec pc env P = some z → ∀ L st, lay_X7_goOn pc env = some (L, st) → ∀ Q : xR → xH → Prop, Q z.1 z.2 → Wp G l 10 mX7_goOn pc L st P Q) {a0} {P : xH} {z : xR × xH} (h : b_X7_goOn_0 n rec a0 P = some z) {Q : xR → xH → Prop} (hQ : Q z.1 z.2) : Wp G l 10 mX7_goOn 0 [some (.ref a0)] [] P Q := by
  unfold b_X7_goOn_0 at h
  refine x_aload_nr dX7_goOn_0 rfl ?_
  obtain ⟨v1, e2, h⟩ := Option.bind_eq_some_iff.mp h
  refine k_rA e2 dX7_goOn_1 f_X7_35 ?_
  obtain ⟨v3, e4, h⟩ := Option.bind_eq_some_iff.mp h
  refine k_rI e4 dX7_goOn_4 f_X7_67 ?_
  refine x_if_ne 21 dX7_goOn_7 (by decide) (fun q13 => ?_) (fun q13 => ?_)
  · rw [if_pos q13] at h
    exact Wp.mask [true] (hrec 21 _ _ _ h _ _ rfl _ hQ)
  · rw [if_neg (fun z9 => z9 q13)] at h
    refine x_aload_nr dX7_goOn_10 rfl ?_
    obtain ⟨v5, e6, h⟩ := Option.bind_eq_some_iff.mp h
    refine k_rA e6 dX7_goOn_11 f_X7_39 ?_
    refine x_aload_nr dX7_goOn_14 rfl ?_
    obtain ⟨v7, e8, h⟩ := Option.bind_eq_some_iff.mp h
    refine k_rA e8 dX7_goOn_15 f_X7_35 ?_
    obtain ⟨_, e12, h⟩ := Option.bind_eq_some_iff.mp h
    obtain ⟨fse12, e12⟩ := kO_ok e12
    obtain ⟨r10, e11, h⟩ := Option.bind_eq_some_iff.mp h
    replace h := xU_ok h
    obtain ⟨P9, rfl, h⟩ := h
    refine x_callV (c_X1_become hl e11) dX7_goOn_18 cw_X1_become wl_X7_70 wi_X1_become wse_X1_become rfl e12 (by decide) rfl (by omega) (by decide) rfl (Nat.le_of_ble_eq_true rfl) rfl (fun v9 P9 hq9 => ?_) (fun i9 P9 hq9 => by cases hq9)
    cases hq9
    exact Wp.mask [true] (hrec 21 _ _ _ h _ _ rfl _ hQ)
set_option maxHeartbeats 2000000 in
set_option maxRecDepth 20000 in
theorem t_X7_goOn_21 {G : xG} {l : Launch} (hl : l.stackTraces = false) {n : Nat} {rec : Nat → List Value → xH → xO} (hrec : ∀ pc env P z, rec pc env P = some z → ∀ L st, lay_X7_goOn pc env = some (L, st) → ∀ Q : xR → xH → Prop, Q z.1 z.2 → Wp G l 10 mX7_goOn pc L st P Q) {a0} {P : xH} {z : xR × xH} (h : b_X7_goOn_21 n rec a0 P = some z) {Q : xR → xH → Prop} (hQ : Q z.1 z.2) : Wp G l 10 mX7_goOn 21 [some (.ref a0)] [] P Q := by
  unfold b_X7_goOn_21 at h
  refine x_aload_nr dX7_goOn_21 rfl ?_
  obtain ⟨v1, e2, h⟩ := Option.bind_eq_some_iff.mp h
  refine k_rA e2 dX7_goOn_22 f_X7_35 ?_
  refine x_aload_nr dX7_goOn_25 rfl ?_
  obtain ⟨v3, e4, h⟩ := Option.bind_eq_some_iff.mp h
  refine k_rA e4 dX7_goOn_26 f_X7_26 ?_
  refine x_iconst 0 dX7_goOn_29 (by decide) ?_
  obtain ⟨_, e8, h⟩ := Option.bind_eq_some_iff.mp h
  obtain ⟨fse8, e8⟩ := kO_ok e8
  obtain ⟨r6, e7, h⟩ := Option.bind_eq_some_iff.mp h
  replace h := xU_ok h
  obtain ⟨P5, rfl, h⟩ := h
  refine x_callV (c_X1_step hl e7) dX7_goOn_30 cw_X1_step wl_X7_74 wi_X1_step wse_X1_step rfl e8 (by decide) rfl (by omega) (by decide) rfl (Nat.le_of_ble_eq_true rfl) rfl (fun v9 P9 hq9 => ?_) (fun i9 P9 hq9 => by cases hq9)
  cases hq9
  refine x_aload_nr dX7_goOn_33 rfl ?_
  obtain ⟨v9, e10, h⟩ := Option.bind_eq_some_iff.mp h
  refine k_rA e10 dX7_goOn_34 f_X7_45 ?_
  refine x_aload_nr dX7_goOn_37 rfl ?_
  obtain ⟨v11, e12, h⟩ := Option.bind_eq_some_iff.mp h
  refine k_rA e12 dX7_goOn_38 f_X7_35 ?_
  refine x_iconst 2 dX7_goOn_41 (by decide) ?_
  obtain ⟨_, e17, h⟩ := Option.bind_eq_some_iff.mp h
  obtain ⟨fse17, e17⟩ := kO_ok e17
  obtain ⟨r14, e15, h⟩ := Option.bind_eq_some_iff.mp h
  replace h := xI_ok h
  obtain ⟨v16, P13, rfl, h⟩ := h
  refine x_callV (c_X1_total hl e15) dX7_goOn_42 cw_X1_total wl_X7_78 wi_X1_total wse_X1_total rfl e17 (by decide) rfl (by omega) (by decide) rfl (Nat.le_of_ble_eq_true rfl) rfl (fun v9 P9 hq9 => ?_) (fun i9 P9 hq9 => by cases hq9)
  cases hq9
  obtain ⟨_, e21, h⟩ := Option.bind_eq_some_iff.mp h
  obtain ⟨fse21, e21⟩ := kO_ok e21
  obtain ⟨r19, e20, h⟩ := Option.bind_eq_some_iff.mp h
  replace h := xU_ok h
  obtain ⟨P18, rfl, h⟩ := h
  refine x_callV (c_X4_add hl e20) dX7_goOn_45 cw_X4_add wl_X7_82 wi_X4_add wse_X4_add rfl e21 (by decide) rfl (by omega) (by decide) rfl (Nat.le_of_ble_eq_true rfl) rfl (fun v9 P9 hq9 => ?_) (fun i9 P9 hq9 => by cases hq9)
  cases hq9
  cases h
  exact x_ret rfl dX7_goOn_48 hQ
theorem s_X7_goOn {G : xG} {l : Launch} (hl : l.stackTraces = false) : ∀ n pc env P z, f_X7_goOn n pc env P = some z → ∀ L st, lay_X7_goOn pc env = some (L, st) → ∀ Q : xR → xH → Prop, Q z.1 z.2 → Wp G l 10 mX7_goOn pc L st P Q := by
  intro n
  induction n with
  | zero => intro pc env P z h; cases h
  | succ n ih =>
    intro pc env P z h L st hlay Q hQ
    unfold f_X7_goOn at h
    split at h
    · cases hlay
      exact t_X7_goOn_0 hl ih h hQ
    · cases hlay
      exact t_X7_goOn_21 hl ih h hQ
    · cases h
theorem c_X7_goOn {G : xG} {l : Launch} (hl : l.stackTraces = false) {n : Nat} {as : List Value} {P : xH} {z : xR × xH} (h : f_X7_goOn n 0 as P = some z) : Ct G l 10 mX7_goOn as P (fun r P1 => (r, P1) = z) := by
  cases n with
  | zero => cases h
  | succ n =>
    unfold f_X7_goOn at h
    split at h
    · exact Ct.of hl (by decide +kernel) wc_X7_goOn (Nat.le_of_ble_eq_true rfl) (t_X7_goOn_0 hl (s_X7_goOn hl _) h rfl)
    all_goals first | (cases h; done) | (rename_i q9 _; exact absurd q9 (by decide)) | (rename_i q9; exact absurd q9 (by decide)) | contradiction
/-! QuakeNet.ticks(I)I -/
def b_X10_ticks_0 (n : Nat) (rec : Nat → List Value → xH → xO) (a0 : Nat) (a1 : Int32) (P : xH) : xO :=
  (f_X10_needWithin n 0 [.int a1, .int 0, .int 40] P).bind fun r2 => xUt r2 fun P1 =>
  rec 9 [.ref a0, .int a1, .int 0] P1
def b_X10_ticks_9 (n : Nat) (rec : Nat → List Value → xH → xO) (a0 : Nat) (a1 : Int32) (a2 : Int32) (P : xH) : xO :=
  if a1 ≤ a2 then
    (rA P a0 10 1).bind fun v1 =>
    (rA P v1 7 3).bind fun v3 =>
    (rI P v3 1 2).bind fun v5 =>
    some (.inl (some (.int v5)), P)
  else
    (rA P a0 10 1).bind fun v7 =>
    (rA P v7 7 3).bind fun v9 =>
    (rI P v9 1 2).bind fun v11 =>
    if 400 ≤ v11 then
      (rA P a0 10 1).bind fun v13 =>
      (rA P v13 7 3).bind fun v15 =>
      (rI P v15 1 2).bind fun v17 =>
      some (.inl (some (.int v17)), P)
    else
      (rA P a0 10 1).bind fun v19 =>
      (kO P v19 7).bind fun _ =>
      (f_X7_goOn n 0 [.ref v19] P).bind fun r22 => xU r22 fun P21 =>
      rec 9 [.ref a0, .int a1, .int ((a2 + 1))] P21
def lay_X10_ticks : Nat → List Value → Option (xL × List Value)
  | 0, [a0, a1] => some ([some a0, some a1, none], [])
  | 9, [a0, a1, a2] => some ([some a0, some a1, some a2], [])
  | _, _ => none
def f_X10_ticks : Nat → Nat → List Value → xH → xO
  | 0 => fun _ _ _ => none
  | n + 1 => fun pc env P => match pc, env with
    | 0, [.ref a0, .int a1] => b_X10_ticks_0 n (f_X10_ticks n) a0 a1 P
    | 9, [.ref a0, .int a1, .int a2] => b_X10_ticks_9 n (f_X10_ticks n) a0 a1 a2 P
    | _, _ => none
set_option maxHeartbeats 2000000 in
set_option maxRecDepth 20000 in
theorem t_X10_ticks_0 {G : xG} {l : Launch} (hl : l.stackTraces = false) {n : Nat} {rec : Nat → List Value → xH → xO} (hrec : ∀ pc env P z, rec pc env P = some z → ∀ L st, lay_X10_ticks pc env = some (L, st) → ∀ Q : xR → xH → Prop, Q z.1 z.2 → Wp G l 11 mX10_ticks pc L st P Q) {a0 a1} {P : xH} {z : xR × xH} (h : b_X10_ticks_0 n rec a0 a1 P = some z) {Q : xR → xH → Prop} (hQ : Q z.1 z.2) : Wp G l 11 mX10_ticks 0 [some (.ref a0), some (.int a1), none] [] P Q := by
  unfold b_X10_ticks_0 at h
  refine x_iload_n dX10_ticks_0 rfl ?_
  refine x_iconst 0 dX10_ticks_1 (by decide) ?_
  refine x_bipush 40 dX10_ticks_2 (by decide) ?_
  obtain ⟨r2, e3, h⟩ := Option.bind_eq_some_iff.mp h
  replace h := xUt_ok h
  rcases h with ⟨P1, hr9, h⟩ | ⟨i8, P8, rfl, rfl⟩
  · subst hr9
    refine x_callS (c_X10_needWithin hl e3) dX10_ticks_4 cw_X10_needWithin wl_X10_67 ws_X10_needWithin rfl (by omega) (by decide) rfl (Nat.le_of_ble_eq_true rfl) rfl (fun v9 P9 hq9 => ?_) (fun i9 P9 hq9 => by cases hq9)
    cases hq9
    refine x_iconst 0 dX10_ticks_7 (by decide) ?_
    refine x_istore_n dX10_ticks_8 (Nat.le_of_ble_eq_true rfl) ?_
    exact Wp.mask [true, true, true] (hrec 9 _ _ _ h _ _ rfl _ hQ)
  · exact x_callS (c_X10_needWithin hl e3) dX10_ticks_4 cw_X10_needWithin wl_X10_67 ws_X10_needWithin rfl (by omega) (by decide) rfl (Nat.le_of_ble_eq_true rfl) rfl (fun v9 P9 hq9 => by cases hq9) (fun i9 P9 hq9 => by cases hq9; exact hQ)
set_option maxHeartbeats 2000000 in
set_option maxRecDepth 20000 in
theorem t_X10_ticks_9 {G : xG} {l : Launch} (hl : l.stackTraces = false) {n : Nat} {rec : Nat → List Value → xH → xO} (hrec : ∀ pc env P z, rec pc env P = some z → ∀ L st, lay_X10_ticks pc env = some (L, st) → ∀ Q : xR → xH → Prop, Q z.1 z.2 → Wp G l 11 mX10_ticks pc L st P Q) {a0 a1 a2} {P : xH} {z : xR × xH} (h : b_X10_ticks_9 n rec a0 a1 a2 P = some z) {Q : xR → xH → Prop} (hQ : Q z.1 z.2) : Wp G l 11 mX10_ticks 9 [some (.ref a0), some (.int a1), some (.int a2)] [] P Q := by
  unfold b_X10_ticks_9 at h
  refine x_iload_n dX10_ticks_9 rfl ?_
  refine x_iload_n dX10_ticks_10 rfl ?_
  refine x_icmp_ge 43 dX10_ticks_11 (by decide) (fun q26 => ?_) (fun q26 => ?_)
  · rw [if_pos q26] at h
    refine x_aload_nr dX10_ticks_43 rfl ?_
    obtain ⟨v1, e2, h⟩ := Option.bind_eq_some_iff.mp h
    refine k_rA e2 dX10_ticks_44 f_X10_19 ?_
    obtain ⟨v3, e4, h⟩ := Option.bind_eq_some_iff.mp h
    refine k_rA e4 dX10_ticks_47 f_X10_42 ?_
    obtain ⟨v5, e6, h⟩ := Option.bind_eq_some_iff.mp h
    refine k_rI e6 dX10_ticks_50 f_X10_93 ?_
    cases h
    exact x_iret .int rfl rfl dX10_ticks_53 hQ
  · rw [if_neg q26] at h
    refine x_aload_nr dX10_ticks_14 rfl ?_
    obtain ⟨v7, e8, h⟩ := Option.bind_eq_some_iff.mp h
    refine k_rA e8 dX10_ticks_15 f_X10_19 ?_
    obtain ⟨v9, e10, h⟩ := Option.bind_eq_some_iff.mp h
    refine k_rA e10 dX10_ticks_18 f_X10_42 ?_
    obtain ⟨v11, e12, h⟩ := Option.bind_eq_some_iff.mp h
    refine k_rI e12 dX10_ticks_21 f_X10_93 ?_
    refine x_sipush 400 dX10_ticks_24 (by decide) ?_
    refine x_icmp_ge 43 dX10_ticks_27 (by decide) (fun q25 => ?_) (fun q25 => ?_)
    · rw [if_pos q25] at h
      refine x_aload_nr dX10_ticks_43 rfl ?_
      obtain ⟨v13, e14, h⟩ := Option.bind_eq_some_iff.mp h
      refine k_rA e14 dX10_ticks_44 f_X10_19 ?_
      obtain ⟨v15, e16, h⟩ := Option.bind_eq_some_iff.mp h
      refine k_rA e16 dX10_ticks_47 f_X10_42 ?_
      obtain ⟨v17, e18, h⟩ := Option.bind_eq_some_iff.mp h
      refine k_rI e18 dX10_ticks_50 f_X10_93 ?_
      cases h
      exact x_iret .int rfl rfl dX10_ticks_53 hQ
    · rw [if_neg q25] at h
      refine x_aload_nr dX10_ticks_30 rfl ?_
      obtain ⟨v19, e20, h⟩ := Option.bind_eq_some_iff.mp h
      refine k_rA e20 dX10_ticks_31 f_X10_19 ?_
      obtain ⟨_, e24, h⟩ := Option.bind_eq_some_iff.mp h
      obtain ⟨fse24, e24⟩ := kO_ok e24
      obtain ⟨r22, e23, h⟩ := Option.bind_eq_some_iff.mp h
      replace h := xU_ok h
      obtain ⟨P21, rfl, h⟩ := h
      refine x_callV (c_X7_goOn hl e23) dX10_ticks_34 cw_X7_goOn wl_X10_151 wi_X7_goOn wse_X7_goOn rfl e24 (by decide) rfl (by omega) (by decide) rfl (Nat.le_of_ble_eq_true rfl) rfl (fun v9 P9 hq9 => ?_) (fun i9 P9 hq9 => by cases hq9)
      cases hq9
      refine x_iinc (a2 + 1) dX10_ticks_37 rfl (by rfl) ?_
      refine x_goto 9 dX10_ticks_40 (by decide) ?_
      exact Wp.mask [true, true, true] (hrec 9 _ _ _ h _ _ rfl _ hQ)
theorem s_X10_ticks {G : xG} {l : Launch} (hl : l.stackTraces = false) : ∀ n pc env P z, f_X10_ticks n pc env P = some z → ∀ L st, lay_X10_ticks pc env = some (L, st) → ∀ Q : xR → xH → Prop, Q z.1 z.2 → Wp G l 11 mX10_ticks pc L st P Q := by
  intro n
  induction n with
  | zero => intro pc env P z h; cases h
  | succ n ih =>
    intro pc env P z h L st hlay Q hQ
    unfold f_X10_ticks at h
    split at h
    · cases hlay
      exact t_X10_ticks_0 hl ih h hQ
    · cases hlay
      exact t_X10_ticks_9 hl ih h hQ
    · cases h
theorem c_X10_ticks {G : xG} {l : Launch} (hl : l.stackTraces = false) {n : Nat} {as : List Value} {P : xH} {z : xR × xH} (h : f_X10_ticks n 0 as P = some z) : Ct G l 11 mX10_ticks as P (fun r P1 => (r, P1) = z) := by
  cases n with
  | zero => cases h
  | succ n =>
    unfold f_X10_ticks at h
    split at h
    · exact Ct.of hl (by decide +kernel) wc_X10_ticks (Nat.le_of_ble_eq_true rfl) (t_X10_ticks_0 hl (s_X10_ticks hl _) h rfl)
    all_goals first | (cases h; done) | (rename_i q9 _; exact absurd q9 (by decide)) | (rename_i q9; exact absurd q9 (by decide)) | contradiction
/-! QuakeNet.needWhat(II)V -/
def b_X10_needWhat_0 (n : Nat) (rec : Nat → List Value → xH → xO) (a0 : Int32) (a1 : Int32) (P : xH) : xO :=
  if a0 < 0 then
    rec 9 [.int a0, .int a1] P
  else
    if a0 < a1 then
      some (.inl none, P)
    else
      rec 9 [.int a0, .int a1] P
def b_X10_needWhat_9 (n : Nat) (rec : Nat → List Value → xH → xO) (a0 : Int32) (a1 : Int32) (P : xH) : xO :=
  tE P 4
def lay_X10_needWhat : Nat → List Value → Option (xL × List Value)
  | 0, [a0, a1] => some ([some a0, some a1], [])
  | 9, [a0, a1] => some ([some a0, some a1], [])
  | _, _ => none
def f_X10_needWhat : Nat → Nat → List Value → xH → xO
  | 0 => fun _ _ _ => none
  | n + 1 => fun pc env P => match pc, env with
    | 0, [.int a0, .int a1] => b_X10_needWhat_0 n (f_X10_needWhat n) a0 a1 P
    | 9, [.int a0, .int a1] => b_X10_needWhat_9 n (f_X10_needWhat n) a0 a1 P
    | _, _ => none
set_option maxHeartbeats 2000000 in
set_option maxRecDepth 20000 in
theorem t_X10_needWhat_0 {G : xG} {l : Launch} (hl : l.stackTraces = false) {n : Nat} {rec : Nat → List Value → xH → xO} (hrec : ∀ pc env P z, rec pc env P = some z → ∀ L st, lay_X10_needWhat pc env = some (L, st) → ∀ Q : xR → xH → Prop, Q z.1 z.2 → Wp G l 8 mX10_needWhat pc L st P Q) {a0 a1} {P : xH} {z : xR × xH} (h : b_X10_needWhat_0 n rec a0 a1 P = some z) {Q : xR → xH → Prop} (hQ : Q z.1 z.2) : Wp G l 8 mX10_needWhat 0 [some (.int a0), some (.int a1)] [] P Q := by
  unfold b_X10_needWhat_0 at h
  refine x_iload_n dX10_needWhat_0 rfl ?_
  refine x_if_lt 9 dX10_needWhat_1 (by decide) (fun q2 => ?_) (fun q2 => ?_)
  · rw [if_pos q2] at h
    exact Wp.mask [true, true] (hrec 9 _ _ _ h _ _ rfl _ hQ)
  · rw [if_neg q2] at h
    refine x_iload_n dX10_needWhat_4 rfl ?_
    refine x_iload_n dX10_needWhat_5 rfl ?_
    refine x_icmp_lt 20 dX10_needWhat_6 (by decide) (fun q1 => ?_) (fun q1 => ?_)
    · rw [if_pos q1] at h
      cases h
      exact x_ret rfl dX10_needWhat_20 hQ
    · rw [if_neg q1] at h
      exact Wp.mask [true, true] (hrec 9 _ _ _ h _ _ rfl _ hQ)
set_option maxHeartbeats 2000000 in
set_option maxRecDepth 20000 in
theorem t_X10_needWhat_9 {G : xG} {l : Launch} (hl : l.stackTraces = false) {n : Nat} {rec : Nat → List Value → xH → xO} (hrec : ∀ pc env P z, rec pc env P = some z → ∀ L st, lay_X10_needWhat pc env = some (L, st) → ∀ Q : xR → xH → Prop, Q z.1 z.2 → Wp G l 8 mX10_needWhat pc L st P Q) {a0 a1} {P : xH} {z : xR × xH} (h : b_X10_needWhat_9 n rec a0 a1 P = some z) {Q : xR → xH → Prop} (hQ : Q z.1 z.2) : Wp G l 8 mX10_needWhat 9 [some (.int a0), some (.int a1)] [] P Q := by
  unfold b_X10_needWhat_9 at h
  unfold tE at h
  split at h
  · rename_i hr9
    cases h
    exact x_throwX (k := 4) (i := 0) (ix := 13) (rx := xn_b) (names := ["java/lang/RuntimeException", "java/lang/Exception"]) (by decide +kernel) (by decide +kernel) (by decide +kernel) (by decide +kernel) rfl rfl rfl (by decide +kernel) (by decide +kernel) wk_X10_361 wini_E4 xn_words dX10_needWhat_9 dX10_needWhat_12 dX10_needWhat_13 dX10_needWhat_16 dX10_needWhat_19 (by decide) (by decide) hr9.1 hr9.2 hQ
  · cases h
theorem s_X10_needWhat {G : xG} {l : Launch} (hl : l.stackTraces = false) : ∀ n pc env P z, f_X10_needWhat n pc env P = some z → ∀ L st, lay_X10_needWhat pc env = some (L, st) → ∀ Q : xR → xH → Prop, Q z.1 z.2 → Wp G l 8 mX10_needWhat pc L st P Q := by
  intro n
  induction n with
  | zero => intro pc env P z h; cases h
  | succ n ih =>
    intro pc env P z h L st hlay Q hQ
    unfold f_X10_needWhat at h
    split at h
    · cases hlay
      exact t_X10_needWhat_0 hl ih h hQ
    · cases hlay
      exact t_X10_needWhat_9 hl ih h hQ
    · cases h
theorem c_X10_needWhat {G : xG} {l : Launch} (hl : l.stackTraces = false) {n : Nat} {as : List Value} {P : xH} {z : xR × xH} (h : f_X10_needWhat n 0 as P = some z) : Ct G l 8 mX10_needWhat as P (fun r P1 => (r, P1) = z) := by
  cases n with
  | zero => cases h
  | succ n =>
    unfold f_X10_needWhat at h
    split at h
    · exact Ct.of hl (by decide +kernel) wc_X10_needWhat (Nat.le_of_ble_eq_true rfl) (t_X10_needWhat_0 hl (s_X10_needWhat hl _) h rfl)
    all_goals first | (cases h; done) | (rename_i q9 _; exact absurd q9 (by decide)) | (rename_i q9; exact absurd q9 (by decide)) | contradiction
/-! QuakeNet.look(II)I -/
def b_X10_look_0 (n : Nat) (rec : Nat → List Value → xH → xO) (a0 : Nat) (a1 : Int32) (a2 : Int32) (P : xH) : xO :=
  (kO P a0 10).bind fun _ =>
  (f_X10_needPhone n 0 [.ref a0, .int a1] P).bind fun r2 => xUt r2 fun P1 =>
  (f_X10_needWhat n 0 [.int a2, .int 8] P1).bind fun r6 => xUt r6 fun P5 =>
  (rA P5 a0 10 1).bind fun v8 =>
  (rA P5 v8 7 3).bind fun v10 =>
  (rA P5 v10 1 5).bind fun v12 =>
  (aA P5 v12 a2).bind fun v14 =>
  (aI P5 v14 a1).bind fun v16 =>
  some (.inl (some (.int v16)), P5)
def lay_X10_look : Nat → List Value → Option (xL × List Value)
  | 0, [a0, a1, a2] => some ([some a0, some a1, some a2], [])
  | _, _ => none
def f_X10_look : Nat → Nat → List Value → xH → xO
  | 0 => fun _ _ _ => none
  | n + 1 => fun pc env P => match pc, env with
    | 0, [.ref a0, .int a1, .int a2] => b_X10_look_0 n (f_X10_look n) a0 a1 a2 P
    | _, _ => none
set_option maxHeartbeats 2000000 in
set_option maxRecDepth 20000 in
theorem t_X10_look_0 {G : xG} {l : Launch} (hl : l.stackTraces = false) {n : Nat} {rec : Nat → List Value → xH → xO} (hrec : ∀ pc env P z, rec pc env P = some z → ∀ L st, lay_X10_look pc env = some (L, st) → ∀ Q : xR → xH → Prop, Q z.1 z.2 → Wp G l 10 mX10_look pc L st P Q) {a0 a1 a2} {P : xH} {z : xR × xH} (h : b_X10_look_0 n rec a0 a1 a2 P = some z) {Q : xR → xH → Prop} (hQ : Q z.1 z.2) : Wp G l 10 mX10_look 0 [some (.ref a0), some (.int a1), some (.int a2)] [] P Q := by
  unfold b_X10_look_0 at h
  refine x_aload_nr dX10_look_0 rfl ?_
  refine x_iload_n dX10_look_1 rfl ?_
  obtain ⟨_, e4, h⟩ := Option.bind_eq_some_iff.mp h
  obtain ⟨fse4, e4⟩ := kO_ok e4
  obtain ⟨r2, e3, h⟩ := Option.bind_eq_some_iff.mp h
  replace h := xUt_ok h
  rcases h with ⟨P1, hr9, h⟩ | ⟨i8, P8, rfl, rfl⟩
  · subst hr9
    refine x_callV (c_X10_needPhone hl e3) dX10_look_2 cw_X10_needPhone wl_X10_90 wi_X10_needPhone wse_X10_needPhone rfl e4 (by decide) rfl (by omega) (by decide) rfl (Nat.le_of_ble_eq_true rfl) rfl (fun v9 P9 hq9 => ?_) (fun i9 P9 hq9 => by cases hq9)
    cases hq9
    refine x_iload_n dX10_look_5 rfl ?_
    refine x_bipush 8 dX10_look_6 (by decide) ?_
    obtain ⟨r6, e7, h⟩ := Option.bind_eq_some_iff.mp h
    replace h := xUt_ok h
    rcases h with ⟨P5, hr9, h⟩ | ⟨i8, P8, rfl, rfl⟩
    · subst hr9
      refine x_callS (c_X10_needWhat hl e7) dX10_look_8 cw_X10_needWhat wl_X10_154 ws_X10_needWhat rfl (by omega) (by decide) rfl (Nat.le_of_ble_eq_true rfl) rfl (fun v9 P9 hq9 => ?_) (fun i9 P9 hq9 => by cases hq9)
      cases hq9
      refine x_aload_nr dX10_look_11 rfl ?_
      obtain ⟨v8, e9, h⟩ := Option.bind_eq_some_iff.mp h
      refine k_rA e9 dX10_look_12 f_X10_19 ?_
      obtain ⟨v10, e11, h⟩ := Option.bind_eq_some_iff.mp h
      refine k_rA e11 dX10_look_15 f_X10_42 ?_
      obtain ⟨v12, e13, h⟩ := Option.bind_eq_some_iff.mp h
      refine k_rA e13 dX10_look_18 f_X10_157 ?_
      refine x_iload_n dX10_look_21 rfl ?_
      obtain ⟨v14, e15, h⟩ := Option.bind_eq_some_iff.mp h
      refine k_aA e15 dX10_look_22 ?_
      refine x_iload_n dX10_look_23 rfl ?_
      obtain ⟨v16, e17, h⟩ := Option.bind_eq_some_iff.mp h
      refine k_aI e17 dX10_look_24 ?_
      cases h
      exact x_iret .int rfl rfl dX10_look_25 hQ
    · exact x_callS (c_X10_needWhat hl e7) dX10_look_8 cw_X10_needWhat wl_X10_154 ws_X10_needWhat rfl (by omega) (by decide) rfl (Nat.le_of_ble_eq_true rfl) rfl (fun v9 P9 hq9 => by cases hq9) (fun i9 P9 hq9 => by cases hq9; exact hQ)
  · exact x_callV (c_X10_needPhone hl e3) dX10_look_2 cw_X10_needPhone wl_X10_90 wi_X10_needPhone wse_X10_needPhone rfl e4 (by decide) rfl (by omega) (by decide) rfl (Nat.le_of_ble_eq_true rfl) rfl (fun v9 P9 hq9 => by cases hq9) (fun i9 P9 hq9 => by cases hq9; exact hQ)
theorem s_X10_look {G : xG} {l : Launch} (hl : l.stackTraces = false) : ∀ n pc env P z, f_X10_look n pc env P = some z → ∀ L st, lay_X10_look pc env = some (L, st) → ∀ Q : xR → xH → Prop, Q z.1 z.2 → Wp G l 10 mX10_look pc L st P Q := by
  intro n
  induction n with
  | zero => intro pc env P z h; cases h
  | succ n ih =>
    intro pc env P z h L st hlay Q hQ
    unfold f_X10_look at h
    split at h
    · cases hlay
      exact t_X10_look_0 hl ih h hQ
    · cases h
theorem c_X10_look {G : xG} {l : Launch} (hl : l.stackTraces = false) {n : Nat} {as : List Value} {P : xH} {z : xR × xH} (h : f_X10_look n 0 as P = some z) : Ct G l 10 mX10_look as P (fun r P1 => (r, P1) = z) := by
  cases n with
  | zero => cases h
  | succ n =>
    unfold f_X10_look at h
    split at h
    · exact Ct.of hl (by decide +kernel) wc_X10_look (Nat.le_of_ble_eq_true rfl) (t_X10_look_0 hl (s_X10_look hl _) h rfl)
    all_goals first | (cases h; done) | (rename_i q9 _; exact absurd q9 (by decide)) | (rename_i q9; exact absurd q9 (by decide)) | contradiction
/-! QuakeNet.copy(III)I -/
def b_X10_copy_0 (n : Nat) (rec : Nat → List Value → xH → xO) (a0 : Nat) (a1 : Int32) (a2 : Int32) (a3 : Int32) (P : xH) : xO :=
  (kO P a0 10).bind fun _ =>
  (f_X10_needPhone n 0 [.ref a0, .int a1] P).bind fun r2 => xUt r2 fun P1 =>
  (kO P1 a0 10).bind fun _ =>
  (f_X10_needWord n 0 [.ref a0, .int a2] P1).bind fun r6 => xUt r6 fun P5 =>
  (f_X10_needWhat n 0 [.int a3, .int 6] P5).bind fun r10 => xUt r10 fun P9 =>
  (rA P9 a0 10 1).bind fun v12 =>
  (rA P9 v12 7 3).bind fun v14 =>
  (kO P9 v14 1).bind fun _ =>
  (f_X1_carries n 0 [.ref v14, .int a1, .int a2] P9).bind fun r17 => xI r17 fun v19 P16 =>
  if ¬ v19 = 0 then
    if 4 ≤ a3 then
      (rA P16 a0 10 1).bind fun v21 =>
      (rA P16 v21 7 3).bind fun v23 =>
      (kO P16 v23 1).bind fun _ =>
      (f_X1_loadFacts n 0 [.ref v23, .int a1, .int a2] P16).bind fun r26 => xU r26 fun P25 =>
      if ¬ a3 = 4 then
        (rA P25 a0 10 1).bind fun v29 =>
        (rA P25 v29 7 0).bind fun v31 =>
        (kO P25 v31 5).bind fun _ =>
        (f_X5_lets n 0 [.ref v31] P25).bind fun r34 => xI r34 fun v36 P33 =>
        if v36 = 0 then
          some (.inl (some (.int 0)), P33)
        else
          some (.inl (some (.int 1)), P33)
      else
        (rA P25 a0 10 1).bind fun v39 =>
        (rA P25 v39 7 0).bind fun v41 =>
        (kO P25 v41 5).bind fun _ =>
        (f_X5_mark n 0 [.ref v41] P25).bind fun r44 => xI r44 fun v46 P43 =>
        some (.inl (some (.int v46)), P43)
    else
      (rA P16 a0 10 1).bind fun v49 =>
      (rA P16 v49 7 3).bind fun v51 =>
      (rA P16 v51 1 6).bind fun v53 =>
      (aA P16 v53 a3).bind fun v55 =>
      (f_X1_cell n 0 [.int a1, .int a2] P16).bind fun r58 => xI r58 fun v60 P57 =>
      (aI P57 v55 v60).bind fun v61 =>
      some (.inl (some (.int v61)), P57)
  else
    some (.inl (some (.int ((-1)))), P16)
def lay_X10_copy : Nat → List Value → Option (xL × List Value)
  | 0, [a0, a1, a2, a3] => some ([some a0, some a1, some a2, some a3], [])
  | _, _ => none
def f_X10_copy : Nat → Nat → List Value → xH → xO
  | 0 => fun _ _ _ => none
  | n + 1 => fun pc env P => match pc, env with
    | 0, [.ref a0, .int a1, .int a2, .int a3] => b_X10_copy_0 n (f_X10_copy n) a0 a1 a2 a3 P
    | _, _ => none
set_option maxHeartbeats 2000000 in
set_option maxRecDepth 20000 in
theorem t_X10_copy_0 {G : xG} {l : Launch} (hl : l.stackTraces = false) {n : Nat} {rec : Nat → List Value → xH → xO} (hrec : ∀ pc env P z, rec pc env P = some z → ∀ L st, lay_X10_copy pc env = some (L, st) → ∀ Q : xR → xH → Prop, Q z.1 z.2 → Wp G l 10 mX10_copy pc L st P Q) {a0 a1 a2 a3} {P : xH} {z : xR × xH} (h : b_X10_copy_0 n rec a0 a1 a2 a3 P = some z) {Q : xR → xH → Prop} (hQ : Q z.1 z.2) : Wp G l 10 mX10_copy 0 [some (.ref a0), some (.int a1), some (.int a2), some (.int a3)] [] P Q := by
  unfold b_X10_copy_0 at h
  refine x_aload_nr dX10_copy_0 rfl ?_
  refine x_iload_n dX10_copy_1 rfl ?_
  obtain ⟨_, e4, h⟩ := Option.bind_eq_some_iff.mp h
  obtain ⟨fse4, e4⟩ := kO_ok e4
  obtain ⟨r2, e3, h⟩ := Option.bind_eq_some_iff.mp h
  replace h := xUt_ok h
  rcases h with ⟨P1, hr9, h⟩ | ⟨i8, P8, rfl, rfl⟩
  · subst hr9
    refine x_callV (c_X10_needPhone hl e3) dX10_copy_2 cw_X10_needPhone wl_X10_90 wi_X10_needPhone wse_X10_needPhone rfl e4 (by decide) rfl (by omega) (by decide) rfl (Nat.le_of_ble_eq_true rfl) rfl (fun v9 P9 hq9 => ?_) (fun i9 P9 hq9 => by cases hq9)
    cases hq9
    refine x_aload_nr dX10_copy_5 rfl ?_
    refine x_iload_n dX10_copy_6 rfl ?_
    obtain ⟨_, e8, h⟩ := Option.bind_eq_some_iff.mp h
    obtain ⟨fse8, e8⟩ := kO_ok e8
    obtain ⟨r6, e7, h⟩ := Option.bind_eq_some_iff.mp h
    replace h := xUt_ok h
    rcases h with ⟨P5, hr9, h⟩ | ⟨i8, P8, rfl, rfl⟩
    · subst hr9
      refine x_callV (c_X10_needWord hl e7) dX10_copy_7 cw_X10_needWord wl_X10_141 wi_X10_needWord wse_X10_needWord rfl e8 (by decide) rfl (by omega) (by decide) rfl (Nat.le_of_ble_eq_true rfl) rfl (fun v9 P9 hq9 => ?_) (fun i9 P9 hq9 => by cases hq9)
      cases hq9
      refine x_iload_n dX10_copy_10 rfl ?_
      refine x_bipush 6 dX10_copy_11 (by decide) ?_
      obtain ⟨r10, e11, h⟩ := Option.bind_eq_some_iff.mp h
      replace h := xUt_ok h
      rcases h with ⟨P9, hr9, h⟩ | ⟨i8, P8, rfl, rfl⟩
      · subst hr9
        refine x_callS (c_X10_needWhat hl e11) dX10_copy_13 cw_X10_needWhat wl_X10_154 ws_X10_needWhat rfl (by omega) (by decide) rfl (Nat.le_of_ble_eq_true rfl) rfl (fun v9 P9 hq9 => ?_) (fun i9 P9 hq9 => by cases hq9)
        cases hq9
        refine x_aload_nr dX10_copy_16 rfl ?_
        obtain ⟨v12, e13, h⟩ := Option.bind_eq_some_iff.mp h
        refine k_rA e13 dX10_copy_17 f_X10_19 ?_
        obtain ⟨v14, e15, h⟩ := Option.bind_eq_some_iff.mp h
        refine k_rA e15 dX10_copy_20 f_X10_42 ?_
        refine x_iload_n dX10_copy_23 rfl ?_
        refine x_iload_n dX10_copy_24 rfl ?_
        obtain ⟨_, e20, h⟩ := Option.bind_eq_some_iff.mp h
        obtain ⟨fse20, e20⟩ := kO_ok e20
        obtain ⟨r17, e18, h⟩ := Option.bind_eq_some_iff.mp h
        replace h := xI_ok h
        obtain ⟨v19, P16, rfl, h⟩ := h
        refine x_callV (c_X1_carries hl e18) dX10_copy_25 cw_X1_carries wl_X10_160 wi_X1_carries wse_X1_carries rfl e20 (by decide) rfl (by omega) (by decide) rfl (Nat.le_of_ble_eq_true rfl) rfl (fun v9 P9 hq9 => ?_) (fun i9 P9 hq9 => by cases hq9)
        cases hq9
        refine x_if_ne 33 dX10_copy_28 (by decide) (fun q64 => ?_) (fun q64 => ?_)
        · rw [if_pos q64] at h
          refine x_iload_n dX10_copy_33 rfl ?_
          refine x_iconst 4 dX10_copy_34 (by decide) ?_
          refine x_icmp_ge 57 dX10_copy_35 (by decide) (fun q63 => ?_) (fun q63 => ?_)
          · rw [if_pos q63] at h
            refine x_aload_nr dX10_copy_57 rfl ?_
            obtain ⟨v21, e22, h⟩ := Option.bind_eq_some_iff.mp h
            refine k_rA e22 dX10_copy_58 f_X10_19 ?_
            obtain ⟨v23, e24, h⟩ := Option.bind_eq_some_iff.mp h
            refine k_rA e24 dX10_copy_61 f_X10_42 ?_
            refine x_iload_n dX10_copy_64 rfl ?_
            refine x_iload_n dX10_copy_65 rfl ?_
            obtain ⟨_, e28, h⟩ := Option.bind_eq_some_iff.mp h
            obtain ⟨fse28, e28⟩ := kO_ok e28
            obtain ⟨r26, e27, h⟩ := Option.bind_eq_some_iff.mp h
            replace h := xU_ok h
            obtain ⟨P25, rfl, h⟩ := h
            refine x_callV (c_X1_loadFacts hl e27) dX10_copy_66 cw_X1_loadFacts wl_X10_171 wi_X1_loadFacts wse_X1_loadFacts rfl e28 (by decide) rfl (by omega) (by decide) rfl (Nat.le_of_ble_eq_true rfl) rfl (fun v9 P9 hq9 => ?_) (fun i9 P9 hq9 => by cases hq9)
            cases hq9
            refine x_iload_n dX10_copy_69 rfl ?_
            refine x_iconst 4 dX10_copy_70 (by decide) ?_
            refine x_icmp_ne 85 dX10_copy_71 (by decide) (fun q48 => ?_) (fun q48 => ?_)
            · rw [if_pos q48] at h
              refine x_aload_nr dX10_copy_85 rfl ?_
              obtain ⟨v29, e30, h⟩ := Option.bind_eq_some_iff.mp h
              refine k_rA e30 dX10_copy_86 f_X10_19 ?_
              obtain ⟨v31, e32, h⟩ := Option.bind_eq_some_iff.mp h
              refine k_rA e32 dX10_copy_89 f_X10_29 ?_
              obtain ⟨_, e37, h⟩ := Option.bind_eq_some_iff.mp h
              obtain ⟨fse37, e37⟩ := kO_ok e37
              obtain ⟨r34, e35, h⟩ := Option.bind_eq_some_iff.mp h
              replace h := xI_ok h
              obtain ⟨v36, P33, rfl, h⟩ := h
              refine x_callV (c_X5_lets hl e35) dX10_copy_92 cw_X5_lets wl_X10_178 wi_X5_lets wse_X5_lets rfl e37 (by decide) rfl (by omega) (by decide) rfl (Nat.le_of_ble_eq_true rfl) rfl (fun v9 P9 hq9 => ?_) (fun i9 P9 hq9 => by cases hq9)
              cases hq9
              refine x_if_eq 102 dX10_copy_95 (by decide) (fun q38 => ?_) (fun q38 => ?_)
              · rw [if_pos q38] at h
                refine x_iconst 0 dX10_copy_102 (by decide) ?_
                cases h
                exact x_iret .int rfl rfl dX10_copy_103 hQ
              · rw [if_neg q38] at h
                refine x_iconst 1 dX10_copy_98 (by decide) ?_
                refine x_goto 103 dX10_copy_99 (by decide) ?_
                cases h
                exact x_iret .int rfl rfl dX10_copy_103 hQ
            · rw [if_neg (fun z9 => z9 q48)] at h
              refine x_aload_nr dX10_copy_74 rfl ?_
              obtain ⟨v39, e40, h⟩ := Option.bind_eq_some_iff.mp h
              refine k_rA e40 dX10_copy_75 f_X10_19 ?_
              obtain ⟨v41, e42, h⟩ := Option.bind_eq_some_iff.mp h
              refine k_rA e42 dX10_copy_78 f_X10_29 ?_
              obtain ⟨_, e47, h⟩ := Option.bind_eq_some_iff.mp h
              obtain ⟨fse47, e47⟩ := kO_ok e47
              obtain ⟨r44, e45, h⟩ := Option.bind_eq_some_iff.mp h
              replace h := xI_ok h
              obtain ⟨v46, P43, rfl, h⟩ := h
              refine x_callV (c_X5_mark hl e45) dX10_copy_81 cw_X5_mark wl_X10_174 wi_X5_mark wse_X5_mark rfl e47 (by decide) rfl (by omega) (by decide) rfl (Nat.le_of_ble_eq_true rfl) rfl (fun v9 P9 hq9 => ?_) (fun i9 P9 hq9 => by cases hq9)
              cases hq9
              cases h
              exact x_iret .int rfl rfl dX10_copy_84 hQ
          · rw [if_neg q63] at h
            refine x_aload_nr dX10_copy_38 rfl ?_
            obtain ⟨v49, e50, h⟩ := Option.bind_eq_some_iff.mp h
            refine k_rA e50 dX10_copy_39 f_X10_19 ?_
            obtain ⟨v51, e52, h⟩ := Option.bind_eq_some_iff.mp h
            refine k_rA e52 dX10_copy_42 f_X10_42 ?_
            obtain ⟨v53, e54, h⟩ := Option.bind_eq_some_iff.mp h
            refine k_rA e54 dX10_copy_45 f_X10_164 ?_
            refine x_iload_n dX10_copy_48 rfl ?_
            obtain ⟨v55, e56, h⟩ := Option.bind_eq_some_iff.mp h
            refine k_aA e56 dX10_copy_49 ?_
            refine x_iload_n dX10_copy_50 rfl ?_
            refine x_iload_n dX10_copy_51 rfl ?_
            obtain ⟨r58, e59, h⟩ := Option.bind_eq_some_iff.mp h
            replace h := xI_ok h
            obtain ⟨v60, P57, rfl, h⟩ := h
            refine x_callS (c_X1_cell hl e59) dX10_copy_52 cw_X1_cell wl_X10_167 ws_X1_cell rfl (by omega) (by decide) rfl (Nat.le_of_ble_eq_true rfl) rfl (fun v9 P9 hq9 => ?_) (fun i9 P9 hq9 => by cases hq9)
            cases hq9
            obtain ⟨v61, e62, h⟩ := Option.bind_eq_some_iff.mp h
            refine k_aI e62 dX10_copy_55 ?_
            cases h
            exact x_iret .int rfl rfl dX10_copy_56 hQ
        · rw [if_neg (fun z9 => z9 q64)] at h
          refine x_iconst (-1) dX10_copy_31 (by decide) ?_
          cases h
          exact x_iret .int rfl rfl dX10_copy_32 hQ
      · exact x_callS (c_X10_needWhat hl e11) dX10_copy_13 cw_X10_needWhat wl_X10_154 ws_X10_needWhat rfl (by omega) (by decide) rfl (Nat.le_of_ble_eq_true rfl) rfl (fun v9 P9 hq9 => by cases hq9) (fun i9 P9 hq9 => by cases hq9; exact hQ)
    · exact x_callV (c_X10_needWord hl e7) dX10_copy_7 cw_X10_needWord wl_X10_141 wi_X10_needWord wse_X10_needWord rfl e8 (by decide) rfl (by omega) (by decide) rfl (Nat.le_of_ble_eq_true rfl) rfl (fun v9 P9 hq9 => by cases hq9) (fun i9 P9 hq9 => by cases hq9; exact hQ)
  · exact x_callV (c_X10_needPhone hl e3) dX10_copy_2 cw_X10_needPhone wl_X10_90 wi_X10_needPhone wse_X10_needPhone rfl e4 (by decide) rfl (by omega) (by decide) rfl (Nat.le_of_ble_eq_true rfl) rfl (fun v9 P9 hq9 => by cases hq9) (fun i9 P9 hq9 => by cases hq9; exact hQ)
theorem s_X10_copy {G : xG} {l : Launch} (hl : l.stackTraces = false) : ∀ n pc env P z, f_X10_copy n pc env P = some z → ∀ L st, lay_X10_copy pc env = some (L, st) → ∀ Q : xR → xH → Prop, Q z.1 z.2 → Wp G l 10 mX10_copy pc L st P Q := by
  intro n
  induction n with
  | zero => intro pc env P z h; cases h
  | succ n ih =>
    intro pc env P z h L st hlay Q hQ
    unfold f_X10_copy at h
    split at h
    · cases hlay
      exact t_X10_copy_0 hl ih h hQ
    · cases h
theorem c_X10_copy {G : xG} {l : Launch} (hl : l.stackTraces = false) {n : Nat} {as : List Value} {P : xH} {z : xR × xH} (h : f_X10_copy n 0 as P = some z) : Ct G l 10 mX10_copy as P (fun r P1 => (r, P1) = z) := by
  cases n with
  | zero => cases h
  | succ n =>
    unfold f_X10_copy at h
    split at h
    · exact Ct.of hl (by decide +kernel) wc_X10_copy (Nat.le_of_ble_eq_true rfl) (t_X10_copy_0 hl (s_X10_copy hl _) h rfl)
    all_goals first | (cases h; done) | (rename_i q9 _; exact absurd q9 (by decide)) | (rename_i q9; exact absurd q9 (by decide)) | contradiction
/-! QuakeNet.word(II)I -/
def b_X10_word_0 (n : Nat) (rec : Nat → List Value → xH → xO) (a0 : Nat) (a1 : Int32) (a2 : Int32) (P : xH) : xO :=
  (kO P a0 10).bind fun _ =>
  (f_X10_needWord n 0 [.ref a0, .int a1] P).bind fun r2 => xUt r2 fun P1 =>
  (f_X10_needWhat n 0 [.int a2, .int 11] P1).bind fun r6 => xUt r6 fun P5 =>
  if 9 ≤ a2 then
    if ¬ a2 = 9 then
      (rA P5 a0 10 1).bind fun v8 =>
      (rA P5 v8 7 1).bind fun v10 =>
      (rA P5 a0 10 1).bind fun v12 =>
      (rA P5 v12 7 3).bind fun v14 =>
      (rI P5 v14 1 2).bind fun v16 =>
      (kO P5 v10 9).bind fun _ =>
      (f_X9_isDead n 0 [.ref v10, .int a1, .int v16] P5).bind fun r19 => xI r19 fun v21 P18 =>
      if v21 = 0 then
        some (.inl (some (.int 0)), P18)
      else
        some (.inl (some (.int 1)), P18)
    else
      (rA P5 a0 10 1).bind fun v24 =>
      (rA P5 v24 7 3).bind fun v26 =>
      (rA P5 v26 1 9).bind fun v28 =>
      (aI P5 v28 a1).bind fun v30 =>
      some (.inl (some (.int v30)), P5)
  else
    (rA P5 a0 10 1).bind fun v33 =>
    (rA P5 v33 7 1).bind fun v35 =>
    (rA P5 v35 9 0).bind fun v37 =>
    (aA P5 v37 a2).bind fun v39 =>
    (aI P5 v39 a1).bind fun v41 =>
    some (.inl (some (.int v41)), P5)
def lay_X10_word : Nat → List Value → Option (xL × List Value)
  | 0, [a0, a1, a2] => some ([some a0, some a1, some a2], [])
  | _, _ => none
def f_X10_word : Nat → Nat → List Value → xH → xO
  | 0 => fun _ _ _ => none
  | n + 1 => fun pc env P => match pc, env with
    | 0, [.ref a0, .int a1, .int a2] => b_X10_word_0 n (f_X10_word n) a0 a1 a2 P
    | _, _ => none
set_option maxHeartbeats 2000000 in
set_option maxRecDepth 20000 in
theorem t_X10_word_0 {G : xG} {l : Launch} (hl : l.stackTraces = false) {n : Nat} {rec : Nat → List Value → xH → xO} (hrec : ∀ pc env P z, rec pc env P = some z → ∀ L st, lay_X10_word pc env = some (L, st) → ∀ Q : xR → xH → Prop, Q z.1 z.2 → Wp G l 10 mX10_word pc L st P Q) {a0 a1 a2} {P : xH} {z : xR × xH} (h : b_X10_word_0 n rec a0 a1 a2 P = some z) {Q : xR → xH → Prop} (hQ : Q z.1 z.2) : Wp G l 10 mX10_word 0 [some (.ref a0), some (.int a1), some (.int a2)] [] P Q := by
  unfold b_X10_word_0 at h
  refine x_aload_nr dX10_word_0 rfl ?_
  refine x_iload_n dX10_word_1 rfl ?_
  obtain ⟨_, e4, h⟩ := Option.bind_eq_some_iff.mp h
  obtain ⟨fse4, e4⟩ := kO_ok e4
  obtain ⟨r2, e3, h⟩ := Option.bind_eq_some_iff.mp h
  replace h := xUt_ok h
  rcases h with ⟨P1, hr9, h⟩ | ⟨i8, P8, rfl, rfl⟩
  · subst hr9
    refine x_callV (c_X10_needWord hl e3) dX10_word_2 cw_X10_needWord wl_X10_141 wi_X10_needWord wse_X10_needWord rfl e4 (by decide) rfl (by omega) (by decide) rfl (Nat.le_of_ble_eq_true rfl) rfl (fun v9 P9 hq9 => ?_) (fun i9 P9 hq9 => by cases hq9)
    cases hq9
    refine x_iload_n dX10_word_5 rfl ?_
    refine x_bipush 11 dX10_word_6 (by decide) ?_
    obtain ⟨r6, e7, h⟩ := Option.bind_eq_some_iff.mp h
    replace h := xUt_ok h
    rcases h with ⟨P5, hr9, h⟩ | ⟨i8, P8, rfl, rfl⟩
    · subst hr9
      refine x_callS (c_X10_needWhat hl e7) dX10_word_8 cw_X10_needWhat wl_X10_154 ws_X10_needWhat rfl (by omega) (by decide) rfl (Nat.le_of_ble_eq_true rfl) rfl (fun v9 P9 hq9 => ?_) (fun i9 P9 hq9 => by cases hq9)
      cases hq9
      refine x_iload_n dX10_word_11 rfl ?_
      refine x_bipush 9 dX10_word_12 (by decide) ?_
      refine x_icmp_ge 32 dX10_word_14 (by decide) (fun q43 => ?_) (fun q43 => ?_)
      · rw [if_pos q43] at h
        refine x_iload_n dX10_word_32 rfl ?_
        refine x_bipush 9 dX10_word_33 (by decide) ?_
        refine x_icmp_ne 51 dX10_word_35 (by decide) (fun q32 => ?_) (fun q32 => ?_)
        · rw [if_pos q32] at h
          refine x_aload_nr dX10_word_51 rfl ?_
          obtain ⟨v8, e9, h⟩ := Option.bind_eq_some_iff.mp h
          refine k_rA e9 dX10_word_52 f_X10_19 ?_
          obtain ⟨v10, e11, h⟩ := Option.bind_eq_some_iff.mp h
          refine k_rA e11 dX10_word_55 f_X10_25 ?_
          refine x_iload_n dX10_word_58 rfl ?_
          refine x_aload_nr dX10_word_59 rfl ?_
          obtain ⟨v12, e13, h⟩ := Option.bind_eq_some_iff.mp h
          refine k_rA e13 dX10_word_60 f_X10_19 ?_
          obtain ⟨v14, e15, h⟩ := Option.bind_eq_some_iff.mp h
          refine k_rA e15 dX10_word_63 f_X10_42 ?_
          obtain ⟨v16, e17, h⟩ := Option.bind_eq_some_iff.mp h
          refine k_rI e17 dX10_word_66 f_X10_93 ?_
          obtain ⟨_, e22, h⟩ := Option.bind_eq_some_iff.mp h
          obtain ⟨fse22, e22⟩ := kO_ok e22
          obtain ⟨r19, e20, h⟩ := Option.bind_eq_some_iff.mp h
          replace h := xI_ok h
          obtain ⟨v21, P18, rfl, h⟩ := h
          refine x_callV (c_X9_isDead hl e20) dX10_word_69 cw_X9_isDead wl_X10_185 wi_X9_isDead wse_X9_isDead rfl e22 (by decide) rfl (by omega) (by decide) rfl (Nat.le_of_ble_eq_true rfl) rfl (fun v9 P9 hq9 => ?_) (fun i9 P9 hq9 => by cases hq9)
          cases hq9
          refine x_if_eq 79 dX10_word_72 (by decide) (fun q23 => ?_) (fun q23 => ?_)
          · rw [if_pos q23] at h
            refine x_iconst 0 dX10_word_79 (by decide) ?_
            cases h
            exact x_iret .int rfl rfl dX10_word_80 hQ
          · rw [if_neg q23] at h
            refine x_iconst 1 dX10_word_75 (by decide) ?_
            refine x_goto 80 dX10_word_76 (by decide) ?_
            cases h
            exact x_iret .int rfl rfl dX10_word_80 hQ
        · rw [if_neg (fun z9 => z9 q32)] at h
          refine x_aload_nr dX10_word_38 rfl ?_
          obtain ⟨v24, e25, h⟩ := Option.bind_eq_some_iff.mp h
          refine k_rA e25 dX10_word_39 f_X10_19 ?_
          obtain ⟨v26, e27, h⟩ := Option.bind_eq_some_iff.mp h
          refine k_rA e27 dX10_word_42 f_X10_42 ?_
          obtain ⟨v28, e29, h⟩ := Option.bind_eq_some_iff.mp h
          refine k_rA e29 dX10_word_45 f_X10_181 ?_
          refine x_iload_n dX10_word_48 rfl ?_
          obtain ⟨v30, e31, h⟩ := Option.bind_eq_some_iff.mp h
          refine k_aI e31 dX10_word_49 ?_
          cases h
          exact x_iret .int rfl rfl dX10_word_50 hQ
      · rw [if_neg q43] at h
        refine x_aload_nr dX10_word_17 rfl ?_
        obtain ⟨v33, e34, h⟩ := Option.bind_eq_some_iff.mp h
        refine k_rA e34 dX10_word_18 f_X10_19 ?_
        obtain ⟨v35, e36, h⟩ := Option.bind_eq_some_iff.mp h
        refine k_rA e36 dX10_word_21 f_X10_25 ?_
        obtain ⟨v37, e38, h⟩ := Option.bind_eq_some_iff.mp h
        refine k_rA e38 dX10_word_24 f_X10_144 ?_
        refine x_iload_n dX10_word_27 rfl ?_
        obtain ⟨v39, e40, h⟩ := Option.bind_eq_some_iff.mp h
        refine k_aA e40 dX10_word_28 ?_
        refine x_iload_n dX10_word_29 rfl ?_
        obtain ⟨v41, e42, h⟩ := Option.bind_eq_some_iff.mp h
        refine k_aI e42 dX10_word_30 ?_
        cases h
        exact x_iret .int rfl rfl dX10_word_31 hQ
    · exact x_callS (c_X10_needWhat hl e7) dX10_word_8 cw_X10_needWhat wl_X10_154 ws_X10_needWhat rfl (by omega) (by decide) rfl (Nat.le_of_ble_eq_true rfl) rfl (fun v9 P9 hq9 => by cases hq9) (fun i9 P9 hq9 => by cases hq9; exact hQ)
  · exact x_callV (c_X10_needWord hl e3) dX10_word_2 cw_X10_needWord wl_X10_141 wi_X10_needWord wse_X10_needWord rfl e4 (by decide) rfl (by omega) (by decide) rfl (Nat.le_of_ble_eq_true rfl) rfl (fun v9 P9 hq9 => by cases hq9) (fun i9 P9 hq9 => by cases hq9; exact hQ)
theorem s_X10_word {G : xG} {l : Launch} (hl : l.stackTraces = false) : ∀ n pc env P z, f_X10_word n pc env P = some z → ∀ L st, lay_X10_word pc env = some (L, st) → ∀ Q : xR → xH → Prop, Q z.1 z.2 → Wp G l 10 mX10_word pc L st P Q := by
  intro n
  induction n with
  | zero => intro pc env P z h; cases h
  | succ n ih =>
    intro pc env P z h L st hlay Q hQ
    unfold f_X10_word at h
    split at h
    · cases hlay
      exact t_X10_word_0 hl ih h hQ
    · cases h
theorem c_X10_word {G : xG} {l : Launch} (hl : l.stackTraces = false) {n : Nat} {as : List Value} {P : xH} {z : xR × xH} (h : f_X10_word n 0 as P = some z) : Ct G l 10 mX10_word as P (fun r P1 => (r, P1) = z) := by
  cases n with
  | zero => cases h
  | succ n =>
    unfold f_X10_word at h
    split at h
    · exact Ct.of hl (by decide +kernel) wc_X10_word (Nat.le_of_ble_eq_true rfl) (t_X10_word_0 hl (s_X10_word hl _) h rfl)
    all_goals first | (cases h; done) | (rename_i q9 _; exact absurd q9 (by decide)) | (rename_i q9; exact absurd q9 (by decide)) | contradiction
/-! QuakeNet.had(I)I -/
def b_X10_had_0 (n : Nat) (rec : Nat → List Value → xH → xO) (a0 : Nat) (a1 : Int32) (P : xH) : xO :=
  (kO P a0 10).bind fun _ =>
  (f_X10_needWord n 0 [.ref a0, .int a1] P).bind fun r2 => xUt r2 fun P1 =>
  (rA P1 a0 10 1).bind fun v5 =>
  (rA P1 v5 7 3).bind fun v7 =>
  (rA P1 v7 1 10).bind fun v9 =>
  (aI P1 v9 a1).bind fun v11 =>
  some (.inl (some (.int v11)), P1)
def lay_X10_had : Nat → List Value → Option (xL × List Value)
  | 0, [a0, a1] => some ([some a0, some a1], [])
  | _, _ => none
def f_X10_had : Nat → Nat → List Value → xH → xO
  | 0 => fun _ _ _ => none
  | n + 1 => fun pc env P => match pc, env with
    | 0, [.ref a0, .int a1] => b_X10_had_0 n (f_X10_had n) a0 a1 P
    | _, _ => none
set_option maxHeartbeats 2000000 in
set_option maxRecDepth 20000 in
theorem t_X10_had_0 {G : xG} {l : Launch} (hl : l.stackTraces = false) {n : Nat} {rec : Nat → List Value → xH → xO} (hrec : ∀ pc env P z, rec pc env P = some z → ∀ L st, lay_X10_had pc env = some (L, st) → ∀ Q : xR → xH → Prop, Q z.1 z.2 → Wp G l 10 mX10_had pc L st P Q) {a0 a1} {P : xH} {z : xR × xH} (h : b_X10_had_0 n rec a0 a1 P = some z) {Q : xR → xH → Prop} (hQ : Q z.1 z.2) : Wp G l 10 mX10_had 0 [some (.ref a0), some (.int a1)] [] P Q := by
  unfold b_X10_had_0 at h
  refine x_aload_nr dX10_had_0 rfl ?_
  refine x_iload_n dX10_had_1 rfl ?_
  obtain ⟨_, e4, h⟩ := Option.bind_eq_some_iff.mp h
  obtain ⟨fse4, e4⟩ := kO_ok e4
  obtain ⟨r2, e3, h⟩ := Option.bind_eq_some_iff.mp h
  replace h := xUt_ok h
  rcases h with ⟨P1, hr9, h⟩ | ⟨i8, P8, rfl, rfl⟩
  · subst hr9
    refine x_callV (c_X10_needWord hl e3) dX10_had_2 cw_X10_needWord wl_X10_141 wi_X10_needWord wse_X10_needWord rfl e4 (by decide) rfl (by omega) (by decide) rfl (Nat.le_of_ble_eq_true rfl) rfl (fun v9 P9 hq9 => ?_) (fun i9 P9 hq9 => by cases hq9)
    cases hq9
    refine x_aload_nr dX10_had_5 rfl ?_
    obtain ⟨v5, e6, h⟩ := Option.bind_eq_some_iff.mp h
    refine k_rA e6 dX10_had_6 f_X10_19 ?_
    obtain ⟨v7, e8, h⟩ := Option.bind_eq_some_iff.mp h
    refine k_rA e8 dX10_had_9 f_X10_42 ?_
    obtain ⟨v9, e10, h⟩ := Option.bind_eq_some_iff.mp h
    refine k_rA e10 dX10_had_12 f_X10_188 ?_
    refine x_iload_n dX10_had_15 rfl ?_
    obtain ⟨v11, e12, h⟩ := Option.bind_eq_some_iff.mp h
    refine k_aI e12 dX10_had_16 ?_
    cases h
    exact x_iret .int rfl rfl dX10_had_17 hQ
  · exact x_callV (c_X10_needWord hl e3) dX10_had_2 cw_X10_needWord wl_X10_141 wi_X10_needWord wse_X10_needWord rfl e4 (by decide) rfl (by omega) (by decide) rfl (Nat.le_of_ble_eq_true rfl) rfl (fun v9 P9 hq9 => by cases hq9) (fun i9 P9 hq9 => by cases hq9; exact hQ)
theorem s_X10_had {G : xG} {l : Launch} (hl : l.stackTraces = false) : ∀ n pc env P z, f_X10_had n pc env P = some z → ∀ L st, lay_X10_had pc env = some (L, st) → ∀ Q : xR → xH → Prop, Q z.1 z.2 → Wp G l 10 mX10_had pc L st P Q := by
  intro n
  induction n with
  | zero => intro pc env P z h; cases h
  | succ n ih =>
    intro pc env P z h L st hlay Q hQ
    unfold f_X10_had at h
    split at h
    · cases hlay
      exact t_X10_had_0 hl ih h hQ
    · cases h
theorem c_X10_had {G : xG} {l : Launch} (hl : l.stackTraces = false) {n : Nat} {as : List Value} {P : xH} {z : xR × xH} (h : f_X10_had n 0 as P = some z) : Ct G l 10 mX10_had as P (fun r P1 => (r, P1) = z) := by
  cases n with
  | zero => cases h
  | succ n =>
    unfold f_X10_had at h
    split at h
    · exact Ct.of hl (by decide +kernel) wc_X10_had (Nat.le_of_ble_eq_true rfl) (t_X10_had_0 hl (s_X10_had hl _) h rfl)
    all_goals first | (cases h; done) | (rename_i q9 _; exact absurd q9 (by decide)) | (rename_i q9; exact absurd q9 (by decide)) | contradiction
/-! QuakeNet$Net.handOf(II)I -/
def b_X1_handOf_0 (n : Nat) (rec : Nat → List Value → xH → xO) (a0 : Nat) (a1 : Int32) (a2 : Int32) (P : xH) : xO :=
  (rA P a0 1 12).bind fun v1 =>
  (aJ P v1 a1).bind fun v3 =>
  some (.inl (some (.int ((Int64.toInt32 ((((v3 >>> (Int32.toInt64 ((4 * a2)) &&& 63))) &&& 15)))))), P)
def lay_X1_handOf : Nat → List Value → Option (xL × List Value)
  | 0, [a0, a1, a2] => some ([some a0, some a1, some a2], [])
  | _, _ => none
def f_X1_handOf : Nat → Nat → List Value → xH → xO
  | 0 => fun _ _ _ => none
  | n + 1 => fun pc env P => match pc, env with
    | 0, [.ref a0, .int a1, .int a2] => b_X1_handOf_0 n (f_X1_handOf n) a0 a1 a2 P
    | _, _ => none
set_option maxHeartbeats 2000000 in
set_option maxRecDepth 20000 in
theorem t_X1_handOf_0 {G : xG} {l : Launch} (hl : l.stackTraces = false) {n : Nat} {rec : Nat → List Value → xH → xO} (hrec : ∀ pc env P z, rec pc env P = some z → ∀ L st, lay_X1_handOf pc env = some (L, st) → ∀ Q : xR → xH → Prop, Q z.1 z.2 → Wp G l 3 mX1_handOf pc L st P Q) {a0 a1 a2} {P : xH} {z : xR × xH} (h : b_X1_handOf_0 n rec a0 a1 a2 P = some z) {Q : xR → xH → Prop} (hQ : Q z.1 z.2) : Wp G l 3 mX1_handOf 0 [some (.ref a0), some (.int a1), some (.int a2)] [] P Q := by
  unfold b_X1_handOf_0 at h
  refine x_aload_nr dX1_handOf_0 rfl ?_
  obtain ⟨v1, e2, h⟩ := Option.bind_eq_some_iff.mp h
  refine k_rA e2 dX1_handOf_1 f_X1_36 ?_
  refine x_iload_n dX1_handOf_4 rfl ?_
  obtain ⟨v3, e4, h⟩ := Option.bind_eq_some_iff.mp h
  refine k_aJ e4 dX1_handOf_5 ?_
  refine x_iconst 4 dX1_handOf_6 (by decide) ?_
  refine x_iload_n dX1_handOf_7 rfl ?_
  refine x_imul dX1_handOf_8 ?_
  refine x_lshr dX1_handOf_9 ?_
  refine x_ldc2 dX1_handOf_10 wconst_X1_80 ?_
  refine x_land dX1_handOf_13 ?_
  refine x_l2i dX1_handOf_14 ?_
  cases h
  exact x_iret .int rfl rfl dX1_handOf_15 hQ
theorem s_X1_handOf {G : xG} {l : Launch} (hl : l.stackTraces = false) : ∀ n pc env P z, f_X1_handOf n pc env P = some z → ∀ L st, lay_X1_handOf pc env = some (L, st) → ∀ Q : xR → xH → Prop, Q z.1 z.2 → Wp G l 3 mX1_handOf pc L st P Q := by
  intro n
  induction n with
  | zero => intro pc env P z h; cases h
  | succ n ih =>
    intro pc env P z h L st hlay Q hQ
    unfold f_X1_handOf at h
    split at h
    · cases hlay
      exact t_X1_handOf_0 hl ih h hQ
    · cases h
theorem c_X1_handOf {G : xG} {l : Launch} (hl : l.stackTraces = false) {n : Nat} {as : List Value} {P : xH} {z : xR × xH} (h : f_X1_handOf n 0 as P = some z) : Ct G l 3 mX1_handOf as P (fun r P1 => (r, P1) = z) := by
  cases n with
  | zero => cases h
  | succ n =>
    unfold f_X1_handOf at h
    split at h
    · exact Ct.of hl (by decide +kernel) wc_X1_handOf (Nat.le_of_ble_eq_true rfl) (t_X1_handOf_0 hl (s_X1_handOf hl _) h rfl)
    all_goals first | (cases h; done) | (rename_i q9 _; exact absurd q9 (by decide)) | (rename_i q9; exact absurd q9 (by decide)) | contradiction
/-! QuakeNet.way(II)I -/
def b_X10_way_0 (n : Nat) (rec : Nat → List Value → xH → xO) (a0 : Nat) (a1 : Int32) (a2 : Int32) (P : xH) : xO :=
  (kO P a0 10).bind fun _ =>
  (f_X10_needWord n 0 [.ref a0, .int a1] P).bind fun r2 => xUt r2 fun P1 =>
  (rA P1 a0 10 1).bind fun v5 =>
  (rA P1 v5 7 3).bind fun v7 =>
  (rA P1 v7 1 10).bind fun v9 =>
  (aI P1 v9 a1).bind fun v11 =>
  if ¬ v11 = ((-1)) then
    (rA P1 a0 10 1).bind fun v13 =>
    (rA P1 v13 7 3).bind fun v15 =>
    (rA P1 v15 1 11).bind fun v17 =>
    (aI P1 v17 a1).bind fun v19 =>
    if ¬ v19 = 0 then
      if a2 < 0 then
        some (.inl (some (.int ((-1)))), P1)
      else
        (rA P1 a0 10 1).bind fun v21 =>
        (rA P1 v21 7 3).bind fun v23 =>
        (rA P1 v23 1 11).bind fun v25 =>
        (aI P1 v25 a1).bind fun v27 =>
        if v27 ≤ a2 then
          some (.inl (some (.int ((-1)))), P1)
        else
          (rA P1 a0 10 1).bind fun v29 =>
          (rA P1 v29 7 3).bind fun v31 =>
          (kO P1 v31 1).bind fun _ =>
          (f_X1_handOf n 0 [.ref v31, .int a1, .int a2] P1).bind fun r34 => xI r34 fun v36 P33 =>
          some (.inl (some (.int v36)), P33)
    else
      if ¬ a2 = 0 then
        some (.inl (some (.int ((-1)))), P1)
      else
        some (.inl (some (.int 0)), P1)
  else
    some (.inl (some (.int ((-1)))), P1)
def lay_X10_way : Nat → List Value → Option (xL × List Value)
  | 0, [a0, a1, a2] => some ([some a0, some a1, some a2], [])
  | _, _ => none
def f_X10_way : Nat → Nat → List Value → xH → xO
  | 0 => fun _ _ _ => none
  | n + 1 => fun pc env P => match pc, env with
    | 0, [.ref a0, .int a1, .int a2] => b_X10_way_0 n (f_X10_way n) a0 a1 a2 P
    | _, _ => none
set_option maxHeartbeats 2000000 in
set_option maxRecDepth 20000 in
theorem t_X10_way_0 {G : xG} {l : Launch} (hl : l.stackTraces = false) {n : Nat} {rec : Nat → List Value → xH → xO} (hrec : ∀ pc env P z, rec pc env P = some z → ∀ L st, lay_X10_way pc env = some (L, st) → ∀ Q : xR → xH → Prop, Q z.1 z.2 → Wp G l 10 mX10_way pc L st P Q) {a0 a1 a2} {P : xH} {z : xR × xH} (h : b_X10_way_0 n rec a0 a1 a2 P = some z) {Q : xR → xH → Prop} (hQ : Q z.1 z.2) : Wp G l 10 mX10_way 0 [some (.ref a0), some (.int a1), some (.int a2)] [] P Q := by
  unfold b_X10_way_0 at h
  refine x_aload_nr dX10_way_0 rfl ?_
  refine x_iload_n dX10_way_1 rfl ?_
  obtain ⟨_, e4, h⟩ := Option.bind_eq_some_iff.mp h
  obtain ⟨fse4, e4⟩ := kO_ok e4
  obtain ⟨r2, e3, h⟩ := Option.bind_eq_some_iff.mp h
  replace h := xUt_ok h
  rcases h with ⟨P1, hr9, h⟩ | ⟨i8, P8, rfl, rfl⟩
  · subst hr9
    refine x_callV (c_X10_needWord hl e3) dX10_way_2 cw_X10_needWord wl_X10_141 wi_X10_needWord wse_X10_needWord rfl e4 (by decide) rfl (by omega) (by decide) rfl (Nat.le_of_ble_eq_true rfl) rfl (fun v9 P9 hq9 => ?_) (fun i9 P9 hq9 => by cases hq9)
    cases hq9
    refine x_aload_nr dX10_way_5 rfl ?_
    obtain ⟨v5, e6, h⟩ := Option.bind_eq_some_iff.mp h
    refine k_rA e6 dX10_way_6 f_X10_19 ?_
    obtain ⟨v7, e8, h⟩ := Option.bind_eq_some_iff.mp h
    refine k_rA e8 dX10_way_9 f_X10_42 ?_
    obtain ⟨v9, e10, h⟩ := Option.bind_eq_some_iff.mp h
    refine k_rA e10 dX10_way_12 f_X10_188 ?_
    refine x_iload_n dX10_way_15 rfl ?_
    obtain ⟨v11, e12, h⟩ := Option.bind_eq_some_iff.mp h
    refine k_aI e12 dX10_way_16 ?_
    refine x_iconst (-1) dX10_way_17 (by decide) ?_
    refine x_icmp_ne 23 dX10_way_18 (by decide) (fun q42 => ?_) (fun q42 => ?_)
    · rw [if_pos q42] at h
      refine x_aload_nr dX10_way_23 rfl ?_
      obtain ⟨v13, e14, h⟩ := Option.bind_eq_some_iff.mp h
      refine k_rA e14 dX10_way_24 f_X10_19 ?_
      obtain ⟨v15, e16, h⟩ := Option.bind_eq_some_iff.mp h
      refine k_rA e16 dX10_way_27 f_X10_42 ?_
      obtain ⟨v17, e18, h⟩ := Option.bind_eq_some_iff.mp h
      refine k_rA e18 dX10_way_30 f_X10_191 ?_
      refine x_iload_n dX10_way_33 rfl ?_
      obtain ⟨v19, e20, h⟩ := Option.bind_eq_some_iff.mp h
      refine k_aI e20 dX10_way_34 ?_
      refine x_if_ne 48 dX10_way_35 (by decide) (fun q41 => ?_) (fun q41 => ?_)
      · rw [if_pos q41] at h
        refine x_iload_n dX10_way_48 rfl ?_
        refine x_if_lt 83 dX10_way_49 (by decide) (fun q39 => ?_) (fun q39 => ?_)
        · rw [if_pos q39] at h
          refine x_iconst (-1) dX10_way_83 (by decide) ?_
          cases h
          exact x_iret .int rfl rfl dX10_way_84 hQ
        · rw [if_neg q39] at h
          refine x_iload_n dX10_way_52 rfl ?_
          refine x_aload_nr dX10_way_53 rfl ?_
          obtain ⟨v21, e22, h⟩ := Option.bind_eq_some_iff.mp h
          refine k_rA e22 dX10_way_54 f_X10_19 ?_
          obtain ⟨v23, e24, h⟩ := Option.bind_eq_some_iff.mp h
          refine k_rA e24 dX10_way_57 f_X10_42 ?_
          obtain ⟨v25, e26, h⟩ := Option.bind_eq_some_iff.mp h
          refine k_rA e26 dX10_way_60 f_X10_191 ?_
          refine x_iload_n dX10_way_63 rfl ?_
          obtain ⟨v27, e28, h⟩ := Option.bind_eq_some_iff.mp h
          refine k_aI e28 dX10_way_64 ?_
          refine x_icmp_ge 83 dX10_way_65 (by decide) (fun q38 => ?_) (fun q38 => ?_)
          · rw [if_pos q38] at h
            refine x_iconst (-1) dX10_way_83 (by decide) ?_
            cases h
            exact x_iret .int rfl rfl dX10_way_84 hQ
          · rw [if_neg q38] at h
            refine x_aload_nr dX10_way_68 rfl ?_
            obtain ⟨v29, e30, h⟩ := Option.bind_eq_some_iff.mp h
            refine k_rA e30 dX10_way_69 f_X10_19 ?_
            obtain ⟨v31, e32, h⟩ := Option.bind_eq_some_iff.mp h
            refine k_rA e32 dX10_way_72 f_X10_42 ?_
            refine x_iload_n dX10_way_75 rfl ?_
            refine x_iload_n dX10_way_76 rfl ?_
            obtain ⟨_, e37, h⟩ := Option.bind_eq_some_iff.mp h
            obtain ⟨fse37, e37⟩ := kO_ok e37
            obtain ⟨r34, e35, h⟩ := Option.bind_eq_some_iff.mp h
            replace h := xI_ok h
            obtain ⟨v36, P33, rfl, h⟩ := h
            refine x_callV (c_X1_handOf hl e35) dX10_way_77 cw_X1_handOf wl_X10_194 wi_X1_handOf wse_X1_handOf rfl e37 (by decide) rfl (by omega) (by decide) rfl (Nat.le_of_ble_eq_true rfl) rfl (fun v9 P9 hq9 => ?_) (fun i9 P9 hq9 => by cases hq9)
            cases hq9
            refine x_goto 84 dX10_way_80 (by decide) ?_
            cases h
            exact x_iret .int rfl rfl dX10_way_84 hQ
      · rw [if_neg (fun z9 => z9 q41)] at h
        refine x_iload_n dX10_way_38 rfl ?_
        refine x_if_ne 46 dX10_way_39 (by decide) (fun q40 => ?_) (fun q40 => ?_)
        · rw [if_pos q40] at h
          refine x_iconst (-1) dX10_way_46 (by decide) ?_
          cases h
          exact x_iret .int rfl rfl dX10_way_47 hQ
        · rw [if_neg (fun z9 => z9 q40)] at h
          refine x_iconst 0 dX10_way_42 (by decide) ?_
          refine x_goto 47 dX10_way_43 (by decide) ?_
          cases h
          exact x_iret .int rfl rfl dX10_way_47 hQ
    · rw [if_neg (fun z9 => z9 q42)] at h
      refine x_iconst (-1) dX10_way_21 (by decide) ?_
      cases h
      exact x_iret .int rfl rfl dX10_way_22 hQ
  · exact x_callV (c_X10_needWord hl e3) dX10_way_2 cw_X10_needWord wl_X10_141 wi_X10_needWord wse_X10_needWord rfl e4 (by decide) rfl (by omega) (by decide) rfl (Nat.le_of_ble_eq_true rfl) rfl (fun v9 P9 hq9 => by cases hq9) (fun i9 P9 hq9 => by cases hq9; exact hQ)
theorem s_X10_way {G : xG} {l : Launch} (hl : l.stackTraces = false) : ∀ n pc env P z, f_X10_way n pc env P = some z → ∀ L st, lay_X10_way pc env = some (L, st) → ∀ Q : xR → xH → Prop, Q z.1 z.2 → Wp G l 10 mX10_way pc L st P Q := by
  intro n
  induction n with
  | zero => intro pc env P z h; cases h
  | succ n ih =>
    intro pc env P z h L st hlay Q hQ
    unfold f_X10_way at h
    split at h
    · cases hlay
      exact t_X10_way_0 hl ih h hQ
    · cases h
theorem c_X10_way {G : xG} {l : Launch} (hl : l.stackTraces = false) {n : Nat} {as : List Value} {P : xH} {z : xR × xH} (h : f_X10_way n 0 as P = some z) : Ct G l 10 mX10_way as P (fun r P1 => (r, P1) = z) := by
  cases n with
  | zero => cases h
  | succ n =>
    unfold f_X10_way at h
    split at h
    · exact Ct.of hl (by decide +kernel) wc_X10_way (Nat.le_of_ble_eq_true rfl) (t_X10_way_0 hl (s_X10_way hl _) h rfl)
    all_goals first | (cases h; done) | (rename_i q9 _; exact absurd q9 (by decide)) | (rename_i q9; exact absurd q9 (by decide)) | contradiction
/-! QuakeNet.late(I)I -/
def b_X10_late_0 (n : Nat) (rec : Nat → List Value → xH → xO) (a0 : Nat) (a1 : Int32) (P : xH) : xO :=
  (kO P a0 10).bind fun _ =>
  (f_X10_needWord n 0 [.ref a0, .int a1] P).bind fun r2 => xUt r2 fun P1 =>
  (rA P1 a0 10 1).bind fun v5 =>
  (rA P1 v5 7 3).bind fun v7 =>
  (rA P1 v7 1 10).bind fun v9 =>
  (aI P1 v9 a1).bind fun v11 =>
  if ¬ v11 = ((-1)) then
    (rA P1 a0 10 1).bind fun v13 =>
    (rA P1 v13 7 1).bind fun v15 =>
    (rA P1 v15 9 0).bind fun v17 =>
    (aA P1 v17 2).bind fun v19 =>
    (aI P1 v19 a1).bind fun v21 =>
    some (.inl (some (.int ((v11 - v21)))), P1)
  else
    some (.inl (some (.int ((-1)))), P1)
def lay_X10_late : Nat → List Value → Option (xL × List Value)
  | 0, [a0, a1] => some ([some a0, some a1, none], [])
  | _, _ => none
def f_X10_late : Nat → Nat → List Value → xH → xO
  | 0 => fun _ _ _ => none
  | n + 1 => fun pc env P => match pc, env with
    | 0, [.ref a0, .int a1] => b_X10_late_0 n (f_X10_late n) a0 a1 P
    | _, _ => none
set_option maxHeartbeats 2000000 in
set_option maxRecDepth 20000 in
theorem t_X10_late_0 {G : xG} {l : Launch} (hl : l.stackTraces = false) {n : Nat} {rec : Nat → List Value → xH → xO} (hrec : ∀ pc env P z, rec pc env P = some z → ∀ L st, lay_X10_late pc env = some (L, st) → ∀ Q : xR → xH → Prop, Q z.1 z.2 → Wp G l 10 mX10_late pc L st P Q) {a0 a1} {P : xH} {z : xR × xH} (h : b_X10_late_0 n rec a0 a1 P = some z) {Q : xR → xH → Prop} (hQ : Q z.1 z.2) : Wp G l 10 mX10_late 0 [some (.ref a0), some (.int a1), none] [] P Q := by
  unfold b_X10_late_0 at h
  refine x_aload_nr dX10_late_0 rfl ?_
  refine x_iload_n dX10_late_1 rfl ?_
  obtain ⟨_, e4, h⟩ := Option.bind_eq_some_iff.mp h
  obtain ⟨fse4, e4⟩ := kO_ok e4
  obtain ⟨r2, e3, h⟩ := Option.bind_eq_some_iff.mp h
  replace h := xUt_ok h
  rcases h with ⟨P1, hr9, h⟩ | ⟨i8, P8, rfl, rfl⟩
  · subst hr9
    refine x_callV (c_X10_needWord hl e3) dX10_late_2 cw_X10_needWord wl_X10_141 wi_X10_needWord wse_X10_needWord rfl e4 (by decide) rfl (by omega) (by decide) rfl (Nat.le_of_ble_eq_true rfl) rfl (fun v9 P9 hq9 => ?_) (fun i9 P9 hq9 => by cases hq9)
    cases hq9
    refine x_aload_nr dX10_late_5 rfl ?_
    obtain ⟨v5, e6, h⟩ := Option.bind_eq_some_iff.mp h
    refine k_rA e6 dX10_late_6 f_X10_19 ?_
    obtain ⟨v7, e8, h⟩ := Option.bind_eq_some_iff.mp h
    refine k_rA e8 dX10_late_9 f_X10_42 ?_
    obtain ⟨v9, e10, h⟩ := Option.bind_eq_some_iff.mp h
    refine k_rA e10 dX10_late_12 f_X10_188 ?_
    refine x_iload_n dX10_late_15 rfl ?_
    obtain ⟨v11, e12, h⟩ := Option.bind_eq_some_iff.mp h
    refine k_aI e12 dX10_late_16 ?_
    refine x_istore_n dX10_late_17 (Nat.le_of_ble_eq_true rfl) ?_
    refine x_iload_n dX10_late_18 rfl ?_
    refine x_iconst (-1) dX10_late_19 (by decide) ?_
    refine x_icmp_ne 27 dX10_late_20 (by decide) (fun q23 => ?_) (fun q23 => ?_)
    · rw [if_pos q23] at h
      refine x_iload_n dX10_late_27 rfl ?_
      refine x_aload_nr dX10_late_28 rfl ?_
      obtain ⟨v13, e14, h⟩ := Option.bind_eq_some_iff.mp h
      refine k_rA e14 dX10_late_29 f_X10_19 ?_
      obtain ⟨v15, e16, h⟩ := Option.bind_eq_some_iff.mp h
      refine k_rA e16 dX10_late_32 f_X10_25 ?_
      obtain ⟨v17, e18, h⟩ := Option.bind_eq_some_iff.mp h
      refine k_rA e18 dX10_late_35 f_X10_144 ?_
      refine x_iconst 2 dX10_late_38 (by decide) ?_
      obtain ⟨v19, e20, h⟩ := Option.bind_eq_some_iff.mp h
      refine k_aA e20 dX10_late_39 ?_
      refine x_iload_n dX10_late_40 rfl ?_
      obtain ⟨v21, e22, h⟩ := Option.bind_eq_some_iff.mp h
      refine k_aI e22 dX10_late_41 ?_
      refine x_isub dX10_late_42 ?_
      cases h
      exact x_iret .int rfl rfl dX10_late_43 hQ
    · rw [if_neg (fun z9 => z9 q23)] at h
      refine x_iconst (-1) dX10_late_23 (by decide) ?_
      refine x_goto 43 dX10_late_24 (by decide) ?_
      cases h
      exact x_iret .int rfl rfl dX10_late_43 hQ
  · exact x_callV (c_X10_needWord hl e3) dX10_late_2 cw_X10_needWord wl_X10_141 wi_X10_needWord wse_X10_needWord rfl e4 (by decide) rfl (by omega) (by decide) rfl (Nat.le_of_ble_eq_true rfl) rfl (fun v9 P9 hq9 => by cases hq9) (fun i9 P9 hq9 => by cases hq9; exact hQ)
theorem s_X10_late {G : xG} {l : Launch} (hl : l.stackTraces = false) : ∀ n pc env P z, f_X10_late n pc env P = some z → ∀ L st, lay_X10_late pc env = some (L, st) → ∀ Q : xR → xH → Prop, Q z.1 z.2 → Wp G l 10 mX10_late pc L st P Q := by
  intro n
  induction n with
  | zero => intro pc env P z h; cases h
  | succ n ih =>
    intro pc env P z h L st hlay Q hQ
    unfold f_X10_late at h
    split at h
    · cases hlay
      exact t_X10_late_0 hl ih h hQ
    · cases h
theorem c_X10_late {G : xG} {l : Launch} (hl : l.stackTraces = false) {n : Nat} {as : List Value} {P : xH} {z : xR × xH} (h : f_X10_late n 0 as P = some z) : Ct G l 10 mX10_late as P (fun r P1 => (r, P1) = z) := by
  cases n with
  | zero => cases h
  | succ n =>
    unfold f_X10_late at h
    split at h
    · exact Ct.of hl (by decide +kernel) wc_X10_late (Nat.le_of_ble_eq_true rfl) (t_X10_late_0 hl (s_X10_late hl _) h rfl)
    all_goals first | (cases h; done) | (rename_i q9 _; exact absurd q9 (by decide)) | (rename_i q9; exact absurd q9 (by decide)) | contradiction
/-! QuakeNet$Net.firstToSwell(I)I -/
def b_X1_firstToSwell_0 (n : Nat) (rec : Nat → List Value → xH → xO) (a0 : Nat) (a1 : Int32) (P : xH) : xO :=
  (rA P a0 1 0).bind fun v1 =>
  (rA P v1 9 0).bind fun v3 =>
  (aA P v3 0).bind fun v5 =>
  (aI P v5 a1).bind fun v7 =>
  if v7 = 1 then
    rec 22 [.ref a0, .int a1, .int v7] P
  else
    if ¬ v7 = 2 then
      rec 49 [.ref a0, .int a1, .int v7, .int 0, .int 0] P
    else
      rec 22 [.ref a0, .int a1, .int v7] P
def b_X1_firstToSwell_22 (n : Nat) (rec : Nat → List Value → xH → xO) (a0 : Nat) (a1 : Int32) (a2 : Int32) (P : xH) : xO :=
  (rA P a0 1 0).bind fun v1 =>
  (rA P v1 9 0).bind fun v3 =>
  (aA P v3 7).bind fun v5 =>
  (aI P v5 a1).bind fun v7 =>
  if 9999 ≤ v7 then
    rec 49 [.ref a0, .int a1, .int a2, .int 0, .int 0] P
  else
    rec 49 [.ref a0, .int a1, .int a2, .int 1, .int 0] P
def b_X1_firstToSwell_49 (n : Nat) (rec : Nat → List Value → xH → xO) (a0 : Nat) (a1 : Int32) (a2 : Int32) (a3 : Int32) (a4 : Int32) (P : xH) : xO :=
  if a3 = 0 then
    some (.inl (some (.int ((-1)))), P)
  else
    (rA P a0 1 11).bind fun v1 =>
    (aI P v1 a1).bind fun v3 =>
    if v3 ≤ a4 then
      some (.inl (some (.int ((-1)))), P)
    else
      (kO P a0 1).bind fun _ =>
      (f_X1_handOf n 0 [.ref a0, .int a1, .int a4] P).bind fun r6 => xI r6 fun v8 P5 =>
      (rI P5 a0 1 3).bind fun v10 =>
      if v10 ≤ v8 then
        rec 49 [.ref a0, .int a1, .int a2, .int a3, .int ((a4 + 1))] P5
      else
        (rA P5 a0 1 5).bind fun v12 =>
        (aA P5 v12 4).bind fun v14 =>
        (aI P5 v14 v8).bind fun v16 =>
        if v16 ≤ 0 then
          rec 49 [.ref a0, .int a1, .int a2, .int a3, .int ((a4 + 1))] P5
        else
          some (.inl (some (.int v8)), P5)
def lay_X1_firstToSwell : Nat → List Value → Option (xL × List Value)
  | 0, [a0, a1] => some ([some a0, some a1, none, none, none, none], [])
  | 22, [a0, a1, a2] => some ([some a0, some a1, some a2, none, none, none], [])
  | 49, [a0, a1, a2, a3, a4] => some ([some a0, some a1, some a2, some a3, some a4, none], [])
  | _, _ => none
def f_X1_firstToSwell : Nat → Nat → List Value → xH → xO
  | 0 => fun _ _ _ => none
  | n + 1 => fun pc env P => match pc, env with
    | 0, [.ref a0, .int a1] => b_X1_firstToSwell_0 n (f_X1_firstToSwell n) a0 a1 P
    | 22, [.ref a0, .int a1, .int a2] => b_X1_firstToSwell_22 n (f_X1_firstToSwell n) a0 a1 a2 P
    | 49, [.ref a0, .int a1, .int a2, .int a3, .int a4] => b_X1_firstToSwell_49 n (f_X1_firstToSwell n) a0 a1 a2 a3 a4 P
    | _, _ => none
set_option maxHeartbeats 2000000 in
set_option maxRecDepth 20000 in
theorem t_X1_firstToSwell_0 {G : xG} {l : Launch} (hl : l.stackTraces = false) {n : Nat} {rec : Nat → List Value → xH → xO} (hrec : ∀ pc env P z, rec pc env P = some z → ∀ L st, lay_X1_firstToSwell pc env = some (L, st) → ∀ Q : xR → xH → Prop, Q z.1 z.2 → Wp G l 4 mX1_firstToSwell pc L st P Q) {a0 a1} {P : xH} {z : xR × xH} (h : b_X1_firstToSwell_0 n rec a0 a1 P = some z) {Q : xR → xH → Prop} (hQ : Q z.1 z.2) : Wp G l 4 mX1_firstToSwell 0 [some (.ref a0), some (.int a1), none, none, none, none] [] P Q := by
  unfold b_X1_firstToSwell_0 at h
  refine x_aload_nr dX1_firstToSwell_0 rfl ?_
  obtain ⟨v1, e2, h⟩ := Option.bind_eq_some_iff.mp h
  refine k_rA e2 dX1_firstToSwell_1 f_X1_42 ?_
  obtain ⟨v3, e4, h⟩ := Option.bind_eq_some_iff.mp h
  refine k_rA e4 dX1_firstToSwell_4 f_X1_82 ?_
  refine x_iconst 0 dX1_firstToSwell_7 (by decide) ?_
  obtain ⟨v5, e6, h⟩ := Option.bind_eq_some_iff.mp h
  refine k_aA e6 dX1_firstToSwell_8 ?_
  refine x_iload_n dX1_firstToSwell_9 rfl ?_
  obtain ⟨v7, e8, h⟩ := Option.bind_eq_some_iff.mp h
  refine k_aI e8 dX1_firstToSwell_10 ?_
  refine x_istore_n dX1_firstToSwell_11 (Nat.le_of_ble_eq_true rfl) ?_
  refine x_iload_n dX1_firstToSwell_12 rfl ?_
  refine x_iconst 1 dX1_firstToSwell_13 (by decide) ?_
  refine x_icmp_eq 22 dX1_firstToSwell_14 (by decide) (fun q10 => ?_) (fun q10 => ?_)
  · rw [if_pos q10] at h
    exact Wp.mask [true, true, true, false, false, false] (hrec 22 _ _ _ h _ _ rfl _ hQ)
  · rw [if_neg q10] at h
    refine x_iload_n dX1_firstToSwell_17 rfl ?_
    refine x_iconst 2 dX1_firstToSwell_18 (by decide) ?_
    refine x_icmp_ne 44 dX1_firstToSwell_19 (by decide) (fun q9 => ?_) (fun q9 => ?_)
    · rw [if_pos q9] at h
      refine x_iconst 0 dX1_firstToSwell_44 (by decide) ?_
      refine x_istore_n dX1_firstToSwell_45 (Nat.le_of_ble_eq_true rfl) ?_
      refine x_iconst 0 dX1_firstToSwell_46 (by decide) ?_
      refine x_istore dX1_firstToSwell_47 (Nat.le_of_ble_eq_true rfl) ?_
      exact Wp.mask [true, true, true, true, true, false] (hrec 49 _ _ _ h _ _ rfl _ hQ)
    · rw [if_neg (fun z9 => z9 q9)] at h
      exact Wp.mask [true, true, true, false, false, false] (hrec 22 _ _ _ h _ _ rfl _ hQ)
set_option maxHeartbeats 2000000 in
set_option maxRecDepth 20000 in
theorem t_X1_firstToSwell_22 {G : xG} {l : Launch} (hl : l.stackTraces = false) {n : Nat} {rec : Nat → List Value → xH → xO} (hrec : ∀ pc env P z, rec pc env P = some z → ∀ L st, lay_X1_firstToSwell pc env = some (L, st) → ∀ Q : xR → xH → Prop, Q z.1 z.2 → Wp G l 4 mX1_firstToSwell pc L st P Q) {a0 a1 a2} {P : xH} {z : xR × xH} (h : b_X1_firstToSwell_22 n rec a0 a1 a2 P = some z) {Q : xR → xH → Prop} (hQ : Q z.1 z.2) : Wp G l 4 mX1_firstToSwell 22 [some (.ref a0), some (.int a1), some (.int a2), none, none, none] [] P Q := by
  unfold b_X1_firstToSwell_22 at h
  refine x_aload_nr dX1_firstToSwell_22 rfl ?_
  obtain ⟨v1, e2, h⟩ := Option.bind_eq_some_iff.mp h
  refine k_rA e2 dX1_firstToSwell_23 f_X1_42 ?_
  obtain ⟨v3, e4, h⟩ := Option.bind_eq_some_iff.mp h
  refine k_rA e4 dX1_firstToSwell_26 f_X1_82 ?_
  refine x_bipush 7 dX1_firstToSwell_29 (by decide) ?_
  obtain ⟨v5, e6, h⟩ := Option.bind_eq_some_iff.mp h
  refine k_aA e6 dX1_firstToSwell_31 ?_
  refine x_iload_n dX1_firstToSwell_32 rfl ?_
  obtain ⟨v7, e8, h⟩ := Option.bind_eq_some_iff.mp h
  refine k_aI e8 dX1_firstToSwell_33 ?_
  refine x_sipush 9999 dX1_firstToSwell_34 (by decide) ?_
  refine x_icmp_ge 44 dX1_firstToSwell_37 (by decide) (fun q9 => ?_) (fun q9 => ?_)
  · rw [if_pos q9] at h
    refine x_iconst 0 dX1_firstToSwell_44 (by decide) ?_
    refine x_istore_n dX1_firstToSwell_45 (Nat.le_of_ble_eq_true rfl) ?_
    refine x_iconst 0 dX1_firstToSwell_46 (by decide) ?_
    refine x_istore dX1_firstToSwell_47 (Nat.le_of_ble_eq_true rfl) ?_
    exact Wp.mask [true, true, true, true, true, false] (hrec 49 _ _ _ h _ _ rfl _ hQ)
  · rw [if_neg q9] at h
    refine x_iconst 1 dX1_firstToSwell_40 (by decide) ?_
    refine x_goto 45 dX1_firstToSwell_41 (by decide) ?_
    refine x_istore_n dX1_firstToSwell_45 (Nat.le_of_ble_eq_true rfl) ?_
    refine x_iconst 0 dX1_firstToSwell_46 (by decide) ?_
    refine x_istore dX1_firstToSwell_47 (Nat.le_of_ble_eq_true rfl) ?_
    exact Wp.mask [true, true, true, true, true, false] (hrec 49 _ _ _ h _ _ rfl _ hQ)
set_option maxHeartbeats 2000000 in
set_option maxRecDepth 20000 in
theorem t_X1_firstToSwell_49 {G : xG} {l : Launch} (hl : l.stackTraces = false) {n : Nat} {rec : Nat → List Value → xH → xO} (hrec : ∀ pc env P z, rec pc env P = some z → ∀ L st, lay_X1_firstToSwell pc env = some (L, st) → ∀ Q : xR → xH → Prop, Q z.1 z.2 → Wp G l 4 mX1_firstToSwell pc L st P Q) {a0 a1 a2 a3 a4} {P : xH} {z : xR × xH} (h : b_X1_firstToSwell_49 n rec a0 a1 a2 a3 a4 P = some z) {Q : xR → xH → Prop} (hQ : Q z.1 z.2) : Wp G l 4 mX1_firstToSwell 49 [some (.ref a0), some (.int a1), some (.int a2), some (.int a3), some (.int a4), none] [] P Q := by
  unfold b_X1_firstToSwell_49 at h
  refine x_iload_n dX1_firstToSwell_49 rfl ?_
  refine x_if_eq 103 dX1_firstToSwell_50 (by decide) (fun q21 => ?_) (fun q21 => ?_)
  · rw [if_pos q21] at h
    refine x_iconst (-1) dX1_firstToSwell_103 (by decide) ?_
    cases h
    exact x_iret .int rfl rfl dX1_firstToSwell_104 hQ
  · rw [if_neg q21] at h
    refine x_iload dX1_firstToSwell_53 rfl ?_
    refine x_aload_nr dX1_firstToSwell_55 rfl ?_
    obtain ⟨v1, e2, h⟩ := Option.bind_eq_some_iff.mp h
    refine k_rA e2 dX1_firstToSwell_56 f_X1_33 ?_
    refine x_iload_n dX1_firstToSwell_59 rfl ?_
    obtain ⟨v3, e4, h⟩ := Option.bind_eq_some_iff.mp h
    refine k_aI e4 dX1_firstToSwell_60 ?_
    refine x_icmp_ge 103 dX1_firstToSwell_61 (by decide) (fun q20 => ?_) (fun q20 => ?_)
    · rw [if_pos q20] at h
      refine x_iconst (-1) dX1_firstToSwell_103 (by decide) ?_
      cases h
      exact x_iret .int rfl rfl dX1_firstToSwell_104 hQ
    · rw [if_neg q20] at h
      refine x_aload_nr dX1_firstToSwell_64 rfl ?_
      refine x_iload_n dX1_firstToSwell_65 rfl ?_
      refine x_iload dX1_firstToSwell_66 rfl ?_
      obtain ⟨_, e9, h⟩ := Option.bind_eq_some_iff.mp h
      obtain ⟨fse9, e9⟩ := kO_ok e9
      obtain ⟨r6, e7, h⟩ := Option.bind_eq_some_iff.mp h
      replace h := xI_ok h
      obtain ⟨v8, P5, rfl, h⟩ := h
      refine x_callV (c_X1_handOf hl e7) dX1_firstToSwell_68 cw_X1_handOf wl_X1_87 wi_X1_handOf wse_X1_handOf rfl e9 (by decide) rfl (by omega) (by decide) rfl (Nat.le_of_ble_eq_true rfl) rfl (fun v9 P9 hq9 => ?_) (fun i9 P9 hq9 => by cases hq9)
      cases hq9
      refine x_istore dX1_firstToSwell_71 (Nat.le_of_ble_eq_true rfl) ?_
      refine x_iload dX1_firstToSwell_73 rfl ?_
      refine x_aload_nr dX1_firstToSwell_75 rfl ?_
      obtain ⟨v10, e11, h⟩ := Option.bind_eq_some_iff.mp h
      refine k_rI e11 dX1_firstToSwell_76 f_X1_60 ?_
      refine x_icmp_ge 97 dX1_firstToSwell_79 (by decide) (fun q19 => ?_) (fun q19 => ?_)
      · rw [if_pos q19] at h
        refine x_iinc (a4 + 1) dX1_firstToSwell_97 rfl (by rfl) ?_
        refine x_goto 49 dX1_firstToSwell_100 (by decide) ?_
        exact Wp.mask [true, true, true, true, true, false] (hrec 49 _ _ _ h _ _ rfl _ hQ)
      · rw [if_neg q19] at h
        refine x_aload_nr dX1_firstToSwell_82 rfl ?_
        obtain ⟨v12, e13, h⟩ := Option.bind_eq_some_iff.mp h
        refine k_rA e13 dX1_firstToSwell_83 f_X1_13 ?_
        refine x_iconst 4 dX1_firstToSwell_86 (by decide) ?_
        obtain ⟨v14, e15, h⟩ := Option.bind_eq_some_iff.mp h
        refine k_aA e15 dX1_firstToSwell_87 ?_
        refine x_iload dX1_firstToSwell_88 rfl ?_
        obtain ⟨v16, e17, h⟩ := Option.bind_eq_some_iff.mp h
        refine k_aI e17 dX1_firstToSwell_90 ?_
        refine x_if_le 97 dX1_firstToSwell_91 (by decide) (fun q18 => ?_) (fun q18 => ?_)
        · rw [if_pos q18] at h
          refine x_iinc (a4 + 1) dX1_firstToSwell_97 rfl (by rfl) ?_
          refine x_goto 49 dX1_firstToSwell_100 (by decide) ?_
          exact Wp.mask [true, true, true, true, true, false] (hrec 49 _ _ _ h _ _ rfl _ hQ)
        · rw [if_neg q18] at h
          refine x_iload dX1_firstToSwell_94 rfl ?_
          cases h
          exact x_iret .int rfl rfl dX1_firstToSwell_96 hQ
theorem s_X1_firstToSwell {G : xG} {l : Launch} (hl : l.stackTraces = false) : ∀ n pc env P z, f_X1_firstToSwell n pc env P = some z → ∀ L st, lay_X1_firstToSwell pc env = some (L, st) → ∀ Q : xR → xH → Prop, Q z.1 z.2 → Wp G l 4 mX1_firstToSwell pc L st P Q := by
  intro n
  induction n with
  | zero => intro pc env P z h; cases h
  | succ n ih =>
    intro pc env P z h L st hlay Q hQ
    unfold f_X1_firstToSwell at h
    split at h
    · cases hlay
      exact t_X1_firstToSwell_0 hl ih h hQ
    · cases hlay
      exact t_X1_firstToSwell_22 hl ih h hQ
    · cases hlay
      exact t_X1_firstToSwell_49 hl ih h hQ
    · cases h
theorem c_X1_firstToSwell {G : xG} {l : Launch} (hl : l.stackTraces = false) {n : Nat} {as : List Value} {P : xH} {z : xR × xH} (h : f_X1_firstToSwell n 0 as P = some z) : Ct G l 4 mX1_firstToSwell as P (fun r P1 => (r, P1) = z) := by
  cases n with
  | zero => cases h
  | succ n =>
    unfold f_X1_firstToSwell at h
    split at h
    · exact Ct.of hl (by decide +kernel) wc_X1_firstToSwell (Nat.le_of_ble_eq_true rfl) (t_X1_firstToSwell_0 hl (s_X1_firstToSwell hl _) h rfl)
    all_goals first | (cases h; done) | (rename_i q9 _; exact absurd q9 (by decide)) | (rename_i q9; exact absurd q9 (by decide)) | contradiction
